/-! BY HAND: Reader.readGroup, readAtom -/
/-- an atom at this depth -/
def pp_A (m : Nat) : Prop := ∀ (K : et_K) (G : eg_G) (d2 rd x dep : Nat), et_H et_TT K G → K rd = some 7 → pp_at G rd x → x ≤ 401 → dep + m = 6 → 4 + 3 * m ≤ d2 → et_go none d2 77 0 (eg_en (eg_mL 77) [.ref rd, .int (Int32.ofNat dep)]) [] G 0 0 (pp_Z 0 K G rd x)
/-- a group: kind 0 ANY (t 2), 1 ALL (t 1) -/
def pp_G (kn t m : Nat) : Prop := ∀ (K : et_K) (G : eg_G) (d2 rd x dep : Nat), et_H et_TT K G → K rd = some 7 → pp_at G rd x → x ≤ 401 → dep + m = 6 → 4 + t + 3 * m ≤ d2 → et_go none d2 75 0 (eg_en (eg_mL 75) [.ref rd, .int (Int32.ofNat kn), .int (Int32.ofNat dep)]) [] G 0 0 (pp_Z t K G rd x)
section PPC
variable {K K0 : et_K} {G G0 : eg_G} {d2 d rd x dep m : Nat}
theorem pn_g1 {i g b ck sk y : Nat} {x7 : Option Value} (hsub : pp_A m) (hH : et_H et_TT K G) (hx0 : et_ex K0 K) (hf : et_fr pp_M K0 G0 G) (k_rd : K rd = some 7) (hx : pp_at G rd y) (k_g : K g = some 6) (ge_g : G0.2 ≤ g) (k_b : K b = some 6) (ge_b : G0.2 ≤ b) (hyl : y ≤ 401) (hxy : x ≤ y) (h3 : ck + 3 + 2 * x ≤ 2 * y + 1) (hs : sk ≤ 6 * ck) (hi : i ≤ 400) (hdm : dep + m = 6) (hd : 3 * m ≤ d) : et_go none (d + 5) 75 37 [some (.ref rd), some (.int (Int32.ofNat 1)), some (.int (Int32.ofNat dep)), some (.int (Int32.ofNat 0)), some (.ref g), some (.ref b), some (.int (Int32.ofNat i)), x7] [] G ck sk (pp_Z 1 K0 G0 rd x) := by
  induction hm : 400 - i using Nat.strongRecOn generalizing i b ck sk y x7 K G with
  | _ z ih =>
    refine hs_iload (i := 6) (p := 39) (by decide +kernel) rfl ?_
    refine hs_k (x := Int32.ofNat 400) (p := 42) (by decide +kernel) ?_
    refine hs_br2n (c := .ge) (t := 137) (f := 45) (by decide +kernel) (by omega) (by omega) (fun (c42 : 400 ≤ i) => ?_) (fun (c42 : ¬ (400 ≤ i)) => ?_)
    · refine hs_aload (i := 4) (p := 139) (by decide +kernel) rfl ?_
      refine ht_get (T := et_TT) (t := 6) (ci := 4) (f := 2) (p := 142) (by decide +kernel) rfl rfl rfl hH k_g (fun v139 h139 e139 => ?_)
      rcases hi_q h139 with rfl | ⟨b139, rfl, k_b139⟩
      · refine hs_aload (i := 5) (p := 144) (by decide +kernel) rfl ?_
        refine hs_acm (c := .ne) (t := 152) (f := 147) (by decide +kernel) rfl (hi_ca hH k_b (by decide)) ?_ ?_
        · refine hs_aload (i := 4) (p := 154) (by decide +kernel) rfl ?_
          refine hs_aret (cn := "KnobEye$Node") (by decide +kernel) ?_
          exact ⟨_, _, _, rfl, hx0, hf, hH, hx, by omega, by omega, (by dsimp only; omega), .inr ⟨_, rfl, k_g, by omega, (by dsimp only; omega)⟩⟩
        · refine hs_aload (i := 5) (p := 149) (by decide +kernel) rfl ?_
          refine hs_goto (p := 154) (by decide +kernel) ?_
          refine hs_aret (cn := "KnobEye$Node") (by decide +kernel) ?_
          exact ⟨_, _, _, rfl, hx0, hf, hH, hx, by omega, by omega, (by dsimp only; omega), .inr ⟨_, rfl, k_b, by omega, (by dsimp only; omega)⟩⟩
      · refine hs_aload (i := 5) (p := 144) (by decide +kernel) rfl ?_
        refine hs_acm (c := .ne) (t := 152) (f := 147) (by decide +kernel) (hi_ca hH k_b139 (by decide)) (hi_ca hH k_b (by decide)) ?_ ?_
        · refine hs_aload (i := 4) (p := 154) (by decide +kernel) rfl ?_
          refine hs_aret (cn := "KnobEye$Node") (by decide +kernel) ?_
          exact ⟨_, _, _, rfl, hx0, hf, hH, hx, by omega, by omega, (by dsimp only; omega), .inr ⟨_, rfl, k_g, by omega, (by dsimp only; omega)⟩⟩
        · refine hs_aload (i := 5) (p := 149) (by decide +kernel) rfl ?_
          refine hs_goto (p := 154) (by decide +kernel) ?_
          refine hs_aret (cn := "KnobEye$Node") (by decide +kernel) ?_
          exact ⟨_, _, _, rfl, hx0, hf, hH, hx, by omega, by omega, (by dsimp only; omega), .inr ⟨_, rfl, k_b, by omega, (by dsimp only; omega)⟩⟩
    · refine hs_iload (i := 3) (p := 46) (by decide +kernel) rfl ?_
      refine hs_if1 (c := .eq) (t := 58) (f := 49) (by decide +kernel) (show Int32.ofNat 0 = 0 by decide) ?_
      refine hs_aload (i := 0) (p := 59) (by decide +kernel) rfl ?_
      refine hs_iload (i := 2) (p := 60) (by decide +kernel) rfl ?_
      have lto_g := (hH.2.2 _ _ k_g).1
      have lto_b := (hH.2.2 _ _ k_b).1
      have hfo := hf
      refine ht_callv (T := et_TT) (t := 7) (mi := 77) (na := 1) (ci := 5) (lk := 8) (lm := 4) (L0 := eg_en (eg_mL 77) [.ref rd, .int (Int32.ofNat dep)]) (by decide +kernel) rfl hH k_rd rfl rfl rfl rfl rfl (by rw [show eg_mL 77 = 4 from by decide +kernel]; first | done | rfl) ?_
      refine (hsub _ _ _ _ _ _ hH k_rd hx (by omega) (by omega) (by omega)).mono (fun u hu => pp_cb hu (fun K60 G60 v60 y60 c60 s60 x60 f60 hH hx hy60 hz60 hs60 hA => ?_))
      have k_rd := x60 _ _ k_rd
      have k_g := x60 _ _ k_g
      have k_b := x60 _ _ k_b
      have hf := hf.tr hx0 (f60.wk (by decide +kernel))
      have hx0 := hx0.tr x60
      rcases hA with ⟨rfl, hA60⟩ | ⟨b60, rfl, k_b60, ge_b60, hA60⟩
      · show et_go none _ 75 63 _ [.null] _ (ck + c60) (sk + s60) _
        refine hs_astore0 (i := 7) (p := 65) (by decide +kernel) (Nat.le_of_ble_eq_true rfl) ?_
        refine hs_aload0 (i := 7) (p := 67) (by decide +kernel) rfl ?_
        refine hs_ifnonnull0 (p := 70) (by decide +kernel) ?_
        refine hs_nul (p := 71) (by decide +kernel) ?_
        refine hs_aretN (cn := "KnobEye$Node") (by decide +kernel) ?_
        exact ⟨_, _, _, rfl, hx0, hf, hH, hx, by omega, by omega, (by dsimp only; omega), .inl ⟨rfl, (by dsimp only; omega)⟩⟩
      · have lt_g_b60 : g < b60 := Nat.lt_of_lt_of_le lto_g ge_b60
        have lt_b_b60 : b < b60 := Nat.lt_of_lt_of_le lto_b ge_b60
        have ge_b60 := Nat.le_trans hfo.1 ge_b60
        show et_go none _ 75 63 _ [.ref b60] _ (ck + c60) (sk + s60) _
        refine hs_astore (i := 7) (p := 65) (by decide +kernel) (Nat.le_of_ble_eq_true rfl) ?_
        refine hs_aload (i := 7) (p := 67) (by decide +kernel) rfl ?_
        refine hs_ifnonnull1 (p := 72) (by decide +kernel) ?_
        refine hs_aload (i := 5) (p := 74) (by decide +kernel) rfl ?_
        refine hs_ifnonnull1 (p := 87) (by decide +kernel) ?_
        refine hs_aload (i := 5) (p := 89) (by decide +kernel) rfl ?_
        refine hs_aload (i := 7) (p := 91) (by decide +kernel) rfl ?_
        refine ht_next (ty := .object "KnobEye$Node") (M := [(6, 1, 1)]) (p := 94) (by decide +kernel) rfl rfl hH k_b k_b60 lt_b_b60 (fun G91 hH f91 => ?_)
        have hf := hf.tr hx0 (f91.wk (by decide +kernel))
        have hx := (f91.2 rd 7 k_rd 8 rfl).trans hx
        refine hs_aload (i := 7) (p := 96) (by decide +kernel) rfl ?_
        refine hs_astore (i := 5) (p := 98) (by decide +kernel) (Nat.le_of_ble_eq_true rfl) ?_
        refine hs_aload (i := 0) (p := 99) (by decide +kernel) rfl ?_
        refine hs_iload (i := 3) (p := 100) (by decide +kernel) rfl ?_
        refine hs_if1 (c := .eq) (t := 109) (f := 103) (by decide +kernel) (show Int32.ofNat 0 = 0 by decide) ?_
        refine hs_gst (v := Value.ref 20) (p := 112) (by decide +kernel) ?_
        have lto_g := (hH.2.2 _ _ k_g).1
        have lto_b := (hH.2.2 _ _ k_b).1
        have lto_b60 := (hH.2.2 _ _ k_b60).1
        have hfo := hf
        refine ht_callv (T := et_TT) (t := 7) (mi := 78) (na := 1) (ci := 5) (lk := 8) (lm := 2) (L0 := eg_en (eg_mL 78) [.ref rd, .ref 20]) (by decide +kernel) rfl hH k_rd rfl rfl rfl rfl rfl (by rw [show eg_mL 78 = 2 from by decide +kernel]; first | done | rfl) ?_
        refine (pp_is hH k_rd hx (by omega) (hH.2.1 _ (by decide)) (by omega)).mono (fun u hu => pz_cb hu (fun K112 G112 v112 x112 f112 hH hA => ?_))
        have hx := (f112.2 rd 7 k_rd 8 rfl).trans hx
        have k_rd := x112 _ _ k_rd
        have k_g := x112 _ _ k_g
        have k_b := x112 _ _ k_b
        have k_b60 := x112 _ _ k_b60
        have hf := hf.tr hx0 (f112.wk (by decide +kernel))
        have hx0 := hx0.tr x112
        rcases hA with rfl | ⟨rfl, hi112⟩
        · show et_go none _ 75 115 _ [.int (Int32.ofNat 0)] _ (ck + c60) (sk + s60) _
          refine hs_if0 (c := .ne) (t := 121) (f := 118) (by decide +kernel) (show ¬ (¬ Int32.ofNat 0 = 0) by decide) ?_
          refine hs_goto (p := 137) (by decide +kernel) ?_
          refine hs_aload (i := 4) (p := 139) (by decide +kernel) rfl ?_
          refine ht_get (T := et_TT) (t := 6) (ci := 4) (f := 2) (p := 142) (by decide +kernel) rfl rfl rfl hH k_g (fun v139 h139 e139 => ?_)
          rcases hi_q h139 with rfl | ⟨b139, rfl, k_b139⟩
          · refine hs_aload (i := 5) (p := 144) (by decide +kernel) rfl ?_
            refine hs_acm (c := .ne) (t := 152) (f := 147) (by decide +kernel) rfl (hi_ca hH k_b60 (by decide)) ?_ ?_
            · refine hs_aload (i := 4) (p := 154) (by decide +kernel) rfl ?_
              refine hs_aret (cn := "KnobEye$Node") (by decide +kernel) ?_
              exact ⟨_, _, _, rfl, hx0, hf, hH, hx, by omega, by omega, (by dsimp only; omega), .inr ⟨_, rfl, k_g, by omega, (by dsimp only; omega)⟩⟩
            · refine hs_aload (i := 5) (p := 149) (by decide +kernel) rfl ?_
              refine hs_goto (p := 154) (by decide +kernel) ?_
              refine hs_aret (cn := "KnobEye$Node") (by decide +kernel) ?_
              exact ⟨_, _, _, rfl, hx0, hf, hH, hx, by omega, by omega, (by dsimp only; omega), .inr ⟨_, rfl, k_b60, by omega, (by dsimp only; omega)⟩⟩
          · refine hs_aload (i := 5) (p := 144) (by decide +kernel) rfl ?_
            refine hs_acm (c := .ne) (t := 152) (f := 147) (by decide +kernel) (hi_ca hH k_b139 (by decide)) (hi_ca hH k_b60 (by decide)) ?_ ?_
            · refine hs_aload (i := 4) (p := 154) (by decide +kernel) rfl ?_
              refine hs_aret (cn := "KnobEye$Node") (by decide +kernel) ?_
              exact ⟨_, _, _, rfl, hx0, hf, hH, hx, by omega, by omega, (by dsimp only; omega), .inr ⟨_, rfl, k_g, by omega, (by dsimp only; omega)⟩⟩
            · refine hs_aload (i := 5) (p := 149) (by decide +kernel) rfl ?_
              refine hs_goto (p := 154) (by decide +kernel) ?_
              refine hs_aret (cn := "KnobEye$Node") (by decide +kernel) ?_
              exact ⟨_, _, _, rfl, hx0, hf, hH, hx, by omega, by omega, (by dsimp only; omega), .inr ⟨_, rfl, k_b60, by omega, (by dsimp only; omega)⟩⟩
        · show et_go none _ 75 115 _ [.int (Int32.ofNat 1)] _ (ck + c60) (sk + s60) _
          refine hs_if1 (c := .ne) (t := 121) (f := 118) (by decide +kernel) (show ¬ Int32.ofNat 1 = 0 by decide) ?_
          refine hs_aload (i := 0) (p := 122) (by decide +kernel) rfl ?_
          refine hs_dup1 (p := 123) (by decide +kernel) ?_
          refine ht_getn (T := et_TT) (t := 7) (ci := 5) (f := 8) (p := 126) (by decide +kernel) rfl rfl hH k_rd (fun c123 h123 e123 => ?_)
          have q123 : c123 = y60 := hb_cc e123 hx (by omega) (by omega)
          refine hs_k (x := Int32.ofNat 1) (p := 127) (by decide +kernel) ?_
          refine hs_iaddn (p := 128) (by decide +kernel) ?_
          refine ht_put (M := [(7, 8, 8)]) (T := et_TT) (t := 7) (ci := 5) (f := 8) (p := 131) (ty := .int) (by decide +kernel) rfl rfl rfl rfl rfl (by decide +kernel) hH k_rd (hi_nv (by omega) (by omega)) (fun G128 hH f128 e128 => ?_)
          have hf := hf.tr hx0 (f128.wk (by decide +kernel))
          have hx := e128
          refine hs_iinc1 (i := 6) (p := 134) (by decide +kernel) rfl (Nat.le_of_ble_eq_true rfl) ?_
          refine hs_goto (p := 37) (by decide +kernel) ?_
          show et_go none (d + 5) 75 37 [some (.ref rd), some (.int (Int32.ofNat 1)), some (.int (Int32.ofNat dep)), some (.int (Int32.ofNat 0)), some (.ref g), some (.ref b60), some (.int (Int32.ofNat (i + 1))), some (.ref b60)] [] _ _ _ _
          exact ih (400 - (i + 1)) (by omega) (i := (i + 1)) hH hx0 hf k_rd hx k_g k_b60 ge_b60 (by omega) (by omega) (by omega) (by omega) (by omega) rfl
theorem pp_g1 (hsub : pp_A m) : pp_G 1 1 m := by
  intro K G d2 rd x dep hH k_rd hx hxl hdm hd
  obtain ⟨d, rfl⟩ : ∃ d, d2 = d + 5 := ⟨d2 - 5, by omega⟩
  have hx0 : et_ex K K := et_ex.rf
  have hf : et_fr pp_M K G G := et_fr.rf
  rw [show eg_mL 75 = 8 from by decide +kernel]
  show et_go none (d + 5) 75 0 [some (.ref rd), some (.int (Int32.ofNat 1)), some (.int (Int32.ofNat dep)), none, none, none, none, none] [] G 0 0 _
  refine hs_iload (i := 2) (p := 1) (by decide +kernel) rfl ?_
  refine hs_k (x := Int32.ofNat 6) (p := 3) (by decide +kernel) ?_
  refine hs_br2n (c := .le) (t := 11) (f := 6) (by decide +kernel) (by omega) (by omega) (fun (c3 : dep ≤ 6) => ?_) (fun (c3 : ¬ (dep ≤ 6)) => ?_)
  · refine hs_iload (i := 1) (p := 12) (by decide +kernel) rfl ?_
    refine hs_if1 (c := .ne) (t := 19) (f := 15) (by decide +kernel) (show ¬ Int32.ofNat 1 = 0 by decide) ?_
    refine hs_k (x := Int32.ofNat 0) (p := 20) (by decide +kernel) ?_
    refine hs_istore (i := 3) (p := 21) (by decide +kernel) (Nat.le_of_ble_eq_true rfl) ?_
    refine ht_newN (p := 24) (by decide +kernel) (by omega) (by omega) hH (fun K21 G21 o21 x21 f21 hH k_o21 ge_o21 lt21 => ?_)
    have hx := (f21.2 rd 7 k_rd 8 rfl).trans hx
    have k_rd := x21 _ _ k_rd
    have ge_o21 := Nat.le_trans hf.1 ge_o21
    have hf := hf.tr hx0 (f21.wk (by decide +kernel))
    have hx0 := hx0.tr x21
    refine hs_dup1 (p := 25) (by decide +kernel) ?_
    refine hs_iload (i := 1) (p := 26) (by decide +kernel) rfl ?_
    have lto_o21 := (hH.2.2 _ _ k_o21).1
    have hfo := hf
    refine hs_callp (mi := 61) (na := 1) (lk := 8) (lm := 2) (L0 := eg_en (eg_mL 61) [.ref o21, .int (Int32.ofNat 1)]) (by decide +kernel) rfl rfl rfl rfl rfl (by rw [show eg_mL 61 = 2 from by decide +kernel]; first | done | rfl) ?_
    refine (hc_nod (K21, [], G21) [.ref o21, .int (Int32.ofNat 1)] _ hH (by omega) rfl (ht_ac (.inr ⟨by decide, _, rfl, k_o21⟩) (ht_ac hi_any ht_an))).mono (fun u hu => hs_cbn hu (fun K26 G26 c26 s26 x26 f26 hH cl26 sl26 => ?_))
    have hx := (f26.2 rd 7 k_rd 8 rfl).trans hx
    have k_rd := x26 _ _ k_rd
    have k_o21 := x26 _ _ k_o21
    have hf := hf.tr hx0 (f26.wk (by decide +kernel))
    have hx0 := hx0.tr x26
    obtain rfl : c26 = 0 := Nat.le_zero.mp cl26
    obtain rfl : s26 = 0 := Nat.le_zero.mp sl26
    show et_go none _ 75 29 _ [.ref o21] _ (0 + 1) (0 + 6) _
    refine hs_astore (i := 4) (p := 31) (by decide +kernel) (Nat.le_of_ble_eq_true rfl) ?_
    refine hs_nul (p := 32) (by decide +kernel) ?_
    refine hs_astore0 (i := 5) (p := 34) (by decide +kernel) (Nat.le_of_ble_eq_true rfl) ?_
    refine hs_k (x := Int32.ofNat 0) (p := 35) (by decide +kernel) ?_
    refine hs_istore (i := 6) (p := 37) (by decide +kernel) (Nat.le_of_ble_eq_true rfl) ?_
    refine hs_iload (i := 6) (p := 39) (by decide +kernel) rfl ?_
    refine hs_k (x := Int32.ofNat 400) (p := 42) (by decide +kernel) ?_
    refine hs_br2n (c := .ge) (t := 137) (f := 45) (by decide +kernel) (by omega) (by omega) (fun h => absurd h (show ¬ (400 ≤ 0) by decide)) (fun _ => ?_)
    refine hs_iload (i := 3) (p := 46) (by decide +kernel) rfl ?_
    refine hs_if1 (c := .eq) (t := 58) (f := 49) (by decide +kernel) (show Int32.ofNat 0 = 0 by decide) ?_
    refine hs_aload (i := 0) (p := 59) (by decide +kernel) rfl ?_
    refine hs_iload (i := 2) (p := 60) (by decide +kernel) rfl ?_
    have lto_o21 := (hH.2.2 _ _ k_o21).1
    have hfo := hf
    refine ht_callv (T := et_TT) (t := 7) (mi := 77) (na := 1) (ci := 5) (lk := 8) (lm := 4) (L0 := eg_en (eg_mL 77) [.ref rd, .int (Int32.ofNat dep)]) (by decide +kernel) rfl hH k_rd rfl rfl rfl rfl rfl (by rw [show eg_mL 77 = 4 from by decide +kernel]; first | done | rfl) ?_
    refine (hsub _ _ _ _ _ _ hH k_rd hx (by omega) (by omega) (by omega)).mono (fun u hu => pp_cb hu (fun K60 G60 v60 y60 c60 s60 x60 f60 hH hx hy60 hz60 hs60 hA => ?_))
    have k_rd := x60 _ _ k_rd
    have k_o21 := x60 _ _ k_o21
    have hf := hf.tr hx0 (f60.wk (by decide +kernel))
    have hx0 := hx0.tr x60
    rcases hA with ⟨rfl, hA60⟩ | ⟨b60, rfl, k_b60, ge_b60, hA60⟩
    · show et_go none _ 75 63 _ [.null] _ ((0 + 1) + c60) ((0 + 6) + s60) _
      refine hs_astore0 (i := 7) (p := 65) (by decide +kernel) (Nat.le_of_ble_eq_true rfl) ?_
      refine hs_aload0 (i := 7) (p := 67) (by decide +kernel) rfl ?_
      refine hs_ifnonnull0 (p := 70) (by decide +kernel) ?_
      refine hs_nul (p := 71) (by decide +kernel) ?_
      refine hs_aretN (cn := "KnobEye$Node") (by decide +kernel) ?_
      exact ⟨_, _, _, rfl, hx0, hf, hH, hx, by omega, by omega, (by dsimp only; omega), .inl ⟨rfl, (by dsimp only; omega)⟩⟩
    · have lt_o21_b60 : o21 < b60 := Nat.lt_of_lt_of_le lto_o21 ge_b60
      have ge_b60 := Nat.le_trans hfo.1 ge_b60
      show et_go none _ 75 63 _ [.ref b60] _ ((0 + 1) + c60) ((0 + 6) + s60) _
      refine hs_astore (i := 7) (p := 65) (by decide +kernel) (Nat.le_of_ble_eq_true rfl) ?_
      refine hs_aload (i := 7) (p := 67) (by decide +kernel) rfl ?_
      refine hs_ifnonnull1 (p := 72) (by decide +kernel) ?_
      refine hs_aload0 (i := 5) (p := 74) (by decide +kernel) rfl ?_
      refine hs_ifnonnull0 (p := 77) (by decide +kernel) ?_
      refine hs_aload (i := 4) (p := 79) (by decide +kernel) rfl ?_
      refine hs_aload (i := 7) (p := 81) (by decide +kernel) rfl ?_
      refine ht_put (M := [(6, 2, 2)]) (T := et_TT) (t := 6) (ci := 4) (f := 2) (p := 84) (ty := (.object "KnobEye$Node")) (by decide +kernel) rfl rfl rfl rfl rfl (by decide +kernel) hH k_o21 (.inr ⟨by decide, _, rfl, k_b60⟩) (fun G81 hH f81 e81 => ?_)
      have hf := hf.tr hx0 (f81.wk (by decide +kernel))
      have hx := (f81.2 rd 7 k_rd 8 rfl).trans hx
      refine hs_goto (p := 94) (by decide +kernel) ?_
      refine hs_aload (i := 7) (p := 96) (by decide +kernel) rfl ?_
      refine hs_astore (i := 5) (p := 98) (by decide +kernel) (Nat.le_of_ble_eq_true rfl) ?_
      refine hs_aload (i := 0) (p := 99) (by decide +kernel) rfl ?_
      refine hs_iload (i := 3) (p := 100) (by decide +kernel) rfl ?_
      refine hs_if1 (c := .eq) (t := 109) (f := 103) (by decide +kernel) (show Int32.ofNat 0 = 0 by decide) ?_
      refine hs_gst (v := Value.ref 20) (p := 112) (by decide +kernel) ?_
      have lto_o21 := (hH.2.2 _ _ k_o21).1
      have lto_b60 := (hH.2.2 _ _ k_b60).1
      have hfo := hf
      refine ht_callv (T := et_TT) (t := 7) (mi := 78) (na := 1) (ci := 5) (lk := 8) (lm := 2) (L0 := eg_en (eg_mL 78) [.ref rd, .ref 20]) (by decide +kernel) rfl hH k_rd rfl rfl rfl rfl rfl (by rw [show eg_mL 78 = 2 from by decide +kernel]; first | done | rfl) ?_
      refine (pp_is hH k_rd hx (by omega) (hH.2.1 _ (by decide)) (by omega)).mono (fun u hu => pz_cb hu (fun K112 G112 v112 x112 f112 hH hA => ?_))
      have hx := (f112.2 rd 7 k_rd 8 rfl).trans hx
      have k_rd := x112 _ _ k_rd
      have k_o21 := x112 _ _ k_o21
      have k_b60 := x112 _ _ k_b60
      have hf := hf.tr hx0 (f112.wk (by decide +kernel))
      have hx0 := hx0.tr x112
      rcases hA with rfl | ⟨rfl, hi112⟩
      · show et_go none _ 75 115 _ [.int (Int32.ofNat 0)] _ ((0 + 1) + c60) ((0 + 6) + s60) _
        refine hs_if0 (c := .ne) (t := 121) (f := 118) (by decide +kernel) (show ¬ (¬ Int32.ofNat 0 = 0) by decide) ?_
        refine hs_goto (p := 137) (by decide +kernel) ?_
        refine hs_aload (i := 4) (p := 139) (by decide +kernel) rfl ?_
        refine ht_get (T := et_TT) (t := 6) (ci := 4) (f := 2) (p := 142) (by decide +kernel) rfl rfl rfl hH k_o21 (fun v139 h139 e139 => ?_)
        rcases hi_q h139 with rfl | ⟨b139, rfl, k_b139⟩
        · refine hs_aload (i := 5) (p := 144) (by decide +kernel) rfl ?_
          refine hs_acm (c := .ne) (t := 152) (f := 147) (by decide +kernel) rfl (hi_ca hH k_b60 (by decide)) ?_ ?_
          · refine hs_aload (i := 4) (p := 154) (by decide +kernel) rfl ?_
            refine hs_aret (cn := "KnobEye$Node") (by decide +kernel) ?_
            exact ⟨_, _, _, rfl, hx0, hf, hH, hx, by omega, by omega, (by dsimp only; omega), .inr ⟨_, rfl, k_o21, by omega, (by dsimp only; omega)⟩⟩
          · refine hs_aload (i := 5) (p := 149) (by decide +kernel) rfl ?_
            refine hs_goto (p := 154) (by decide +kernel) ?_
            refine hs_aret (cn := "KnobEye$Node") (by decide +kernel) ?_
            exact ⟨_, _, _, rfl, hx0, hf, hH, hx, by omega, by omega, (by dsimp only; omega), .inr ⟨_, rfl, k_b60, by omega, (by dsimp only; omega)⟩⟩
        · refine hs_aload (i := 5) (p := 144) (by decide +kernel) rfl ?_
          refine hs_acm (c := .ne) (t := 152) (f := 147) (by decide +kernel) (hi_ca hH k_b139 (by decide)) (hi_ca hH k_b60 (by decide)) ?_ ?_
          · refine hs_aload (i := 4) (p := 154) (by decide +kernel) rfl ?_
            refine hs_aret (cn := "KnobEye$Node") (by decide +kernel) ?_
            exact ⟨_, _, _, rfl, hx0, hf, hH, hx, by omega, by omega, (by dsimp only; omega), .inr ⟨_, rfl, k_o21, by omega, (by dsimp only; omega)⟩⟩
          · refine hs_aload (i := 5) (p := 149) (by decide +kernel) rfl ?_
            refine hs_goto (p := 154) (by decide +kernel) ?_
            refine hs_aret (cn := "KnobEye$Node") (by decide +kernel) ?_
            exact ⟨_, _, _, rfl, hx0, hf, hH, hx, by omega, by omega, (by dsimp only; omega), .inr ⟨_, rfl, k_b60, by omega, (by dsimp only; omega)⟩⟩
      · show et_go none _ 75 115 _ [.int (Int32.ofNat 1)] _ ((0 + 1) + c60) ((0 + 6) + s60) _
        refine hs_if1 (c := .ne) (t := 121) (f := 118) (by decide +kernel) (show ¬ Int32.ofNat 1 = 0 by decide) ?_
        refine hs_aload (i := 0) (p := 122) (by decide +kernel) rfl ?_
        refine hs_dup1 (p := 123) (by decide +kernel) ?_
        refine ht_getn (T := et_TT) (t := 7) (ci := 5) (f := 8) (p := 126) (by decide +kernel) rfl rfl hH k_rd (fun c123 h123 e123 => ?_)
        have q123 : c123 = y60 := hb_cc e123 hx (by omega) (by omega)
        refine hs_k (x := Int32.ofNat 1) (p := 127) (by decide +kernel) ?_
        refine hs_iaddn (p := 128) (by decide +kernel) ?_
        refine ht_put (M := [(7, 8, 8)]) (T := et_TT) (t := 7) (ci := 5) (f := 8) (p := 131) (ty := .int) (by decide +kernel) rfl rfl rfl rfl rfl (by decide +kernel) hH k_rd (hi_nv (by omega) (by omega)) (fun G128 hH f128 e128 => ?_)
        have hf := hf.tr hx0 (f128.wk (by decide +kernel))
        have hx := e128
        refine hs_iinc1 (i := 6) (p := 134) (by decide +kernel) rfl (Nat.le_of_ble_eq_true rfl) ?_
        refine hs_goto (p := 37) (by decide +kernel) ?_
        show et_go none (d + 5) 75 37 [some (.ref rd), some (.int (Int32.ofNat 1)), some (.int (Int32.ofNat dep)), some (.int (Int32.ofNat 0)), some (.ref o21), some (.ref b60), some (.int (Int32.ofNat (0 + 1))), some (.ref b60)] [] _ _ _ _
        exact pn_g1 (m := m) (i := (0 + 1)) hsub hH hx0 hf k_rd hx k_o21 ge_o21 k_b60 ge_b60 (by omega) (by omega) (by omega) (by omega) (by omega) hdm (by omega)
  · refine hs_aload (i := 0) (p := 7) (by decide +kernel) rfl ?_
    have hfo := hf
    refine ht_callv (T := et_TT) (t := 7) (mi := 76) (na := 0) (ci := 5) (lk := 8) (lm := 1) (L0 := eg_en (eg_mL 76) [.ref rd]) (by decide +kernel) rfl hH k_rd rfl rfl rfl rfl rfl (by rw [show eg_mL 76 = 1 from by decide +kernel]; first | done | rfl) ?_
    refine (ep_c4 (K, [], G) [.ref rd] _ hH (by omega) rfl (ht_ac (.inr ⟨by decide, _, rfl, k_rd⟩) ht_an)).mono (fun u hu => hs_cbv hu (fun v7 K7 G7 c7 s7 x7 f7 hH hv7 cl7 sl7 => ?_))
    have hx := (f7.2 rd 7 k_rd 8 rfl).trans hx
    have k_rd := x7 _ _ k_rd
    have hf := hf.tr hx0 (f7.wk (by decide +kernel))
    have hx0 := hx0.tr x7
    obtain rfl : c7 = 0 := Nat.le_zero.mp cl7
    obtain rfl : s7 = 0 := Nat.le_zero.mp sl7
    obtain rfl : v7 = .null := hv7.elim (fun h => h.2) (fun h => absurd h.1 (by decide))
    show et_go none _ 75 10 _ [.null] _ 0 0 _
    refine hs_aretN (cn := "KnobEye$Node") (by decide +kernel) ?_
    exact ⟨_, _, _, rfl, hx0, hf, hH, hx, by omega, by omega, (by dsimp only; omega), .inl ⟨rfl, (by dsimp only; omega)⟩⟩
theorem pn_g0 {i g b ck sk y : Nat} {x7 : Option Value} (hsub : pp_G 1 1 m) (hH : et_H et_TT K G) (hx0 : et_ex K0 K) (hf : et_fr pp_M K0 G0 G) (k_rd : K rd = some 7) (hx : pp_at G rd y) (k_g : K g = some 6) (ge_g : G0.2 ≤ g) (k_b : K b = some 6) (ge_b : G0.2 ≤ b) (hyl : y ≤ 401) (hxy : x ≤ y) (h3 : ck + 3 + 2 * x ≤ 2 * y + 2) (hs : sk ≤ 6 * ck) (hi : i ≤ 400) (hdm : dep + m = 6) (hd : 3 * m ≤ d) : et_go none (d + 6) 75 37 [some (.ref rd), some (.int (Int32.ofNat 0)), some (.int (Int32.ofNat dep)), some (.int (Int32.ofNat 1)), some (.ref g), some (.ref b), some (.int (Int32.ofNat i)), x7] [] G ck sk (pp_Z 2 K0 G0 rd x) := by
  induction hm : 400 - i using Nat.strongRecOn generalizing i b ck sk y x7 K G with
  | _ z ih =>
    refine hs_iload (i := 6) (p := 39) (by decide +kernel) rfl ?_
    refine hs_k (x := Int32.ofNat 400) (p := 42) (by decide +kernel) ?_
    refine hs_br2n (c := .ge) (t := 137) (f := 45) (by decide +kernel) (by omega) (by omega) (fun (c42 : 400 ≤ i) => ?_) (fun (c42 : ¬ (400 ≤ i)) => ?_)
    · refine hs_aload (i := 4) (p := 139) (by decide +kernel) rfl ?_
      refine ht_get (T := et_TT) (t := 6) (ci := 4) (f := 2) (p := 142) (by decide +kernel) rfl rfl rfl hH k_g (fun v139 h139 e139 => ?_)
      rcases hi_q h139 with rfl | ⟨b139, rfl, k_b139⟩
      · refine hs_aload (i := 5) (p := 144) (by decide +kernel) rfl ?_
        refine hs_acm (c := .ne) (t := 152) (f := 147) (by decide +kernel) rfl (hi_ca hH k_b (by decide)) ?_ ?_
        · refine hs_aload (i := 4) (p := 154) (by decide +kernel) rfl ?_
          refine hs_aret (cn := "KnobEye$Node") (by decide +kernel) ?_
          exact ⟨_, _, _, rfl, hx0, hf, hH, hx, by omega, by omega, (by dsimp only; omega), .inr ⟨_, rfl, k_g, by omega, (by dsimp only; omega)⟩⟩
        · refine hs_aload (i := 5) (p := 149) (by decide +kernel) rfl ?_
          refine hs_goto (p := 154) (by decide +kernel) ?_
          refine hs_aret (cn := "KnobEye$Node") (by decide +kernel) ?_
          exact ⟨_, _, _, rfl, hx0, hf, hH, hx, by omega, by omega, (by dsimp only; omega), .inr ⟨_, rfl, k_b, by omega, (by dsimp only; omega)⟩⟩
      · refine hs_aload (i := 5) (p := 144) (by decide +kernel) rfl ?_
        refine hs_acm (c := .ne) (t := 152) (f := 147) (by decide +kernel) (hi_ca hH k_b139 (by decide)) (hi_ca hH k_b (by decide)) ?_ ?_
        · refine hs_aload (i := 4) (p := 154) (by decide +kernel) rfl ?_
          refine hs_aret (cn := "KnobEye$Node") (by decide +kernel) ?_
          exact ⟨_, _, _, rfl, hx0, hf, hH, hx, by omega, by omega, (by dsimp only; omega), .inr ⟨_, rfl, k_g, by omega, (by dsimp only; omega)⟩⟩
        · refine hs_aload (i := 5) (p := 149) (by decide +kernel) rfl ?_
          refine hs_goto (p := 154) (by decide +kernel) ?_
          refine hs_aret (cn := "KnobEye$Node") (by decide +kernel) ?_
          exact ⟨_, _, _, rfl, hx0, hf, hH, hx, by omega, by omega, (by dsimp only; omega), .inr ⟨_, rfl, k_b, by omega, (by dsimp only; omega)⟩⟩
    · refine hs_iload (i := 3) (p := 46) (by decide +kernel) rfl ?_
      refine hs_if0 (c := .eq) (t := 58) (f := 49) (by decide +kernel) (show ¬ (Int32.ofNat 1 = 0) by decide) ?_
      refine hs_aload (i := 0) (p := 50) (by decide +kernel) rfl ?_
      refine hs_k (x := Int32.ofNat 1) (p := 51) (by decide +kernel) ?_
      refine hs_iload (i := 2) (p := 52) (by decide +kernel) rfl ?_
      have lto_g := (hH.2.2 _ _ k_g).1
      have lto_b := (hH.2.2 _ _ k_b).1
      have hfo := hf
      refine ht_callv (T := et_TT) (t := 7) (mi := 75) (na := 2) (ci := 5) (lk := 8) (lm := 8) (L0 := eg_en (eg_mL 75) [.ref rd, .int (Int32.ofNat 1), .int (Int32.ofNat dep)]) (by decide +kernel) rfl hH k_rd rfl rfl rfl rfl rfl (by rw [show eg_mL 75 = 8 from by decide +kernel]; first | done | rfl) ?_
      refine (hsub _ _ _ _ _ _ hH k_rd hx (by omega) (by omega) (by omega)).mono (fun u hu => pp_cb hu (fun K52 G52 v52 y52 c52 s52 x52 f52 hH hx hy52 hz52 hs52 hA => ?_))
      have k_rd := x52 _ _ k_rd
      have k_g := x52 _ _ k_g
      have k_b := x52 _ _ k_b
      have hf := hf.tr hx0 (f52.wk (by decide +kernel))
      have hx0 := hx0.tr x52
      rcases hA with ⟨rfl, hA52⟩ | ⟨b52, rfl, k_b52, ge_b52, hA52⟩
      · show et_go none _ 75 55 _ [.null] _ (ck + c52) (sk + s52) _
        refine hs_goto (p := 63) (by decide +kernel) ?_
        refine hs_astore0 (i := 7) (p := 65) (by decide +kernel) (Nat.le_of_ble_eq_true rfl) ?_
        refine hs_aload0 (i := 7) (p := 67) (by decide +kernel) rfl ?_
        refine hs_ifnonnull0 (p := 70) (by decide +kernel) ?_
        refine hs_nul (p := 71) (by decide +kernel) ?_
        refine hs_aretN (cn := "KnobEye$Node") (by decide +kernel) ?_
        exact ⟨_, _, _, rfl, hx0, hf, hH, hx, by omega, by omega, (by dsimp only; omega), .inl ⟨rfl, (by dsimp only; omega)⟩⟩
      · have lt_g_b52 : g < b52 := Nat.lt_of_lt_of_le lto_g ge_b52
        have lt_b_b52 : b < b52 := Nat.lt_of_lt_of_le lto_b ge_b52
        have ge_b52 := Nat.le_trans hfo.1 ge_b52
        show et_go none _ 75 55 _ [.ref b52] _ (ck + c52) (sk + s52) _
        refine hs_goto (p := 63) (by decide +kernel) ?_
        refine hs_astore (i := 7) (p := 65) (by decide +kernel) (Nat.le_of_ble_eq_true rfl) ?_
        refine hs_aload (i := 7) (p := 67) (by decide +kernel) rfl ?_
        refine hs_ifnonnull1 (p := 72) (by decide +kernel) ?_
        refine hs_aload (i := 5) (p := 74) (by decide +kernel) rfl ?_
        refine hs_ifnonnull1 (p := 87) (by decide +kernel) ?_
        refine hs_aload (i := 5) (p := 89) (by decide +kernel) rfl ?_
        refine hs_aload (i := 7) (p := 91) (by decide +kernel) rfl ?_
        refine ht_next (ty := .object "KnobEye$Node") (M := [(6, 1, 1)]) (p := 94) (by decide +kernel) rfl rfl hH k_b k_b52 lt_b_b52 (fun G91 hH f91 => ?_)
        have hf := hf.tr hx0 (f91.wk (by decide +kernel))
        have hx := (f91.2 rd 7 k_rd 8 rfl).trans hx
        refine hs_aload (i := 7) (p := 96) (by decide +kernel) rfl ?_
        refine hs_astore (i := 5) (p := 98) (by decide +kernel) (Nat.le_of_ble_eq_true rfl) ?_
        refine hs_aload (i := 0) (p := 99) (by decide +kernel) rfl ?_
        refine hs_iload (i := 3) (p := 100) (by decide +kernel) rfl ?_
        refine hs_if0 (c := .eq) (t := 109) (f := 103) (by decide +kernel) (show ¬ (Int32.ofNat 1 = 0) by decide) ?_
        refine hs_gst (v := Value.ref 21) (p := 106) (by decide +kernel) ?_
        refine hs_goto (p := 112) (by decide +kernel) ?_
        have lto_g := (hH.2.2 _ _ k_g).1
        have lto_b := (hH.2.2 _ _ k_b).1
        have lto_b52 := (hH.2.2 _ _ k_b52).1
        have hfo := hf
        refine ht_callv (T := et_TT) (t := 7) (mi := 78) (na := 1) (ci := 5) (lk := 8) (lm := 2) (L0 := eg_en (eg_mL 78) [.ref rd, .ref 21]) (by decide +kernel) rfl hH k_rd rfl rfl rfl rfl rfl (by rw [show eg_mL 78 = 2 from by decide +kernel]; first | done | rfl) ?_
        refine (pp_is hH k_rd hx (by omega) (hH.2.1 _ (by decide)) (by omega)).mono (fun u hu => pz_cb hu (fun K112 G112 v112 x112 f112 hH hA => ?_))
        have hx := (f112.2 rd 7 k_rd 8 rfl).trans hx
        have k_rd := x112 _ _ k_rd
        have k_g := x112 _ _ k_g
        have k_b := x112 _ _ k_b
        have k_b52 := x112 _ _ k_b52
        have hf := hf.tr hx0 (f112.wk (by decide +kernel))
        have hx0 := hx0.tr x112
        rcases hA with rfl | ⟨rfl, hi112⟩
        · show et_go none _ 75 115 _ [.int (Int32.ofNat 0)] _ (ck + c52) (sk + s52) _
          refine hs_if0 (c := .ne) (t := 121) (f := 118) (by decide +kernel) (show ¬ (¬ Int32.ofNat 0 = 0) by decide) ?_
          refine hs_goto (p := 137) (by decide +kernel) ?_
          refine hs_aload (i := 4) (p := 139) (by decide +kernel) rfl ?_
          refine ht_get (T := et_TT) (t := 6) (ci := 4) (f := 2) (p := 142) (by decide +kernel) rfl rfl rfl hH k_g (fun v139 h139 e139 => ?_)
          rcases hi_q h139 with rfl | ⟨b139, rfl, k_b139⟩
          · refine hs_aload (i := 5) (p := 144) (by decide +kernel) rfl ?_
            refine hs_acm (c := .ne) (t := 152) (f := 147) (by decide +kernel) rfl (hi_ca hH k_b52 (by decide)) ?_ ?_
            · refine hs_aload (i := 4) (p := 154) (by decide +kernel) rfl ?_
              refine hs_aret (cn := "KnobEye$Node") (by decide +kernel) ?_
              exact ⟨_, _, _, rfl, hx0, hf, hH, hx, by omega, by omega, (by dsimp only; omega), .inr ⟨_, rfl, k_g, by omega, (by dsimp only; omega)⟩⟩
            · refine hs_aload (i := 5) (p := 149) (by decide +kernel) rfl ?_
              refine hs_goto (p := 154) (by decide +kernel) ?_
              refine hs_aret (cn := "KnobEye$Node") (by decide +kernel) ?_
              exact ⟨_, _, _, rfl, hx0, hf, hH, hx, by omega, by omega, (by dsimp only; omega), .inr ⟨_, rfl, k_b52, by omega, (by dsimp only; omega)⟩⟩
          · refine hs_aload (i := 5) (p := 144) (by decide +kernel) rfl ?_
            refine hs_acm (c := .ne) (t := 152) (f := 147) (by decide +kernel) (hi_ca hH k_b139 (by decide)) (hi_ca hH k_b52 (by decide)) ?_ ?_
            · refine hs_aload (i := 4) (p := 154) (by decide +kernel) rfl ?_
              refine hs_aret (cn := "KnobEye$Node") (by decide +kernel) ?_
              exact ⟨_, _, _, rfl, hx0, hf, hH, hx, by omega, by omega, (by dsimp only; omega), .inr ⟨_, rfl, k_g, by omega, (by dsimp only; omega)⟩⟩
            · refine hs_aload (i := 5) (p := 149) (by decide +kernel) rfl ?_
              refine hs_goto (p := 154) (by decide +kernel) ?_
              refine hs_aret (cn := "KnobEye$Node") (by decide +kernel) ?_
              exact ⟨_, _, _, rfl, hx0, hf, hH, hx, by omega, by omega, (by dsimp only; omega), .inr ⟨_, rfl, k_b52, by omega, (by dsimp only; omega)⟩⟩
        · show et_go none _ 75 115 _ [.int (Int32.ofNat 1)] _ (ck + c52) (sk + s52) _
          refine hs_if1 (c := .ne) (t := 121) (f := 118) (by decide +kernel) (show ¬ Int32.ofNat 1 = 0 by decide) ?_
          refine hs_aload (i := 0) (p := 122) (by decide +kernel) rfl ?_
          refine hs_dup1 (p := 123) (by decide +kernel) ?_
          refine ht_getn (T := et_TT) (t := 7) (ci := 5) (f := 8) (p := 126) (by decide +kernel) rfl rfl hH k_rd (fun c123 h123 e123 => ?_)
          have q123 : c123 = y52 := hb_cc e123 hx (by omega) (by omega)
          refine hs_k (x := Int32.ofNat 1) (p := 127) (by decide +kernel) ?_
          refine hs_iaddn (p := 128) (by decide +kernel) ?_
          refine ht_put (M := [(7, 8, 8)]) (T := et_TT) (t := 7) (ci := 5) (f := 8) (p := 131) (ty := .int) (by decide +kernel) rfl rfl rfl rfl rfl (by decide +kernel) hH k_rd (hi_nv (by omega) (by omega)) (fun G128 hH f128 e128 => ?_)
          have hf := hf.tr hx0 (f128.wk (by decide +kernel))
          have hx := e128
          refine hs_iinc1 (i := 6) (p := 134) (by decide +kernel) rfl (Nat.le_of_ble_eq_true rfl) ?_
          refine hs_goto (p := 37) (by decide +kernel) ?_
          show et_go none (d + 6) 75 37 [some (.ref rd), some (.int (Int32.ofNat 0)), some (.int (Int32.ofNat dep)), some (.int (Int32.ofNat 1)), some (.ref g), some (.ref b52), some (.int (Int32.ofNat (i + 1))), some (.ref b52)] [] _ _ _ _
          exact ih (400 - (i + 1)) (by omega) (i := (i + 1)) hH hx0 hf k_rd hx k_g k_b52 ge_b52 (by omega) (by omega) (by omega) (by omega) (by omega) rfl
theorem pp_g0 (hsub : pp_G 1 1 m) : pp_G 0 2 m := by
  intro K G d2 rd x dep hH k_rd hx hxl hdm hd
  obtain ⟨d, rfl⟩ : ∃ d, d2 = d + 6 := ⟨d2 - 6, by omega⟩
  have hx0 : et_ex K K := et_ex.rf
  have hf : et_fr pp_M K G G := et_fr.rf
  rw [show eg_mL 75 = 8 from by decide +kernel]
  show et_go none (d + 6) 75 0 [some (.ref rd), some (.int (Int32.ofNat 0)), some (.int (Int32.ofNat dep)), none, none, none, none, none] [] G 0 0 _
  refine hs_iload (i := 2) (p := 1) (by decide +kernel) rfl ?_
  refine hs_k (x := Int32.ofNat 6) (p := 3) (by decide +kernel) ?_
  refine hs_br2n (c := .le) (t := 11) (f := 6) (by decide +kernel) (by omega) (by omega) (fun (c3 : dep ≤ 6) => ?_) (fun (c3 : ¬ (dep ≤ 6)) => ?_)
  · refine hs_iload (i := 1) (p := 12) (by decide +kernel) rfl ?_
    refine hs_if0 (c := .ne) (t := 19) (f := 15) (by decide +kernel) (show ¬ (¬ Int32.ofNat 0 = 0) by decide) ?_
    refine hs_k (x := Int32.ofNat 1) (p := 16) (by decide +kernel) ?_
    refine hs_goto (p := 20) (by decide +kernel) ?_
    refine hs_istore (i := 3) (p := 21) (by decide +kernel) (Nat.le_of_ble_eq_true rfl) ?_
    refine ht_newN (p := 24) (by decide +kernel) (by omega) (by omega) hH (fun K21 G21 o21 x21 f21 hH k_o21 ge_o21 lt21 => ?_)
    have hx := (f21.2 rd 7 k_rd 8 rfl).trans hx
    have k_rd := x21 _ _ k_rd
    have ge_o21 := Nat.le_trans hf.1 ge_o21
    have hf := hf.tr hx0 (f21.wk (by decide +kernel))
    have hx0 := hx0.tr x21
    refine hs_dup1 (p := 25) (by decide +kernel) ?_
    refine hs_iload (i := 1) (p := 26) (by decide +kernel) rfl ?_
    have lto_o21 := (hH.2.2 _ _ k_o21).1
    have hfo := hf
    refine hs_callp (mi := 61) (na := 1) (lk := 8) (lm := 2) (L0 := eg_en (eg_mL 61) [.ref o21, .int (Int32.ofNat 0)]) (by decide +kernel) rfl rfl rfl rfl rfl (by rw [show eg_mL 61 = 2 from by decide +kernel]; first | done | rfl) ?_
    refine (hc_nod (K21, [], G21) [.ref o21, .int (Int32.ofNat 0)] _ hH (by omega) rfl (ht_ac (.inr ⟨by decide, _, rfl, k_o21⟩) (ht_ac hi_any ht_an))).mono (fun u hu => hs_cbn hu (fun K26 G26 c26 s26 x26 f26 hH cl26 sl26 => ?_))
    have hx := (f26.2 rd 7 k_rd 8 rfl).trans hx
    have k_rd := x26 _ _ k_rd
    have k_o21 := x26 _ _ k_o21
    have hf := hf.tr hx0 (f26.wk (by decide +kernel))
    have hx0 := hx0.tr x26
    obtain rfl : c26 = 0 := Nat.le_zero.mp cl26
    obtain rfl : s26 = 0 := Nat.le_zero.mp sl26
    show et_go none _ 75 29 _ [.ref o21] _ (0 + 1) (0 + 6) _
    refine hs_astore (i := 4) (p := 31) (by decide +kernel) (Nat.le_of_ble_eq_true rfl) ?_
    refine hs_nul (p := 32) (by decide +kernel) ?_
    refine hs_astore0 (i := 5) (p := 34) (by decide +kernel) (Nat.le_of_ble_eq_true rfl) ?_
    refine hs_k (x := Int32.ofNat 0) (p := 35) (by decide +kernel) ?_
    refine hs_istore (i := 6) (p := 37) (by decide +kernel) (Nat.le_of_ble_eq_true rfl) ?_
    refine hs_iload (i := 6) (p := 39) (by decide +kernel) rfl ?_
    refine hs_k (x := Int32.ofNat 400) (p := 42) (by decide +kernel) ?_
    refine hs_br2n (c := .ge) (t := 137) (f := 45) (by decide +kernel) (by omega) (by omega) (fun h => absurd h (show ¬ (400 ≤ 0) by decide)) (fun _ => ?_)
    refine hs_iload (i := 3) (p := 46) (by decide +kernel) rfl ?_
    refine hs_if0 (c := .eq) (t := 58) (f := 49) (by decide +kernel) (show ¬ (Int32.ofNat 1 = 0) by decide) ?_
    refine hs_aload (i := 0) (p := 50) (by decide +kernel) rfl ?_
    refine hs_k (x := Int32.ofNat 1) (p := 51) (by decide +kernel) ?_
    refine hs_iload (i := 2) (p := 52) (by decide +kernel) rfl ?_
    have lto_o21 := (hH.2.2 _ _ k_o21).1
    have hfo := hf
    refine ht_callv (T := et_TT) (t := 7) (mi := 75) (na := 2) (ci := 5) (lk := 8) (lm := 8) (L0 := eg_en (eg_mL 75) [.ref rd, .int (Int32.ofNat 1), .int (Int32.ofNat dep)]) (by decide +kernel) rfl hH k_rd rfl rfl rfl rfl rfl (by rw [show eg_mL 75 = 8 from by decide +kernel]; first | done | rfl) ?_
    refine (hsub _ _ _ _ _ _ hH k_rd hx (by omega) (by omega) (by omega)).mono (fun u hu => pp_cb hu (fun K52 G52 v52 y52 c52 s52 x52 f52 hH hx hy52 hz52 hs52 hA => ?_))
    have k_rd := x52 _ _ k_rd
    have k_o21 := x52 _ _ k_o21
    have hf := hf.tr hx0 (f52.wk (by decide +kernel))
    have hx0 := hx0.tr x52
    rcases hA with ⟨rfl, hA52⟩ | ⟨b52, rfl, k_b52, ge_b52, hA52⟩
    · show et_go none _ 75 55 _ [.null] _ ((0 + 1) + c52) ((0 + 6) + s52) _
      refine hs_goto (p := 63) (by decide +kernel) ?_
      refine hs_astore0 (i := 7) (p := 65) (by decide +kernel) (Nat.le_of_ble_eq_true rfl) ?_
      refine hs_aload0 (i := 7) (p := 67) (by decide +kernel) rfl ?_
      refine hs_ifnonnull0 (p := 70) (by decide +kernel) ?_
      refine hs_nul (p := 71) (by decide +kernel) ?_
      refine hs_aretN (cn := "KnobEye$Node") (by decide +kernel) ?_
      exact ⟨_, _, _, rfl, hx0, hf, hH, hx, by omega, by omega, (by dsimp only; omega), .inl ⟨rfl, (by dsimp only; omega)⟩⟩
    · have lt_o21_b52 : o21 < b52 := Nat.lt_of_lt_of_le lto_o21 ge_b52
      have ge_b52 := Nat.le_trans hfo.1 ge_b52
      show et_go none _ 75 55 _ [.ref b52] _ ((0 + 1) + c52) ((0 + 6) + s52) _
      refine hs_goto (p := 63) (by decide +kernel) ?_
      refine hs_astore (i := 7) (p := 65) (by decide +kernel) (Nat.le_of_ble_eq_true rfl) ?_
      refine hs_aload (i := 7) (p := 67) (by decide +kernel) rfl ?_
      refine hs_ifnonnull1 (p := 72) (by decide +kernel) ?_
      refine hs_aload0 (i := 5) (p := 74) (by decide +kernel) rfl ?_
      refine hs_ifnonnull0 (p := 77) (by decide +kernel) ?_
      refine hs_aload (i := 4) (p := 79) (by decide +kernel) rfl ?_
      refine hs_aload (i := 7) (p := 81) (by decide +kernel) rfl ?_
      refine ht_put (M := [(6, 2, 2)]) (T := et_TT) (t := 6) (ci := 4) (f := 2) (p := 84) (ty := (.object "KnobEye$Node")) (by decide +kernel) rfl rfl rfl rfl rfl (by decide +kernel) hH k_o21 (.inr ⟨by decide, _, rfl, k_b52⟩) (fun G81 hH f81 e81 => ?_)
      have hf := hf.tr hx0 (f81.wk (by decide +kernel))
      have hx := (f81.2 rd 7 k_rd 8 rfl).trans hx
      refine hs_goto (p := 94) (by decide +kernel) ?_
      refine hs_aload (i := 7) (p := 96) (by decide +kernel) rfl ?_
      refine hs_astore (i := 5) (p := 98) (by decide +kernel) (Nat.le_of_ble_eq_true rfl) ?_
      refine hs_aload (i := 0) (p := 99) (by decide +kernel) rfl ?_
      refine hs_iload (i := 3) (p := 100) (by decide +kernel) rfl ?_
      refine hs_if0 (c := .eq) (t := 109) (f := 103) (by decide +kernel) (show ¬ (Int32.ofNat 1 = 0) by decide) ?_
      refine hs_gst (v := Value.ref 21) (p := 106) (by decide +kernel) ?_
      refine hs_goto (p := 112) (by decide +kernel) ?_
      have lto_o21 := (hH.2.2 _ _ k_o21).1
      have lto_b52 := (hH.2.2 _ _ k_b52).1
      have hfo := hf
      refine ht_callv (T := et_TT) (t := 7) (mi := 78) (na := 1) (ci := 5) (lk := 8) (lm := 2) (L0 := eg_en (eg_mL 78) [.ref rd, .ref 21]) (by decide +kernel) rfl hH k_rd rfl rfl rfl rfl rfl (by rw [show eg_mL 78 = 2 from by decide +kernel]; first | done | rfl) ?_
      refine (pp_is hH k_rd hx (by omega) (hH.2.1 _ (by decide)) (by omega)).mono (fun u hu => pz_cb hu (fun K112 G112 v112 x112 f112 hH hA => ?_))
      have hx := (f112.2 rd 7 k_rd 8 rfl).trans hx
      have k_rd := x112 _ _ k_rd
      have k_o21 := x112 _ _ k_o21
      have k_b52 := x112 _ _ k_b52
      have hf := hf.tr hx0 (f112.wk (by decide +kernel))
      have hx0 := hx0.tr x112
      rcases hA with rfl | ⟨rfl, hi112⟩
      · show et_go none _ 75 115 _ [.int (Int32.ofNat 0)] _ ((0 + 1) + c52) ((0 + 6) + s52) _
        refine hs_if0 (c := .ne) (t := 121) (f := 118) (by decide +kernel) (show ¬ (¬ Int32.ofNat 0 = 0) by decide) ?_
        refine hs_goto (p := 137) (by decide +kernel) ?_
        refine hs_aload (i := 4) (p := 139) (by decide +kernel) rfl ?_
        refine ht_get (T := et_TT) (t := 6) (ci := 4) (f := 2) (p := 142) (by decide +kernel) rfl rfl rfl hH k_o21 (fun v139 h139 e139 => ?_)
        rcases hi_q h139 with rfl | ⟨b139, rfl, k_b139⟩
        · refine hs_aload (i := 5) (p := 144) (by decide +kernel) rfl ?_
          refine hs_acm (c := .ne) (t := 152) (f := 147) (by decide +kernel) rfl (hi_ca hH k_b52 (by decide)) ?_ ?_
          · refine hs_aload (i := 4) (p := 154) (by decide +kernel) rfl ?_
            refine hs_aret (cn := "KnobEye$Node") (by decide +kernel) ?_
            exact ⟨_, _, _, rfl, hx0, hf, hH, hx, by omega, by omega, (by dsimp only; omega), .inr ⟨_, rfl, k_o21, by omega, (by dsimp only; omega)⟩⟩
          · refine hs_aload (i := 5) (p := 149) (by decide +kernel) rfl ?_
            refine hs_goto (p := 154) (by decide +kernel) ?_
            refine hs_aret (cn := "KnobEye$Node") (by decide +kernel) ?_
            exact ⟨_, _, _, rfl, hx0, hf, hH, hx, by omega, by omega, (by dsimp only; omega), .inr ⟨_, rfl, k_b52, by omega, (by dsimp only; omega)⟩⟩
        · refine hs_aload (i := 5) (p := 144) (by decide +kernel) rfl ?_
          refine hs_acm (c := .ne) (t := 152) (f := 147) (by decide +kernel) (hi_ca hH k_b139 (by decide)) (hi_ca hH k_b52 (by decide)) ?_ ?_
          · refine hs_aload (i := 4) (p := 154) (by decide +kernel) rfl ?_
            refine hs_aret (cn := "KnobEye$Node") (by decide +kernel) ?_
            exact ⟨_, _, _, rfl, hx0, hf, hH, hx, by omega, by omega, (by dsimp only; omega), .inr ⟨_, rfl, k_o21, by omega, (by dsimp only; omega)⟩⟩
          · refine hs_aload (i := 5) (p := 149) (by decide +kernel) rfl ?_
            refine hs_goto (p := 154) (by decide +kernel) ?_
            refine hs_aret (cn := "KnobEye$Node") (by decide +kernel) ?_
            exact ⟨_, _, _, rfl, hx0, hf, hH, hx, by omega, by omega, (by dsimp only; omega), .inr ⟨_, rfl, k_b52, by omega, (by dsimp only; omega)⟩⟩
      · show et_go none _ 75 115 _ [.int (Int32.ofNat 1)] _ ((0 + 1) + c52) ((0 + 6) + s52) _
        refine hs_if1 (c := .ne) (t := 121) (f := 118) (by decide +kernel) (show ¬ Int32.ofNat 1 = 0 by decide) ?_
        refine hs_aload (i := 0) (p := 122) (by decide +kernel) rfl ?_
        refine hs_dup1 (p := 123) (by decide +kernel) ?_
        refine ht_getn (T := et_TT) (t := 7) (ci := 5) (f := 8) (p := 126) (by decide +kernel) rfl rfl hH k_rd (fun c123 h123 e123 => ?_)
        have q123 : c123 = y52 := hb_cc e123 hx (by omega) (by omega)
        refine hs_k (x := Int32.ofNat 1) (p := 127) (by decide +kernel) ?_
        refine hs_iaddn (p := 128) (by decide +kernel) ?_
        refine ht_put (M := [(7, 8, 8)]) (T := et_TT) (t := 7) (ci := 5) (f := 8) (p := 131) (ty := .int) (by decide +kernel) rfl rfl rfl rfl rfl (by decide +kernel) hH k_rd (hi_nv (by omega) (by omega)) (fun G128 hH f128 e128 => ?_)
        have hf := hf.tr hx0 (f128.wk (by decide +kernel))
        have hx := e128
        refine hs_iinc1 (i := 6) (p := 134) (by decide +kernel) rfl (Nat.le_of_ble_eq_true rfl) ?_
        refine hs_goto (p := 37) (by decide +kernel) ?_
        show et_go none (d + 6) 75 37 [some (.ref rd), some (.int (Int32.ofNat 0)), some (.int (Int32.ofNat dep)), some (.int (Int32.ofNat 1)), some (.ref o21), some (.ref b52), some (.int (Int32.ofNat (0 + 1))), some (.ref b52)] [] _ _ _ _
        exact pn_g0 (m := m) (i := (0 + 1)) hsub hH hx0 hf k_rd hx k_o21 ge_o21 k_b52 ge_b52 (by omega) (by omega) (by omega) (by omega) (by omega) hdm (by omega)
  · refine hs_aload (i := 0) (p := 7) (by decide +kernel) rfl ?_
    have hfo := hf
    refine ht_callv (T := et_TT) (t := 7) (mi := 76) (na := 0) (ci := 5) (lk := 8) (lm := 1) (L0 := eg_en (eg_mL 76) [.ref rd]) (by decide +kernel) rfl hH k_rd rfl rfl rfl rfl rfl (by rw [show eg_mL 76 = 1 from by decide +kernel]; first | done | rfl) ?_
    refine (ep_c4 (K, [], G) [.ref rd] _ hH (by omega) rfl (ht_ac (.inr ⟨by decide, _, rfl, k_rd⟩) ht_an)).mono (fun u hu => hs_cbv hu (fun v7 K7 G7 c7 s7 x7 f7 hH hv7 cl7 sl7 => ?_))
    have hx := (f7.2 rd 7 k_rd 8 rfl).trans hx
    have k_rd := x7 _ _ k_rd
    have hf := hf.tr hx0 (f7.wk (by decide +kernel))
    have hx0 := hx0.tr x7
    obtain rfl : c7 = 0 := Nat.le_zero.mp cl7
    obtain rfl : s7 = 0 := Nat.le_zero.mp sl7
    obtain rfl : v7 = .null := hv7.elim (fun h => h.2) (fun h => absurd h.1 (by decide))
    show et_go none _ 75 10 _ [.null] _ 0 0 _
    refine hs_aretN (cn := "KnobEye$Node") (by decide +kernel) ?_
    exact ⟨_, _, _, rfl, hx0, hf, hH, hx, by omega, by omega, (by dsimp only; omega), .inl ⟨rfl, (by dsimp only; omega)⟩⟩
theorem pp_a (ih : ∀ m1, m = m1 + 1 → pp_A m1 ∧ pp_G 0 2 m1) : pp_A m := by
  intro K G d2 rd x dep hH k_rd hx hxl hdm hd
  obtain ⟨d, rfl⟩ : ∃ d, d2 = d + 4 := ⟨d2 - 4, by omega⟩
  have hx0 : et_ex K K := et_ex.rf
  have hf : et_fr pp_M K G G := et_fr.rf
  rw [show eg_mL 77 = 4 from by decide +kernel]
  show et_go none (d + 4) 77 0 [some (.ref rd), some (.int (Int32.ofNat dep)), none, none] [] G 0 0 _
  refine hs_aload (i := 0) (p := 1) (by decide +kernel) rfl ?_
  refine hs_gst (v := Value.ref 22) (p := 4) (by decide +kernel) ?_
  have hfo := hf
  refine ht_callv (T := et_TT) (t := 7) (mi := 78) (na := 1) (ci := 5) (lk := 4) (lm := 2) (L0 := eg_en (eg_mL 78) [.ref rd, .ref 22]) (by decide +kernel) rfl hH k_rd rfl rfl rfl rfl rfl (by rw [show eg_mL 78 = 2 from by decide +kernel]; first | done | rfl) ?_
  refine (pp_is hH k_rd hx (by omega) (hH.2.1 _ (by decide)) (by omega)).mono (fun u hu => pz_cb hu (fun K4 G4 v4 x4 f4 hH hA => ?_))
  have hx := (f4.2 rd 7 k_rd 8 rfl).trans hx
  have k_rd := x4 _ _ k_rd
  have hf := hf.tr hx0 (f4.wk (by decide +kernel))
  have hx0 := hx0.tr x4
  rcases hA with rfl | ⟨rfl, hi4⟩
  · show et_go none _ 77 7 _ [.int (Int32.ofNat 0)] _ 0 0 _
    refine hs_istore (i := 2) (p := 8) (by decide +kernel) (Nat.le_of_ble_eq_true rfl) ?_
    refine hs_iload (i := 2) (p := 9) (by decide +kernel) rfl ?_
    refine hs_if0 (c := .ne) (t := 42) (f := 12) (by decide +kernel) (show ¬ (¬ Int32.ofNat 0 = 0) by decide) ?_
    refine hs_aload (i := 0) (p := 13) (by decide +kernel) rfl ?_
    refine hs_gst (v := Value.ref 23) (p := 16) (by decide +kernel) ?_
    have hfo := hf
    refine ht_callv (T := et_TT) (t := 7) (mi := 78) (na := 1) (ci := 5) (lk := 4) (lm := 2) (L0 := eg_en (eg_mL 78) [.ref rd, .ref 23]) (by decide +kernel) rfl hH k_rd rfl rfl rfl rfl rfl (by rw [show eg_mL 78 = 2 from by decide +kernel]; first | done | rfl) ?_
    refine (pp_is hH k_rd hx (by omega) (hH.2.1 _ (by decide)) (by omega)).mono (fun u hu => pz_cb hu (fun K16 G16 v16 x16 f16 hH hA => ?_))
    have hx := (f16.2 rd 7 k_rd 8 rfl).trans hx
    have k_rd := x16 _ _ k_rd
    have hf := hf.tr hx0 (f16.wk (by decide +kernel))
    have hx0 := hx0.tr x16
    rcases hA with rfl | ⟨rfl, hi16⟩
    · show et_go none _ 77 19 _ [.int (Int32.ofNat 0)] _ 0 0 _
      refine hs_if0 (c := .ne) (t := 42) (f := 22) (by decide +kernel) (show ¬ (¬ Int32.ofNat 0 = 0) by decide) ?_
      refine hs_aload (i := 0) (p := 23) (by decide +kernel) rfl ?_
      refine hs_k (x := Int32.ofNat 1) (p := 24) (by decide +kernel) ?_
      have hfo := hf
      refine ht_callv (T := et_TT) (t := 7) (mi := 79) (na := 1) (ci := 5) (lk := 4) (lm := 2) (L0 := eg_en (eg_mL 79) [.ref rd, .int (Int32.ofNat 1)]) (by decide +kernel) rfl hH k_rd rfl rfl rfl rfl rfl (by rw [show eg_mL 79 = 2 from by decide +kernel]; first | done | rfl) ?_
      refine (pp_wh hH k_rd hx (by omega) (by omega)).mono (fun u hu => pz_cb hu (fun K24 G24 v24 x24 f24 hH hA => ?_))
      have hx := (f24.2 rd 7 k_rd 8 rfl).trans hx
      have k_rd := x24 _ _ k_rd
      have hf := hf.tr hx0 (f24.wk (by decide +kernel))
      have hx0 := hx0.tr x24
      rcases hA with rfl | ⟨w24, rfl, k_w24, hi24⟩
      · show et_go none _ 77 27 _ [.null] _ 0 0 _
        refine hs_ifnonnull0 (p := 30) (by decide +kernel) ?_
        refine hs_aload (i := 0) (p := 31) (by decide +kernel) rfl ?_
        have hfo := hf
        refine ht_callv (T := et_TT) (t := 7) (mi := 80) (na := 0) (ci := 5) (lk := 4) (lm := 4) (L0 := eg_en (eg_mL 80) [.ref rd]) (by decide +kernel) rfl hH k_rd rfl rfl rfl rfl rfl (by rw [show eg_mL 80 = 4 from by decide +kernel]; first | done | rfl) ?_
        refine (pp_cmp hH k_rd hx (by omega) (by omega)).mono (fun u hu => pp_cb hu (fun K31 G31 v31 y31 c31 s31 x31 f31 hH hx hy31 hz31 hs31 hA => ?_))
        have k_rd := x31 _ _ k_rd
        have hf := hf.tr hx0 (f31.wk (by decide +kernel))
        have hx0 := hx0.tr x31
        rcases hA with ⟨rfl, hA31⟩ | ⟨b31, rfl, k_b31, ge_b31, hA31⟩
        · show et_go none _ 77 34 _ [.null] _ (0 + c31) (0 + s31) _
          refine hs_goto (p := 41) (by decide +kernel) ?_
          refine hs_aretN (cn := "KnobEye$Node") (by decide +kernel) ?_
          exact ⟨_, _, _, rfl, hx0, hf, hH, hx, by omega, by omega, (by dsimp only; omega), .inl ⟨rfl, (by dsimp only; omega)⟩⟩
        · have ge_b31 := Nat.le_trans hfo.1 ge_b31
          show et_go none _ 77 34 _ [.ref b31] _ (0 + c31) (0 + s31) _
          refine hs_goto (p := 41) (by decide +kernel) ?_
          refine hs_aret (cn := "KnobEye$Node") (by decide +kernel) ?_
          exact ⟨_, _, _, rfl, hx0, hf, hH, hx, by omega, by omega, (by dsimp only; omega), .inr ⟨_, rfl, k_b31, by omega, (by dsimp only; omega)⟩⟩
      · show et_go none _ 77 27 _ [.ref w24] _ 0 0 _
        refine hs_ifnonnull1 (p := 37) (by decide +kernel) ?_
        refine hs_aload (i := 0) (p := 38) (by decide +kernel) rfl ?_
        have hfo := hf
        refine ht_callv (T := et_TT) (t := 7) (mi := 82) (na := 0) (ci := 5) (lk := 4) (lm := 2) (L0 := eg_en (eg_mL 82) [.ref rd]) (by decide +kernel) rfl hH k_rd rfl rfl rfl rfl rfl (by rw [show eg_mL 82 = 2 from by decide +kernel]; first | done | rfl) ?_
        refine (pp_tag hH k_rd hx (by omega) (by omega) (by omega)).mono (fun u hu => pp_cb hu (fun K38 G38 v38 y38 c38 s38 x38 f38 hH hx hy38 hz38 hs38 hA => ?_))
        have k_rd := x38 _ _ k_rd
        have k_w24 := x38 _ _ k_w24
        have hf := hf.tr hx0 (f38.wk (by decide +kernel))
        have hx0 := hx0.tr x38
        rcases hA with ⟨rfl, hA38⟩ | ⟨b38, rfl, k_b38, ge_b38, hA38⟩
        · show et_go none _ 77 41 _ [.null] _ (0 + c38) (0 + s38) _
          refine hs_aretN (cn := "KnobEye$Node") (by decide +kernel) ?_
          exact ⟨_, _, _, rfl, hx0, hf, hH, hx, by omega, by omega, (by dsimp only; omega), .inl ⟨rfl, (by dsimp only; omega)⟩⟩
        · have ge_b38 := Nat.le_trans hfo.1 ge_b38
          show et_go none _ 77 41 _ [.ref b38] _ (0 + c38) (0 + s38) _
          refine hs_aret (cn := "KnobEye$Node") (by decide +kernel) ?_
          exact ⟨_, _, _, rfl, hx0, hf, hH, hx, by omega, by omega, (by dsimp only; omega), .inr ⟨_, rfl, k_b38, by omega, (by dsimp only; omega)⟩⟩
    · show et_go none _ 77 19 _ [.int (Int32.ofNat 1)] _ 0 0 _
      refine hs_if1 (c := .ne) (t := 42) (f := 22) (by decide +kernel) (show ¬ Int32.ofNat 1 = 0 by decide) ?_
      refine hs_iload (i := 1) (p := 43) (by decide +kernel) rfl ?_
      refine hs_k (x := Int32.ofNat 6) (p := 45) (by decide +kernel) ?_
      refine hs_br2n (c := .lt) (t := 53) (f := 48) (by decide +kernel) (by omega) (by omega) (fun (c45 : dep < 6) => ?_) (fun (c45 : ¬ (dep < 6)) => ?_)
      · obtain ⟨m1, rfl⟩ : ∃ m1, m = m1 + 1 := ⟨m - 1, by omega⟩
        obtain ⟨hA, hG⟩ := ih m1 rfl
        refine hs_aload (i := 0) (p := 54) (by decide +kernel) rfl ?_
        refine hs_dup1 (p := 55) (by decide +kernel) ?_
        refine ht_getn (T := et_TT) (t := 7) (ci := 5) (f := 8) (p := 58) (by decide +kernel) rfl rfl hH k_rd (fun c55 h55 e55 => ?_)
        have q55 : c55 = x := hb_cc e55 hx (by omega) (by omega)
        refine hs_k (x := Int32.ofNat 1) (p := 59) (by decide +kernel) ?_
        refine hs_iaddn (p := 60) (by decide +kernel) ?_
        refine ht_put (M := [(7, 8, 8)]) (T := et_TT) (t := 7) (ci := 5) (f := 8) (p := 63) (ty := .int) (by decide +kernel) rfl rfl rfl rfl rfl (by decide +kernel) hH k_rd (hi_nv (by omega) (by omega)) (fun G60 hH f60 e60 => ?_)
        have hf := hf.tr hx0 (f60.wk (by decide +kernel))
        have hx := e60
        refine hs_iload (i := 2) (p := 64) (by decide +kernel) rfl ?_
        refine hs_if0 (c := .ne) (t := 107) (f := 67) (by decide +kernel) (show ¬ (¬ Int32.ofNat 0 = 0) by decide) ?_
        refine hs_aload (i := 0) (p := 68) (by decide +kernel) rfl ?_
        refine hs_k (x := Int32.ofNat 0) (p := 69) (by decide +kernel) ?_
        refine hs_iload (i := 1) (p := 70) (by decide +kernel) rfl ?_
        refine hs_k (x := Int32.ofNat 1) (p := 71) (by decide +kernel) ?_
        refine hs_iaddn (p := 72) (by decide +kernel) ?_
        have hfo := hf
        refine ht_callv (T := et_TT) (t := 7) (mi := 75) (na := 2) (ci := 5) (lk := 4) (lm := 8) (L0 := eg_en (eg_mL 75) [.ref rd, .int (Int32.ofNat 0), .int (Int32.ofNat (dep + 1))]) (by decide +kernel) rfl hH k_rd rfl rfl rfl rfl rfl (by rw [show eg_mL 75 = 8 from by decide +kernel]; first | done | rfl) ?_
        refine (hG _ _ _ _ _ _ hH k_rd hx (by omega) (by omega) (by omega)).mono (fun u hu => pp_cb hu (fun K72 G72 v72 y72 c72 s72 x72 f72 hH hx hy72 hz72 hs72 hA => ?_))
        have k_rd := x72 _ _ k_rd
        have hf := hf.tr hx0 (f72.wk (by decide +kernel))
        have hx0 := hx0.tr x72
        rcases hA with ⟨rfl, hA72⟩ | ⟨b72, rfl, k_b72, ge_b72, hA72⟩
        · show et_go none _ 77 75 _ [.null] _ (0 + c72) (0 + s72) _
          refine hs_astore0 (i := 3) (p := 76) (by decide +kernel) (Nat.le_of_ble_eq_true rfl) ?_
          refine hs_aload0 (i := 3) (p := 77) (by decide +kernel) rfl ?_
          refine hs_ifnull0 (p := 90) (by decide +kernel) ?_
          refine hs_aload (i := 0) (p := 91) (by decide +kernel) rfl ?_
          have hfo := hf
          refine ht_callv (T := et_TT) (t := 7) (mi := 76) (na := 0) (ci := 5) (lk := 4) (lm := 1) (L0 := eg_en (eg_mL 76) [.ref rd]) (by decide +kernel) rfl hH k_rd rfl rfl rfl rfl rfl (by rw [show eg_mL 76 = 1 from by decide +kernel]; first | done | rfl) ?_
          refine (ep_c4 (K72, [], G72) [.ref rd] _ hH (by omega) rfl (ht_ac (.inr ⟨by decide, _, rfl, k_rd⟩) ht_an)).mono (fun u hu => hs_cbv hu (fun v91 K91 G91 c91 s91 x91 f91 hH hv91 cl91 sl91 => ?_))
          have hx := (f91.2 rd 7 k_rd 8 rfl).trans hx
          have k_rd := x91 _ _ k_rd
          have hf := hf.tr hx0 (f91.wk (by decide +kernel))
          have hx0 := hx0.tr x91
          obtain rfl : c91 = 0 := Nat.le_zero.mp cl91
          obtain rfl : s91 = 0 := Nat.le_zero.mp sl91
          obtain rfl : v91 = .null := hv91.elim (fun h => h.2) (fun h => absurd h.1 (by decide))
          show et_go none _ 77 94 _ [.null] _ (0 + c72) (0 + s72) _
          refine hs_aretN (cn := "KnobEye$Node") (by decide +kernel) ?_
          exact ⟨_, _, _, rfl, hx0, hf, hH, hx, by omega, by omega, (by dsimp only; omega), .inl ⟨rfl, (by dsimp only; omega)⟩⟩
        · have ge_b72 := Nat.le_trans hfo.1 ge_b72
          show et_go none _ 77 75 _ [.ref b72] _ (0 + c72) (0 + s72) _
          refine hs_astore (i := 3) (p := 76) (by decide +kernel) (Nat.le_of_ble_eq_true rfl) ?_
          refine hs_aload (i := 3) (p := 77) (by decide +kernel) rfl ?_
          refine hs_ifnull1 (p := 80) (by decide +kernel) ?_
          refine hs_aload (i := 0) (p := 81) (by decide +kernel) rfl ?_
          refine hs_gst (v := Value.ref 24) (p := 84) (by decide +kernel) ?_
          have lto_b72 := (hH.2.2 _ _ k_b72).1
          have hfo := hf
          refine ht_callv (T := et_TT) (t := 7) (mi := 78) (na := 1) (ci := 5) (lk := 4) (lm := 2) (L0 := eg_en (eg_mL 78) [.ref rd, .ref 24]) (by decide +kernel) rfl hH k_rd rfl rfl rfl rfl rfl (by rw [show eg_mL 78 = 2 from by decide +kernel]; first | done | rfl) ?_
          refine (pp_is hH k_rd hx (by omega) (hH.2.1 _ (by decide)) (by omega)).mono (fun u hu => pz_cb hu (fun K84 G84 v84 x84 f84 hH hA => ?_))
          have hx := (f84.2 rd 7 k_rd 8 rfl).trans hx
          have k_rd := x84 _ _ k_rd
          have k_b72 := x84 _ _ k_b72
          have hf := hf.tr hx0 (f84.wk (by decide +kernel))
          have hx0 := hx0.tr x84
          rcases hA with rfl | ⟨rfl, hi84⟩
          · show et_go none _ 77 87 _ [.int (Int32.ofNat 0)] _ (0 + c72) (0 + s72) _
            refine hs_if0 (c := .ne) (t := 95) (f := 90) (by decide +kernel) (show ¬ (¬ Int32.ofNat 0 = 0) by decide) ?_
            refine hs_aload (i := 0) (p := 91) (by decide +kernel) rfl ?_
            have lto_b72 := (hH.2.2 _ _ k_b72).1
            have hfo := hf
            refine ht_callv (T := et_TT) (t := 7) (mi := 76) (na := 0) (ci := 5) (lk := 4) (lm := 1) (L0 := eg_en (eg_mL 76) [.ref rd]) (by decide +kernel) rfl hH k_rd rfl rfl rfl rfl rfl (by rw [show eg_mL 76 = 1 from by decide +kernel]; first | done | rfl) ?_
            refine (ep_c4 (K84, [], G84) [.ref rd] _ hH (by omega) rfl (ht_ac (.inr ⟨by decide, _, rfl, k_rd⟩) ht_an)).mono (fun u hu => hs_cbv hu (fun v91 K91 G91 c91 s91 x91 f91 hH hv91 cl91 sl91 => ?_))
            have hx := (f91.2 rd 7 k_rd 8 rfl).trans hx
            have k_rd := x91 _ _ k_rd
            have k_b72 := x91 _ _ k_b72
            have hf := hf.tr hx0 (f91.wk (by decide +kernel))
            have hx0 := hx0.tr x91
            obtain rfl : c91 = 0 := Nat.le_zero.mp cl91
            obtain rfl : s91 = 0 := Nat.le_zero.mp sl91
            obtain rfl : v91 = .null := hv91.elim (fun h => h.2) (fun h => absurd h.1 (by decide))
            show et_go none _ 77 94 _ [.null] _ (0 + c72) (0 + s72) _
            refine hs_aretN (cn := "KnobEye$Node") (by decide +kernel) ?_
            exact ⟨_, _, _, rfl, hx0, hf, hH, hx, by omega, by omega, (by dsimp only; omega), .inl ⟨rfl, (by dsimp only; omega)⟩⟩
          · show et_go none _ 77 87 _ [.int (Int32.ofNat 1)] _ (0 + c72) (0 + s72) _
            refine hs_if1 (c := .ne) (t := 95) (f := 90) (by decide +kernel) (show ¬ Int32.ofNat 1 = 0 by decide) ?_
            refine hs_aload (i := 0) (p := 96) (by decide +kernel) rfl ?_
            refine hs_dup1 (p := 97) (by decide +kernel) ?_
            refine ht_getn (T := et_TT) (t := 7) (ci := 5) (f := 8) (p := 100) (by decide +kernel) rfl rfl hH k_rd (fun c97 h97 e97 => ?_)
            have q97 : c97 = y72 := hb_cc e97 hx (by omega) (by omega)
            refine hs_k (x := Int32.ofNat 1) (p := 101) (by decide +kernel) ?_
            refine hs_iaddn (p := 102) (by decide +kernel) ?_
            refine ht_put (M := [(7, 8, 8)]) (T := et_TT) (t := 7) (ci := 5) (f := 8) (p := 105) (ty := .int) (by decide +kernel) rfl rfl rfl rfl rfl (by decide +kernel) hH k_rd (hi_nv (by omega) (by omega)) (fun G102 hH f102 e102 => ?_)
            have hf := hf.tr hx0 (f102.wk (by decide +kernel))
            have hx := e102
            refine hs_aload (i := 3) (p := 106) (by decide +kernel) rfl ?_
            refine hs_aret (cn := "KnobEye$Node") (by decide +kernel) ?_
            exact ⟨_, _, _, rfl, hx0, hf, hH, hx, by omega, by omega, (by dsimp only; omega), .inr ⟨_, rfl, k_b72, by omega, (by dsimp only; omega)⟩⟩
      · refine hs_aload (i := 0) (p := 49) (by decide +kernel) rfl ?_
        have hfo := hf
        refine ht_callv (T := et_TT) (t := 7) (mi := 76) (na := 0) (ci := 5) (lk := 4) (lm := 1) (L0 := eg_en (eg_mL 76) [.ref rd]) (by decide +kernel) rfl hH k_rd rfl rfl rfl rfl rfl (by rw [show eg_mL 76 = 1 from by decide +kernel]; first | done | rfl) ?_
        refine (ep_c4 (K16, [], G16) [.ref rd] _ hH (by omega) rfl (ht_ac (.inr ⟨by decide, _, rfl, k_rd⟩) ht_an)).mono (fun u hu => hs_cbv hu (fun v49 K49 G49 c49 s49 x49 f49 hH hv49 cl49 sl49 => ?_))
        have hx := (f49.2 rd 7 k_rd 8 rfl).trans hx
        have k_rd := x49 _ _ k_rd
        have hf := hf.tr hx0 (f49.wk (by decide +kernel))
        have hx0 := hx0.tr x49
        obtain rfl : c49 = 0 := Nat.le_zero.mp cl49
        obtain rfl : s49 = 0 := Nat.le_zero.mp sl49
        obtain rfl : v49 = .null := hv49.elim (fun h => h.2) (fun h => absurd h.1 (by decide))
        show et_go none _ 77 52 _ [.null] _ 0 0 _
        refine hs_aretN (cn := "KnobEye$Node") (by decide +kernel) ?_
        exact ⟨_, _, _, rfl, hx0, hf, hH, hx, by omega, by omega, (by dsimp only; omega), .inl ⟨rfl, (by dsimp only; omega)⟩⟩
  · show et_go none _ 77 7 _ [.int (Int32.ofNat 1)] _ 0 0 _
    refine hs_istore (i := 2) (p := 8) (by decide +kernel) (Nat.le_of_ble_eq_true rfl) ?_
    refine hs_iload (i := 2) (p := 9) (by decide +kernel) rfl ?_
    refine hs_if1 (c := .ne) (t := 42) (f := 12) (by decide +kernel) (show ¬ Int32.ofNat 1 = 0 by decide) ?_
    refine hs_iload (i := 1) (p := 43) (by decide +kernel) rfl ?_
    refine hs_k (x := Int32.ofNat 6) (p := 45) (by decide +kernel) ?_
    refine hs_br2n (c := .lt) (t := 53) (f := 48) (by decide +kernel) (by omega) (by omega) (fun (c45 : dep < 6) => ?_) (fun (c45 : ¬ (dep < 6)) => ?_)
    · obtain ⟨m1, rfl⟩ : ∃ m1, m = m1 + 1 := ⟨m - 1, by omega⟩
      obtain ⟨hA, hG⟩ := ih m1 rfl
      refine hs_aload (i := 0) (p := 54) (by decide +kernel) rfl ?_
      refine hs_dup1 (p := 55) (by decide +kernel) ?_
      refine ht_getn (T := et_TT) (t := 7) (ci := 5) (f := 8) (p := 58) (by decide +kernel) rfl rfl hH k_rd (fun c55 h55 e55 => ?_)
      have q55 : c55 = x := hb_cc e55 hx (by omega) (by omega)
      refine hs_k (x := Int32.ofNat 1) (p := 59) (by decide +kernel) ?_
      refine hs_iaddn (p := 60) (by decide +kernel) ?_
      refine ht_put (M := [(7, 8, 8)]) (T := et_TT) (t := 7) (ci := 5) (f := 8) (p := 63) (ty := .int) (by decide +kernel) rfl rfl rfl rfl rfl (by decide +kernel) hH k_rd (hi_nv (by omega) (by omega)) (fun G60 hH f60 e60 => ?_)
      have hf := hf.tr hx0 (f60.wk (by decide +kernel))
      have hx := e60
      refine hs_iload (i := 2) (p := 64) (by decide +kernel) rfl ?_
      refine hs_if1 (c := .ne) (t := 107) (f := 67) (by decide +kernel) (show ¬ Int32.ofNat 1 = 0 by decide) ?_
      refine ht_newN (p := 110) (by decide +kernel) (by omega) (by omega) hH (fun K107 G107 o107 x107 f107 hH k_o107 ge_o107 lt107 => ?_)
      have hx := (f107.2 rd 7 k_rd 8 rfl).trans hx
      have k_rd := x107 _ _ k_rd
      have ge_o107 := Nat.le_trans hf.1 ge_o107
      have hf := hf.tr hx0 (f107.wk (by decide +kernel))
      have hx0 := hx0.tr x107
      refine hs_dup1 (p := 111) (by decide +kernel) ?_
      refine hs_k (x := Int32.ofNat 2) (p := 112) (by decide +kernel) ?_
      have lto_o107 := (hH.2.2 _ _ k_o107).1
      have hfo := hf
      refine hs_callp (mi := 61) (na := 1) (lk := 4) (lm := 2) (L0 := eg_en (eg_mL 61) [.ref o107, .int (Int32.ofNat 2)]) (by decide +kernel) rfl rfl rfl rfl rfl (by rw [show eg_mL 61 = 2 from by decide +kernel]; first | done | rfl) ?_
      refine (hc_nod (K107, [], G107) [.ref o107, .int (Int32.ofNat 2)] _ hH (by omega) rfl (ht_ac (.inr ⟨by decide, _, rfl, k_o107⟩) (ht_ac hi_any ht_an))).mono (fun u hu => hs_cbn hu (fun K112 G112 c112 s112 x112 f112 hH cl112 sl112 => ?_))
      have hx := (f112.2 rd 7 k_rd 8 rfl).trans hx
      have k_rd := x112 _ _ k_rd
      have k_o107 := x112 _ _ k_o107
      have hf := hf.tr hx0 (f112.wk (by decide +kernel))
      have hx0 := hx0.tr x112
      obtain rfl : c112 = 0 := Nat.le_zero.mp cl112
      obtain rfl : s112 = 0 := Nat.le_zero.mp sl112
      show et_go none _ 77 115 _ [.ref o107] _ (0 + 1) (0 + 6) _
      refine hs_astore (i := 3) (p := 116) (by decide +kernel) (Nat.le_of_ble_eq_true rfl) ?_
      refine hs_aload (i := 3) (p := 117) (by decide +kernel) rfl ?_
      refine hs_aload (i := 0) (p := 118) (by decide +kernel) rfl ?_
      refine hs_iload (i := 1) (p := 119) (by decide +kernel) rfl ?_
      refine hs_k (x := Int32.ofNat 1) (p := 120) (by decide +kernel) ?_
      refine hs_iaddn (p := 121) (by decide +kernel) ?_
      have lto_o107 := (hH.2.2 _ _ k_o107).1
      have hfo := hf
      refine ht_callv (T := et_TT) (t := 7) (mi := 77) (na := 1) (ci := 5) (lk := 4) (lm := 4) (L0 := eg_en (eg_mL 77) [.ref rd, .int (Int32.ofNat (dep + 1))]) (by decide +kernel) rfl hH k_rd rfl rfl rfl rfl rfl (by rw [show eg_mL 77 = 4 from by decide +kernel]; first | done | rfl) ?_
      refine (hA _ _ _ _ _ _ hH k_rd hx (by omega) (by omega) (by omega)).mono (fun u hu => pp_cb hu (fun K121 G121 v121 y121 c121 s121 x121 f121 hH hx hy121 hz121 hs121 hA => ?_))
      have k_rd := x121 _ _ k_rd
      have k_o107 := x121 _ _ k_o107
      have hf := hf.tr hx0 (f121.wk (by decide +kernel))
      have hx0 := hx0.tr x121
      rcases hA with ⟨rfl, hA121⟩ | ⟨b121, rfl, k_b121, ge_b121, hA121⟩
      · show et_go none _ 77 124 _ [.null, .ref o107] _ ((0 + 1) + c121) ((0 + 6) + s121) _
        refine ht_put (M := [(6, 2, 2)]) (T := et_TT) (t := 6) (ci := 4) (f := 2) (p := 127) (ty := (.object "KnobEye$Node")) (by decide +kernel) rfl rfl rfl rfl rfl (by decide +kernel) hH k_o107 (.inl ⟨by decide, rfl⟩) (fun G124 hH f124 e124 => ?_)
        have hf := hf.tr hx0 (f124.wk (by decide +kernel))
        have hx := (f124.2 rd 7 k_rd 8 rfl).trans hx
        refine hs_aload (i := 3) (p := 128) (by decide +kernel) rfl ?_
        refine ht_get (T := et_TT) (t := 6) (ci := 4) (f := 2) (p := 131) (by decide +kernel) rfl rfl rfl hH k_o107 (fun v128 h128 e128 => ?_)
        obtain rfl : v128 = .null := Option.some.inj (e128.symm.trans e124)
        refine hs_ifnonnull0 (p := 134) (by decide +kernel) ?_
        refine hs_nul (p := 135) (by decide +kernel) ?_
        refine hs_goto (p := 139) (by decide +kernel) ?_
        refine hs_aretN (cn := "KnobEye$Node") (by decide +kernel) ?_
        exact ⟨_, _, _, rfl, hx0, hf, hH, hx, by omega, by omega, (by dsimp only; omega), .inl ⟨rfl, (by dsimp only; omega)⟩⟩
      · have lt_o107_b121 : o107 < b121 := Nat.lt_of_lt_of_le lto_o107 ge_b121
        have ge_b121 := Nat.le_trans hfo.1 ge_b121
        show et_go none _ 77 124 _ [.ref b121, .ref o107] _ ((0 + 1) + c121) ((0 + 6) + s121) _
        refine ht_put (M := [(6, 2, 2)]) (T := et_TT) (t := 6) (ci := 4) (f := 2) (p := 127) (ty := (.object "KnobEye$Node")) (by decide +kernel) rfl rfl rfl rfl rfl (by decide +kernel) hH k_o107 (.inr ⟨by decide, _, rfl, k_b121⟩) (fun G124 hH f124 e124 => ?_)
        have hf := hf.tr hx0 (f124.wk (by decide +kernel))
        have hx := (f124.2 rd 7 k_rd 8 rfl).trans hx
        refine hs_aload (i := 3) (p := 128) (by decide +kernel) rfl ?_
        refine ht_get (T := et_TT) (t := 6) (ci := 4) (f := 2) (p := 131) (by decide +kernel) rfl rfl rfl hH k_o107 (fun v128 h128 e128 => ?_)
        obtain rfl : v128 = .ref b121 := Option.some.inj (e128.symm.trans e124)
        refine hs_ifnonnull1 (p := 138) (by decide +kernel) ?_
        refine hs_aload (i := 3) (p := 139) (by decide +kernel) rfl ?_
        refine hs_aret (cn := "KnobEye$Node") (by decide +kernel) ?_
        exact ⟨_, _, _, rfl, hx0, hf, hH, hx, by omega, by omega, (by dsimp only; omega), .inr ⟨_, rfl, k_o107, by omega, (by dsimp only; omega)⟩⟩
    · refine hs_aload (i := 0) (p := 49) (by decide +kernel) rfl ?_
      have hfo := hf
      refine ht_callv (T := et_TT) (t := 7) (mi := 76) (na := 0) (ci := 5) (lk := 4) (lm := 1) (L0 := eg_en (eg_mL 76) [.ref rd]) (by decide +kernel) rfl hH k_rd rfl rfl rfl rfl rfl (by rw [show eg_mL 76 = 1 from by decide +kernel]; first | done | rfl) ?_
      refine (ep_c4 (K4, [], G4) [.ref rd] _ hH (by omega) rfl (ht_ac (.inr ⟨by decide, _, rfl, k_rd⟩) ht_an)).mono (fun u hu => hs_cbv hu (fun v49 K49 G49 c49 s49 x49 f49 hH hv49 cl49 sl49 => ?_))
      have hx := (f49.2 rd 7 k_rd 8 rfl).trans hx
      have k_rd := x49 _ _ k_rd
      have hf := hf.tr hx0 (f49.wk (by decide +kernel))
      have hx0 := hx0.tr x49
      obtain rfl : c49 = 0 := Nat.le_zero.mp cl49
      obtain rfl : s49 = 0 := Nat.le_zero.mp sl49
      obtain rfl : v49 = .null := hv49.elim (fun h => h.2) (fun h => absurd h.1 (by decide))
      show et_go none _ 77 52 _ [.null] _ 0 0 _
      refine hs_aretN (cn := "KnobEye$Node") (by decide +kernel) ?_
      exact ⟨_, _, _, rfl, hx0, hf, hH, hx, by omega, by omega, (by dsimp only; omega), .inl ⟨rfl, (by dsimp only; omega)⟩⟩
theorem pp_ag : ∀ m, pp_A m ∧ pp_G 0 2 m
  | 0 => have h : pp_A 0 := pp_a (fun m1 h => by omega)
    ⟨h, pp_g0 (pp_g1 h)⟩
  | m + 1 => have h : pp_A (m + 1) := pp_a (fun m1 h => by
      obtain rfl : m = m1 := by omega
      exact pp_ag m)
    ⟨h, pp_g0 (pp_g1 h)⟩
/-- a condition -/
theorem pp_cond (hH : et_H et_TT K G) (k_rd : K rd = some 7) (hx : pp_at G rd x) (hxl : x ≤ 401) (hd : 24 ≤ d2) : et_go none d2 75 0 (eg_en (eg_mL 75) [.ref rd, .int (Int32.ofNat 0), .int (Int32.ofNat 0)]) [] G 0 0 (pp_Z 2 K G rd x) := (pp_ag 6).2 K G d2 rd x 0 hH k_rd hx hxl rfl (by omega)
end PPC
