/-! BY HAND, for p12: eye -/
/-- the class's count of eyes -/
def pe_at (G : eg_G) (s e : Nat) : Prop := et_pl (eg_at G s) 5 = some (.int (Int32.ofNat e))
/-- what eye leaves: its answer, the count -/
def pe_Z (s e : Nat) (u : eg_O) : Prop := (e < 3 ∧ u.1 = .inl (some (.int (Int32.ofNat e))) ∧ pe_at u.2.1 s (e + 1)) ∨ (¬ e < 3 ∧ u.1 = .inr 2 ∧ pe_at u.2.1 s e)
section PEE
variable {w : et_Wd} {K : et_K} {G : eg_G} {d2 d th am e s z : Nat}
theorem pe_1 {e : Nat} : Int32.ofNat (e + 1) - Int32.ofNat 1 = Int32.ofNat e := by
  rw [Int32.ofNat_add]
  exact Int32.add_sub_cancel _ _
theorem hc_eyeX (hH : et_H et_TT K G) (hci : ci K G th) (hz : et_pl (eg_at G th) 0 = some (.ref z)) (hp : pe_at G z e) (he3 : e ≤ 3) : et_go none d2 139 0 (eg_en (eg_mL 139) [.ref th]) [] G 0 0 (fun u => pr_Z [(10, 5, 5)] K G th [2] 1 6 (fun _ => True) u ∧ pe_Z z e u) := by
  obtain ⟨s0, s1, ra0, ca0, rc0, ec0, cc0, ra1, ca1, rc1, ec1, cc1, hC⟩ := hci
  have hx0 : et_ex K K := et_ex.rf
  have hf : et_fr [(10, 5, 5)] K G G := et_fr.rf
  have hs0 := hC.2.1.1
  have hrc := hC.2.2.2.1.2.2.1.1
  have hec := hC.2.2.2.1.2.2.1.2.1
  have hcc := hC.2.2.2.1.2.2.1.2.2
  have hra := hC.2.2.2.1.2.1.1
  have hca := hC.2.2.2.1.2.1.2
  have k_th := hC.1
  have k_s0 := hC.2.2.2.1.1.1
  have k_ra0 := hC.2.2.2.1.1.2.1
  have k_ca0 := hC.2.2.2.1.1.2.2
  obtain rfl : s0 = z := Value.ref.inj (Option.some.inj (hs0.symm.trans hz))
  obtain ⟨hr4, hec3, hc6⟩ := hC.2.2.2.1.2.2.2.1
  obtain rfl : ec0 = e := hb_cc hec hp (by omega) (by omega)
  rw [show eg_mL 139 = 1 from by decide +kernel]
  show et_go none d2 139 0 [some (.ref th)] [] G 0 0 _
  refine hs_aload (i := 0) (p := 1) (by decide +kernel) rfl ?_
  refine ht_getr (T := et_TT) (t := 12) (ci := 10) (f := 0) (p := 4) (by decide +kernel) rfl rfl hH k_th (fun a1 k_a1 e1 => ?_)
  obtain rfl : s0 = a1 := Value.ref.inj (Option.some.inj (hs0.symm.trans e1))
  refine ht_getn (T := et_TT) (t := 10) (ci := 8) (f := 5) (p := 7) (by decide +kernel) rfl rfl hH k_s0 (fun c4 h4 e4 => ?_)
  obtain rfl : ec0 = c4 := hb_cc hec e4 (by omega) (by omega)
  refine hs_k (x := Int32.ofNat 3) (p := 8) (by decide +kernel) ?_
  refine hs_br2n (c := .lt) (t := 19) (f := 11) (by decide +kernel) (by omega) (by omega) (fun (c8 : ec0 < 3) => ?_) (fun (c8 : ¬ (ec0 < 3)) => ?_)
  · refine hs_aload (i := 0) (p := 20) (by decide +kernel) rfl ?_
    refine ht_getr (T := et_TT) (t := 12) (ci := 10) (f := 0) (p := 23) (by decide +kernel) rfl rfl hH k_th (fun a20 k_a20 e20 => ?_)
    obtain rfl : s0 = a20 := Value.ref.inj (Option.some.inj (hs0.symm.trans e20))
    refine hs_dup1 (p := 24) (by decide +kernel) ?_
    refine ht_getn (T := et_TT) (t := 10) (ci := 8) (f := 5) (p := 27) (by decide +kernel) rfl rfl hH k_s0 (fun c24 h24 e24 => ?_)
    obtain rfl : ec0 = c24 := hb_cc hec e24 (by omega) (by omega)
    refine hs_k (x := Int32.ofNat 1) (p := 28) (by decide +kernel) ?_
    refine hs_iaddn (p := 29) (by decide +kernel) ?_
    refine ht_puta (T := et_TT) (t := 10) (ci := 8) (f := 5) (p := 32) (ty := .int) (by decide +kernel) rfl rfl rfl rfl (by decide +kernel) hH k_s0 (hi_nv (by omega) (by omega)) (fun G29 hH f29 e29 he => ?_)
    have hC := hC.ey f29 e29 he (by omega)
    have hs0 := (f29.2 th 12 k_th 0 rfl).trans hs0
    have hrc := (f29.2 s0 10 k_s0 0 rfl).trans hrc
    have hcc := (f29.2 s0 10 k_s0 9 rfl).trans hcc
    have hra := (f29.2 s0 10 k_s0 1 rfl).trans hra
    have hca := (f29.2 s0 10 k_s0 10 rfl).trans hca
    have hf := hf.tr hx0 (f29.wk (by decide +kernel))
    refine hs_aload (i := 0) (p := 33) (by decide +kernel) rfl ?_
    refine ht_getr (T := et_TT) (t := 12) (ci := 10) (f := 0) (p := 36) (by decide +kernel) rfl rfl hH k_th (fun a33 k_a33 e33 => ?_)
    obtain rfl : s0 = a33 := Value.ref.inj (Option.some.inj (hs0.symm.trans e33))
    refine ht_getn (T := et_TT) (t := 10) (ci := 8) (f := 5) (p := 39) (by decide +kernel) rfl rfl hH k_s0 (fun c36 h36 e36 => ?_)
    obtain rfl : ec0 + 1 = c36 := hb_cc e29 e36 (by omega) (by omega)
    refine hs_k (x := Int32.ofNat 1) (p := 40) (by decide +kernel) ?_
    refine hs_isub (p := 41) (by decide +kernel) ?_
    refine hs_iret (by decide +kernel) ?_
    exact ⟨⟨_, hx0, hf, hH, hC.i, trivial, .inl ⟨_, rfl⟩, (by dsimp only; omega), (by dsimp only; omega)⟩, .inl ⟨by omega, by rw [pe_1], e29⟩⟩
  · refine hs_thr (x := 2) (lk := 1) (by decide +kernel) rfl rfl ?_
    exact ⟨⟨_, hx0, hf, hH, hC.i, trivial, .inr ⟨_, List.mem_cons_self, rfl⟩, (by dsimp only; omega), (by dsimp only; omega)⟩, .inr ⟨by omega, rfl, hec⟩⟩
end PEE
