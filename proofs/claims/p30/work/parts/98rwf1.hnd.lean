/-! odds in the law's words -/
section YQA
variable {K : et_K} {G : eg_G} {d d2 th s0 s1 ya yb ec nc la ly out e ca ki kn am aw n m k c q a b : Nat} {O : Nat → Nat} {A : Nat → Nat → Nat} {v : evT} {V : Nat → evT} {X : Nat → Int32} {Y : Nat → Nat} {x y z : Int32} {ra rc fo r : Nat} {D : Nat → Prop} {φ : Nat → sp_E → Bool} {R0 : Nat → Nat} {g : Nat → sp_E → Bool}
theorem fz_od (hH : et_H et_TT K G) (k_th0 : K th = some 12) (h00 : et_pl (eg_at G th) 0 = some (.ref s0)) (k_s00 : K s0 = some 10) (k_s1 : K s1 = some 10) (h5 : et_pl (eg_at G s0) 5 = some (.int (Int32.ofNat ec))) (hec : ec ≤ 3) (t : ezK K ya yb O A) (hz : ez G th s0 s1 ya yb O A V) (ho : ∀ n, n < 6 → evo (V n)) (k_out : K out = some 31) (tR : rxK K D φ th s0 ra fo) (hx9 : rx D φ th s0 ra rc fo G) (hR : ∀ k, k < rc → D (R0 k) ∧ et_pl (eg_at G ra) k = some (.ref (R0 k))) (hd : 35 ≤ d2) : et_go none d2 19 0 (eg_en (eg_mL 19) [.ref th, .int x, .int y, .int z, .ref out]) [] G 0 0 (fun u => (¬ (xr x ec ∧ xr y rc) ∧ u.1 = .inl (some (.int (Int32.ofNat 1)))) ∨ ((xr x ec ∧ xr y rc) ∧ ¬ (-1 ≤ z.toInt ∧ z.toInt ≤ 16) ∧ u.1 = .inl (some (.int (Int32.ofNat 2)))) ∨ ∃ n r, (x = Int32.ofNat n ∧ y = Int32.ofNat r) ∧ (n < ec ∧ r < rc) ∧ (-1 ≤ z.toInt ∧ z.toInt ≤ 16) ∧ u.1 = .inl (some (.int (Int32.ofNat 0))) ∧ et_pl (eg_at u.2.1 out) 0 = some (.long (Int32.ofNat (odN (φ (R0 r)) (V n) z 65536)).toInt64)) := by
  obtain ⟨hrk, ⟨h0, h4⟩, ⟨r0, r1, hrc⟩, hq⟩ := hx9
  obtain ⟨tD, k_th, k_s0, k_ra, k_fo⟩ := tR
  have hRn : ∀ n, n < rc → ∃ q, et_pl (eg_at G ra) n = some (.ref q) := fun n hn => (hq n hn).elim (fun q hq2 => ⟨q, hq2.2⟩)
  by_cases hx : xr x ec
  · obtain ⟨n, rfl, hn⟩ := xr_nat hx (by omega)
    have hE := (hz.2.1 n (by omega)).1
    by_cases hy : xr y rc
    · obtain ⟨r, rfl, hr⟩ := xr_nat hy (by omega)
      obtain ⟨hDn, hRr⟩ := hR r hr
      obtain ⟨bb, lo, hi, q0, hdn, hTb⟩ := hrk _ hDn
      obtain ⟨k_q, hcl⟩ := tD _ hDn
      by_cases hl : (-1 ≤ z.toInt ∧ z.toInt ≤ 16)
      · exact (fh_od hH k_th h0 k_s0 h5 hec hz.1.1 t.1.1 hn hE (t.ev (ho n (by omega)) (by omega)) (hz.2.2.1 n (by omega)) r0 hrc r1 k_ra hr hRr k_q q0 (cond_ty hH k_q q0) hdn hTb hcl h4 k_fo k_out hl hd).mono (fun u hu => .inr (.inr ⟨n, r, ⟨rfl, rfl⟩, ⟨hn, hr⟩, hl, hu.1, hu.2⟩))
      · exact (fh_odZ hH k_th h0 k_s0 h5 hec hz.1.1 t.1.1 hn hE r0 hrc r1 k_ra hr hRr hl (by omega)).mono (fun u hu => .inr (.inl ⟨⟨hx, hy⟩, hl, hu.1⟩))
    · exact (fh_odR hH k_th h0 k_s0 h5 hec hz.1.1 t.1.1 hn hE r0 hrc r1 k_ra hRn hy (by omega)).mono (fun u hu => .inl ⟨fun h => hy h.2, hu.1⟩)
  · exact (fh_odE hH k_th h0 k_s0 h5 hec hz.1.1 t.1.1 hx (by omega)).mono (fun u hu => .inl ⟨fun h => hx h.1, hu.1⟩)
theorem gz_od (hH : et_H et_TT K G) (k_am : K am = some 13) (k_aw : K aw = some 46) (m1 : et_pl (eg_at G am) 1 = some (.ref aw)) (w0 : et_pl (eg_at G aw) 0 = some (.int (Int32.ofNat rc))) (hrc : rc ≤ 4) (w4 : et_pl (eg_at G aw) 4 = some (.int (Int32.ofNat ec))) (hec : ec ≤ 3) (hm : zyM G aw ec V) (ho : ∀ n, n < 3 → evo (V n)) (hT : ∀ r, r < rc → txP G aw (126 + 841 * r) 0 (g r) ∧ fcl (g r)) (hky : kyA G am aw rc) (hd : 8 ≤ d2) : et_go none d2 270 0 (eg_en (eg_mL 270) [.ref am, .int x, .int y, .int z]) [] G 0 0 (fun u => (¬ (xr x ec ∧ xr y rc) ∧ u.1 = .inl (some (.int (Int32.ofNat 0))) ∧ et_pl (eg_at u.2.1 am) 0 = some (.int (Int32.ofNat 1)) ∧ kyA u.2.1 am aw rc) ∨ ((xr x ec ∧ xr y rc) ∧ ¬ (-1 ≤ z.toInt ∧ z.toInt ≤ 16) ∧ u.1 = .inl (some (.int (Int32.ofNat 0))) ∧ et_pl (eg_at u.2.1 am) 0 = some (.int (Int32.ofNat 2)) ∧ kyA u.2.1 am aw rc) ∨ ∃ n r, (x = Int32.ofNat n ∧ y = Int32.ofNat r) ∧ (n < ec ∧ r < rc) ∧ (-1 ≤ z.toInt ∧ z.toInt ≤ 16) ∧ u.1 = .inl (some (.int (Int32.ofNat (odN (g r) (V n) z 65536)))) ∧ et_pl (eg_at u.2.1 am) 0 = some (.int (Int32.ofNat 0)) ∧ kyA u.2.1 am aw rc) := by
  by_cases hx : xr x ec
  · obtain ⟨n, rfl, hn⟩ := xr_nat hx (by omega)
    by_cases hy : xr y rc
    · obtain ⟨r, rfl, hr⟩ := xr_nat hy (by omega)
      by_cases hl : (-1 ≤ z.toInt ∧ z.toInt ≤ 16)
      · exact (fn_od hH k_am k_aw m1 w0 hrc w4 hec hm ho hT hky hn hr hl (by omega)).mono (fun u hu => .inr (.inr ⟨n, r, ⟨rfl, rfl⟩, ⟨hn, hr⟩, hl, hu.1, hu.2.1, hu.2.2.1⟩))
      · exact (fn_odZ hH k_am k_aw m1 w0 hrc w4 hec hm ho hT hky hn hr hl (by omega)).mono (fun u hu => .inr (.inl ⟨⟨hx, hy⟩, hl, hu.1, hu.2.1, hu.2.2.1⟩))
    · exact (fn_odR hH k_am k_aw m1 w0 hrc w4 hec hm ho hT hky hn hy (by omega)).mono (fun u hu => .inl ⟨fun h => hy h.2, hu.1, hu.2.1, hu.2.2.1⟩)
  · exact (fn_odE hH k_am k_aw m1 w0 hrc w4 hec hm ho hT hky hx (by omega)).mono (fun u hu => .inl ⟨fun h => hx h.1, hu.1, hu.2.1, hu.2.2.1⟩)
end YQA
