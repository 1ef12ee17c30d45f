/-! FUNCTIONAL: helpers; what the law needs -/
theorem yw.le {K : et_K} {G : eg_G} {th s0 s1 aw ai e e' ei : Nat} (h : yw K G th s0 s1 aw ai e ei) (he : e ≤ e') : yw K G th s0 s1 aw ai e' ei := by
  obtain ⟨sp, ya, yb, E, F, cw, iw, h1, h2, h3, h4, h5, h6, h7⟩ := h
  exact ⟨sp, ya, yb, E, F, cw, iw, h1, h2, h3, h4, h5, fun k hk hk2 => h6 k hk (Nat.le_trans he hk2), h7⟩
theorem vz.bk {G G' : eg_G} {aw ai h : Nat} {c i : Nat → Nat} (h4 : vz G aw c) (h5 : vz G ai i) (hQ : ∀ k, k < 11900 → et_pl (eg_at G' aw) k = (if h = 0 then et_pl (eg_at G aw) k else et_pl (eg_at G ai) k) ∧ et_pl (eg_at G' ai) k = et_pl (eg_at G ai) k) : vz G' aw (fun k => if h = 0 then c k else i k) ∧ vz G' ai i := by
  refine ⟨fun k hk => ?_, fun k hk => (hQ _ (by omega)).2.trans (h5 k hk)⟩
  refine (hQ _ (by omega)).1.trans ?_
  dsimp only
  by_cases h0 : h = 0
  · rw [if_pos h0, h4 k hk, if_pos h0]
  · rw [if_neg h0, h5 k hk, if_neg h0]
theorem yw.mkb {K : et_K} {G : eg_G} {th s0 s1 aw ai e ei h sp ya yb : Nat} {E F cw iw : Nat → Nat} (y1 : eyt K sp ya yb E F) (y2 : eyp G th s0 s1 sp ya yb E F) (y3 : ev G E F (fun k => if h = 0 then cw k else iw k) iw) (y4 : vz G aw (fun k => if h = 0 then cw k else iw k) ∧ vz G ai iw) (y6 : ∀ k, cw k ≤ 400) (y7 : ∀ k, iw k ≤ 400) (y8 : ∀ k, k < 3 → e ≤ k → cw (45 + 23 * k) = 0) (y9 : ∀ k, k < 3 → ei ≤ k → iw (45 + 23 * k) = 0) : yw K G th s0 s1 aw ai (if h = 0 then e else ei) ei := by
  refine ⟨sp, ya, yb, E, F, fun k => if h = 0 then cw k else iw k, iw, y1, y2, y3, y4, ⟨fun k => ?_, y7⟩, fun k hk hk2 => ?_, y9⟩
  · dsimp only
    by_cases h0 : h = 0
    · rw [if_pos h0]; exact y6 k
    · rw [if_neg h0]; exact y7 k
  · dsimp only
    by_cases h0 : h = 0
    · rw [if_pos h0] at hk2 ⊢; exact y8 k hk hk2
    · rw [if_neg h0] at hk2 ⊢; exact y9 k hk hk2
section UGA
variable {K : et_K} {G : eg_G} {d d2 th out sp am aw e n m : Nat} {x y z : Int32} {c : Nat → Nat}
def wqC (out e : Nat) (x y z : Int32) (E F c i : Nat → Nat) (u : eg_O) : Prop := (¬ xr x e ∧ u.1 = .inl (some (.int (Int32.ofNat 1))) ∧ ev u.2.1 E F c i) ∨ ∃ n, x = Int32.ofNat n ∧ n < e ∧ c (45 + 23 * n) ≤ 6 ∧ ((¬ (0 < y.toInt ∧ y.toInt < 65536 ∧ 0 ≤ z.toInt ∧ z.toInt ≤ 2) ∧ u.1 = .inl (some (.int (Int32.ofNat 2))) ∧ ev u.2.1 E F c i) ∨ ((0 < y.toInt ∧ y.toInt < 65536 ∧ 0 ≤ z.toInt ∧ z.toInt ≤ 2) ∧ c (45 + 23 * n) = 6 ∧ u.1 = .inl (some (.int (Int32.ofNat 3))) ∧ ev u.2.1 E F c i) ∨ ((0 < y.toInt ∧ y.toInt < 65536 ∧ 0 ≤ z.toInt ∧ z.toInt ≤ 2) ∧ c (45 + 23 * n) < 6 ∧ u.1 = .inl (some (.int (Int32.ofNat 0))) ∧ et_pl (eg_at u.2.1 out) 0 = some (.long (Int32.ofNat (c (45 + 23 * n))).toInt64) ∧ ev u.2.1 E F (rc_up c (45 + 23 * n) (c (45 + 23 * n) + 1)) i))
def wqM (am aw n : Nat) (y z : Int32) (c : Nat → Nat) (u : eg_O) : Prop := ((¬ (0 < y.toInt ∧ y.toInt < 65536 ∧ 0 ≤ z.toInt ∧ z.toInt ≤ 2) ∧ u.1 = .inl (some (.int (Int32.ofNat 0))) ∧ et_pl (eg_at u.2.1 am) 0 = some (.int (Int32.ofNat 2)) ∧ vz u.2.1 aw c) ∨ ((0 < y.toInt ∧ y.toInt < 65536 ∧ 0 ≤ z.toInt ∧ z.toInt ≤ 2) ∧ c (45 + 23 * n) = 6 ∧ u.1 = .inl (some (.int (Int32.ofNat 0))) ∧ et_pl (eg_at u.2.1 am) 0 = some (.int (Int32.ofNat 3)) ∧ vz u.2.1 aw c) ∨ ((0 < y.toInt ∧ y.toInt < 65536 ∧ 0 ≤ z.toInt ∧ z.toInt ≤ 2) ∧ c (45 + 23 * n) < 6 ∧ u.1 = .inl (some (.int (Int32.ofNat (c (45 + 23 * n))))) ∧ et_pl (eg_at u.2.1 am) 0 = some (.int (Int32.ofNat 0)) ∧ vz u.2.1 aw (rc_up c (45 + 23 * n) (c (45 + 23 * n) + 1))))
theorem fm_wireX (hH : et_H et_TT K G) (k_am : K am = some 13) (k_aw : K aw = some 46) (m1 : et_pl (eg_at G am) 1 = some (.ref aw)) (w4 : et_pl (eg_at G aw) 4 = some (.int (Int32.ofNat e))) (he : e ≤ 3) (hz : vz G aw c) (hx : x = Int32.ofNat n) (hn : n < e) (hm6 : c (45 + 23 * n) ≤ 6) (hd : 3 ≤ d2) : et_go none d2 223 0 (eg_en (eg_mL 223) [.ref am, .int x, .int y, .int z]) [] G 0 0 (fun u => ((¬ (0 < y.toInt ∧ y.toInt < 65536 ∧ 0 ≤ z.toInt ∧ z.toInt ≤ 2) ∧ u.1 = .inl (some (.int (Int32.ofNat 0))) ∧ et_pl (eg_at u.2.1 am) 0 = some (.int (Int32.ofNat 2)) ∧ vz u.2.1 aw c) ∨ ((0 < y.toInt ∧ y.toInt < 65536 ∧ 0 ≤ z.toInt ∧ z.toInt ≤ 2) ∧ c (45 + 23 * n) = 6 ∧ u.1 = .inl (some (.int (Int32.ofNat 0))) ∧ et_pl (eg_at u.2.1 am) 0 = some (.int (Int32.ofNat 3)) ∧ vz u.2.1 aw c) ∨ ((0 < y.toInt ∧ y.toInt < 65536 ∧ 0 ≤ z.toInt ∧ z.toInt ≤ 2) ∧ c (45 + 23 * n) < 6 ∧ u.1 = .inl (some (.int (Int32.ofNat (c (45 + 23 * n))))) ∧ et_pl (eg_at u.2.1 am) 0 = some (.int (Int32.ofNat 0)) ∧ vz u.2.1 aw (rc_up c (45 + 23 * n) (c (45 + 23 * n) + 1))))) := by
  subst hx
  exact fm_wire hH k_am k_aw m1 w4 he hz hn rfl hm6 hd
theorem fh_25 (hH : et_H et_TT K G) (k_th : K th = some 12) (k_out : K out = some 31) (h8 : et_pl (eg_at G th) 8 = some (.ref sp)) (k_sp : K sp = some 3) (hd : 6 ≤ d2) : et_go none d2 25 0 (eg_en (eg_mL 25) [.ref th, .int x, .int y, .int z, .ref out]) [] G 0 0 (fun u => hole K sp G u.2.1) := by
  obtain ⟨d, rfl⟩ : ∃ d, d2 = d + 6 := ⟨d2 - 6, by omega⟩
  rw [show eg_mL 25 = 6 from by decide +kernel]
  show et_go none (d + 6) 25 0 [some (.ref th), some (.int x), some (.int y), some (.int z), some (.ref out), none] [] G 0 0 _
  refine hs_aload (i := 4) (p := 2) (by decide +kernel) rfl ?_
  refine hs_k (x := Int32.ofNat 0) (p := 3) (by decide +kernel) ?_
  refine hs_aload (i := 0) (p := 4) (by decide +kernel) rfl ?_
  refine hs_iload (i := 1) (p := 5) (by decide +kernel) rfl ?_
  refine hs_iload (i := 2) (p := 6) (by decide +kernel) rfl ?_
  refine hs_iload (i := 3) (p := 7) (by decide +kernel) rfl ?_
  refine ht_callv (T := et_TT) (t := 12) (mi := 166) (na := 3) (ci := 10) (lk := 6) (lm := 7) (L0 := eg_en (eg_mL 166) [.ref th, .int x, .int y, .int z]) (by decide +kernel) rfl hH k_th rfl rfl rfl rfl rfl (by rw [show eg_mL 166 = 7 from by decide +kernel]; first | done | rfl) ?_
  refine ((ek_p166_ok (K, [], G) [.ref th, .int x, .int y, .int z] _ hH (by show 5 ≤ _; omega) rfl (ht_ac (.inr ⟨by decide, _, rfl, k_th⟩) (ht_ac hi_any (ht_ac hi_any (ht_ac hi_any ht_an))))).and (ft_166 (w := (K, [], G)) hH k_th h8 k_sp (by omega))).mono (fun u hu => ?_)
  obtain ⟨⟨es, hes, K1, hx1, hf1, hH1, hv1, -, -⟩, hz⟩ := hu
  obtain ⟨u1, u2, u3, u4⟩ := u
  have hz : hole K sp G u2 := hz
  rcases List.mem_cons.mp hes with rfl | hes
  · obtain ⟨v, hv2, hv3⟩ := hv1
    have hv2 : u1 = .inl (some v) := hv2
    subst hv2
    obtain ⟨n, rfl, -, -⟩ := hi_int hv3
    have hH := hH1
    refine hs_cb ?_
    show et_go none _ 25 10 _ [.int n, .int (Int32.ofNat 0), .ref out] _ _ _ _
    refine hs_i2l (p := 11) (by decide +kernel) ?_
    refine ht_lst (M := [(31, 0, 100000)]) (T := et_TT) (t := 31) (N := 1) (n := 0) (p := 12) (by decide +kernel) rfl (by decide) hH (hx1 _ _ k_out) (by decide) (by decide) (by decide +kernel) (fun G11 hH f11 => ?_)
    have hz := hz.fr hx1 f11 (by decide +kernel)
    refine hs_goto (p := 19) (by decide +kernel) ?_
    refine hs_k (x := Int32.ofNat 0) (p := 20) (by decide +kernel) ?_
    refine hs_iret (by decide +kernel) ?_
    exact hz
  · obtain rfl := List.mem_singleton.mp hes
    have hv1 : u1 = .inr 1 := hv1
    subst hv1
    refine hs_ch (h := 15) (i := 5) (n := 2) (hh := (eg_mh 25).getD []) (by decide +kernel) ⟨by decide +kernel, by decide +kernel⟩ (Nat.le_of_ble_eq_true rfl) ?_
    show et_go none _ 25 17 [some (.ref th), some (.int x), some (.int y), some (.int z), some (.ref out), none] [] _ _ _ _
    refine hs_k (x := Int32.ofNat 1) (p := 18) (by decide +kernel) ?_
    refine hs_iret (by decide +kernel) ?_
    exact hz
theorem fh_26 (hH : et_H et_TT K G) (k_th : K th = some 12) (k_out : K out = some 31) (h8 : et_pl (eg_at G th) 8 = some (.ref sp)) (k_sp : K sp = some 3) (hd : 36 ≤ d2) : et_go none d2 26 0 (eg_en (eg_mL 26) [.ref th, .int x, .int y, .ref out]) [] G 0 0 (fun u => hole K sp G u.2.1) := by
  obtain ⟨d, rfl⟩ : ∃ d, d2 = d + 36 := ⟨d2 - 36, by omega⟩
  rw [show eg_mL 26 = 5 from by decide +kernel]
  show et_go none (d + 36) 26 0 [some (.ref th), some (.int x), some (.int y), some (.ref out), none] [] G 0 0 _
  refine hs_aload (i := 3) (p := 1) (by decide +kernel) rfl ?_
  refine hs_k (x := Int32.ofNat 0) (p := 2) (by decide +kernel) ?_
  refine hs_aload (i := 0) (p := 3) (by decide +kernel) rfl ?_
  refine hs_iload (i := 1) (p := 4) (by decide +kernel) rfl ?_
  refine hs_iload (i := 2) (p := 5) (by decide +kernel) rfl ?_
  refine ht_callv (T := et_TT) (t := 12) (mi := 167) (na := 2) (ci := 10) (lk := 5) (lm := 8) (L0 := eg_en (eg_mL 167) [.ref th, .int x, .int y]) (by decide +kernel) rfl hH k_th rfl rfl rfl rfl rfl (by rw [show eg_mL 167 = 8 from by decide +kernel]; first | done | rfl) ?_
  refine ((ek_p167_ok (K, [], G) [.ref th, .int x, .int y] _ hH (by show 35 ≤ _; omega) rfl (ht_ac (.inr ⟨by decide, _, rfl, k_th⟩) (ht_ac hi_any (ht_ac hi_any ht_an)))).and (ft_167 (w := (K, [], G)) hH k_th h8 k_sp (by omega))).mono (fun u hu => ?_)
  obtain ⟨⟨es, hes, K1, hx1, hf1, hH1, hv1, -, -⟩, hz⟩ := hu
  obtain ⟨u1, u2, u3, u4⟩ := u
  have hz : hole K sp G u2 := hz
  rcases List.mem_cons.mp hes with rfl | hes
  · obtain ⟨v, hv2, hv3⟩ := hv1
    have hv2 : u1 = .inl (some v) := hv2
    subst hv2
    obtain ⟨n, rfl, -, -⟩ := hi_int hv3
    have hH := hH1
    refine hs_cb ?_
    show et_go none _ 26 8 _ [.int n, .int (Int32.ofNat 0), .ref out] _ _ _ _
    refine hs_i2l (p := 9) (by decide +kernel) ?_
    refine ht_lst (M := [(31, 0, 100000)]) (T := et_TT) (t := 31) (N := 1) (n := 0) (p := 10) (by decide +kernel) rfl (by decide) hH (hx1 _ _ k_out) (by decide) (by decide) (by decide +kernel) (fun G9 hH f9 => ?_)
    have hz := hz.fr hx1 f9 (by decide +kernel)
    refine hs_goto (p := 17) (by decide +kernel) ?_
    refine hs_k (x := Int32.ofNat 0) (p := 18) (by decide +kernel) ?_
    refine hs_iret (by decide +kernel) ?_
    exact hz
  · obtain rfl := List.mem_singleton.mp hes
    have hv1 : u1 = .inr 1 := hv1
    subst hv1
    refine hs_ch (h := 13) (i := 4) (n := 2) (hh := (eg_mh 26).getD []) (by decide +kernel) ⟨by decide +kernel, by decide +kernel⟩ (Nat.le_of_ble_eq_true rfl) ?_
    show et_go none _ 26 15 [some (.ref th), some (.int x), some (.int y), some (.ref out), none] [] _ _ _ _
    refine hs_k (x := Int32.ofNat 1) (p := 16) (by decide +kernel) ?_
    refine hs_iret (by decide +kernel) ?_
    exact hz
end UGA
