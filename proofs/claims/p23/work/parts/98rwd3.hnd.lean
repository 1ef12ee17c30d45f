section
/-! PHASE D: swapped, soonest with any arguments -/
theorem ezK.p6 {K : et_K} {ya yb : Nat} {O : Nat → Nat} {A : Nat → Nat → Nat} (t : ezK K ya yb O A) : ¬ A 6 0 = A 6 1 ∧ ¬ A 6 0 = A 6 2 ∧ ¬ A 6 1 = A 6 2 := ⟨fun e => absurd (t.2.2.2 6 0 6 1 (by decide) (by decide) (by decide) (by decide) e).2 (by decide), fun e => absurd (t.2.2.2 6 0 6 2 (by decide) (by decide) (by decide) (by decide) e).2 (by decide), fun e => absurd (t.2.2.2 6 1 6 2 (by decide) (by decide) (by decide) (by decide) e).2 (by decide)⟩
theorem ezK.pq {K : et_K} {ya yb n : Nat} {O : Nat → Nat} {A : Nat → Nat → Nat} (t : ezK K ya yb O A) (hn : n < 6) : ∀ p c, p ∈ [A 6 0, A 6 1, A 6 2] → c ∈ [A n 0, A n 1, A n 2] → ¬ p = c := fun p c hp hc e => by
  have h : ∀ i j, i < 3 → j < 3 → ¬ A 6 i = A n j := fun i j hi hj e => absurd (t.2.2.2 6 i n j (by decide) hi (by omega) hj e).1 (by omega)
  simp only [List.mem_cons, List.not_mem_nil, or_false] at hp hc
  rcases hp with rfl | rfl | rfl <;> rcases hc with rfl | rfl | rfl <;> exact h _ _ (by decide) (by decide) e
theorem ezK.on {K : et_K} {ya yb n : Nat} {O : Nat → Nat} {A : Nat → Nat → Nat} (t : ezK K ya yb O A) (hn : n < 6) : ¬ O 6 = O n := fun e => absurd (t.2.2.1 6 n (by decide) (by omega) e) (by omega)
section VYA
variable {w : et_Wd} {K : et_K} {G : eg_G} {d d2 th s0 s1 ya yb ec tc ta out : Nat} {O : Nat → Nat} {A : Nat → Nat → Nat} {V : Nat → evT} {TT_ : Nat → Nat} {LL_ : Nat → List sp_L} {x y z : Int32}
theorem ft_166Z (hH : et_H et_TT w.1 w.2.2) (k_th : w.1 th = some 12) (h0 : et_pl (eg_at w.2.2 th) 0 = some (.ref s0)) (k_s0 : w.1 s0 = some 10) (h5 : et_pl (eg_at w.2.2 s0) 5 = some (.int (Int32.ofNat ec))) (hec : ec ≤ 3) (t : ezK w.1 ya yb O A) (hz9 : ez w.2.2 th s0 s1 ya yb O A V) (ho : ∀ n, n < 6 → evo (V n)) (hd : 5 ≤ d2) : et_go none d2 166 0 (eg_en (eg_mL 166) [.ref th, .int x, .int y, .int z]) [] w.2.2 0 0 (fun u => hol w.1 (O 6) (A 6 0) (A 6 1) (A 6 2) w.2.2 u.2.1) := by
  by_cases hx : xr x ec
  · obtain ⟨n, rfl, hn⟩ := xr_nat hx (by omega)
    have hE := (hz9.2.1 n (by omega)).1
    by_cases hy : xr y (V n).1
    · have hw6 := (ho n (by omega)).1.1
      obtain ⟨m, rfl, hm⟩ := xr_nat hy (by omega)
      by_cases hz : xr z (V n).1
      · obtain ⟨k, rfl, hk⟩ := xr_nat hz (by omega)
        exact ft_166a hH k_th hz9.1.2.2 h0 k_s0 h5 hec hz9.1.1 t.1.1 hn hE (t.2.1 6 (by decide)).1 ((t.2.1 6 (by decide)).2 0 (by decide)) ((t.2.1 6 (by decide)).2 1 (by decide)) ((t.2.1 6 (by decide)).2 2 (by decide)) (t.on (n := n) (by omega)) t.p6 (t.pq (n := n) (by omega)) (t.ev (n := n) (ho n (by omega)) (by omega)) (hz9.2.2.1 n (by omega)) hz9.2.2.2.1 hz9.2.2.2.2.1 hz9.2.2.2.2.2 hm hk hd
      · exact ft_166b hH k_th hz9.1.2.2 h0 k_s0 h5 hec hz9.1.1 t.1.1 hn hE (t.ev (n := n) (ho n (by omega)) (by omega)) (hz9.2.2.1 n (by omega)) hm hz hd
    · exact ft_166c hH k_th hz9.1.2.2 h0 k_s0 h5 hec hz9.1.1 t.1.1 hn hE (t.ev (n := n) (ho n (by omega)) (by omega)) (hz9.2.2.1 n (by omega)) hy hd
  · exact ft_166d hH k_th hz9.1.2.2 h0 k_s0 h5 hec hz9.1.1 t.1.1 hx hd
theorem ft_167Z (hH : et_H et_TT w.1 w.2.2) (k_th : w.1 th = some 12) (h0 : et_pl (eg_at w.2.2 th) 0 = some (.ref s0)) (k_s0 : w.1 s0 = some 10) (h5 : et_pl (eg_at w.2.2 s0) 5 = some (.int (Int32.ofNat ec))) (hec : ec ≤ 3) (t : ezK w.1 ya yb O A) (hz9 : ez w.2.2 th s0 s1 ya yb O A V) (ho : ∀ n, n < 6 → evo (V n)) (g7 : et_pl (eg_at w.2.2 s0) 7 = some (.int (Int32.ofNat tc))) (htc : tc ≤ 4) (g8 : et_pl (eg_at w.2.2 s0) 8 = some (.ref ta)) (k_ta : w.1 ta = some 38) (hT : tyE w.1 w.2.2 ta tc TT_ LL_) (hd : 35 ≤ d2) : et_go none d2 167 0 (eg_en (eg_mL 167) [.ref th, .int x, .int y]) [] w.2.2 0 0 (fun u => hol w.1 (O 6) (A 6 0) (A 6 1) (A 6 2) w.2.2 u.2.1) := by
  by_cases hx : xr x ec
  · obtain ⟨n, rfl, hn⟩ := xr_nat hx (by omega)
    have hE := (hz9.2.1 n (by omega)).1
    by_cases hy : xr y tc
    · obtain ⟨k, rfl, hk⟩ := xr_nat hy (by omega)
      obtain ⟨⟨hT1, ht⟩, hcl⟩ := hT k hk
      exact ft_167a hH k_th hz9.1.2.2 h0 k_s0 h5 hec hz9.1.1 t.1.1 hn hE g7 htc g8 k_ta hk hT1 (t.2.1 6 (by decide)).1 ((t.2.1 6 (by decide)).2 0 (by decide)) ((t.2.1 6 (by decide)).2 1 (by decide)) ((t.2.1 6 (by decide)).2 2 (by decide)) (t.on (n := n) (by omega)) t.p6 (t.pq (n := n) (by omega)) (t.ev (n := n) (ho n (by omega)) (by omega)) (hz9.2.2.1 n (by omega)) hz9.2.2.2.1 hz9.2.2.2.2.1 hz9.2.2.2.2.2 ht hcl hd
    · exact ft_167b hH k_th hz9.1.2.2 h0 k_s0 h5 hec hz9.1.1 t.1.1 hn hE g7 htc g8 k_ta hy hd
  · exact ft_167c hH k_th hz9.1.2.2 h0 k_s0 h5 hec hz9.1.1 t.1.1 hx hd
theorem fh_25Z (hH : et_H et_TT K G) (k_th : K th = some 12) (k_out : K out = some 31) (h0 : et_pl (eg_at G th) 0 = some (.ref s0)) (k_s0 : K s0 = some 10) (h5 : et_pl (eg_at G s0) 5 = some (.int (Int32.ofNat ec))) (hec : ec ≤ 3) (t : ezK K ya yb O A) (hz9 : ez G th s0 s1 ya yb O A V) (ho : ∀ n, n < 6 → evo (V n))  (hd : 6 ≤ d2) : et_go none d2 25 0 (eg_en (eg_mL 25) [.ref th, .int x, .int y, .int z, .ref out]) [] G 0 0 (fun u => hol K (O 6) (A 6 0) (A 6 1) (A 6 2) G u.2.1) := by
  obtain ⟨d, rfl⟩ : ∃ d, d2 = d + 6 := ⟨d2 - 6, by omega⟩
  rw [show eg_mL 25 = 6 from by decide +kernel]
  show et_go none (d + 6) 25 0 [some (.ref th), some (.int x), some (.int y), some (.int z), some (.ref out), none] [] G 0 0 _
  refine hs_aload (i := 4) (p := 2) (by decide +kernel) rfl ?_
  refine hs_k (x := Int32.ofNat 0) (p := 3) (by decide +kernel) ?_
  refine hs_aload (i := 0) (p := 4) (by decide +kernel) rfl ?_
  refine hs_iload (i := 1) (p := 5) (by decide +kernel) rfl ?_
  refine hs_iload (i := 2) (p := 6) (by decide +kernel) rfl ?_
  refine hs_iload (i := 3) (p := 7) (by decide +kernel) rfl ?_
  refine ht_callv (T := et_TT) (t := 12) (mi := 166) (na := 3) (ci := 10) (lk := 6) (lm := 7) (L0 := eg_en (eg_mL 166) [.ref th, .int x, .int y, .int z]) (by decide +kernel) rfl hH k_th rfl rfl rfl rfl rfl (by rw [show eg_mL 166 = 7 from by decide +kernel]; first | done | rfl) ?_
  refine ((ek_p166_ok (K, [], G) [.ref th, .int x, .int y, .int z] _ hH (by show 5 ≤ _; omega) rfl (ht_ac (.inr ⟨by decide, _, rfl, k_th⟩) (ht_ac hi_any (ht_ac hi_any (ht_ac hi_any ht_an))))).and (ft_166Z (w := (K, [], G)) hH k_th h0 k_s0 h5 hec t hz9 ho (by omega))).mono (fun u hu => ?_)
  obtain ⟨⟨es, hes, K1, hx1, hf1, hH1, hv1, -, -⟩, hz⟩ := hu
  obtain ⟨u1, u2, u3, u4⟩ := u
  have hz : hol K (O 6) (A 6 0) (A 6 1) (A 6 2) G u2 := hz
  rcases List.mem_cons.mp hes with rfl | hes
  · obtain ⟨v, hv2, hv3⟩ := hv1
    have hv2 : u1 = .inl (some v) := hv2
    subst hv2
    obtain ⟨n, rfl, -, -⟩ := hi_int hv3
    have hH := hH1
    refine hs_cb ?_
    show et_go none _ 25 10 _ [.int n, .int (Int32.ofNat 0), .ref out] _ _ _ _
    refine hs_i2l (p := 11) (by decide +kernel) ?_
    refine ht_lst (M := [(31, 0, 100000)]) (T := et_TT) (t := 31) (N := 1) (n := 0) (p := 12) (by decide +kernel) rfl (by decide) hH (hx1 _ _ k_out) (by decide) (by decide) (by decide +kernel) (fun G11 hH f11 => ?_)
    have hz := hz.fr hx1 f11 (by decide +kernel) (by decide +kernel)
    refine hs_goto (p := 19) (by decide +kernel) ?_
    refine hs_k (x := Int32.ofNat 0) (p := 20) (by decide +kernel) ?_
    refine hs_iret (by decide +kernel) ?_
    exact hz
  · obtain rfl := List.mem_singleton.mp hes
    have hv1 : u1 = .inr 1 := hv1
    subst hv1
    refine hs_ch (h := 15) (i := 5) (n := 2) (hh := (eg_mh 25).getD []) (by decide +kernel) ⟨by decide +kernel, by decide +kernel⟩ (Nat.le_of_ble_eq_true rfl) ?_
    show et_go none _ 25 17 [some (.ref th), some (.int x), some (.int y), some (.int z), some (.ref out), none] [] _ _ _ _
    refine hs_k (x := Int32.ofNat 1) (p := 18) (by decide +kernel) ?_
    refine hs_iret (by decide +kernel) ?_
    exact hz
theorem fh_26Z (hH : et_H et_TT K G) (k_th : K th = some 12) (k_out : K out = some 31) (h0 : et_pl (eg_at G th) 0 = some (.ref s0)) (k_s0 : K s0 = some 10) (h5 : et_pl (eg_at G s0) 5 = some (.int (Int32.ofNat ec))) (hec : ec ≤ 3) (t : ezK K ya yb O A) (hz9 : ez G th s0 s1 ya yb O A V) (ho : ∀ n, n < 6 → evo (V n)) (g7 : et_pl (eg_at G s0) 7 = some (.int (Int32.ofNat tc))) (htc : tc ≤ 4) (g8 : et_pl (eg_at G s0) 8 = some (.ref ta)) (k_ta : K ta = some 38) (hT : tyE K G ta tc TT_ LL_) (hd : 36 ≤ d2) : et_go none d2 26 0 (eg_en (eg_mL 26) [.ref th, .int x, .int y, .ref out]) [] G 0 0 (fun u => hol K (O 6) (A 6 0) (A 6 1) (A 6 2) G u.2.1) := by
  obtain ⟨d, rfl⟩ : ∃ d, d2 = d + 36 := ⟨d2 - 36, by omega⟩
  rw [show eg_mL 26 = 5 from by decide +kernel]
  show et_go none (d + 36) 26 0 [some (.ref th), some (.int x), some (.int y), some (.ref out), none] [] G 0 0 _
  refine hs_aload (i := 3) (p := 1) (by decide +kernel) rfl ?_
  refine hs_k (x := Int32.ofNat 0) (p := 2) (by decide +kernel) ?_
  refine hs_aload (i := 0) (p := 3) (by decide +kernel) rfl ?_
  refine hs_iload (i := 1) (p := 4) (by decide +kernel) rfl ?_
  refine hs_iload (i := 2) (p := 5) (by decide +kernel) rfl ?_
  refine ht_callv (T := et_TT) (t := 12) (mi := 167) (na := 2) (ci := 10) (lk := 5) (lm := 8) (L0 := eg_en (eg_mL 167) [.ref th, .int x, .int y]) (by decide +kernel) rfl hH k_th rfl rfl rfl rfl rfl (by rw [show eg_mL 167 = 8 from by decide +kernel]; first | done | rfl) ?_
  refine ((ek_p167_ok (K, [], G) [.ref th, .int x, .int y] _ hH (by show 35 ≤ _; omega) rfl (ht_ac (.inr ⟨by decide, _, rfl, k_th⟩) (ht_ac hi_any (ht_ac hi_any ht_an)))).and (ft_167Z (w := (K, [], G)) hH k_th h0 k_s0 h5 hec t hz9 ho g7 htc g8 k_ta hT (by omega))).mono (fun u hu => ?_)
  obtain ⟨⟨es, hes, K1, hx1, hf1, hH1, hv1, -, -⟩, hz⟩ := hu
  obtain ⟨u1, u2, u3, u4⟩ := u
  have hz : hol K (O 6) (A 6 0) (A 6 1) (A 6 2) G u2 := hz
  rcases List.mem_cons.mp hes with rfl | hes
  · obtain ⟨v, hv2, hv3⟩ := hv1
    have hv2 : u1 = .inl (some v) := hv2
    subst hv2
    obtain ⟨n, rfl, -, -⟩ := hi_int hv3
    have hH := hH1
    refine hs_cb ?_
    show et_go none _ 26 8 _ [.int n, .int (Int32.ofNat 0), .ref out] _ _ _ _
    refine hs_i2l (p := 9) (by decide +kernel) ?_
    refine ht_lst (M := [(31, 0, 100000)]) (T := et_TT) (t := 31) (N := 1) (n := 0) (p := 10) (by decide +kernel) rfl (by decide) hH (hx1 _ _ k_out) (by decide) (by decide) (by decide +kernel) (fun G9 hH f9 => ?_)
    have hz := hz.fr hx1 f9 (by decide +kernel) (by decide +kernel)
    refine hs_goto (p := 17) (by decide +kernel) ?_
    refine hs_k (x := Int32.ofNat 0) (p := 18) (by decide +kernel) ?_
    refine hs_iret (by decide +kernel) ?_
    exact hz
  · obtain rfl := List.mem_singleton.mp hes
    have hv1 : u1 = .inr 1 := hv1
    subst hv1
    refine hs_ch (h := 13) (i := 4) (n := 2) (hh := (eg_mh 26).getD []) (by decide +kernel) ⟨by decide +kernel, by decide +kernel⟩ (Nat.le_of_ble_eq_true rfl) ?_
    show et_go none _ 26 15 [some (.ref th), some (.int x), some (.int y), some (.ref out), none] [] _ _ _ _
    refine hs_k (x := Int32.ofNat 1) (p := 16) (by decide +kernel) ?_
    refine hs_iret (by decide +kernel) ?_
    exact hz
end VYA
end
section
/-! PHASE D: the calls on EYES, in the law's words -/
def vN (v : evT) : (Nat → Int32) × Int32 × Int32 := (v.2.2.2.1, v.2.2.2.2.1, v.2.2.2.2.2.1)
def vNs (v : evT) (q : (Nat → Int32) × Int32 × Int32) : evT := (v.1, v.2.1, v.2.2.1, q.1, q.2.1, q.2.2, v.2.2.2.2.2.2.1, v.2.2.2.2.2.2.2)
def shV (v : evT) (x : Int32) (ye : Bool) (ls : List sp_L) : evT := vNs v (nxN v.2.1 v.2.2.1 x v.1 v.2.2.2.2.2.2.1 v.2.2.2.2.2.2.2 ls ye (vN v))
def shB (v : evT) (x : Int32) (ye : Bool) : Bool := shW v.2.1 v.2.2.1 x v.1 ye (vN v)
def tdR (v : evT) (X : Nat → Int32) (B : Nat → Bool) (ls : List sp_L) (nc z : Nat) : ((Nat → Int32) × Int32 × Int32) × Int32 := tdG v.2.1 v.2.2.1 X B v.1 v.2.2.2.2.2.2.1 v.2.2.2.2.2.2.2 ls nc z 1 (vN v)
def tdV (v : evT) (X : Nat → Int32) (B : Nat → Bool) (ls : List sp_L) (nc z : Nat) : evT := vNs v (tdR v X B ls nc z).1
def klV (v : evT) (z : Int32) : evT := vNs v (v.2.2.2.1, z, v.2.2.2.2.2.1)
def kkV (v : evT) (m : Nat) (z : Int32) : evT := vNs v (kup v.2.2.2.1 m z, v.2.2.2.2.1, v.2.2.2.2.2.1)
def skV (v : evT) (y z : Int32) : evT := (v.1, v.2.1, v.2.2.1, v.2.2.2.1, v.2.2.2.2.1, v.2.2.2.2.2.1, y, z)
def wiV (v : evT) (y : Int32) (k : Nat) : evT := (v.1 + 1, kup v.2.1 v.1 y, kdp v.2.2.1 v.1 k, v.2.2.2.1, v.2.2.2.2.1, v.2.2.2.2.2.1, v.2.2.2.2.2.2.1, v.2.2.2.2.2.2.2)
def yB (n : Nat) : Bool := decide (n = 1)
theorem yB_e {n : Nat} (h : n ≤ 1) : (if yB n = true then 1 else 0) = n := by
  rcases (show n = 0 ∨ n = 1 by omega) with rfl | rfl <;> rfl
theorem upU_o {t : Int32} {nw N : Nat → Int32} {w k : Nat} (h : w ≤ k) : upU t nw N w k = N k := if_neg (fun h9 => absurd h9.1 (by omega))
theorem nxN_o {C : Nat → Int32} {Kd : Nat → Nat} {x : Int32} {w k : Nat} {t f : Int32} {ls : List sp_L} {ye : Bool} {v : (Nat → Int32) × Int32 × Int32} (h : w ≤ k) : (nxN C Kd x w t f ls ye v).1 k = v.1 k := by
  unfold nxN
  dsimp only
  by_cases hf : flB (v.2.2 + Int32.ofNat 1) f = true
  · rw [if_pos hf, upU_o h]
    exact upU_o h
  · rw [if_neg hf]
    exact upU_o h
theorem rdS_o {C : Nat → Int32} {Kd : Nat → Nat} {X : Nat → Int32} {B : Nat → Bool} {w k : Nat} {t f : Int32} {ls : List sp_L} (h : w ≤ k) : ∀ (c : Nat) (v : (Nat → Int32) × Int32 × Int32), (rdS C Kd X B w t f ls c v).1 k = v.1 k
  | 0, _ => rfl
  | c + 1, v => (nxN_o h).trans (rdS_o h c v)
theorem tdG_o {C : Nat → Int32} {Kd : Nat → Nat} {X : Nat → Int32} {B : Nat → Bool} {w k nc : Nat} {t f : Int32} {ls : List sp_L} (h : w ≤ k) : ∀ (m r : Nat) (v : (Nat → Int32) × Int32 × Int32), (tdG C Kd X B w t f ls nc m r v).1.1 k = v.1 k
  | 0, _, _ => rfl
  | m + 1, r, v => by
    by_cases hw : rdW C Kd X B w t f ls nc v = true
    · unfold tdG
      rw [if_pos hw, tdG_o h m]
      exact rdS_o h nc v
    · unfold tdG
      rw [if_neg hw]
      exact rdS_o h nc v
theorem shV_o {v : evT} {x : Int32} {ye : Bool} {ls : List sp_L} (h : evo v) : evo (shV v x ye ls) := ⟨h.1, fun m h1 h2 => (nxN_o h1).trans (h.2 m h1 h2)⟩
theorem tdV_o {v : evT} {X : Nat → Int32} {B : Nat → Bool} {ls : List sp_L} {nc z : Nat} (h : evo v) : evo (tdV v X B ls nc z) := ⟨h.1, fun m h1 h2 => (tdG_o h1 z 1 (vN v)).trans (h.2 m h1 h2)⟩
theorem klV_o {v : evT} {z : Int32} (h : evo v) : evo (klV v z) := h
theorem kkV_o {v : evT} {m : Nat} {z : Int32} (h : evo v) (hm : m < v.1) : evo (kkV v m z) := ⟨h.1, fun k h1 h2 => (show kup v.2.2.2.1 m z k = v.2.2.2.1 k from if_neg (by have h1 : v.1 ≤ k := h1; omega)).trans (h.2 k h1 h2)⟩
theorem skV_o {v : evT} {y z : Int32} (h : evo v) : evo (skV v y z) := h
theorem wiV_o {v : evT} {y : Int32} {k : Nat} (h : evo v) (hw : v.1 < 6) (hk : k ≤ 2) : evo (wiV v y k) := by
  refine ⟨⟨Nat.succ_le_of_lt hw, fun m hm => ?_⟩, fun m h1 h2 => h.2 m (Nat.le_of_succ_le h1) h2⟩
  show kdp v.2.2.1 v.1 k m ≤ 2
  unfold kdp
  by_cases e : m = v.1
  · rw [if_pos e]
    exact hk
  · rw [if_neg e]
    exact h.1.2 m (by have hm : m < v.1 + 1 := hm; omega)
section VZA
variable {K : et_K} {G : eg_G} {d d2 th s0 s1 ya yb ec tc ta nc la ly out am aw : Nat} {O : Nat → Nat} {A : Nat → Nat → Nat} {V : Nat → evT} {T_ : Nat → Nat} {L_ : Nat → List sp_L} {X : Nat → Int32} {Y : Nat → Nat} {x y z : Int32}
theorem fz_show (hH : et_H et_TT K G) (k_th : K th = some 12) (h0 : et_pl (eg_at G th) 0 = some (.ref s0)) (k_s0 : K s0 = some 10) (k_s1 : K s1 = some 10) (h5 : et_pl (eg_at G s0) 5 = some (.int (Int32.ofNat ec))) (hec : ec ≤ 3) (t : ezK K ya yb O A) (hz : ez G th s0 s1 ya yb O A V) (ho : ∀ n, n < 6 → evo (V n)) (g7 : et_pl (eg_at G s0) 7 = some (.int (Int32.ofNat tc))) (htc : tc ≤ 4) (g8 : et_pl (eg_at G s0) 8 = some (.ref ta)) (k_ta : K ta = some 38) (hT : tyE K G ta tc T_ L_) (g2 : et_pl (eg_at G s0) 2 = some (.int (Int32.ofNat nc))) (hnc : nc ≤ 20) (hcc : ccP G s0 la ly nc X Y) (k_la : K la = some 17) (k_ly : K ly = some 27) (k_out : K out = some 31) (hd : 22 ≤ d2) : et_go none d2 12 0 (eg_en (eg_mL 12) [.ref th, .int x, .int y, .int z, .ref out]) [] G 0 0 (fun u => (¬ (xr x ec ∧ xr y nc ∧ xr z tc) ∧ u.1 = .inl (some (.int (Int32.ofNat 1))) ∧ ez u.2.1 th s0 s1 ya yb O A V) ∨ ∃ n c k, (x = Int32.ofNat n ∧ y = Int32.ofNat c ∧ z = Int32.ofNat k) ∧ (n < ec ∧ c < nc ∧ k < tc) ∧ u.1 = .inl (some (.int (Int32.ofNat 0))) ∧ et_pl (eg_at u.2.1 out) 0 = some (.long (Int64.ofNat (if shB (V n) (X c) (yB (Y c)) = true then 1 else 0))) ∧ ez u.2.1 th s0 s1 ya yb O A (vup V n (shV (V n) (X c) (yB (Y c)) (L_ k)))) := by
  by_cases hx : (xr x ec ∧ xr y nc ∧ xr z tc)
  · obtain ⟨hx, hy, hz3⟩ := hx
    obtain ⟨n, rfl, hn⟩ := xr_nat hx (by omega)
    obtain ⟨c, rfl, hc⟩ := xr_nat hy (by omega)
    obtain ⟨k, rfl, hk⟩ := xr_nat hz3 (by omega)
    obtain ⟨fo, f4, k_fo⟩ := hf_ref (t := 12) (f := 4) (u := 4) hH k_th rfl rfl (.inr trivial)
    obtain ⟨⟨hT1, ht⟩, hcl⟩ := hT k hk
    obtain ⟨c1, c2, c3⟩ := hcc.2 c hc
    refine fh_show (ye := yB (Y c)) hH k_th h0 k_s0 h5 hec hz.1.1 t.1.1 hn (hz.2.1 n (by omega)).1 (t.ev (ho n (by omega)) (by omega)) (t.d9 (n := n) (by omega)) (hz.2.2.1 n (by omega)) g7 htc g8 k_ta hk hT1 g2 hnc hcc.1.1 k_la hcc.1.2 k_ly hc c1 (by rw [yB_e c3]; exact c2) f4 k_fo ht hcl k_out hd (fun G9 hH9 x1 hv9 ho9 => .inr ⟨n, c, k, ⟨rfl, rfl, rfl⟩, ⟨hn, hc, hk⟩, rfl, ho9, ?_⟩)
    exact hz.up t k_th k_s0 k_s1 hH x1 (n := n) (by omega) (fun b j hs => by
      rcases hs with ⟨rfl, -⟩ | ⟨rfl, -⟩ | ⟨rfl, -⟩ | ⟨rfl, -⟩
      · exact .inl rfl
      · exact .inr (.inl ⟨2, by decide, rfl⟩)
      · exact .inr (.inr (fun t9 h9 => by cases k_fo.symm.trans h9; exact ⟨by decide, by decide, by decide, fun h => absurd h (by decide), fun h => absurd h (by decide)⟩))
      · exact .inr (.inr (fun t9 h9 => by cases k_out.symm.trans h9; exact ⟨by decide, by decide, by decide, fun h => absurd h (by decide), fun h => absurd h (by decide)⟩))) (fun _ => hv9) (fun h => absurd h (by omega))
  · exact (fh_showN hH k_th h0 k_s0 h5 hec hz.1.1 t.1.1 (fun n hn => ⟨_, (hz.2.1 n (by omega)).1⟩) g7 htc g8 k_ta (fun k hk => ⟨_, (hT k hk).1.1⟩) g2 hnc hx (by omega)).mono (fun u hu => .inl ⟨hx, hu.1, by rw [hu.2]; exact hz⟩)
theorem gz_show (hH : et_H et_TT K G) (k_am : K am = some 13) (k_aw : K aw = some 46) (m1 : et_pl (eg_at G am) 1 = some (.ref aw)) (w4 : et_pl (eg_at G aw) 4 = some (.int (Int32.ofNat ec))) (hec : ec ≤ 3) (hm : zyM G aw ec V) (ho : ∀ n, n < 3 → evo (V n)) (w3 : et_pl (eg_at G aw) 3 = some (.int (Int32.ofNat nc))) (hnc : nc ≤ 20) (hcr : crP G aw nc X Y) (w1 : et_pl (eg_at G aw) 1 = some (.int (Int32.ofNat tc))) (htc : tc ≤ 4) (hX : tyX G aw tc L_) (hcl : ∀ k, k < tc → ∀ l ∈ L_ k, lcl1 l) (hd : 10 ≤ d2) : et_go none d2 244 0 (eg_en (eg_mL 244) [.ref am, .int x, .int y, .int z]) [] G 0 0 (fun u => (¬ (xr x ec ∧ xr y nc ∧ xr z tc) ∧ u.1 = .inl (some (.int (Int32.ofNat 0))) ∧ et_pl (eg_at u.2.1 am) 0 = some (.int (Int32.ofNat 1)) ∧ zyM u.2.1 aw ec V) ∨ ∃ n c k, (x = Int32.ofNat n ∧ y = Int32.ofNat c ∧ z = Int32.ofNat k) ∧ (n < ec ∧ c < nc ∧ k < tc) ∧ u.1 = .inl (some (.int (Int32.ofNat (if shB (V n) (X c) (yB (Y c)) = true then 1 else 0)))) ∧ et_pl (eg_at u.2.1 am) 0 = some (.int (Int32.ofNat 0)) ∧ zyM u.2.1 aw ec (vup V n (shV (V n) (X c) (yB (Y c)) (L_ k)))) := by
  by_cases hx : (xr x ec ∧ xr y nc ∧ xr z tc)
  · obtain ⟨hx, hy, hz3⟩ := hx
    obtain ⟨n, rfl, hn⟩ := xr_nat hx (by omega)
    obtain ⟨c, rfl, hc⟩ := xr_nat hy (by omega)
    obtain ⟨k, rfl, hk⟩ := xr_nat hz3 (by omega)
    obtain ⟨fa, m14, k_fa⟩ := hf_ref (t := 13) (f := 14) (u := 14) hH k_am rfl rfl (.inr trivial)
    obtain ⟨tg, m15, k_tg⟩ := hf_ref (t := 13) (f := 15) (u := 24) hH k_am rfl rfl (.inr trivial)
    obtain ⟨c1, c2, c3⟩ := hcr c hc
    refine (fm_show (ye := yB (Y c)) hH k_am k_aw m1 w4 hec w3 hnc w1 htc k_fa k_tg m14 m15 hn (ho n (by omega)).1.1 (ho n (by omega)).1.2 ((hm n (by omega)).1 hn) hk (hX k hk) (hcl k hk) hc c1 (by rw [yB_e c3]; exact c2) hd).mono (fun u hu => .inr ⟨n, c, k, ⟨rfl, rfl, rfl⟩, ⟨hn, hc, hk⟩, hu.1, hu.2.1, hm.up ho hn hu.2.2.1 hu.2.2.2⟩)
  · exact (fm_showN hH k_am k_aw m1 w4 hec w3 hnc w1 htc hx (by omega)).mono (fun u hu => .inl ⟨hx, hu.1, hu.2.1, hm.mv ho (fun j _ _ => hu.2.2 j)⟩)
theorem fz_turned (hH : et_H et_TT K G) (k_th : K th = some 12) (h0 : et_pl (eg_at G th) 0 = some (.ref s0)) (k_s0 : K s0 = some 10) (k_s1 : K s1 = some 10) (h5 : et_pl (eg_at G s0) 5 = some (.int (Int32.ofNat ec))) (hec : ec ≤ 3) (t : ezK K ya yb O A) (hz : ez G th s0 s1 ya yb O A V) (ho : ∀ n, n < 6 → evo (V n)) (g7 : et_pl (eg_at G s0) 7 = some (.int (Int32.ofNat tc))) (htc : tc ≤ 4) (g8 : et_pl (eg_at G s0) 8 = some (.ref ta)) (k_ta : K ta = some 38) (hT : tyE K G ta tc T_ L_) (g2 : et_pl (eg_at G s0) 2 = some (.int (Int32.ofNat nc))) (hnc : nc ≤ 20) (hcc : ccP G s0 la ly nc X Y) (k_la : K la = some 17) (k_ly : K ly = some 27) (k_out : K out = some 31) (hd : 22 ≤ d2) : et_go none d2 13 0 (eg_en (eg_mL 13) [.ref th, .int x, .int y, .int z, .ref out]) [] G 0 0 (fun u => (¬ (xr x ec ∧ xr y tc) ∧ u.1 = .inl (some (.int (Int32.ofNat 1))) ∧ ez u.2.1 th s0 s1 ya yb O A V) ∨ ((xr x ec ∧ xr y tc) ∧ ¬ (1 ≤ z.toInt ∧ z.toInt ≤ 60) ∧ u.1 = .inl (some (.int (Int32.ofNat 2))) ∧ ez u.2.1 th s0 s1 ya yb O A V) ∨ ∃ n k m, (x = Int32.ofNat n ∧ y = Int32.ofNat k ∧ z = Int32.ofNat m) ∧ (n < ec ∧ k < tc ∧ 1 ≤ m ∧ m ≤ 60) ∧ u.1 = .inl (some (.int (Int32.ofNat 0))) ∧ et_pl (eg_at u.2.1 out) 0 = some (.long (tdR (V n) X (fun c => yB (Y c)) (L_ k) nc m).2.toInt64) ∧ ez u.2.1 th s0 s1 ya yb O A (vup V n (tdV (V n) X (fun c => yB (Y c)) (L_ k) nc m))) := by
  by_cases hx : (xr x ec ∧ xr y tc)
  · by_cases hz3 : (1 ≤ z.toInt ∧ z.toInt ≤ 60)
    · obtain ⟨hx, hy⟩ := hx
      obtain ⟨n, rfl, hn⟩ := xr_nat hx (by omega)
      obtain ⟨k, rfl, hk⟩ := xr_nat hy (by omega)
      obtain ⟨m, rfl, hm1, hm2⟩ : ∃ m : Nat, z = Int32.ofNat m ∧ 1 ≤ m ∧ m ≤ 60 := by
        obtain ⟨m, e1, e2, e3⟩ := hs_toN (x := z) (by omega)
        exact ⟨m, e1, by omega, by omega⟩
      obtain ⟨fo, f4, k_fo⟩ := hf_ref (t := 12) (f := 4) (u := 4) hH k_th rfl rfl (.inr trivial)
      obtain ⟨⟨hT1, ht⟩, hcl⟩ := hT k hk
      refine fh_turned (v := vN (V n)) (X := X) (B := fun c => yB (Y c)) hH k_th h0 k_s0 h5 hec hz.1.1 t.1.1 hn (hz.2.1 n (by omega)).1 (t.ev (ho n (by omega)) (by omega)) (t.d9 (n := n) (by omega)) (hz.2.2.1 n (by omega)) g7 htc g8 k_ta hk hT1 g2 hnc hcc.1.1 k_la hcc.1.2 k_ly (fun c hc => (hcc.2 c hc).1) (fun c hc => by rw [yB_e (hcc.2 c hc).2.2]; exact (hcc.2 c hc).2.1) f4 k_fo ht hcl k_out ⟨hm1, hm2⟩ hd (fun G9 hH9 x1 hv9 ho9 => .inr (.inr ⟨n, k, m, ⟨rfl, rfl, rfl⟩, ⟨hn, hk, hm1, hm2⟩, rfl, ho9, ?_⟩))
      exact hz.up t k_th k_s0 k_s1 hH x1 (n := n) (by omega) (fun b j hs => by
        rcases hs with ⟨rfl, -⟩ | ⟨rfl, -⟩ | ⟨rfl, -⟩ | ⟨rfl, -⟩
        · exact .inl rfl
        · exact .inr (.inl ⟨2, by decide, rfl⟩)
        · exact .inr (.inr (fun t9 h9 => by cases k_fo.symm.trans h9; exact ⟨by decide, by decide, by decide, fun h => absurd h (by decide), fun h => absurd h (by decide)⟩))
        · exact .inr (.inr (fun t9 h9 => by cases k_out.symm.trans h9; exact ⟨by decide, by decide, by decide, fun h => absurd h (by decide), fun h => absurd h (by decide)⟩))) (fun _ => hv9) (fun h => absurd h (by omega))
    · exact (fh_turnedR hH k_th h0 k_s0 h5 hec hz.1.1 t.1.1 (fun n hn => ⟨_, (hz.2.1 n (by omega)).1⟩) g7 htc g8 k_ta (fun k hk => ⟨_, (hT k hk).1.1⟩) hx.1 hx.2 hz3 (by omega)).mono (fun u hu => .inr (.inl ⟨hx, hz3, hu.1, by rw [hu.2]; exact hz⟩))
  · exact (fh_turnedN hH k_th h0 k_s0 h5 hec hz.1.1 t.1.1 (fun n hn => ⟨_, (hz.2.1 n (by omega)).1⟩) g7 htc g8 k_ta (fun k hk => ⟨_, (hT k hk).1.1⟩) hx (by omega)).mono (fun u hu => .inl ⟨hx, hu.1, by rw [hu.2]; exact hz⟩)
theorem gz_turned (hH : et_H et_TT K G) (k_am : K am = some 13) (k_aw : K aw = some 46) (m1 : et_pl (eg_at G am) 1 = some (.ref aw)) (w4 : et_pl (eg_at G aw) 4 = some (.int (Int32.ofNat ec))) (hec : ec ≤ 3) (hm : zyM G aw ec V) (ho : ∀ n, n < 3 → evo (V n)) (w3 : et_pl (eg_at G aw) 3 = some (.int (Int32.ofNat nc))) (hnc : nc ≤ 20) (hcr : crP G aw nc X Y) (w1 : et_pl (eg_at G aw) 1 = some (.int (Int32.ofNat tc))) (htc : tc ≤ 4) (hX : tyX G aw tc L_) (hcl : ∀ k, k < tc → ∀ l ∈ L_ k, lcl1 l) (hd : 10 ≤ d2) : et_go none d2 252 0 (eg_en (eg_mL 252) [.ref am, .int x, .int y, .int z]) [] G 0 0 (fun u => (¬ (xr x ec ∧ xr y tc) ∧ u.1 = .inl (some (.int (Int32.ofNat 0))) ∧ et_pl (eg_at u.2.1 am) 0 = some (.int (Int32.ofNat 1)) ∧ zyM u.2.1 aw ec V) ∨ ((xr x ec ∧ xr y tc) ∧ ¬ (1 ≤ z.toInt ∧ z.toInt ≤ 60) ∧ u.1 = .inl (some (.int (Int32.ofNat 0))) ∧ et_pl (eg_at u.2.1 am) 0 = some (.int (Int32.ofNat 2)) ∧ zyM u.2.1 aw ec V) ∨ ∃ n k m, (x = Int32.ofNat n ∧ y = Int32.ofNat k ∧ z = Int32.ofNat m) ∧ (n < ec ∧ k < tc ∧ 1 ≤ m ∧ m ≤ 60) ∧ u.1 = .inl (some (.int (tdR (V n) X (fun c => yB (Y c)) (L_ k) nc m).2)) ∧ et_pl (eg_at u.2.1 am) 0 = some (.int (Int32.ofNat 0)) ∧ zyM u.2.1 aw ec (vup V n (tdV (V n) X (fun c => yB (Y c)) (L_ k) nc m))) := by
  by_cases hx : (xr x ec ∧ xr y tc)
  · by_cases hz3 : (1 ≤ z.toInt ∧ z.toInt ≤ 60)
    · obtain ⟨hx, hy⟩ := hx
      obtain ⟨n, rfl, hn⟩ := xr_nat hx (by omega)
      obtain ⟨k, rfl, hk⟩ := xr_nat hy (by omega)
      obtain ⟨m, rfl, hm1, hm2⟩ : ∃ m : Nat, z = Int32.ofNat m ∧ 1 ≤ m ∧ m ≤ 60 := by
        obtain ⟨m, e1, e2, e3⟩ := hs_toN (x := z) (by omega)
        exact ⟨m, e1, by omega, by omega⟩
      obtain ⟨fa, m14, k_fa⟩ := hf_ref (t := 13) (f := 14) (u := 14) hH k_am rfl rfl (.inr trivial)
      obtain ⟨tg, m15, k_tg⟩ := hf_ref (t := 13) (f := 15) (u := 24) hH k_am rfl rfl (.inr trivial)
      refine (fm_turned (v := vN (V n)) (X := X) (B := fun c => yB (Y c)) hH k_am k_aw m1 w4 hec w3 hnc w1 htc k_fa k_tg m14 m15 hn (ho n (by omega)).1.1 (ho n (by omega)).1.2 ((hm n (by omega)).1 hn) hk (hX k hk) (hcl k hk) (fun c hc => ⟨(hcr c hc).1, by rw [yB_e (hcr c hc).2.2]; exact (hcr c hc).2.1⟩) ⟨hm1, hm2⟩ hd).mono (fun u hu => .inr (.inr ⟨n, k, m, ⟨rfl, rfl, rfl⟩, ⟨hn, hk, hm1, hm2⟩, hu.1, hu.2.1, hm.up ho hn hu.2.2.1 hu.2.2.2⟩))
    · exact (fm_turnedR hH k_am k_aw m1 w4 hec w1 htc hx.1 hx.2 hz3 (by omega)).mono (fun u hu => .inr (.inl ⟨hx, hz3, hu.1, hu.2.1, hm.mv ho (fun j _ _ => hu.2.2 j)⟩))
  · exact (fm_turnedN hH k_am k_aw m1 w4 hec w1 htc hx (by omega)).mono (fun u hu => .inl ⟨hx, hu.1, hu.2.1, hm.mv ho (fun j _ _ => hu.2.2 j)⟩)
theorem fz_knob (hH : et_H et_TT K G) (k_th : K th = some 12) (h0 : et_pl (eg_at G th) 0 = some (.ref s0)) (k_s0 : K s0 = some 10) (k_s1 : K s1 = some 10) (h5 : et_pl (eg_at G s0) 5 = some (.int (Int32.ofNat ec))) (hec : ec ≤ 3) (t : ezK K ya yb O A) (hz : ez G th s0 s1 ya yb O A V) (ho : ∀ n, n < 6 → evo (V n)) (k_out : K out = some 31) (hd : 3 ≤ d2) : et_go none d2 8 0 (eg_en (eg_mL 8) [.ref th, .int x, .int y, .int z, .ref out]) [] G 0 0 (fun u => (¬ xr x ec ∧ u.1 = .inl (some (.int (Int32.ofNat 1))) ∧ ez u.2.1 th s0 s1 ya yb O A V) ∨ ∃ n, (x = Int32.ofNat n ∧ n < ec) ∧ ((¬ y = (-1) ∧ ¬ xr y (V n).1 ∧ u.1 = .inl (some (.int (Int32.ofNat 1))) ∧ ez u.2.1 th s0 s1 ya yb O A V) ∨ (y = (-1) ∧ ¬ (-2000 ≤ z.toInt ∧ z.toInt ≤ 2000) ∧ u.1 = .inl (some (.int (Int32.ofNat 2))) ∧ ez u.2.1 th s0 s1 ya yb O A V) ∨ (y = (-1) ∧ (-2000 ≤ z.toInt ∧ z.toInt ≤ 2000) ∧ u.1 = .inl (some (.int (Int32.ofNat 0))) ∧ et_pl (eg_at u.2.1 out) 0 = some (.long (Int64.ofNat (if (V n).2.2.2.2.1 = z then 0 else 1))) ∧ ez u.2.1 th s0 s1 ya yb O A (vup V n (klV (V n) z))) ∨ ∃ m, (y = Int32.ofNat m ∧ m < (V n).1) ∧ ((¬ (-200 ≤ z.toInt ∧ z.toInt ≤ 200) ∧ u.1 = .inl (some (.int (Int32.ofNat 2))) ∧ ez u.2.1 th s0 s1 ya yb O A V) ∨ ((-200 ≤ z.toInt ∧ z.toInt ≤ 200) ∧ u.1 = .inl (some (.int (Int32.ofNat 0))) ∧ et_pl (eg_at u.2.1 out) 0 = some (.long (Int64.ofNat (if (V n).2.2.2.1 m = z then 0 else 1))) ∧ ez u.2.1 th s0 s1 ya yb O A (vup V n (kkV (V n) m z)))))) := by
  by_cases hx : xr x ec
  · obtain ⟨n, rfl, hn⟩ := xr_nat hx (by omega)
    have hw6 := (ho n (by omega)).1.1
    by_cases hy1 : y = (-1)
    · subst hy1
      by_cases hl : (-2000 ≤ z.toInt ∧ z.toInt ≤ 2000)
      · refine fh_knobL hH k_th h0 k_s0 h5 hec hz.1.1 t.1.1 hn (hz.2.1 n (by omega)).1 (t.ev (ho n (by omega)) (by omega)) (t.d9 (n := n) (by omega)) (hz.2.2.1 n (by omega)) k_out hl (by omega) (fun G9 hH9 x1 hv9 ho9 => .inr ⟨n, ⟨rfl, hn⟩, .inr (.inr (.inl ⟨rfl, hl, rfl, ho9, ?_⟩))⟩)
        exact hz.up t k_th k_s0 k_s1 hH x1 (n := n) (by omega) (fun b j hs => by
          rcases hs with ⟨rfl, -⟩ | ⟨rfl, -⟩
          · exact .inl rfl
          · exact .inr (.inr (fun t9 h9 => by cases k_out.symm.trans h9; exact ⟨by decide, by decide, by decide, fun h => absurd h (by decide), fun h => absurd h (by decide)⟩))) (fun _ => hv9) (fun h => absurd h (by omega))
      · exact (fh_knobLr hH k_th h0 k_s0 h5 hec hz.1.1 t.1.1 hn (hz.2.1 n (by omega)).1 (t.ev (ho n (by omega)) (by omega)) (t.d9 (n := n) (by omega)) (hz.2.2.1 n (by omega)) hl (by omega)).mono (fun u hu => .inr ⟨n, ⟨rfl, hn⟩, .inr (.inl ⟨rfl, hl, hu.1, by rw [hu.2]; exact hz⟩)⟩)
    · by_cases hy : xr y (V n).1
      · obtain ⟨m, rfl, hm9⟩ := xr_nat hy (by omega)
        by_cases hk : (-200 ≤ z.toInt ∧ z.toInt ≤ 200)
        · refine fh_knobK hH k_th h0 k_s0 h5 hec hz.1.1 t.1.1 hn (hz.2.1 n (by omega)).1 (t.ev (ho n (by omega)) (by omega)) (t.d9 (n := n) (by omega)) (hz.2.2.1 n (by omega)) k_out hm9 hk (by omega) (fun G9 hH9 x1 hv9 ho9 => .inr ⟨n, ⟨rfl, hn⟩, .inr (.inr (.inr ⟨m, ⟨rfl, hm9⟩, .inr ⟨hk, rfl, ho9, ?_⟩⟩))⟩)
          exact hz.up t k_th k_s0 k_s1 hH x1 (n := n) (by omega) (fun b j hs => by
            rcases hs with ⟨rfl, -⟩ | ⟨rfl, -⟩
            · exact .inr (.inl ⟨2, by decide, rfl⟩)
            · exact .inr (.inr (fun t9 h9 => by cases k_out.symm.trans h9; exact ⟨by decide, by decide, by decide, fun h => absurd h (by decide), fun h => absurd h (by decide)⟩))) (fun _ => hv9) (fun h => absurd h (by omega))
        · exact (fh_knobKr hH k_th h0 k_s0 h5 hec hz.1.1 t.1.1 hn (hz.2.1 n (by omega)).1 (t.ev (ho n (by omega)) (by omega)) (t.d9 (n := n) (by omega)) (hz.2.2.1 n (by omega)) hm9 hk (by omega)).mono (fun u hu => .inr ⟨n, ⟨rfl, hn⟩, .inr (.inr (.inr ⟨m, ⟨rfl, hm9⟩, .inl ⟨hk, hu.1, by rw [hu.2]; exact hz⟩⟩))⟩)
      · exact (fh_knobW hH k_th h0 k_s0 h5 hec hz.1.1 t.1.1 hn (hz.2.1 n (by omega)).1 (t.ev (ho n (by omega)) (by omega)) (t.d9 (n := n) (by omega)) (hz.2.2.1 n (by omega)) hy1 hy (by omega)).mono (fun u hu => .inr ⟨n, ⟨rfl, hn⟩, .inl ⟨hy1, hy, hu.1, by rw [hu.2]; exact hz⟩⟩)
  · exact (fh_knobE hH k_th h0 k_s0 h5 hec hz.1.1 t.1.1 hx (by omega)).mono (fun u hu => .inl ⟨hx, hu.1, by rw [hu.2]; exact hz⟩)
theorem gz_knob (hH : et_H et_TT K G) (k_am : K am = some 13) (k_aw : K aw = some 46) (m1 : et_pl (eg_at G am) 1 = some (.ref aw)) (w4 : et_pl (eg_at G aw) 4 = some (.int (Int32.ofNat ec))) (hec : ec ≤ 3) (hm : zyM G aw ec V) (ho : ∀ n, n < 3 → evo (V n)) (hd : 3 ≤ d2) : et_go none d2 227 0 (eg_en (eg_mL 227) [.ref am, .int x, .int y, .int z]) [] G 0 0 (fun u => (¬ xr x ec ∧ u.1 = .inl (some (.int (Int32.ofNat 0))) ∧ et_pl (eg_at u.2.1 am) 0 = some (.int (Int32.ofNat 1)) ∧ zyM u.2.1 aw ec V) ∨ ∃ n, (x = Int32.ofNat n ∧ n < ec) ∧ ((¬ y = (-1) ∧ ¬ xr y (V n).1 ∧ u.1 = .inl (some (.int (Int32.ofNat 0))) ∧ et_pl (eg_at u.2.1 am) 0 = some (.int (Int32.ofNat 1)) ∧ zyM u.2.1 aw ec V) ∨ (y = (-1) ∧ ¬ (-2000 ≤ z.toInt ∧ z.toInt ≤ 2000) ∧ u.1 = .inl (some (.int (Int32.ofNat 0))) ∧ et_pl (eg_at u.2.1 am) 0 = some (.int (Int32.ofNat 2)) ∧ zyM u.2.1 aw ec V) ∨ (y = (-1) ∧ (-2000 ≤ z.toInt ∧ z.toInt ≤ 2000) ∧ u.1 = .inl (some (.int (Int32.ofNat (if (V n).2.2.2.2.1 = z then 0 else 1)))) ∧ et_pl (eg_at u.2.1 am) 0 = some (.int (Int32.ofNat 0)) ∧ zyM u.2.1 aw ec (vup V n (klV (V n) z))) ∨ ∃ m, (y = Int32.ofNat m ∧ m < (V n).1) ∧ ((¬ (-200 ≤ z.toInt ∧ z.toInt ≤ 200) ∧ u.1 = .inl (some (.int (Int32.ofNat 0))) ∧ et_pl (eg_at u.2.1 am) 0 = some (.int (Int32.ofNat 2)) ∧ zyM u.2.1 aw ec V) ∨ ((-200 ≤ z.toInt ∧ z.toInt ≤ 200) ∧ u.1 = .inl (some (.int (Int32.ofNat (if (V n).2.2.2.1 m = z then 0 else 1)))) ∧ et_pl (eg_at u.2.1 am) 0 = some (.int (Int32.ofNat 0)) ∧ zyM u.2.1 aw ec (vup V n (kkV (V n) m z)))))) := by
  by_cases hx : xr x ec
  · obtain ⟨n, rfl, hn⟩ := xr_nat hx (by omega)
    have hw6 := (ho n (by omega)).1.1
    by_cases hy1 : y = (-1)
    · subst hy1
      by_cases hl : (-2000 ≤ z.toInt ∧ z.toInt ≤ 2000)
      · exact (fm_knobL hH k_am k_aw m1 w4 hec hn (ho n (by omega)).1.1 (ho n (by omega)).1.2 ((hm n (by omega)).1 hn) hl (by omega)).mono (fun u hu => .inr ⟨n, ⟨rfl, hn⟩, .inr (.inr (.inl ⟨rfl, hl, hu.1, hu.2.1, hm.up ho hn hu.2.2.1 hu.2.2.2⟩))⟩)
      · exact (fm_knobLr hH k_am k_aw m1 w4 hec hn (ho n (by omega)).1.1 (ho n (by omega)).1.2 ((hm n (by omega)).1 hn) hl (by omega)).mono (fun u hu => .inr ⟨n, ⟨rfl, hn⟩, .inr (.inl ⟨rfl, hl, hu.1, hu.2.1, hm.mv ho (fun j _ _ => hu.2.2 j)⟩)⟩)
    · by_cases hy : xr y (V n).1
      · obtain ⟨m, rfl, hm9⟩ := xr_nat hy (by omega)
        by_cases hk : (-200 ≤ z.toInt ∧ z.toInt ≤ 200)
        · exact (fm_knobK hH k_am k_aw m1 w4 hec hn (ho n (by omega)).1.1 (ho n (by omega)).1.2 ((hm n (by omega)).1 hn) hm9 hk (by omega)).mono (fun u hu => .inr ⟨n, ⟨rfl, hn⟩, .inr (.inr (.inr ⟨m, ⟨rfl, hm9⟩, .inr ⟨hk, hu.1, hu.2.1, hm.up ho hn hu.2.2.1 hu.2.2.2⟩⟩))⟩)
        · exact (fm_knobKr hH k_am k_aw m1 w4 hec hn (ho n (by omega)).1.1 (ho n (by omega)).1.2 ((hm n (by omega)).1 hn) hm9 hk (by omega)).mono (fun u hu => .inr ⟨n, ⟨rfl, hn⟩, .inr (.inr (.inr ⟨m, ⟨rfl, hm9⟩, .inl ⟨hk, hu.1, hu.2.1, hm.mv ho (fun j _ _ => hu.2.2 j)⟩⟩))⟩)
      · exact (fm_knobW hH k_am k_aw m1 w4 hec hn (ho n (by omega)).1.1 (ho n (by omega)).1.2 ((hm n (by omega)).1 hn) hy1 hy (by omega)).mono (fun u hu => .inr ⟨n, ⟨rfl, hn⟩, .inl ⟨hy1, hy, hu.1, hu.2.1, hm.mv ho (fun j _ _ => hu.2.2 j)⟩⟩)
  · exact (fm_knobE hH k_am k_aw m1 w4 hec hx (by omega)).mono (fun u hu => .inl ⟨hx, hu.1, hu.2.1, hm.mv ho (fun j _ _ => hu.2.2 j)⟩)
theorem fz_stuck (hH : et_H et_TT K G) (k_th : K th = some 12) (h0 : et_pl (eg_at G th) 0 = some (.ref s0)) (k_s0 : K s0 = some 10) (k_s1 : K s1 = some 10) (h5 : et_pl (eg_at G s0) 5 = some (.int (Int32.ofNat ec))) (hec : ec ≤ 3) (t : ezK K ya yb O A) (hz : ez G th s0 s1 ya yb O A V) (ho : ∀ n, n < 6 → evo (V n)) (hd : 2 ≤ d2) : et_go none d2 9 0 (eg_en (eg_mL 9) [.ref th, .int x, .int y, .int z]) [] G 0 0 (fun u => (¬ xr x ec ∧ u.1 = .inl (some (.int (Int32.ofNat 1))) ∧ ez u.2.1 th s0 s1 ya yb O A V) ∨ ∃ n, (x = Int32.ofNat n ∧ n < ec) ∧ ((¬ (0 ≤ y.toInt ∧ y.toInt ≤ 127 ∧ 0 ≤ z.toInt ∧ z.toInt ≤ 50) ∧ u.1 = .inl (some (.int (Int32.ofNat 2))) ∧ ez u.2.1 th s0 s1 ya yb O A V) ∨ ((0 ≤ y.toInt ∧ y.toInt ≤ 127 ∧ 0 ≤ z.toInt ∧ z.toInt ≤ 50) ∧ u.1 = .inl (some (.int (Int32.ofNat 0))) ∧ ez u.2.1 th s0 s1 ya yb O A (vup V n (skV (V n) y z))))) := by
  by_cases hx : xr x ec
  · obtain ⟨n, rfl, hn⟩ := xr_nat hx (by omega)
    have hw6 := (ho n (by omega)).1.1
    by_cases hs3 : (0 ≤ y.toInt ∧ y.toInt ≤ 127 ∧ 0 ≤ z.toInt ∧ z.toInt ≤ 50)
    · refine fh_stuckY hH k_th h0 k_s0 h5 hec hz.1.1 t.1.1 hn (hz.2.1 n (by omega)).1 (t.ev (ho n (by omega)) (by omega)) (t.d9 (n := n) (by omega)) (hz.2.2.1 n (by omega)) hs3 hd (fun G9 hH9 x1 hv9 => .inr ⟨n, ⟨rfl, hn⟩, .inr ⟨hs3, rfl, ?_⟩⟩)
      exact hz.up t k_th k_s0 k_s1 hH x1 (n := n) (by omega) (fun b j hs => by
        rcases hs with ⟨rfl, -⟩
        · exact .inl rfl) (fun _ => hv9) (fun h => absurd h (by omega))
    · exact (fh_stuckR hH k_th h0 k_s0 h5 hec hz.1.1 t.1.1 hn (hz.2.1 n (by omega)).1 hs3 hd).mono (fun u hu => .inr ⟨n, ⟨rfl, hn⟩, .inl ⟨hs3, hu.1, by rw [hu.2]; exact hz⟩⟩)
  · exact (fh_stuckE hH k_th h0 k_s0 h5 hec hz.1.1 t.1.1 hx hd).mono (fun u hu => .inl ⟨hx, hu.1, by rw [hu.2]; exact hz⟩)
theorem gz_stuck (hH : et_H et_TT K G) (k_am : K am = some 13) (k_aw : K aw = some 46) (m1 : et_pl (eg_at G am) 1 = some (.ref aw)) (w4 : et_pl (eg_at G aw) 4 = some (.int (Int32.ofNat ec))) (hec : ec ≤ 3) (hm : zyM G aw ec V) (ho : ∀ n, n < 3 → evo (V n)) (hd : 2 ≤ d2) : et_go none d2 229 0 (eg_en (eg_mL 229) [.ref am, .int x, .int y, .int z]) [] G 0 0 (fun u => (¬ xr x ec ∧ u.1 = .inl none ∧ et_pl (eg_at u.2.1 am) 0 = some (.int (Int32.ofNat 1)) ∧ zyM u.2.1 aw ec V) ∨ ∃ n, (x = Int32.ofNat n ∧ n < ec) ∧ ((¬ (0 ≤ y.toInt ∧ y.toInt ≤ 127 ∧ 0 ≤ z.toInt ∧ z.toInt ≤ 50) ∧ u.1 = .inl none ∧ et_pl (eg_at u.2.1 am) 0 = some (.int (Int32.ofNat 2)) ∧ zyM u.2.1 aw ec V) ∨ ((0 ≤ y.toInt ∧ y.toInt ≤ 127 ∧ 0 ≤ z.toInt ∧ z.toInt ≤ 50) ∧ u.1 = .inl none ∧ et_pl (eg_at u.2.1 am) 0 = some (.int (Int32.ofNat 0)) ∧ zyM u.2.1 aw ec (vup V n (skV (V n) y z))))) := by
  by_cases hx : xr x ec
  · obtain ⟨n, rfl, hn⟩ := xr_nat hx (by omega)
    have hw6 := (ho n (by omega)).1.1
    by_cases hs3 : (0 ≤ y.toInt ∧ y.toInt ≤ 127 ∧ 0 ≤ z.toInt ∧ z.toInt ≤ 50)
    · exact (fn_stuck hH k_am k_aw m1 w4 hec hn (ho n (by omega)).1.1 (ho n (by omega)).1.2 ((hm n (by omega)).1 hn) hs3 hd).mono (fun u hu => .inr ⟨n, ⟨rfl, hn⟩, .inr ⟨hs3, hu.1, hu.2.1, hm.up ho hn hu.2.2.1 hu.2.2.2⟩⟩)
    · exact (fn_stuckR hH k_am k_aw m1 w4 hec hn hs3 hd).mono (fun u hu => .inr ⟨n, ⟨rfl, hn⟩, .inl ⟨hs3, hu.1, hu.2.1, hm.mv ho (fun j _ _ => hu.2.2 j)⟩⟩)
  · exact (fn_stuckE hH k_am k_aw m1 w4 hec hx hd).mono (fun u hu => .inl ⟨hx, hu.1, hu.2.1, hm.mv ho (fun j _ _ => hu.2.2 j)⟩)
theorem fz_wire (hH : et_H et_TT K G) (k_th : K th = some 12) (h0 : et_pl (eg_at G th) 0 = some (.ref s0)) (k_s0 : K s0 = some 10) (k_s1 : K s1 = some 10) (h5 : et_pl (eg_at G s0) 5 = some (.int (Int32.ofNat ec))) (hec : ec ≤ 3) (t : ezK K ya yb O A) (hz : ez G th s0 s1 ya yb O A V) (ho : ∀ n, n < 6 → evo (V n)) (k_out : K out = some 31) (hd : 2 ≤ d2) : et_go none d2 7 0 (eg_en (eg_mL 7) [.ref th, .int x, .int y, .int z, .ref out]) [] G 0 0 (fun u => (¬ xr x ec ∧ u.1 = .inl (some (.int (Int32.ofNat 1))) ∧ ez u.2.1 th s0 s1 ya yb O A V) ∨ ∃ n, (x = Int32.ofNat n ∧ n < ec) ∧ ((¬ (0 < y.toInt ∧ y.toInt < 65536 ∧ 0 ≤ z.toInt ∧ z.toInt ≤ 2) ∧ u.1 = .inl (some (.int (Int32.ofNat 2))) ∧ ez u.2.1 th s0 s1 ya yb O A V) ∨ ((0 < y.toInt ∧ y.toInt < 65536 ∧ 0 ≤ z.toInt ∧ z.toInt ≤ 2) ∧ (V n).1 = 6 ∧ u.1 = .inl (some (.int (Int32.ofNat 3))) ∧ ez u.2.1 th s0 s1 ya yb O A V) ∨ ∃ k, ((z = Int32.ofNat k ∧ k ≤ 2) ∧ (0 < y.toInt ∧ y.toInt < 65536) ∧ (V n).1 < 6) ∧ u.1 = .inl (some (.int (Int32.ofNat 0))) ∧ et_pl (eg_at u.2.1 out) 0 = some (.long (Int32.ofNat (V n).1).toInt64) ∧ ez u.2.1 th s0 s1 ya yb O A (vup V n (wiV (V n) y k)))) := by
  by_cases hx : xr x ec
  · obtain ⟨n, rfl, hn⟩ := xr_nat hx (by omega)
    have hw6 := (ho n (by omega)).1.1
    by_cases hs3 : (0 < y.toInt ∧ y.toInt < 65536 ∧ 0 ≤ z.toInt ∧ z.toInt ≤ 2)
    · obtain ⟨k, rfl, hk⟩ : ∃ k : Nat, z = Int32.ofNat k ∧ k ≤ 2 := by
        obtain ⟨k, e1, e2, e3⟩ := hs_toN (x := z) (by omega)
        exact ⟨k, e1, by omega⟩
      by_cases h6 : (V n).1 = 6
      · exact (fh_wireF2 hH k_th h0 k_s0 h5 hec hz.1.1 t.1.1 hn (hz.2.1 n (by omega)).1 (t.ev (ho n (by omega)) (by omega)) (t.d9 (n := n) (by omega)) (hz.2.2.1 n (by omega)) h6 hk ⟨hs3.1, hs3.2.1⟩ hd).mono (fun u hu => .inr ⟨n, ⟨rfl, hn⟩, .inr (.inl ⟨hs3, h6, hu.1, by rw [hu.2]; exact hz⟩)⟩)
      · refine fh_wireY hH k_th h0 k_s0 h5 hec hz.1.1 t.1.1 hn (hz.2.1 n (by omega)).1 (t.ev (ho n (by omega)) (by omega)) (t.d9 (n := n) (by omega)) (hz.2.2.1 n (by omega)) k_out (fun e => absurd (t.2.2.2 n 0 n 1 (by omega) (by decide) (by omega) (by decide) e).2 (by decide)) (by omega) hk ⟨hs3.1, hs3.2.1⟩ hd (fun G9 hH9 x1 hv9 ho9 => .inr ⟨n, ⟨rfl, hn⟩, .inr (.inr ⟨k, ⟨⟨rfl, hk⟩, ⟨hs3.1, hs3.2.1⟩, by omega⟩, rfl, ho9, ?_⟩)⟩)
        exact hz.up t k_th k_s0 k_s1 hH x1 (n := n) (by omega) (fun b j hs => by
          rcases hs with ⟨rfl, hj⟩ | ⟨rfl, -⟩ | ⟨rfl, -⟩ | ⟨rfl, -⟩ | ⟨rfl, -⟩
          · exact .inr (.inr (fun t9 h9 => by cases k_th.symm.trans h9; exact ⟨by decide, by decide, by decide, fun h => absurd h (by decide), fun h => by omega⟩))
          · exact .inl rfl
          · exact .inr (.inl ⟨0, by decide, rfl⟩)
          · exact .inr (.inl ⟨1, by decide, rfl⟩)
          · exact .inr (.inr (fun t9 h9 => by cases k_out.symm.trans h9; exact ⟨by decide, by decide, by decide, fun h => absurd h (by decide), fun h => absurd h (by decide)⟩))) (fun _ => hv9) (fun h => absurd h (by omega))
    · exact (fh_wireR2 hH k_th h0 k_s0 h5 hec hz.1.1 t.1.1 hn (hz.2.1 n (by omega)).1 (t.ev (ho n (by omega)) (by omega)) (t.d9 (n := n) (by omega)) (hz.2.2.1 n (by omega)) hs3 hd).mono (fun u hu => .inr ⟨n, ⟨rfl, hn⟩, .inl ⟨hs3, hu.1, by rw [hu.2]; exact hz⟩⟩)
  · exact (fh_wireE2 hH k_th h0 k_s0 h5 hec hz.1.1 t.1.1 hx hd).mono (fun u hu => .inl ⟨hx, hu.1, by rw [hu.2]; exact hz⟩)
theorem gz_wire (hH : et_H et_TT K G) (k_am : K am = some 13) (k_aw : K aw = some 46) (m1 : et_pl (eg_at G am) 1 = some (.ref aw)) (w4 : et_pl (eg_at G aw) 4 = some (.int (Int32.ofNat ec))) (hec : ec ≤ 3) (hm : zyM G aw ec V) (ho : ∀ n, n < 3 → evo (V n)) (hd : 3 ≤ d2) : et_go none d2 223 0 (eg_en (eg_mL 223) [.ref am, .int x, .int y, .int z]) [] G 0 0 (fun u => (¬ xr x ec ∧ u.1 = .inl (some (.int (Int32.ofNat 0))) ∧ et_pl (eg_at u.2.1 am) 0 = some (.int (Int32.ofNat 1)) ∧ zyM u.2.1 aw ec V) ∨ ∃ n, (x = Int32.ofNat n ∧ n < ec) ∧ ((¬ (0 < y.toInt ∧ y.toInt < 65536 ∧ 0 ≤ z.toInt ∧ z.toInt ≤ 2) ∧ u.1 = .inl (some (.int (Int32.ofNat 0))) ∧ et_pl (eg_at u.2.1 am) 0 = some (.int (Int32.ofNat 2)) ∧ zyM u.2.1 aw ec V) ∨ ((0 < y.toInt ∧ y.toInt < 65536 ∧ 0 ≤ z.toInt ∧ z.toInt ≤ 2) ∧ (V n).1 = 6 ∧ u.1 = .inl (some (.int (Int32.ofNat 0))) ∧ et_pl (eg_at u.2.1 am) 0 = some (.int (Int32.ofNat 3)) ∧ zyM u.2.1 aw ec V) ∨ ∃ k, ((z = Int32.ofNat k ∧ k ≤ 2) ∧ (0 < y.toInt ∧ y.toInt < 65536) ∧ (V n).1 < 6) ∧ u.1 = .inl (some (.int (Int32.ofNat (V n).1))) ∧ et_pl (eg_at u.2.1 am) 0 = some (.int (Int32.ofNat 0)) ∧ zyM u.2.1 aw ec (vup V n (wiV (V n) y k)))) := by
  by_cases hx : xr x ec
  · obtain ⟨n, rfl, hn⟩ := xr_nat hx (by omega)
    have hw6 := (ho n (by omega)).1.1
    by_cases hs3 : (0 < y.toInt ∧ y.toInt < 65536 ∧ 0 ≤ z.toInt ∧ z.toInt ≤ 2)
    · obtain ⟨k, rfl, hk⟩ : ∃ k : Nat, z = Int32.ofNat k ∧ k ≤ 2 := by
        obtain ⟨k, e1, e2, e3⟩ := hs_toN (x := z) (by omega)
        exact ⟨k, e1, by omega⟩
      by_cases h6 : (V n).1 = 6
      · exact (fn_wireF hH k_am k_aw m1 w4 hec hn (ho n (by omega)).1.1 (ho n (by omega)).1.2 ((hm n (by omega)).1 hn) h6 hk ⟨hs3.1, hs3.2.1⟩ hd).mono (fun u hu => .inr ⟨n, ⟨rfl, hn⟩, .inr (.inl ⟨hs3, h6, hu.1, hu.2.1, hm.mv ho (fun j _ _ => hu.2.2 j)⟩)⟩)
      · exact (fn_wire hH k_am k_aw m1 w4 hec hn (ho n (by omega)).1.1 (ho n (by omega)).1.2 ((hm n (by omega)).1 hn) (by omega) hk ⟨hs3.1, hs3.2.1⟩ ((ho n (by omega)).2 _ (Nat.le_refl _) (by omega)) hd).mono (fun u hu => .inr ⟨n, ⟨rfl, hn⟩, .inr (.inr ⟨k, ⟨⟨rfl, hk⟩, ⟨hs3.1, hs3.2.1⟩, by omega⟩, hu.1, hu.2.1, hm.up ho hn hu.2.2.1 hu.2.2.2⟩)⟩)
    · exact (fn_wireR hH k_am k_aw m1 w4 hec hn (ho n (by omega)).1.1 (ho n (by omega)).1.2 ((hm n (by omega)).1 hn) hs3 hd).mono (fun u hu => .inr ⟨n, ⟨rfl, hn⟩, .inl ⟨hs3, hu.1, hu.2.1, hm.mv ho (fun j _ _ => hu.2.2 j)⟩⟩)
  · exact (fn_wireE hH k_am k_aw m1 w4 hec hx hd).mono (fun u hu => .inl ⟨hx, hu.1, hu.2.1, hm.mv ho (fun j _ _ => hu.2.2 j)⟩)
theorem fz_sees (hH : et_H et_TT K G) (k_th : K th = some 12) (h0 : et_pl (eg_at G th) 0 = some (.ref s0)) (k_s0 : K s0 = some 10) (k_s1 : K s1 = some 10) (h5 : et_pl (eg_at G s0) 5 = some (.int (Int32.ofNat ec))) (hec : ec ≤ 3) (t : ezK K ya yb O A) (hz : ez G th s0 s1 ya yb O A V) (ho : ∀ n, n < 6 → evo (V n)) (k_out : K out = some 31) (hd : 5 ≤ d2) : et_go none d2 11 0 (eg_en (eg_mL 11) [.ref th, .int x, .int y, .ref out]) [] G 0 0 (fun u => (¬ xr x ec ∧ u.1 = .inl (some (.int (Int32.ofNat 1)))) ∨ ∃ n, (x = Int32.ofNat n ∧ n < ec) ∧ ((¬ (0 ≤ y.toInt ∧ y.toInt < 65536) ∧ u.1 = .inl (some (.int (Int32.ofNat 2)))) ∨ ((0 ≤ y.toInt ∧ y.toInt < 65536) ∧ u.1 = .inl (some (.int (Int32.ofNat 0))) ∧ et_pl (eg_at u.2.1 out) 0 = some (.long (suN (V n).2.1 (V n).2.2.1 (V n).2.2.2.1 y (V n).1).toInt64)))) := by
  by_cases hx : xr x ec
  · obtain ⟨n, rfl, hn⟩ := xr_nat hx (by omega)
    have hw6 := (ho n (by omega)).1.1
    by_cases hs3 : (0 ≤ y.toInt ∧ y.toInt < 65536)
    · exact (fh_sees hH k_th h0 k_s0 h5 hec hz.1.1 t.1.1 hn (hz.2.1 n (by omega)).1 (t.ev (ho n (by omega)) (by omega)) (t.d9 (n := n) (by omega)) (hz.2.2.1 n (by omega)) k_out hs3 hd).mono (fun u hu => .inr ⟨n, ⟨rfl, hn⟩, .inr ⟨hs3, hu.1, hu.2⟩⟩)
    · exact (fh_seesR hH k_th h0 k_s0 h5 hec hz.1.1 t.1.1 hn (hz.2.1 n (by omega)).1 hs3 hd).mono (fun u hu => .inr ⟨n, ⟨rfl, hn⟩, .inl ⟨hs3, hu.1⟩⟩)
  · exact (fh_seesE hH k_th h0 k_s0 h5 hec hz.1.1 t.1.1 hx hd).mono (fun u hu => .inl ⟨hx, hu.1⟩)
theorem gz_sees (hH : et_H et_TT K G) (k_am : K am = some 13) (k_aw : K aw = some 46) (m1 : et_pl (eg_at G am) 1 = some (.ref aw)) (w4 : et_pl (eg_at G aw) 4 = some (.int (Int32.ofNat ec))) (hec : ec ≤ 3) (hm : zyM G aw ec V) (ho : ∀ n, n < 3 → evo (V n)) (hd : 6 ≤ d2) : et_go none d2 243 0 (eg_en (eg_mL 243) [.ref am, .int x, .int y]) [] G 0 0 (fun u => (¬ xr x ec ∧ u.1 = .inl (some (.int (Int32.ofNat 0))) ∧ et_pl (eg_at u.2.1 am) 0 = some (.int (Int32.ofNat 1))) ∨ ∃ n, (x = Int32.ofNat n ∧ n < ec) ∧ ((¬ (0 ≤ y.toInt ∧ y.toInt < 65536) ∧ u.1 = .inl (some (.int (Int32.ofNat 0))) ∧ et_pl (eg_at u.2.1 am) 0 = some (.int (Int32.ofNat 2))) ∨ ((0 ≤ y.toInt ∧ y.toInt < 65536) ∧ u.1 = .inl (some (.int (suN (V n).2.1 (V n).2.2.1 (V n).2.2.2.1 y (V n).1))) ∧ et_pl (eg_at u.2.1 am) 0 = some (.int (Int32.ofNat 0))))) := by
  by_cases hx : xr x ec
  · obtain ⟨n, rfl, hn⟩ := xr_nat hx (by omega)
    have hw6 := (ho n (by omega)).1.1
    by_cases hs3 : (0 ≤ y.toInt ∧ y.toInt < 65536)
    · exact (fn_sees hH k_am k_aw m1 w4 hec hn (ho n (by omega)).1.1 (ho n (by omega)).1.2 ((hm n (by omega)).1 hn) hs3 hd).mono (fun u hu => .inr ⟨n, ⟨rfl, hn⟩, .inr ⟨hs3, hu.1, hu.2⟩⟩)
    · exact (fn_seesR hH k_am k_aw m1 w4 hec hn (ho n (by omega)).1.1 (ho n (by omega)).1.2 ((hm n (by omega)).1 hn) hs3 hd).mono (fun u hu => .inr ⟨n, ⟨rfl, hn⟩, .inl ⟨hs3, hu.1, hu.2⟩⟩)
  · exact (fn_seesE hH k_am k_aw m1 w4 hec hx hd).mono (fun u hu => .inl ⟨hx, hu.1, hu.2⟩)
theorem hi_el38 {ra n q : Nat} (hH : et_H et_TT K G) (k_ra : K ra = some 38) (hn : n < 4) (hq : et_pl (eg_at G ra) n = some (.ref q)) : K q = some 11 := by
  obtain ⟨g1, -, g3, dd, hd, hcell, hcx⟩ := hH.2.2 ra 38 k_ra
  cases hd
  obtain ⟨x, e, ey, er, es⟩ := hcell
  rw [e] at hq
  have hq : (if n < x.1 then eg_rd 7 x n else none) = some (.ref q) := hq
  obtain ⟨v, h1, h2⟩ := es _ (List.mem_singleton.mpr rfl) n (Nat.zero_le _) (show n ≤ 3 by omega) hn
  rw [if_pos (by rw [ey]; exact hn), h1] at hq
  cases hq
  rcases h2 with ⟨-, h2⟩ | ⟨-, q', e1, e2⟩
  · cases h2
  · cases e1
    exact e2
theorem hi_el42 {ra n q : Nat} (hH : et_H et_TT K G) (k_ra : K ra = some 42) (hn : n < 10) (hq : et_pl (eg_at G ra) n = some (.ref q)) : K q = some 6 := by
  obtain ⟨g1, -, g3, dd, hd, hcell, hcx⟩ := hH.2.2 ra 42 k_ra
  cases hd
  obtain ⟨x, e, ey, er, es⟩ := hcell
  rw [e] at hq
  have hq : (if n < x.1 then eg_rd 10 x n else none) = some (.ref q) := hq
  obtain ⟨v, h1, h2⟩ := es _ (List.mem_singleton.mpr rfl) n (Nat.zero_le _) (show n ≤ 9 by omega) hn
  rw [if_pos (by rw [ey]; exact hn), h1] at hq
  cases hq
  rcases h2 with ⟨-, h2⟩ | ⟨-, q', e1, e2⟩
  · cases h2
  · cases e1
    exact e2
theorem tuC.mk {K' : et_K} {ra c tn A B C lo hi : Nat} {ls : List sp_L} (hH : et_H et_TT K G) (k_ra : K ra = some 38) (hc : c < 4) (q : et_pl (eg_at G ra) c = some (.ref tn)) (p : et_pl (eg_at G tn) 1 = some (.ref A) ∧ et_pl (eg_at G tn) 2 = some (.ref B) ∧ et_pl (eg_at G tn) 3 = some (.ref C)) (h : tlR K' G tn A B C lo hi ls) (hl : ls.length ≤ 10) : tuC K G tn ls := by
  have kt := hi_el38 hH k_ra hc q
  obtain ⟨A', e1, k1⟩ := hf_ref (t := 11) (f := 1) (u := 26) hH kt rfl rfl (.inr trivial)
  obtain ⟨B', e2, k2⟩ := hf_ref (t := 11) (f := 2) (u := 16) hH kt rfl rfl (.inr trivial)
  obtain ⟨C', e3, k3⟩ := hf_ref (t := 11) (f := 3) (u := 42) hH kt rfl rfl (.inr trivial)
  obtain rfl : A' = A := Value.ref.inj (Option.some.inj (e1.symm.trans p.1))
  obtain rfl : B' = B := Value.ref.inj (Option.some.inj (e2.symm.trans p.2.1))
  obtain rfl : C' = C := Value.ref.inj (Option.some.inj (e3.symm.trans p.2.2))
  refine ⟨A', B', C', lo, hi, ⟨kt, k1, k2, k3⟩, p, ⟨h.1, fun i l hi9 => ?_⟩, hl⟩
  obtain ⟨h1, h2, h3, h4⟩ := h.2 i l hi9
  refine ⟨h1, h2, h3, ?_⟩
  obtain ⟨hi10, -⟩ := List.getElem?_eq_some_iff.mp hi9
  cases ho : l.2.2 with
  | none =>
    rw [ho] at h4
    exact h4
  | some f =>
    rw [ho] at h4
    obtain ⟨c9, e, k, hd⟩ := h4
    exact ⟨c9, e, hi_el42 hH k3 (by omega) e, hd⟩
theorem ez0.fr {K' : et_K} {G' : eg_G} {M : et_M} (h : ez0 K G th s0 s1) (k_th : K th = some 12) (k_s0 : K s0 = some 10) (k_s1 : K s1 = some 10) (hx : et_ex K K') (hf : et_fr M K G G') (hk : ez_k M = true) : ez0 K' G' th s0 s1 := by
  obtain ⟨ya, yb, O, A, V, h1, h2, h3⟩ := h
  exact ⟨ya, yb, O, A, V, h1.ex hx, h2.fr h1 k_th k_s0 k_s1 hf hk, h3⟩
theorem ez0.zy {ai : Nat} (h : ez0 K G th s0 s1) (ka : K aw = some 46) (ki : K ai = some 47) : zy K G th s0 s1 aw ai 0 0 := by
  obtain ⟨ya, yb, O, A, V, h1, h2, h3⟩ := h
  exact ⟨ya, yb, O, A, V, ⟨h1, ka, ki⟩, h2, fun n hn => (h3 n hn).o, fun n hn => ⟨fun h => absurd h (Nat.not_lt_zero n), fun _ => h3 n (by omega)⟩, fun n hn => ⟨fun h => absurd h (Nat.not_lt_zero n), fun _ => h3 (3 + n) (by omega)⟩⟩
theorem lines_len : ∀ (n : Nat) (ls : List sp_L) (ts : List sp_T) (r : List sp_L), sp_lines n ls ts = some r → r.length ≤ ls.length + n
  | 0, _, _, _, h => by cases h
  | n + 1, ls, ts, r, h => by
    unfold sp_lines at h
    split at h
    · cases h
      simp
    · split at h
      · have h9 := lines_len n _ _ r h
        simp at h9
        omega
      · cases h
    · cases h
theorem turner_len {ts : List sp_T} {ls : List sp_L} (h : sp_turner ts = some ls) : ls.length ≤ 10 := by
  unfold sp_turner at h
  split at h
  · cases h
    exact Nat.zero_le _
  · have h9 := lines_len 10 _ _ _ h
    simpa using h9
theorem xr_m {n e : Nat} (h : x = Int32.ofNat n) (hn : n < e) (he : e ≤ 400) : xr x e := by
  subst h
  unfold xr
  rw [hs_nint (by omega)]
  omega
def eh_k (M : et_M) : Bool := no_t M 40 && (!et_mm M 10 6 && !et_mm M 12 8)
theorem ez.ho {G' : eg_G} {M : et_M} (h : ez G th s0 s1 ya yb O A V) (t : ezK K ya yb O A) (k_th : K th = some 12) (k_s0 : K s0 = some 10) (k_s1 : K s1 = some 10) (hh : hol K (O 6) (A 6 0) (A 6 1) (A 6 2) G G') (hf : et_fr M K G G') (hk : eh_k M = true) : ez G' th s0 s1 ya yb O A V := by
  unfold eh_k at hk
  rw [Bool.and_eq_true, Bool.and_eq_true] at hk
  obtain ⟨k3, k4, k5⟩ := hk
  obtain ⟨⟨h1, h2, h3⟩, h4, h5, h6⟩ := h
  have gO : ∀ m j, m < 6 → et_pl (eg_at G' (O m)) j = et_pl (eg_at G (O m)) j := fun m j hm => hh.1 _ j (t.2.1 m (by omega)).1 (fun e => absurd e.symm (t.on hm))
  have gS : ∀ j, 1 ≤ j → j ≤ 3 → et_pl (eg_at G' (O 6)) j = et_pl (eg_at G (O 6)) j := fun j j1 j2 => hh.1 _ j (t.2.1 6 (by decide)).1 (fun _ => ⟨j1, j2⟩)
  have gA : ∀ m i j, m < 6 → i < 3 → et_pl (eg_at G' (A m i)) j = et_pl (eg_at G (A m i)) j := fun m i j hm hi => hh.2 _ j ((t.2.1 m (by omega)).2 i hi) (fun e => absurd (t.2.2.2 m i 6 0 (by omega) hi (by decide) (by decide) e).1 (by omega)) (fun e => absurd (t.2.2.2 m i 6 1 (by omega) hi (by decide) (by decide) e).1 (by omega)) (fun e => absurd (t.2.2.2 m i 6 2 (by omega) hi (by decide) (by decide) e).1 (by omega))
  exact ⟨⟨(hf.2 s0 10 k_s0 6 (by simpa using k4)).trans h1, (hf.2 s1 10 k_s1 6 (by simpa using k4)).trans h2, (hf.2 th 12 k_th 8 (by simpa using k5)).trans h3⟩, fun m hm => ⟨(hf.2 ya 40 t.1.1 m (no_mm k3)).trans (h4 m hm).1, (hf.2 yb 40 t.1.2 m (no_mm k3)).trans (h4 m hm).2⟩, fun m hm => (h5 m hm).mv (fun j => gO m j hm) (fun j => gA m 0 j hm (by decide)) (fun j => gA m 1 j hm (by decide)) (fun j => gA m 2 j hm (by decide)), (gS 1 (by decide) (by decide)).trans h6.1, (gS 2 (by decide) (by decide)).trans h6.2.1, (gS 3 (by decide) (by decide)).trans h6.2.2⟩
theorem vup_o {n : Nat} {v : evT} (ho : ∀ n, n < 6 → evo (V n)) (hv : evo v) : ∀ k, k < 6 → evo (vup V n v k) := fun k hk => by
  unfold vup
  split
  · exact hv
  · exact ho k hk
theorem vup_3 {n : Nat} {v : evT} {ai ei : Nat} (h : zyM G ai ei (fun k => V (3 + k))) (hn : n < 3) : zyM G ai ei (fun k => vup V n v (3 + k)) := h.co (fun k hk => (if_neg (by omega)).symm)
/-- a new EYE -/
theorem evz.m {v : evT} {n : Nat} (h : evz v) (hz : ∀ j, j < 23 → et_pl (eg_at G aw) (45 + 23 * n + j) = some (.int (Int32.ofNat 0))) : evm G aw n v := by
  obtain ⟨h1, h2, h3, h4, h5, h6⟩ := h
  refine ⟨by rw [h1]; exact hz 0 (by decide), fun m hm => by rw [h1] at hm; exact absurd hm (Nat.not_lt_zero m), ?_⟩
  refine ⟨by rw [h3]; exact hz 19 (by decide), by first | (rw [h4]; exact hz 22 (by decide)) | (rw [h5]; exact hz 20 (by decide)), by first | (rw [h5]; exact hz 20 (by decide)) | (rw [h6]; exact hz 21 (by decide)), by first | (rw [h6]; exact hz 21 (by decide)) | (rw [h4]; exact hz 22 (by decide))⟩
theorem zyM.eye {G' : eg_G} (hm : zyM G aw ec V) (ho : ∀ n, n < 3 → evo (V n)) (he : ec < 3) (hr : owr aw (45 + 23 * ec) (45 + 23 * ec + 22) 4 G G') (hz : ∀ j, j < 23 → et_pl (eg_at G' aw) (45 + 23 * ec + j) = some (.int (Int32.ofNat 0))) : zyM G' aw (ec + 1) V := fun n hn => by
  refine ⟨fun hl => ?_, fun hl => (hm n hn).2 (by omega)⟩
  by_cases e : n = ec
  · subst e
    exact ((hm n hn).2 (Nat.le_refl _)).m hz
  · exact ((hm n hn).1 (by omega)).mv (ho n hn) (fun j hj => hr _ (by omega) (by omega))
theorem gz_eye (hH : et_H et_TT K G) (k_am : K am = some 13) (k_aw : K aw = some 46) (m1 : et_pl (eg_at G am) 1 = some (.ref aw)) (w4 : et_pl (eg_at G aw) 4 = some (.int (Int32.ofNat ec))) (hec : ec ≤ 3) (hm : zyM G aw ec V) (ho : ∀ n, n < 3 → evo (V n)) (hd : 1 ≤ d2) : et_go none d2 222 0 (eg_en (eg_mL 222) [.ref am]) [] G 0 0 (fun u => (ec < 3 → zyM u.2.1 aw (ec + 1) V) ∧ (ec = 3 → zyM u.2.1 aw ec V)) := by
  by_cases he : ec < 3
  · exact (fn_eye hH k_am k_aw m1 w4 he hd).mono (fun u hu => ⟨fun _ => hm.eye ho he hu.1 hu.2, fun h => absurd h (by omega)⟩)
  · exact (fn_eyeF hH k_am k_aw m1 w4 (by omega) hd).mono (fun u hu => ⟨fun h => absurd h he, fun _ => hm.mv ho (fun j _ _ => hu j (by omega))⟩)
theorem zy.img {K' : et_K} {G' : eg_G} {ai ei : Nat} (hk : ezK K' ya yb O A ∧ K' aw = some 46 ∧ K' ai = some 47) (hz : ez G' th s0 s1 ya yb O A (fun k => if k < 3 then V k else V (k - 3))) (ho : ∀ n, n < 6 → evo (V n)) (hm : zyM G aw ec V) (hQ : ∀ k, k < 11900 → et_pl (eg_at G' aw) k = et_pl (eg_at G aw) k ∧ et_pl (eg_at G' ai) k = et_pl (eg_at G aw) k) : zy K' G' th s0 s1 aw ai ec ec := by
  have h3 : ∀ n, n < 3 → evo (V n) := fun n hn => ho n (by omega)
  refine ⟨ya, yb, O, A, _, hk, hz, fun n hn => ?_, (hm.mv h3 (fun j _ _ => (hQ j (by omega)).1)).co (fun n hn => (if_pos hn).symm), (hm.mv h3 (fun j _ _ => (hQ j (by omega)).2)).co (fun n hn => ?_)⟩
  · try dsimp only
    split
    · exact ho n hn
    · exact ho (n - 3) (by omega)
  · try dsimp only
    rw [if_neg (by omega), show 3 + n - 3 = n by omega]
theorem zy.bk {K' : et_K} {G' : eg_G} {ai ei h : Nat} (hk : ezK K' ya yb O A ∧ K' aw = some 46 ∧ K' ai = some 47) (hz : ez G' th s0 s1 ya yb O A (if h = 0 then V else (fun k => if k < 3 then V (3 + k) else V k))) (ho : ∀ n, n < 6 → evo (V n)) (hm : zyM G aw ec V) (hi : zyM G ai ei (fun n => V (3 + n))) (hQ : ∀ k, k < 11900 → et_pl (eg_at G' aw) k = (if h = 0 then et_pl (eg_at G aw) k else et_pl (eg_at G ai) k) ∧ et_pl (eg_at G' ai) k = et_pl (eg_at G ai) k) : zy K' G' th s0 s1 aw ai (if h = 0 then ec else ei) ei := by
  have h3 : ∀ n, n < 3 → evo (V n) := fun n hn => ho n (by omega)
  have h6 : ∀ n, n < 3 → evo (V (3 + n)) := fun n hn => ho (3 + n) (by omega)
  by_cases h0 : h = 0
  · rw [if_pos h0] at hz ⊢
    refine ⟨ya, yb, O, A, V, hk, hz, ho, hm.mv h3 (fun j _ _ => ?_), hi.mv h6 (fun j _ _ => (hQ j (by omega)).2)⟩
    have := (hQ j (by omega)).1
    rw [if_pos h0] at this
    exact this
  · rw [if_neg h0] at hz ⊢
    refine ⟨ya, yb, O, A, _, hk, hz, fun n hn => ?_, (hi.mv h6 (a' := aw) (fun j _ _ => ?_)).co (fun n hn => (if_pos hn).symm), (hi.mv h6 (fun j _ _ => (hQ j (by omega)).2)).co (fun n hn => ?_)⟩
    · try dsimp only
      split
      · exact ho (3 + n) (by omega)
      · exact ho n hn
    · have := (hQ j (by omega)).1
      rw [if_neg h0] at this
      exact this
    · try dsimp only
      rw [if_neg (by omega)]
end VZA
end
