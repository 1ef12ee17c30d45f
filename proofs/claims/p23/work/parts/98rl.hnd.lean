/-! FUNCTIONAL: the class's readLine, takeTurner, turner -/
theorem wat_d {L : List sp_T} {x y : Nat} : wat (L.drop x) y = wat L (x + y) := by
  unfold wat
  rw [List.getElem?_drop]
/-- tokens stay under steps that leave the reader's arrays alone -/
theorem tk_xg {S : Nat → Nat → Prop} {K K' : et_K} {G G' : eg_G} {rd : Nat} {L : List sp_T} (h : tk K G rd L) (hH : et_H et_TT K G) (k_rd : K rd = some 7) (hx : et_ex K K') (hf : xf S G G') (hS : ∀ a j t, K a = some t → S a j → ¬ t = 41 ∧ ¬ t = 21 ∧ (a = rd → ¬ (4 ≤ j ∧ j ≤ 7))) : tk K' G' rd L := by
  obtain ⟨ta, ba, na, ⟨h1, h2, h3⟩, ⟨h4, h5, h6, h7⟩, h8, h9, h10, h11⟩ := h
  have lr := (hH.2.2 _ _ k_rd).1
  have n1 : ∀ j, ¬ S ta j := fun j hs => (hS ta j 41 h1 hs).1 rfl
  have n2 : ∀ j, ¬ S ba j := fun j hs => (hS ba j 21 h2 hs).2.1 rfl
  have n3 : ∀ j, ¬ S na j := fun j hs => (hS na j 21 h3 hs).2.1 rfl
  have nr : ∀ j, 4 ≤ j → j ≤ 7 → ¬ S rd j := fun j j1 j2 hs => (hS rd j 7 k_rd hs).2.2 rfl ⟨j1, j2⟩
  refine ⟨ta, ba, na, ⟨hx _ _ h1, hx _ _ h2, hx _ _ h3⟩, ⟨(hf.2 rd 4 lr (nr 4 (by decide) (by decide))).trans h4, (hf.2 rd 5 lr (nr 5 (by decide) (by decide))).trans h5, (hf.2 rd 6 lr (nr 6 (by decide) (by decide))).trans h6, (hf.2 rd 7 lr (nr 7 (by decide) (by decide))).trans h7⟩, h8, fun j x hj => ⟨(hf.2 ta j (hH.2.2 _ _ h1).1 (n1 j)).trans (h9 j x hj).1, (hf.2 na j (hH.2.2 _ _ h3).1 (n3 j)).trans (h9 j x hj).2⟩, (hf.2 ta _ (hH.2.2 _ _ h1).1 (n1 _)).trans h10, fun j hj => ?_⟩
  obtain ⟨q, q1, q2⟩ := h11 j hj
  exact ⟨q, q1, (hf.2 ba j (hH.2.2 _ _ h2).1 (n2 j)).trans q2⟩
/-- a condition's place in a LINE -/
def tcR (K : et_K) (G : eg_G) (C n lo hi : Nat) (o : Option (sp_E → Bool)) : Prop := match o with
  | none => et_pl (eg_at G C) n = some .null
  | some f => ∃ c : Nat, et_pl (eg_at G C) n = some (.ref c) ∧ K c = some 6 ∧ dn G 15 lo hi c f
def tlL (K : et_K) (G : eg_G) (A B C n lo hi : Nat) (l : sp_L) : Prop := et_pl (eg_at G A) n = some (.int (Int32.ofNat (if l.1 = true then 1 else 0))) ∧ et_pl (eg_at G B) n = some (.int (Int32.ofNat l.2.1)) ∧ l.2.1 ≤ 50 ∧ tcR K G C n lo hi l.2.2
/-- the LINES that stand in a TURNER -/
def tlR (K : et_K) (G : eg_G) (tn A B C lo hi : Nat) (ls : List sp_L) : Prop := et_pl (eg_at G tn) 0 = some (.int (Int32.ofNat ls.length)) ∧ ∀ i l, ls[i]? = some l → tlL K G A B C i lo hi l
theorem tcR.fr {S : Nat → Nat → Prop} {K K' : et_K} {G G' : eg_G} {C n lo hi hi' : Nat} {o : Option (sp_E → Bool)} (h : tcR K G C n lo hi o) (hx : et_ex K K') (hf : xf S G G') (hC : C < G.2) (hh : hi ≤ G.2) (hi2 : hi ≤ hi') (h1 : ¬ S C n) (h2 : ∀ a j, lo ≤ a → a < hi → ¬ S a j) : tcR K' G' C n lo hi' o := by
  cases o with
  | none => exact (hf.2 C n hC h1).trans h
  | some f =>
    obtain ⟨c, e, k, hd⟩ := h
    exact ⟨c, (hf.2 C n hC h1).trans e, hx _ _ k, (hd.fr (hf.agf hh h2).ag).wk (Nat.le_refl _) hi2⟩
theorem tlL.fr {S : Nat → Nat → Prop} {K K' : et_K} {G G' : eg_G} {A B C n lo hi hi' : Nat} {l : sp_L} (h : tlL K G A B C n lo hi l) (hx : et_ex K K') (hf : xf S G G') (hABC : A < G.2 ∧ B < G.2 ∧ C < G.2) (hh : hi ≤ G.2) (hi2 : hi ≤ hi') (h1 : ¬ S A n ∧ ¬ S B n ∧ ¬ S C n) (h2 : ∀ a j, lo ≤ a → a < hi → ¬ S a j) : tlL K' G' A B C n lo hi' l := ⟨(hf.2 A n hABC.1 h1.1).trans h.1, (hf.2 B n hABC.2.1 h1.2.1).trans h.2.1, h.2.2.1, h.2.2.2.fr hx hf hABC.2.2 hh hi2 h1.2.2 h2⟩
theorem tlR.fr {S : Nat → Nat → Prop} {K K' : et_K} {G G' : eg_G} {tn A B C lo hi hi' : Nat} {ls : List sp_L} (h : tlR K G tn A B C lo hi ls) (hx : et_ex K K') (hf : xf S G G') (ht : tn < G.2) (hABC : A < G.2 ∧ B < G.2 ∧ C < G.2) (hh : hi ≤ G.2) (hi2 : hi ≤ hi') (h1 : ∀ j, ¬ S tn j ∧ ¬ S A j ∧ ¬ S B j ∧ ¬ S C j) (h2 : ∀ a j, lo ≤ a → a < hi → ¬ S a j) : tlR K' G' tn A B C lo hi' ls := ⟨(hf.2 tn 0 ht (h1 0).1).trans h.1, fun i l hl => (h.2 i l hl).fr hx hf hABC hh hi2 (h1 i).2 h2⟩
/-- one LINE more -/
theorem tlR.snoc {S : Nat → Nat → Prop} {K K' : et_K} {G G' : eg_G} {tn A B C lo hi hi' : Nat} {ls : List sp_L} {l : sp_L} (h : tlR K G tn A B C lo hi ls) (hx : et_ex K K') (hf : xf S G G') (hABC : A < G.2 ∧ B < G.2 ∧ C < G.2) (hh : hi ≤ G.2) (hi2 : hi ≤ hi') (h1 : ∀ j, j < ls.length → ¬ S A j ∧ ¬ S B j ∧ ¬ S C j) (h2 : ∀ a j, lo ≤ a → a < hi → ¬ S a j) (h3 : et_pl (eg_at G' tn) 0 = some (.int (Int32.ofNat (ls.length + 1)))) (h4 : tlL K' G' A B C ls.length lo hi' l) : tlR K' G' tn A B C lo hi' (ls ++ [l]) := by
  refine ⟨by rw [List.length_append]; exact h3, fun i l' hl => ?_⟩
  by_cases hi3 : i < ls.length
  · rw [List.getElem?_append_left hi3] at hl
    exact (h.2 i l' hl).fr hx hf hABC hh hi2 (h1 i hi3) h2
  · rw [List.getElem?_append_right (by omega)] at hl
    have h0 : i - ls.length = 0 := by
      have := (List.getElem?_eq_some_iff.mp hl).1
      rw [List.length_singleton] at this
      omega
    rw [h0] at hl
    cases hl
    rw [show i = ls.length by omega]
    exact h4
section FLA
variable {K : et_K} {G : eg_G} {d k pc ck sk : Nat} {L : eg_Ls} {st r : List Value} {Z : eg_O → Prop} {a ci n p t : Nat} {fs : List Value}
theorem hf_aas0 {n N t u kd cj m p : Nat} {ps : List et_P} (hc : hs_o k pc = some (.aastore, p)) (hT : et_TT[t]? = some (.inr (kd, N, [(0, m, .inr (.inr (1, u)))])) ∧ et_TT[u]? = some (.inl (cj, ps))) (hk : (5 ≤ kd ∧ kd < 11) ∧ eg_el kd = cj ∧ 2 ≤ t ∧ 0 < N ∧ N ≤ 400) (hH : et_H et_TT K G) (ha : K a = some t) (hn : n < N) (h : ∀ G', et_H et_TT K G' → xf (fun c j => c = a ∧ j = n) G G' → et_pl (eg_at G' a) n = some .null → et_go none d k p L r G' ck sk Z) : et_go none d k pc L (.null :: .int (Int32.ofNat n) :: .ref a :: r) G ck sk Z := hf_aasv (ob := none) hc hT hk hH ha hn (fun b' e => by cases e) h
theorem hi_nar {t : Nat} (h : t ≤ 1) : vp_nar .boolean (Int32.ofNat t) = Int32.ofNat t := by
  have h : t = 0 ∨ t = 1 := by omega
  rcases h with rfl | rfl <;> decide +kernel
/-- a new array, and where it lies -/
theorem hf_na {n kd : Nat} (hc : hs_na k pc = some (kd, p)) (ht : et_ta et_TT kd n = some t) (hn : (Int32.ofNat n).toNatClampNeg = n ∧ 0 ≤ (Int32.ofNat n).toInt ∧ (Int32.ofNat n).toInt ≤ 65536) (h1 : ck + 1 ≤ 600002) (h2 : sk + n ≤ 7302232) (hH : et_H et_TT K G) (h : ∀ (K' : et_K) (G' : eg_G), et_ex K K' → et_H et_TT K' G' → K' G.2 = some t → (∀ a, a < G.2 → K' a = K a ∧ eg_at G' a = eg_at G a) → G'.2 = G.2 + 1 → et_go none d k p L (.ref G.2 :: r) G' (ck + 1) (sk + n) Z) : et_go none d k pc L (.int (Int32.ofNat n) :: r) G ck sk Z := by
  have key : ∀ (x : vp_A), x.1 = n → (∀ i, eg_rd kd x i = some (et_dv0 kd)) → et_go none d k p L (.ref G.2 :: r) (eg_p G (.inl (kd, x))) (ck + 1) (sk + n) Z := fun x e1 e2 => by
    obtain ⟨a1, dd, a2, a3, a4⟩ := et_ta_ok (K := K) ht hH.2.1 e1 e2
    have h3 := et_H1 (M := []) hH a1 a2 a3 (a4 _)
    exact h _ _ h3.1 h3.2.2 (if_pos rfl) (fun a ha => ⟨if_neg (Nat.ne_of_lt ha), et_at_p ha⟩) rfl
  have h12 : ck + 1 ≤ eg_MC ∧ sk + n ≤ eg_MS := ⟨h1, h2⟩
  unfold hs_na at hc
  split at hc
  · rename_i t e
    split at hc
    · rename_i kd' f hna
      cases hc
      refine hs_st e rfl ?_ (key (f n) ?_ ?_)
      · dsimp only [eg_st]
        rw [hna]
        dsimp only
        rw [if_pos hn.2, hn.1]
        unfold eg_al
        rw [if_pos h12]
      · unfold eg_na at hna
        split at hna <;> cases hna <;> rfl
      · intro i
        unfold eg_na at hna
        split at hna <;> cases hna <;> rfl
    · cases hc
  · rename_i i e
    split at hc
    · rename_i cj hcj
      split at hc
      · rename_i h0
        cases hc
        refine hs_st e rfl ?_ (key (n, .inr (.inr (.inr (.inr (fun _ => none))))) rfl (fun i => ?_))
        · dsimp only [eg_st]
          rw [hcj]
          dsimp only
          rw [if_pos ⟨hn.2.1, hn.2.2, h0⟩, hn.1]
          unfold eg_al
          rw [if_pos h12]
        · unfold eg_rd et_dv0
          dsimp only
          rw [if_pos h0.1, if_neg (by omega), if_pos h0.1]
          rfl
      · cases hc
    · cases hc
  · cases hc
theorem fu_turner {d2 : Nat} (h : pu K G a 9 [.int 0, .null, .null, .null]) : et_go none d2 112 0 (eg_en (eg_mL 112) [.ref a]) [] G 0 0 (fuZ K G a 11 3 30 (fun K' G' => et_pl (eg_at G' a) 0 = some (.int (Int32.ofNat 0)) ∧ ∃ A B C : Nat, et_pl (eg_at G' a) 1 = some (.ref A) ∧ et_pl (eg_at G' a) 2 = some (.ref B) ∧ et_pl (eg_at G' a) 3 = some (.ref C) ∧ K' A = some 26 ∧ K' B = some 16 ∧ K' C = some 42 ∧ G.2 ≤ A ∧ G.2 ≤ B ∧ G.2 ≤ C)) := by
  rw [show eg_mL 112 = 1 from by decide +kernel]
  show et_go none d2 112 0 [some (.ref a)] [] G 0 0 _
  refine hs_aload (i := 0) (p := 1) (by decide +kernel) rfl ?_
  refine hs_skip (lk := 1) (p := 4) (by decide +kernel) rfl rfl ?_
  refine hs_aload (i := 0) (p := 5) (by decide +kernel) rfl ?_
  refine hs_k (x := Int32.ofNat 10) (p := 7) (by decide +kernel) ?_
  refine hf_na (kd := 3) (t := 26) (p := 9) (by decide +kernel) (by decide +kernel) (by decide) (by omega) (by omega) h.1 (fun K1 G1 x1 hH1 k1 e1 l1 => ?_)
  have h1 := pu_ex h e1 (by rw [l1]; exact Nat.lt_succ_self _) hH1
  refine hs_putj (ci := 9) (f := 1) (ty := .array .boolean) (p := 12) (by decide +kernel) h1.2.2.2.2 ⟨h1.2.2.1, h1.2.2.2.1⟩ (Nat.le_of_ble_eq_true rfl) rfl ?_
  obtain ⟨h2, f2⟩ := pu_put (f := 1) (v := .ref G.2) h1
  refine hs_aload (i := 0) (p := 13) (by decide +kernel) rfl ?_
  refine hs_k (x := Int32.ofNat 10) (p := 15) (by decide +kernel) ?_
  refine hf_na (kd := 0) (t := 16) (p := 17) (by decide +kernel) (by decide +kernel) (by decide) (by omega) (by omega) h2.1 (fun K3 G3 x3 hH3 k3 e3 l3 => ?_)
  have h3 := pu_ex h2 e3 (by rw [l3]; exact Nat.lt_succ_self _) hH3
  have l3 : G3.2 = G1.2 + 1 := l3
  refine hs_putj (ci := 9) (f := 2) (ty := .array .int) (p := 20) (by decide +kernel) h3.2.2.2.2 ⟨h3.2.2.1, h3.2.2.2.1⟩ (Nat.le_of_ble_eq_true rfl) rfl ?_
  obtain ⟨h4, f4⟩ := pu_put (f := 2) (v := .ref G1.2) h3
  refine hs_aload (i := 0) (p := 21) (by decide +kernel) rfl ?_
  refine hs_k (x := Int32.ofNat 10) (p := 23) (by decide +kernel) ?_
  refine hf_na (kd := 10) (t := 42) (p := 26) (by decide +kernel) (by decide +kernel) (by decide) (by omega) (by omega) h4.1 (fun K5 G5 x5 hH5 k5 e5 l5 => ?_)
  have h5 := pu_ex h4 e5 (by rw [l5]; exact Nat.lt_succ_self _) hH5
  refine hs_putj (ci := 9) (f := 3) (ty := .array (.object "KnobEye$Node")) (p := 29) (by decide +kernel) h5.2.2.2.2 ⟨h5.2.2.1, h5.2.2.2.1⟩ (Nat.le_of_ble_eq_true rfl) rfl ?_
  obtain ⟨h6, f6⟩ := pu_put (f := 3) (v := .ref G3.2) h5
  obtain ⟨x7, hH7, k7⟩ := pu_typ (t := 11) h6 (by decide) rfl ⟨_, rfl, rfl, fun k p hk => by
    match k, hk with
    | 0, hk => cases hk; exact ⟨_, rfl, .inr ⟨0, rfl, by decide, by decide⟩⟩
    | 1, hk => cases hk; exact ⟨_, rfl, .inr (.inr ⟨by decide, _, rfl, x5 _ _ (x3 _ _ k1)⟩)⟩
    | 2, hk => cases hk; exact ⟨_, rfl, .inr (.inr ⟨by decide, _, rfl, x5 _ _ k3⟩)⟩
    | 3, hk => cases hk; exact ⟨_, rfl, .inr (.inr ⟨by decide, _, rfl, k5⟩)⟩
    | n + 4, hk => cases hk⟩ ⟨by decide, by decide⟩
  refine hs_vret (by decide +kernel) ?_
  have xx := x1.tr x3
  have e := h6.2.2.2.2
  have l5 : G5.2 = G3.2 + 1 := l5
  have y1 : xf (fun b _ => b = a) G G1 := ⟨by omega, fun b i hb _ => congrArg (fun c => et_pl c i) (e1 b hb).2⟩
  have y3 : xf (fun b _ => b = a) (eg_u G1 a (.inr (9, [.int 0, .ref G.2, .null, .null]))) G3 := ⟨(by show G1.2 ≤ G3.2; omega), fun b i hb _ => congrArg (fun c => et_pl c i) (e3 b hb).2⟩
  have y5 : xf (fun b _ => b = a) (eg_u G3 a (.inr (9, [.int 0, .ref G.2, .ref G1.2, .null]))) G5 := ⟨(by show G3.2 ≤ G5.2; omega), fun b i hb _ => congrArg (fun c => et_pl c i) (e5 b hb).2⟩
  refine ⟨_, _, rfl, (xx.tr x5).tr x7, hH7, k7, ((((y1.tr xf_u (fun _ _ _ h => h)).tr y3 (fun _ _ _ h => h)).tr xf_u (fun _ _ _ h => h)).tr y5 (fun _ _ _ h => h)).tr xf_u (fun _ _ _ h => h), (congrArg (fun c => et_pl c 0) e).trans rfl, _, _, _, (congrArg (fun c => et_pl c 1) e).trans rfl, (congrArg (fun c => et_pl c 2) e).trans rfl, (congrArg (fun c => et_pl c 3) e).trans rfl, x7 _ _ (x5 _ _ (x3 _ _ k1)), x7 _ _ (x5 _ _ k3), x7 _ _ k5, Nat.le_refl _, (by show G.2 ≤ G1.2; omega), (by show G.2 ≤ G3.2; omega)⟩
end FLA
section FLB
variable {K K0 : et_K} {G G0 : eg_G} {L : List sp_T} {d2 d rd x tn A B C k t v b cc i th s0 ra ca c : Nat} {ls : List sp_L} {bt : Nat → Nat} {ck sk : Nat}
theorem tl_b {b : Bool} {t A k : Nat} {G : eg_G} (hb : t = if b = true then 1 else 0) (h : et_pl (eg_at G A) k = some (.int (Int32.ofNat t))) : et_pl (eg_at G A) k = some (.int (Int32.ofNat (if b = true then 1 else 0))) := hb ▸ h
theorem rx_3 {a rd j : Nat} (h : (a = rd ∧ (2 ≤ j ∧ j ≤ 3)) ∨ (a = rd ∧ j = 8)) : a = rd ∧ (j = 2 ∨ j = 3 ∨ j = 8) := by omega

theorem fc_addL0 (hH : et_H et_TT K G) (k_tn : K tn = some 11) (t0 : et_pl (eg_at G tn) 0 = some (.int (Int32.ofNat k))) (hk : k < 10) (t1 : et_pl (eg_at G tn) 1 = some (.ref A)) (t2 : et_pl (eg_at G tn) 2 = some (.ref B)) (t3 : et_pl (eg_at G tn) 3 = some (.ref C)) (k_A : K A = some 26) (k_B : K B = some 16) (k_C : K C = some 42) (ht : t ≤ 1) : et_go none d2 113 0 (eg_en (eg_mL 113) [.ref tn, .int (Int32.ofNat t), .int (Int32.ofNat v), .null]) [] G 0 0 (xw_Z (fun b j => (b = tn ∧ j = 0) ∨ ((b = A ∧ j = k) ∨ ((b = B ∧ j = k) ∨ ((b = C ∧ j = k))))) K G (fun G' r => r = none ∧ et_pl (eg_at G' tn) 0 = some (.int (Int32.ofNat (k + 1))) ∧ et_pl (eg_at G' A) k = some (.int (Int32.ofNat t)) ∧ et_pl (eg_at G' B) k = some (.int (Int32.ofNat v)) ∧ et_pl (eg_at G' C) k = some (.null))) := by
  rw [show eg_mL 113 = 4 from by decide +kernel]
  show et_go none d2 113 0 [some (.ref tn), some (.int (Int32.ofNat t)), some (.int (Int32.ofNat v)), some (.null)] [] G 0 0 (xw_Z _ _ _ _)
  have lt_tn := (hH.2.2 _ _ k_tn).1
  have lt_A := (hH.2.2 _ _ k_A).1
  have lt_B := (hH.2.2 _ _ k_B).1
  have lt_C := (hH.2.2 _ _ k_C).1
  have hX : xf (fun b j => (b = tn ∧ j = 0) ∨ ((b = A ∧ j = k) ∨ ((b = B ∧ j = k) ∨ ((b = C ∧ j = k))))) G G := xf.rf
  refine hs_aload (i := 0) (p := 1) (by decide +kernel) rfl ?_
  refine hf_get (T := et_TT) (t := 11) (ci := 9) (f := 0) (p := 4) (by decide +kernel) rfl hH k_tn t0 ?_
  refine hs_k (x := Int32.ofNat 10) (p := 6) (by decide +kernel) ?_
  refine hs_br2n (c := .ge) (t := 49) (f := 9) (by decide +kernel) (by omega) (by omega) (fun (c6 : 10 ≤ k) => ?_) (fun (c6 : ¬ (10 ≤ k)) => ?_)
  · exact absurd c6 (by omega)
  · refine hs_aload (i := 0) (p := 10) (by decide +kernel) rfl ?_
    refine hf_get (T := et_TT) (t := 11) (ci := 9) (f := 1) (p := 13) (by decide +kernel) rfl hH k_tn t1 ?_
    refine hs_aload (i := 0) (p := 14) (by decide +kernel) rfl ?_
    refine hf_get (T := et_TT) (t := 11) (ci := 9) (f := 0) (p := 17) (by decide +kernel) rfl hH k_tn t0 ?_
    refine hs_iload (i := 1) (p := 18) (by decide +kernel) rfl ?_
    refine hf_zst (T := et_TT) (t := 26) (N := 10) (p := 19) (by decide +kernel) rfl rfl (hi_nar ht) hH k_A (by omega) (by decide) (fun s hs _ _ => by rw [List.mem_singleton] at hs; subst hs; exact hi_nv (by omega) (by omega)) (fun G18 hH x18 e18 => ?_)
    have t0 := (x18.2 tn 0 lt_tn (fun h => (hi_ne k_tn k_A (by decide)) h.1)).trans t0
    have t1 := (x18.2 tn 1 lt_tn (fun h => (hi_ne k_tn k_A (by decide)) h.1)).trans t1
    have t2 := (x18.2 tn 2 lt_tn (fun h => (hi_ne k_tn k_A (by decide)) h.1)).trans t2
    have t3 := (x18.2 tn 3 lt_tn (fun h => (hi_ne k_tn k_A (by decide)) h.1)).trans t3
    have lt_tn := Nat.lt_of_lt_of_le lt_tn x18.1
    have lt_A := Nat.lt_of_lt_of_le lt_A x18.1
    have lt_B := Nat.lt_of_lt_of_le lt_B x18.1
    have lt_C := Nat.lt_of_lt_of_le lt_C x18.1
    have hX := hX.tr x18 (fun b j hb h => by first | omega | (dsimp only at h ⊢; omega) | (dsimp only at h; omega) | (dsimp only; omega))
    refine hs_aload (i := 0) (p := 20) (by decide +kernel) rfl ?_
    refine hf_get (T := et_TT) (t := 11) (ci := 9) (f := 2) (p := 23) (by decide +kernel) rfl hH k_tn t2 ?_
    refine hs_aload (i := 0) (p := 24) (by decide +kernel) rfl ?_
    refine hf_get (T := et_TT) (t := 11) (ci := 9) (f := 0) (p := 27) (by decide +kernel) rfl hH k_tn t0 ?_
    refine hs_iload (i := 2) (p := 28) (by decide +kernel) rfl ?_
    refine hf_ist (T := et_TT) (t := 16) (N := 10) (p := 29) (by decide +kernel) rfl rfl (by decide) hH k_B (by omega) (by decide) (fun s hs => absurd hs List.not_mem_nil) (fun G28 hH x28 e28 => ?_)
    have t0 := (x28.2 tn 0 lt_tn (fun h => (hi_ne k_tn k_B (by decide)) h.1)).trans t0
    have t1 := (x28.2 tn 1 lt_tn (fun h => (hi_ne k_tn k_B (by decide)) h.1)).trans t1
    have t2 := (x28.2 tn 2 lt_tn (fun h => (hi_ne k_tn k_B (by decide)) h.1)).trans t2
    have t3 := (x28.2 tn 3 lt_tn (fun h => (hi_ne k_tn k_B (by decide)) h.1)).trans t3
    have e18 := (x28.2 A k lt_A (fun h => (hi_ne k_A k_B (by decide)) h.1)).trans e18
    have lt_tn := Nat.lt_of_lt_of_le lt_tn x28.1
    have lt_A := Nat.lt_of_lt_of_le lt_A x28.1
    have lt_B := Nat.lt_of_lt_of_le lt_B x28.1
    have lt_C := Nat.lt_of_lt_of_le lt_C x28.1
    have hX := hX.tr x28 (fun b j hb h => by first | omega | (dsimp only at h ⊢; omega) | (dsimp only at h; omega) | (dsimp only; omega))
    refine hs_aload (i := 0) (p := 30) (by decide +kernel) rfl ?_
    refine hf_get (T := et_TT) (t := 11) (ci := 9) (f := 3) (p := 33) (by decide +kernel) rfl hH k_tn t3 ?_
    refine hs_aload (i := 0) (p := 34) (by decide +kernel) rfl ?_
    refine hf_get (T := et_TT) (t := 11) (ci := 9) (f := 0) (p := 37) (by decide +kernel) rfl hH k_tn t0 ?_
    refine hs_aload0 (i := 3) (p := 38) (by decide +kernel) rfl ?_
    refine hf_aas0 (t := 42) (u := 6) (N := 10) (kd := 10) (cj := 4) (p := 39) (by decide +kernel) ⟨rfl, rfl⟩ (by decide +kernel) hH k_C (by omega) (fun G38 hH x38 e38 => ?_)
    have t0 := (x38.2 tn 0 lt_tn (fun h => (hi_ne k_tn k_C (by decide)) h.1)).trans t0
    have t1 := (x38.2 tn 1 lt_tn (fun h => (hi_ne k_tn k_C (by decide)) h.1)).trans t1
    have t2 := (x38.2 tn 2 lt_tn (fun h => (hi_ne k_tn k_C (by decide)) h.1)).trans t2
    have t3 := (x38.2 tn 3 lt_tn (fun h => (hi_ne k_tn k_C (by decide)) h.1)).trans t3
    have e18 := (x38.2 A k lt_A (fun h => (hi_ne k_A k_C (by decide)) h.1)).trans e18
    have e28 := (x38.2 B k lt_B (fun h => (hi_ne k_B k_C (by decide)) h.1)).trans e28
    have lt_tn := Nat.lt_of_lt_of_le lt_tn x38.1
    have lt_A := Nat.lt_of_lt_of_le lt_A x38.1
    have lt_B := Nat.lt_of_lt_of_le lt_B x38.1
    have lt_C := Nat.lt_of_lt_of_le lt_C x38.1
    have hX := hX.tr x38 (fun b j hb h => by first | omega | (dsimp only at h ⊢; omega) | (dsimp only at h; omega) | (dsimp only; omega))
    refine hs_aload (i := 0) (p := 40) (by decide +kernel) rfl ?_
    refine hs_dup1 (p := 41) (by decide +kernel) ?_
    refine hf_get (T := et_TT) (t := 11) (ci := 9) (f := 0) (p := 44) (by decide +kernel) rfl hH k_tn t0 ?_
    refine hs_k (x := Int32.ofNat 1) (p := 45) (by decide +kernel) ?_
    refine hs_iaddn (p := 46) (by decide +kernel) ?_
    refine hf_put (T := et_TT) (t := 11) (ci := 9) (f := 0) (p := 49) (ty := .int) (by decide +kernel) rfl rfl rfl rfl rfl hH k_tn (hi_nv (by omega) (by omega)) (fun G46 hH x46 e46 => ?_)
    have t1 := (x46.2 tn 1 lt_tn (fun h => absurd h.2 (by decide))).trans t1
    have t2 := (x46.2 tn 2 lt_tn (fun h => absurd h.2 (by decide))).trans t2
    have t3 := (x46.2 tn 3 lt_tn (fun h => absurd h.2 (by decide))).trans t3
    have e18 := (x46.2 A k lt_A (fun h => (hi_ne k_A k_tn (by decide)) h.1)).trans e18
    have e28 := (x46.2 B k lt_B (fun h => (hi_ne k_B k_tn (by decide)) h.1)).trans e28
    have e38 := (x46.2 C k lt_C (fun h => (hi_ne k_C k_tn (by decide)) h.1)).trans e38
    have lt_tn := Nat.lt_of_lt_of_le lt_tn x46.1
    have lt_A := Nat.lt_of_lt_of_le lt_A x46.1
    have lt_B := Nat.lt_of_lt_of_le lt_B x46.1
    have lt_C := Nat.lt_of_lt_of_le lt_C x46.1
    have hX := hX.tr x46 (fun b j hb h => by first | omega | (dsimp only at h ⊢; omega) | (dsimp only at h; omega) | (dsimp only; omega))
    refine hs_vret (by decide +kernel) ?_
    exact ⟨_, _, rfl, hH, hX, rfl, e46, e18, e28, e38⟩
theorem fc_addL1 (hH : et_H et_TT K G) (k_tn : K tn = some 11) (t0 : et_pl (eg_at G tn) 0 = some (.int (Int32.ofNat k))) (hk : k < 10) (t1 : et_pl (eg_at G tn) 1 = some (.ref A)) (t2 : et_pl (eg_at G tn) 2 = some (.ref B)) (t3 : et_pl (eg_at G tn) 3 = some (.ref C)) (k_A : K A = some 26) (k_B : K B = some 16) (k_C : K C = some 42) (ht : t ≤ 1) (k_cc : K cc = some 6) : et_go none d2 113 0 (eg_en (eg_mL 113) [.ref tn, .int (Int32.ofNat t), .int (Int32.ofNat v), .ref cc]) [] G 0 0 (xw_Z (fun b j => (b = tn ∧ j = 0) ∨ ((b = A ∧ j = k) ∨ ((b = B ∧ j = k) ∨ ((b = C ∧ j = k))))) K G (fun G' r => r = none ∧ et_pl (eg_at G' tn) 0 = some (.int (Int32.ofNat (k + 1))) ∧ et_pl (eg_at G' A) k = some (.int (Int32.ofNat t)) ∧ et_pl (eg_at G' B) k = some (.int (Int32.ofNat v)) ∧ et_pl (eg_at G' C) k = some (.ref cc))) := by
  rw [show eg_mL 113 = 4 from by decide +kernel]
  show et_go none d2 113 0 [some (.ref tn), some (.int (Int32.ofNat t)), some (.int (Int32.ofNat v)), some (.ref cc)] [] G 0 0 (xw_Z _ _ _ _)
  have lt_tn := (hH.2.2 _ _ k_tn).1
  have lt_A := (hH.2.2 _ _ k_A).1
  have lt_B := (hH.2.2 _ _ k_B).1
  have lt_C := (hH.2.2 _ _ k_C).1
  have lt_cc := (hH.2.2 _ _ k_cc).1
  have hX : xf (fun b j => (b = tn ∧ j = 0) ∨ ((b = A ∧ j = k) ∨ ((b = B ∧ j = k) ∨ ((b = C ∧ j = k))))) G G := xf.rf
  refine hs_aload (i := 0) (p := 1) (by decide +kernel) rfl ?_
  refine hf_get (T := et_TT) (t := 11) (ci := 9) (f := 0) (p := 4) (by decide +kernel) rfl hH k_tn t0 ?_
  refine hs_k (x := Int32.ofNat 10) (p := 6) (by decide +kernel) ?_
  refine hs_br2n (c := .ge) (t := 49) (f := 9) (by decide +kernel) (by omega) (by omega) (fun (c6 : 10 ≤ k) => ?_) (fun (c6 : ¬ (10 ≤ k)) => ?_)
  · exact absurd c6 (by omega)
  · refine hs_aload (i := 0) (p := 10) (by decide +kernel) rfl ?_
    refine hf_get (T := et_TT) (t := 11) (ci := 9) (f := 1) (p := 13) (by decide +kernel) rfl hH k_tn t1 ?_
    refine hs_aload (i := 0) (p := 14) (by decide +kernel) rfl ?_
    refine hf_get (T := et_TT) (t := 11) (ci := 9) (f := 0) (p := 17) (by decide +kernel) rfl hH k_tn t0 ?_
    refine hs_iload (i := 1) (p := 18) (by decide +kernel) rfl ?_
    refine hf_zst (T := et_TT) (t := 26) (N := 10) (p := 19) (by decide +kernel) rfl rfl (hi_nar ht) hH k_A (by omega) (by decide) (fun s hs _ _ => by rw [List.mem_singleton] at hs; subst hs; exact hi_nv (by omega) (by omega)) (fun G18 hH x18 e18 => ?_)
    have t0 := (x18.2 tn 0 lt_tn (fun h => (hi_ne k_tn k_A (by decide)) h.1)).trans t0
    have t1 := (x18.2 tn 1 lt_tn (fun h => (hi_ne k_tn k_A (by decide)) h.1)).trans t1
    have t2 := (x18.2 tn 2 lt_tn (fun h => (hi_ne k_tn k_A (by decide)) h.1)).trans t2
    have t3 := (x18.2 tn 3 lt_tn (fun h => (hi_ne k_tn k_A (by decide)) h.1)).trans t3
    have lt_tn := Nat.lt_of_lt_of_le lt_tn x18.1
    have lt_A := Nat.lt_of_lt_of_le lt_A x18.1
    have lt_B := Nat.lt_of_lt_of_le lt_B x18.1
    have lt_C := Nat.lt_of_lt_of_le lt_C x18.1
    have lt_cc := Nat.lt_of_lt_of_le lt_cc x18.1
    have hX := hX.tr x18 (fun b j hb h => by first | omega | (dsimp only at h ⊢; omega) | (dsimp only at h; omega) | (dsimp only; omega))
    refine hs_aload (i := 0) (p := 20) (by decide +kernel) rfl ?_
    refine hf_get (T := et_TT) (t := 11) (ci := 9) (f := 2) (p := 23) (by decide +kernel) rfl hH k_tn t2 ?_
    refine hs_aload (i := 0) (p := 24) (by decide +kernel) rfl ?_
    refine hf_get (T := et_TT) (t := 11) (ci := 9) (f := 0) (p := 27) (by decide +kernel) rfl hH k_tn t0 ?_
    refine hs_iload (i := 2) (p := 28) (by decide +kernel) rfl ?_
    refine hf_ist (T := et_TT) (t := 16) (N := 10) (p := 29) (by decide +kernel) rfl rfl (by decide) hH k_B (by omega) (by decide) (fun s hs => absurd hs List.not_mem_nil) (fun G28 hH x28 e28 => ?_)
    have t0 := (x28.2 tn 0 lt_tn (fun h => (hi_ne k_tn k_B (by decide)) h.1)).trans t0
    have t1 := (x28.2 tn 1 lt_tn (fun h => (hi_ne k_tn k_B (by decide)) h.1)).trans t1
    have t2 := (x28.2 tn 2 lt_tn (fun h => (hi_ne k_tn k_B (by decide)) h.1)).trans t2
    have t3 := (x28.2 tn 3 lt_tn (fun h => (hi_ne k_tn k_B (by decide)) h.1)).trans t3
    have e18 := (x28.2 A k lt_A (fun h => (hi_ne k_A k_B (by decide)) h.1)).trans e18
    have lt_tn := Nat.lt_of_lt_of_le lt_tn x28.1
    have lt_A := Nat.lt_of_lt_of_le lt_A x28.1
    have lt_B := Nat.lt_of_lt_of_le lt_B x28.1
    have lt_C := Nat.lt_of_lt_of_le lt_C x28.1
    have lt_cc := Nat.lt_of_lt_of_le lt_cc x28.1
    have hX := hX.tr x28 (fun b j hb h => by first | omega | (dsimp only at h ⊢; omega) | (dsimp only at h; omega) | (dsimp only; omega))
    refine hs_aload (i := 0) (p := 30) (by decide +kernel) rfl ?_
    refine hf_get (T := et_TT) (t := 11) (ci := 9) (f := 3) (p := 33) (by decide +kernel) rfl hH k_tn t3 ?_
    refine hs_aload (i := 0) (p := 34) (by decide +kernel) rfl ?_
    refine hf_get (T := et_TT) (t := 11) (ci := 9) (f := 0) (p := 37) (by decide +kernel) rfl hH k_tn t0 ?_
    refine hs_aload (i := 3) (p := 38) (by decide +kernel) rfl ?_
    refine hf_aas1 (t := 42) (u := 6) (N := 10) (kd := 10) (cj := 4) (p := 39) (by decide +kernel) ⟨rfl, rfl⟩ (by decide +kernel) hH k_C (by omega) k_cc (fun G38 hH x38 e38 => ?_)
    have t0 := (x38.2 tn 0 lt_tn (fun h => (hi_ne k_tn k_C (by decide)) h.1)).trans t0
    have t1 := (x38.2 tn 1 lt_tn (fun h => (hi_ne k_tn k_C (by decide)) h.1)).trans t1
    have t2 := (x38.2 tn 2 lt_tn (fun h => (hi_ne k_tn k_C (by decide)) h.1)).trans t2
    have t3 := (x38.2 tn 3 lt_tn (fun h => (hi_ne k_tn k_C (by decide)) h.1)).trans t3
    have e18 := (x38.2 A k lt_A (fun h => (hi_ne k_A k_C (by decide)) h.1)).trans e18
    have e28 := (x38.2 B k lt_B (fun h => (hi_ne k_B k_C (by decide)) h.1)).trans e28
    have lt_tn := Nat.lt_of_lt_of_le lt_tn x38.1
    have lt_A := Nat.lt_of_lt_of_le lt_A x38.1
    have lt_B := Nat.lt_of_lt_of_le lt_B x38.1
    have lt_C := Nat.lt_of_lt_of_le lt_C x38.1
    have lt_cc := Nat.lt_of_lt_of_le lt_cc x38.1
    have hX := hX.tr x38 (fun b j hb h => by first | omega | (dsimp only at h ⊢; omega) | (dsimp only at h; omega) | (dsimp only; omega))
    refine hs_aload (i := 0) (p := 40) (by decide +kernel) rfl ?_
    refine hs_dup1 (p := 41) (by decide +kernel) ?_
    refine hf_get (T := et_TT) (t := 11) (ci := 9) (f := 0) (p := 44) (by decide +kernel) rfl hH k_tn t0 ?_
    refine hs_k (x := Int32.ofNat 1) (p := 45) (by decide +kernel) ?_
    refine hs_iaddn (p := 46) (by decide +kernel) ?_
    refine hf_put (T := et_TT) (t := 11) (ci := 9) (f := 0) (p := 49) (ty := .int) (by decide +kernel) rfl rfl rfl rfl rfl hH k_tn (hi_nv (by omega) (by omega)) (fun G46 hH x46 e46 => ?_)
    have t1 := (x46.2 tn 1 lt_tn (fun h => absurd h.2 (by decide))).trans t1
    have t2 := (x46.2 tn 2 lt_tn (fun h => absurd h.2 (by decide))).trans t2
    have t3 := (x46.2 tn 3 lt_tn (fun h => absurd h.2 (by decide))).trans t3
    have e18 := (x46.2 A k lt_A (fun h => (hi_ne k_A k_tn (by decide)) h.1)).trans e18
    have e28 := (x46.2 B k lt_B (fun h => (hi_ne k_B k_tn (by decide)) h.1)).trans e28
    have e38 := (x46.2 C k lt_C (fun h => (hi_ne k_C k_tn (by decide)) h.1)).trans e38
    have lt_tn := Nat.lt_of_lt_of_le lt_tn x46.1
    have lt_A := Nat.lt_of_lt_of_le lt_A x46.1
    have lt_B := Nat.lt_of_lt_of_le lt_B x46.1
    have lt_C := Nat.lt_of_lt_of_le lt_C x46.1
    have lt_cc := Nat.lt_of_lt_of_le lt_cc x46.1
    have hX := hX.tr x46 (fun b j hb h => by first | omega | (dsimp only at h ⊢; omega) | (dsimp only at h; omega) | (dsimp only; omega))
    refine hs_vret (by decide +kernel) ?_
    exact ⟨_, _, rfl, hH, hX, rfl, e46, e18, e28, e38⟩
def lnZ (rd tn A B C k : Nat) (L : List sp_T) (S : Nat → Nat → Prop) (K : et_K) (G : eg_G) (sp : Option (sp_L × List sp_T)) (u : eg_O) : Prop := ∃ (K' : et_K) (G' : eg_G) (c s : Nat), u = (.inl none, G', c, s) ∧ et_ex K K' ∧ et_H et_TT K' G' ∧ xf S G G' ∧ ((sp = none ∧ ∃ q, q ≤ 400 ∧ et_pl (eg_at G' rd) 2 = some (.int (Int32.ofNat q))) ∨ ∃ (l : sp_L) (y : Nat), sp = some (l, L.drop y) ∧ y ≤ L.length ∧ et_pl (eg_at G' rd) 8 = some (.int (Int32.ofNat y)) ∧ et_pl (eg_at G' rd) 2 = some (.int (-1)) ∧ et_pl (eg_at G' tn) 0 = some (.int (Int32.ofNat (k + 1))) ∧ tlL K' G' A B C k G.2 G'.2 l)
set_option maxHeartbeats 4000000 in
theorem fc_line (hH : et_H et_TT K G) (k_rd : K rd = some 7) (htk : tk K G rd L) (htl : tl L) (r8 : et_pl (eg_at G rd) 8 = some (.int (Int32.ofNat x))) (hx : x ≤ L.length) (r2 : et_pl (eg_at G rd) 2 = some (.int (-1))) (k_tn : K tn = some 11) (t0 : et_pl (eg_at G tn) 0 = some (.int (Int32.ofNat k))) (t1 : et_pl (eg_at G tn) 1 = some (.ref A)) (t2 : et_pl (eg_at G tn) 2 = some (.ref B)) (t3 : et_pl (eg_at G tn) 3 = some (.ref C)) (k_A : K A = some 26) (k_B : K B = some 16) (k_C : K C = some 42) (hk : k ≤ 10) (hd : 26 ≤ d2) : et_go none d2 85 0 (eg_en (eg_mL 85) [.ref rd, .ref tn]) [] G 0 0 (lnZ rd tn A B C k L (fun b j => (b = rd ∧ (2 ≤ j ∧ j ≤ 3)) ∨ ((b = rd ∧ j = 8) ∨ ((b = tn ∧ j = 0) ∨ ((b = A ∧ j = k) ∨ ((b = B ∧ j = k) ∨ ((b = C ∧ j = k))))))) K G (if k = 10 then none else sp_line (L.drop x))) := by
  obtain ⟨d, rfl⟩ : ∃ d, d2 = d + 26 := ⟨d2 - 26, by omega⟩
  rw [show eg_mL 85 = 5 from by decide +kernel]
  show et_go none (d + 26) 85 0 [some (.ref rd), some (.ref tn), none, none, none] [] G 0 0 (lnZ _ _ _ _ _ _ _ _ _ _ _)
  have lt_rd := (hH.2.2 _ _ k_rd).1
  have lt_tn := (hH.2.2 _ _ k_tn).1
  have lt_A := (hH.2.2 _ _ k_A).1
  have lt_B := (hH.2.2 _ _ k_B).1
  have lt_C := (hH.2.2 _ _ k_C).1
  have hX : xf (fun b j => (b = rd ∧ (2 ≤ j ∧ j ≤ 3)) ∨ ((b = rd ∧ j = 8) ∨ ((b = tn ∧ j = 0) ∨ ((b = A ∧ j = k) ∨ ((b = B ∧ j = k) ∨ ((b = C ∧ j = k))))))) G G := xf.rf
  have hx0 : et_ex K K := et_ex.rf
  have hl4 : L.length ≤ 400 := by obtain ⟨_, _, _, _, _, h, _⟩ := htk; exact h
  have lr_rd := lt_rd
  have lr_tn := lt_tn
  have lr_A := lt_A
  have lr_B := lt_B
  have lr_C := lt_C
  refine hs_aload (i := 0) (p := 1) (by decide +kernel) rfl ?_
  refine hs_gst (v := Value.ref 29) (p := 4) (by decide +kernel) ?_
  refine ht_callv (T := et_TT) (t := 7) (mi := 78) (na := 1) (ci := 5) (lk := 5) (lm := 2) (L0 := eg_en (eg_mL 78) [.ref rd, .ref 29]) (by decide +kernel) rfl hH k_rd rfl rfl rfl rfl rfl (by rw [show eg_mL 78 = 2 from by decide +kernel]; first | done | rfl) ?_
  refine (fc_is hH k_rd htk htl r8 (by omega) (wd := 29) (by decide)).mono (fun u hu => xp_cb hu ?_)
  by_cases i4 : wat L x = 29
  · rw [if_pos i4]
    have il4 : x < L.length := wat_i (by rw [i4]; decide)
    show et_go none _ 85 7 _ [.int (Int32.ofNat 1)] _ _ _ _
    refine hs_istore (i := 2) (p := 8) (by decide +kernel) (Nat.le_of_ble_eq_true rfl) ?_
    refine hs_aload (i := 1) (p := 9) (by decide +kernel) rfl ?_
    refine hf_get (T := et_TT) (t := 11) (ci := 9) (f := 0) (p := 12) (by decide +kernel) rfl hH k_tn t0 ?_
    refine hs_k (x := Int32.ofNat 10) (p := 14) (by decide +kernel) ?_
    refine hs_br2n (c := .ge) (t := 31) (f := 17) (by decide +kernel) (by omega) (by omega) (fun (c14 : 10 ≤ k) => ?_) (fun (c14 : ¬ (10 ≤ k)) => ?_)
    · refine hs_aload (i := 0) (p := 32) (by decide +kernel) rfl ?_
      have hHo := hH
      refine ht_callv (T := et_TT) (t := 7) (mi := 76) (na := 0) (ci := 5) (lk := 5) (lm := 1) (L0 := eg_en (eg_mL 76) [.ref rd]) (by decide +kernel) rfl hH k_rd rfl rfl rfl rfl rfl (by rw [show eg_mL 76 = 1 from by decide +kernel]; first | done | rfl) ?_
      refine (fc_fail hH k_rd htk htl r8 (by omega) r2).mono (fun u hu => xw_cb hu (fun G32 v32 hH x32 hP32 => ?_))
      have r8 := (x32.2 rd 8 lt_rd (fun h => absurd h.2 (by decide))).trans r8
      have t0 := (x32.2 tn 0 lt_tn (fun h => (hi_ne k_tn k_rd (by decide)) h.1)).trans t0
      have t1 := (x32.2 tn 1 lt_tn (fun h => (hi_ne k_tn k_rd (by decide)) h.1)).trans t1
      have t2 := (x32.2 tn 2 lt_tn (fun h => (hi_ne k_tn k_rd (by decide)) h.1)).trans t2
      have t3 := (x32.2 tn 3 lt_tn (fun h => (hi_ne k_tn k_rd (by decide)) h.1)).trans t3
      have lt_rd := Nat.lt_of_lt_of_le lt_rd x32.1
      have lt_tn := Nat.lt_of_lt_of_le lt_tn x32.1
      have lt_A := Nat.lt_of_lt_of_le lt_A x32.1
      have lt_B := Nat.lt_of_lt_of_le lt_B x32.1
      have lt_C := Nat.lt_of_lt_of_le lt_C x32.1
      have hX := hX.tr x32 (fun b j hb h => (.inl (And.intro (And.left h) (by rw [And.right h]; decide))))
      have m32 := x32.1
      have htk := htk.xf hHo k_rd et_ex.rf x32 (fun a j hs => .inl (And.intro hs.1 (.inl hs.2)))
      obtain ⟨rfl, q32, hq32, e32⟩ := hP32
      show et_go none _ 85 35 _ [.null] _ _ _ _
      refine hs_popn (p := 36) (by decide +kernel) ?_
      refine hs_vret (by decide +kernel) ?_
      exact ⟨_, _, _, _, rfl, hx0, hH, hX, .inl ⟨(by first | exact if_pos (show k = 10 by omega) | (rw [if_neg (show ¬ k = 10 by omega)]; exact absurd rfl (by omega))), _, (by omega), e32⟩⟩
    · have hk10 : k < 10 := by omega
      refine hs_iload (i := 2) (p := 18) (by decide +kernel) rfl ?_
      refine hs_if1 (c := .ne) (t := 37) (f := 21) (by decide +kernel) (show ¬ Int32.ofNat 1 = 0 by decide) ?_
      refine hs_aload (i := 0) (p := 38) (by decide +kernel) rfl ?_
      refine hs_dup1 (p := 39) (by decide +kernel) ?_
      refine hf_get (T := et_TT) (t := 7) (ci := 5) (f := 8) (p := 42) (by decide +kernel) rfl hH k_rd r8 ?_
      refine hs_k (x := Int32.ofNat 1) (p := 43) (by decide +kernel) ?_
      refine hs_iaddn (p := 44) (by decide +kernel) ?_
      have hHo := hH
      refine hf_put (T := et_TT) (t := 7) (ci := 5) (f := 8) (p := 47) (ty := .int) (by decide +kernel) rfl rfl rfl rfl rfl hH k_rd (hi_nv (by omega) (by omega)) (fun G44 hH x44 e44 => ?_)
      have r2 := (x44.2 rd 2 lt_rd (fun h => absurd h.2 (by decide))).trans r2
      have t0 := (x44.2 tn 0 lt_tn (fun h => (hi_ne k_tn k_rd (by decide)) h.1)).trans t0
      have t1 := (x44.2 tn 1 lt_tn (fun h => (hi_ne k_tn k_rd (by decide)) h.1)).trans t1
      have t2 := (x44.2 tn 2 lt_tn (fun h => (hi_ne k_tn k_rd (by decide)) h.1)).trans t2
      have t3 := (x44.2 tn 3 lt_tn (fun h => (hi_ne k_tn k_rd (by decide)) h.1)).trans t3
      have lt_rd := Nat.lt_of_lt_of_le lt_rd x44.1
      have lt_tn := Nat.lt_of_lt_of_le lt_tn x44.1
      have lt_A := Nat.lt_of_lt_of_le lt_A x44.1
      have lt_B := Nat.lt_of_lt_of_le lt_B x44.1
      have lt_C := Nat.lt_of_lt_of_le lt_C x44.1
      have hX := hX.tr x44 (fun b j hb h => (.inr (.inl h)))
      have m44 := x44.1
      have htk := htk.xf hHo k_rd et_ex.rf x44 (fun a j hs => .inl (And.intro hs.1 (.inr (.inr hs.2))))
      have e44 : et_pl (eg_at G44 rd) 8 = some (.int (Int32.ofNat (x + 1))) := e44
      refine hs_aload (i := 0) (p := 48) (by decide +kernel) rfl ?_
      refine hs_k (x := Int32.ofNat 50) (p := 50) (by decide +kernel) ?_
      have hHo := hH
      refine ht_callv (T := et_TT) (t := 7) (mi := 83) (na := 1) (ci := 5) (lk := 5) (lm := 3) (L0 := eg_en (eg_mL 83) [.ref rd, .int (Int32.ofNat 50)]) (by decide +kernel) rfl hH k_rd rfl rfl rfl rfl rfl (by rw [show eg_mL 83 = 3 from by decide +kernel]; first | done | rfl) ?_
      refine (fc_tn hH k_rd htk htl e44 (by omega) r2 (by decide) (by omega)).mono (fun u hu => xw_cb hu (fun G50 v50 hH x50 hP50 => ?_))
      have t0 := (x50.2 tn 0 lt_tn (fun h => Or.elim h (fun h => (hi_ne k_tn k_rd (by decide)) h.1) (fun h => (hi_ne k_tn k_rd (by decide)) h.1))).trans t0
      have t1 := (x50.2 tn 1 lt_tn (fun h => Or.elim h (fun h => (hi_ne k_tn k_rd (by decide)) h.1) (fun h => (hi_ne k_tn k_rd (by decide)) h.1))).trans t1
      have t2 := (x50.2 tn 2 lt_tn (fun h => Or.elim h (fun h => (hi_ne k_tn k_rd (by decide)) h.1) (fun h => (hi_ne k_tn k_rd (by decide)) h.1))).trans t2
      have t3 := (x50.2 tn 3 lt_tn (fun h => Or.elim h (fun h => (hi_ne k_tn k_rd (by decide)) h.1) (fun h => (hi_ne k_tn k_rd (by decide)) h.1))).trans t3
      have lt_rd := Nat.lt_of_lt_of_le lt_rd x50.1
      have lt_tn := Nat.lt_of_lt_of_le lt_tn x50.1
      have lt_A := Nat.lt_of_lt_of_le lt_A x50.1
      have lt_B := Nat.lt_of_lt_of_le lt_B x50.1
      have lt_C := Nat.lt_of_lt_of_le lt_C x50.1
      have hX := hX.tr x50 (fun b j hb h => (Or.elim h (fun h => (.inl (And.intro (And.left h) (by rw [And.right h]; decide)))) (fun h => (.inr (.inl h)))))
      have m50 := x50.1
      have htk := htk.xf hHo k_rd et_ex.rf x50 (fun a j hs => .inl ((Or.elim hs (fun h => And.intro h.1 (.inl h.2)) (fun h => And.intro h.1 (.inr (.inr h.2))))))
      rcases hP50 with ⟨v50, tv50, tm50, rfl, t850, t250⟩ | ⟨tv50, rfl, t850, q50, hq50, t250⟩
      · have tl50 := (List.getElem?_eq_some_iff.mp tv50).1
        show et_go none _ 85 53 _ [.int (Int32.ofNat v50)] _ _ _ _
        refine hs_istore (i := 3) (p := 54) (by decide +kernel) (Nat.le_of_ble_eq_true rfl) ?_
        refine hs_nul (p := 55) (by decide +kernel) ?_
        refine hs_astore0 (i := 4) (p := 57) (by decide +kernel) (Nat.le_of_ble_eq_true rfl) ?_
        refine hs_aload (i := 0) (p := 58) (by decide +kernel) rfl ?_
        refine hf_get (T := et_TT) (t := 7) (ci := 5) (f := 2) (p := 61) (by decide +kernel) rfl hH k_rd t250 ?_
        refine hs_k (x := (-1)) (p := 62) (by decide +kernel) ?_
        refine hs_br2 (c := .ne) (t := 93) (f := 65) (by decide +kernel) (fun hz => absurd rfl hz) (fun _ => ?_)
        refine hs_aload (i := 0) (p := 66) (by decide +kernel) rfl ?_
        refine hs_gst (v := Value.ref 31) (p := 69) (by decide +kernel) ?_
        refine ht_callv (T := et_TT) (t := 7) (mi := 78) (na := 1) (ci := 5) (lk := 5) (lm := 2) (L0 := eg_en (eg_mL 78) [.ref rd, .ref 31]) (by decide +kernel) rfl hH k_rd rfl rfl rfl rfl rfl (by rw [show eg_mL 78 = 2 from by decide +kernel]; first | done | rfl) ?_
        refine (fc_is hH k_rd htk htl t850 (by omega) (wd := 31) (by decide)).mono (fun u hu => xp_cb hu ?_)
        by_cases i69 : wat L ((x + 1) + 1) = 31
        · rw [if_pos i69]
          have il69 : ((x + 1) + 1) < L.length := wat_i (by rw [i69]; decide)
          show et_go none _ 85 72 _ [.int (Int32.ofNat 1)] _ _ _ _
          refine hs_if0 (c := .eq) (t := 93) (f := 75) (by decide +kernel) (show ¬ (Int32.ofNat 1 = 0) by decide) ?_
          refine hs_aload (i := 0) (p := 76) (by decide +kernel) rfl ?_
          refine hs_dup1 (p := 77) (by decide +kernel) ?_
          refine hf_get (T := et_TT) (t := 7) (ci := 5) (f := 8) (p := 80) (by decide +kernel) rfl hH k_rd t850 ?_
          refine hs_k (x := Int32.ofNat 1) (p := 81) (by decide +kernel) ?_
          refine hs_iaddn (p := 82) (by decide +kernel) ?_
          have hHo := hH
          refine hf_put (T := et_TT) (t := 7) (ci := 5) (f := 8) (p := 85) (ty := .int) (by decide +kernel) rfl rfl rfl rfl rfl hH k_rd (hi_nv (by omega) (by omega)) (fun G82 hH x82 e82 => ?_)
          have t250 := (x82.2 rd 2 lt_rd (fun h => absurd h.2 (by decide))).trans t250
          have t0 := (x82.2 tn 0 lt_tn (fun h => (hi_ne k_tn k_rd (by decide)) h.1)).trans t0
          have t1 := (x82.2 tn 1 lt_tn (fun h => (hi_ne k_tn k_rd (by decide)) h.1)).trans t1
          have t2 := (x82.2 tn 2 lt_tn (fun h => (hi_ne k_tn k_rd (by decide)) h.1)).trans t2
          have t3 := (x82.2 tn 3 lt_tn (fun h => (hi_ne k_tn k_rd (by decide)) h.1)).trans t3
          have lt_rd := Nat.lt_of_lt_of_le lt_rd x82.1
          have lt_tn := Nat.lt_of_lt_of_le lt_tn x82.1
          have lt_A := Nat.lt_of_lt_of_le lt_A x82.1
          have lt_B := Nat.lt_of_lt_of_le lt_B x82.1
          have lt_C := Nat.lt_of_lt_of_le lt_C x82.1
          have hX := hX.tr x82 (fun b j hb h => (.inr (.inl h)))
          have m82 := x82.1
          have htk := htk.xf hHo k_rd et_ex.rf x82 (fun a j hs => .inl (And.intro hs.1 (.inr (.inr hs.2))))
          have e82 : et_pl (eg_at G82 rd) 8 = some (.int (Int32.ofNat (x + 3))) := e82
          refine hs_aload (i := 0) (p := 86) (by decide +kernel) rfl ?_
          refine hs_k (x := Int32.ofNat 0) (p := 87) (by decide +kernel) ?_
          refine hs_k (x := Int32.ofNat 0) (p := 88) (by decide +kernel) ?_
          have hHo := hH
          refine ht_callv (T := et_TT) (t := 7) (mi := 75) (na := 2) (ci := 5) (lk := 5) (lm := 8) (L0 := eg_en (eg_mL 75) [.ref rd, .int (Int32.ofNat 0), .int (Int32.ofNat 0)]) (by decide +kernel) rfl hH k_rd rfl rfl rfl rfl rfl (by rw [show eg_mL 75 = 8 from by decide +kernel]; first | done | rfl) ?_
          refine (((pp_ag 6).2 _ _ _ _ _ _ hH k_rd e82 (by omega) (by omega) (by omega)).and ((fx_ag 6).2 _ _ _ _ _ _ _ hH k_rd htk htl e82 (by omega) t250 (by omega) (by omega))).mono (fun u hu => fz_cb (t := 2) (by decide) hu (fun K88 G88 v88 c88 s88 hxx88 hH x88 hc88 hs88 hm88 => ?_))
          have x88 := rx_in x88
          have t0 := (x88.2 tn 0 lt_tn (fun h => Or.elim h (fun h => (hi_ne k_tn k_rd (by decide)) h.1) (fun h => (hi_ne k_tn k_rd (by decide)) h.1))).trans t0
          have t1 := (x88.2 tn 1 lt_tn (fun h => Or.elim h (fun h => (hi_ne k_tn k_rd (by decide)) h.1) (fun h => (hi_ne k_tn k_rd (by decide)) h.1))).trans t1
          have t2 := (x88.2 tn 2 lt_tn (fun h => Or.elim h (fun h => (hi_ne k_tn k_rd (by decide)) h.1) (fun h => (hi_ne k_tn k_rd (by decide)) h.1))).trans t2
          have t3 := (x88.2 tn 3 lt_tn (fun h => Or.elim h (fun h => (hi_ne k_tn k_rd (by decide)) h.1) (fun h => (hi_ne k_tn k_rd (by decide)) h.1))).trans t3
          have lt_rd := Nat.lt_of_lt_of_le lt_rd x88.1
          have lt_tn := Nat.lt_of_lt_of_le lt_tn x88.1
          have lt_A := Nat.lt_of_lt_of_le lt_A x88.1
          have lt_B := Nat.lt_of_lt_of_le lt_B x88.1
          have lt_C := Nat.lt_of_lt_of_le lt_C x88.1
          have hX := hX.tr x88 (fun b j hb h => (Or.elim h (fun h => (.inl h)) (fun h => (.inr (.inl h)))))
          have m88 := x88.1
          have htk := htk.xf hHo k_rd hxx88 x88 (fun a j hs => .inl (rx_3 hs))
          have k_rd := hxx88 _ _ k_rd
          have k_tn := hxx88 _ _ k_tn
          have k_A := hxx88 _ _ k_A
          have k_B := hxx88 _ _ k_B
          have k_C := hxx88 _ _ k_C
          have hx0 := hx0.tr hxx88
          rcases sp88 : sp_C 6 (L.drop (x + 3)) with _ | ⟨f88, r88⟩
          · rw [sp88] at hm88
            obtain ⟨rfl, q88, hq88, r2⟩ := hm88
            show et_go none _ 85 91 _ [.null] _ _ _ _
            refine hs_astore0 (i := 4) (p := 93) (by decide +kernel) (Nat.le_of_ble_eq_true rfl) ?_
            refine hs_aload (i := 0) (p := 94) (by decide +kernel) rfl ?_
            refine hf_get (T := et_TT) (t := 7) (ci := 5) (f := 2) (p := 97) (by decide +kernel) rfl hH k_rd r2 ?_
            refine hs_k (x := (-1)) (p := 98) (by decide +kernel) ?_
            refine hs_br2 (c := .ne) (t := 109) (f := 101) (by decide +kernel) (fun _ => ?_) (fun hz => absurd (show ¬ ((Int32.ofNat q88 : Int32) = (-1)) from xi_nm1 (by omega)) hz)
            refine hs_vret (by decide +kernel) ?_
            exact ⟨_, _, _, _, rfl, hx0, hH, hX, .inl ⟨(by first | exact if_pos (show k = 10 by omega) | (rw [if_neg (show ¬ k = 10 by omega)]; exact ln_cn (T := L.drop x) (w := 29) (by rw [wat_d]; exact i4) (.inl rfl) (by rw [List.drop_drop]; exact dr_s tv50) tm50 (by rw [wat_d]; exact i69) (by rw [List.drop_drop]; exact sp88))), _, (by omega), r2⟩⟩
          · rw [sp88] at hm88
            obtain ⟨y88, b88, rfl, hy88, hz88, r8, r2, rfl, k_b88, R88⟩ := hm88
            have lt_b88 := (hH.2.2 _ _ k_b88).1
            obtain ⟨R88, nb88⟩ := R88
            have Rb88 := R88.in
            show et_go none _ 85 91 _ [.ref b88] _ _ _ _
            refine hs_astore (i := 4) (p := 93) (by decide +kernel) (Nat.le_of_ble_eq_true rfl) ?_
            refine hs_aload (i := 0) (p := 94) (by decide +kernel) rfl ?_
            refine hf_get (T := et_TT) (t := 7) (ci := 5) (f := 2) (p := 97) (by decide +kernel) rfl hH k_rd r2 ?_
            refine hs_k (x := (-1)) (p := 98) (by decide +kernel) ?_
            refine hs_br2 (c := .ne) (t := 109) (f := 101) (by decide +kernel) (fun hz => absurd rfl hz) (fun _ => ?_)
            refine hs_aload (i := 1) (p := 102) (by decide +kernel) rfl ?_
            refine hs_iload (i := 2) (p := 103) (by decide +kernel) rfl ?_
            refine hs_iload (i := 3) (p := 104) (by decide +kernel) rfl ?_
            refine hs_aload (i := 4) (p := 106) (by decide +kernel) rfl ?_
            refine ht_callv (T := et_TT) (t := 11) (mi := 113) (na := 3) (ci := 9) (lk := 5) (lm := 4) (L0 := eg_en (eg_mL 113) [.ref tn, .int (Int32.ofNat 1), .int (Int32.ofNat v50), .ref b88]) (by decide +kernel) rfl hH k_tn rfl rfl rfl rfl rfl (by rw [show eg_mL 113 = 4 from by decide +kernel]; first | done | rfl) ?_
            refine (fc_addL1 (t := 1) (v := v50) hH k_tn t0 hk10 t1 t2 t3 k_A k_B k_C (by decide) k_b88).mono (fun u hu => xw_cb hu (fun G106 v106 hH x106 hP106 => ?_))
            obtain ⟨rfl, l0, l1, l2, l3⟩ := hP106
            have t1 := (x106.2 tn 1 lt_tn (fun h => Or.elim h (fun h => absurd h.2 (by decide)) (fun h => Or.elim h (fun h => (hi_ne k_tn k_A (by decide)) h.1) (fun h => Or.elim h (fun h => (hi_ne k_tn k_B (by decide)) h.1) (fun h => (hi_ne k_tn k_C (by decide)) h.1))))).trans t1
            have t2 := (x106.2 tn 2 lt_tn (fun h => Or.elim h (fun h => absurd h.2 (by decide)) (fun h => Or.elim h (fun h => (hi_ne k_tn k_A (by decide)) h.1) (fun h => Or.elim h (fun h => (hi_ne k_tn k_B (by decide)) h.1) (fun h => (hi_ne k_tn k_C (by decide)) h.1))))).trans t2
            have t3 := (x106.2 tn 3 lt_tn (fun h => Or.elim h (fun h => absurd h.2 (by decide)) (fun h => Or.elim h (fun h => (hi_ne k_tn k_A (by decide)) h.1) (fun h => Or.elim h (fun h => (hi_ne k_tn k_B (by decide)) h.1) (fun h => (hi_ne k_tn k_C (by decide)) h.1))))).trans t3
            have nb88 := (x106.2 b88 1 lt_b88 (fun h => Or.elim h (fun h => (hi_ne k_b88 k_tn (by decide)) h.1) (fun h => Or.elim h (fun h => (hi_ne k_b88 k_A (by decide)) h.1) (fun h => Or.elim h (fun h => (hi_ne k_b88 k_B (by decide)) h.1) (fun h => (hi_ne k_b88 k_C (by decide)) h.1))))).trans nb88
            have r2 := (x106.2 rd 2 lt_rd (fun h => Or.elim h (fun h => (hi_ne k_rd k_tn (by decide)) h.1) (fun h => Or.elim h (fun h => (hi_ne k_rd k_A (by decide)) h.1) (fun h => Or.elim h (fun h => (hi_ne k_rd k_B (by decide)) h.1) (fun h => (hi_ne k_rd k_C (by decide)) h.1))))).trans r2
            have r8 := (x106.2 rd 8 lt_rd (fun h => Or.elim h (fun h => (hi_ne k_rd k_tn (by decide)) h.1) (fun h => Or.elim h (fun h => (hi_ne k_rd k_A (by decide)) h.1) (fun h => Or.elim h (fun h => (hi_ne k_rd k_B (by decide)) h.1) (fun h => (hi_ne k_rd k_C (by decide)) h.1))))).trans r8
            have lt_rd := Nat.lt_of_lt_of_le lt_rd x106.1
            have lt_tn := Nat.lt_of_lt_of_le lt_tn x106.1
            have lt_A := Nat.lt_of_lt_of_le lt_A x106.1
            have lt_B := Nat.lt_of_lt_of_le lt_B x106.1
            have lt_C := Nat.lt_of_lt_of_le lt_C x106.1
            have lt_b88 := Nat.lt_of_lt_of_le lt_b88 x106.1
            have hX := hX.tr x106 (fun b j hb h => (Or.elim h (fun h => (.inr (.inr (.inl h)))) (fun h => (Or.elim h (fun h => (.inr (.inr (.inr (.inl h))))) (fun h => (Or.elim h (fun h => (.inr (.inr (.inr (.inr (.inl h)))))) (fun h => (.inr (.inr (.inr (.inr (.inr h))))))))))))
            have m106 := x106.1
            have R88 := R88.fr (x106.agf (lo := G82.2) (hi := G88.2) (by omega) (fun a j h1 h2 hs => by first | omega | (dsimp only at hs; omega))).ag
            show et_go none _ 85 109 _ [] _ _ _ _
            refine hs_vret (by decide +kernel) ?_
            exact ⟨_, _, _, _, rfl, hx0, hH, hX, .inr ⟨((29 == 29), v50, some f88), y88, (by rw [if_neg (show ¬ k = 10 by omega)]; exact ln_c (T := L.drop x) (w := 29) (by rw [wat_d]; exact i4) (.inl rfl) (by rw [List.drop_drop]; exact dr_s tv50) tm50 (by rw [wat_d]; exact i69) (by rw [List.drop_drop]; exact sp88)), by omega, r8, r2, l0, ⟨tl_b (b := (29 == 29)) (by decide) l1, l2, tm50, ⟨b88, l3, k_b88, R88.wk (by omega) (by omega)⟩⟩⟩⟩
        · rw [if_neg i69]
          show et_go none _ 85 72 _ [.int (Int32.ofNat 0)] _ _ _ _
          refine hs_if1 (c := .eq) (t := 93) (f := 75) (by decide +kernel) (show Int32.ofNat 0 = 0 by decide) ?_
          refine hs_aload (i := 0) (p := 94) (by decide +kernel) rfl ?_
          refine hf_get (T := et_TT) (t := 7) (ci := 5) (f := 2) (p := 97) (by decide +kernel) rfl hH k_rd t250 ?_
          refine hs_k (x := (-1)) (p := 98) (by decide +kernel) ?_
          refine hs_br2 (c := .ne) (t := 109) (f := 101) (by decide +kernel) (fun hz => absurd rfl hz) (fun _ => ?_)
          refine hs_aload (i := 1) (p := 102) (by decide +kernel) rfl ?_
          refine hs_iload (i := 2) (p := 103) (by decide +kernel) rfl ?_
          refine hs_iload (i := 3) (p := 104) (by decide +kernel) rfl ?_
          refine hs_aload0 (i := 4) (p := 106) (by decide +kernel) rfl ?_
          refine ht_callv (T := et_TT) (t := 11) (mi := 113) (na := 3) (ci := 9) (lk := 5) (lm := 4) (L0 := eg_en (eg_mL 113) [.ref tn, .int (Int32.ofNat 1), .int (Int32.ofNat v50), .null]) (by decide +kernel) rfl hH k_tn rfl rfl rfl rfl rfl (by rw [show eg_mL 113 = 4 from by decide +kernel]; first | done | rfl) ?_
          refine (fc_addL0 (t := 1) (v := v50) hH k_tn t0 hk10 t1 t2 t3 k_A k_B k_C (by decide)).mono (fun u hu => xw_cb hu (fun G106 v106 hH x106 hP106 => ?_))
          obtain ⟨rfl, l0, l1, l2, l3⟩ := hP106
          have t850 := (x106.2 rd 8 lt_rd (fun h => Or.elim h (fun h => (hi_ne k_rd k_tn (by decide)) h.1) (fun h => Or.elim h (fun h => (hi_ne k_rd k_A (by decide)) h.1) (fun h => Or.elim h (fun h => (hi_ne k_rd k_B (by decide)) h.1) (fun h => (hi_ne k_rd k_C (by decide)) h.1))))).trans t850
          have t250 := (x106.2 rd 2 lt_rd (fun h => Or.elim h (fun h => (hi_ne k_rd k_tn (by decide)) h.1) (fun h => Or.elim h (fun h => (hi_ne k_rd k_A (by decide)) h.1) (fun h => Or.elim h (fun h => (hi_ne k_rd k_B (by decide)) h.1) (fun h => (hi_ne k_rd k_C (by decide)) h.1))))).trans t250
          have t1 := (x106.2 tn 1 lt_tn (fun h => Or.elim h (fun h => absurd h.2 (by decide)) (fun h => Or.elim h (fun h => (hi_ne k_tn k_A (by decide)) h.1) (fun h => Or.elim h (fun h => (hi_ne k_tn k_B (by decide)) h.1) (fun h => (hi_ne k_tn k_C (by decide)) h.1))))).trans t1
          have t2 := (x106.2 tn 2 lt_tn (fun h => Or.elim h (fun h => absurd h.2 (by decide)) (fun h => Or.elim h (fun h => (hi_ne k_tn k_A (by decide)) h.1) (fun h => Or.elim h (fun h => (hi_ne k_tn k_B (by decide)) h.1) (fun h => (hi_ne k_tn k_C (by decide)) h.1))))).trans t2
          have t3 := (x106.2 tn 3 lt_tn (fun h => Or.elim h (fun h => absurd h.2 (by decide)) (fun h => Or.elim h (fun h => (hi_ne k_tn k_A (by decide)) h.1) (fun h => Or.elim h (fun h => (hi_ne k_tn k_B (by decide)) h.1) (fun h => (hi_ne k_tn k_C (by decide)) h.1))))).trans t3
          have lt_rd := Nat.lt_of_lt_of_le lt_rd x106.1
          have lt_tn := Nat.lt_of_lt_of_le lt_tn x106.1
          have lt_A := Nat.lt_of_lt_of_le lt_A x106.1
          have lt_B := Nat.lt_of_lt_of_le lt_B x106.1
          have lt_C := Nat.lt_of_lt_of_le lt_C x106.1
          have hX := hX.tr x106 (fun b j hb h => (Or.elim h (fun h => (.inr (.inr (.inl h)))) (fun h => (Or.elim h (fun h => (.inr (.inr (.inr (.inl h))))) (fun h => (Or.elim h (fun h => (.inr (.inr (.inr (.inr (.inl h)))))) (fun h => (.inr (.inr (.inr (.inr (.inr h))))))))))))
          have m106 := x106.1
          show et_go none _ 85 109 _ [] _ _ _ _
          refine hs_vret (by decide +kernel) ?_
          exact ⟨_, _, _, _, rfl, hx0, hH, hX, .inr ⟨((29 == 29), v50, none), (x + 1 + 1), (by rw [if_neg (show ¬ k = 10 by omega)]; exact ln_1 (T := L.drop x) (w := 29) (by rw [wat_d]; exact i4) (.inl rfl) (by rw [List.drop_drop]; exact dr_s tv50) tm50 (by rw [wat_d]; exact i69)), by omega, t850, t250, l0, ⟨tl_b (b := (29 == 29)) (by decide) l1, l2, tm50, l3⟩⟩⟩
      · show et_go none _ 85 53 _ [.int (-1)] _ _ _ _
        refine hs_istore (i := 3) (p := 54) (by decide +kernel) (Nat.le_of_ble_eq_true rfl) ?_
        refine hs_nul (p := 55) (by decide +kernel) ?_
        refine hs_astore0 (i := 4) (p := 57) (by decide +kernel) (Nat.le_of_ble_eq_true rfl) ?_
        refine hs_aload (i := 0) (p := 58) (by decide +kernel) rfl ?_
        refine hf_get (T := et_TT) (t := 7) (ci := 5) (f := 2) (p := 61) (by decide +kernel) rfl hH k_rd t250 ?_
        refine hs_k (x := (-1)) (p := 62) (by decide +kernel) ?_
        refine hs_br2 (c := .ne) (t := 93) (f := 65) (by decide +kernel) (fun _ => ?_) (fun hz => absurd (show ¬ ((Int32.ofNat q50 : Int32) = (-1)) from xi_nm1 (by omega)) hz)
        refine hs_aload (i := 0) (p := 94) (by decide +kernel) rfl ?_
        refine hf_get (T := et_TT) (t := 7) (ci := 5) (f := 2) (p := 97) (by decide +kernel) rfl hH k_rd t250 ?_
        refine hs_k (x := (-1)) (p := 98) (by decide +kernel) ?_
        refine hs_br2 (c := .ne) (t := 109) (f := 101) (by decide +kernel) (fun _ => ?_) (fun hz => absurd (show ¬ ((Int32.ofNat q50 : Int32) = (-1)) from xi_nm1 (by omega)) hz)
        refine hs_vret (by decide +kernel) ?_
        exact ⟨_, _, _, _, rfl, hx0, hH, hX, .inl ⟨(by first | exact if_pos (show k = 10 by omega) | (rw [if_neg (show ¬ k = 10 by omega)]; refine ln_n (r := L.drop (x + 1)) (by rw [List.drop_drop]) (fun z q hq => tv50 z ?_); have h : (L.drop (x + 1))[0]? = some (33, some z) := (by rw [hq] <;> rfl); rw [List.getElem?_drop] at h; exact h)), _, (by omega), t250⟩⟩
  · rw [if_neg i4]
    show et_go none _ 85 7 _ [.int (Int32.ofNat 0)] _ _ _ _
    refine hs_istore (i := 2) (p := 8) (by decide +kernel) (Nat.le_of_ble_eq_true rfl) ?_
    refine hs_aload (i := 1) (p := 9) (by decide +kernel) rfl ?_
    refine hf_get (T := et_TT) (t := 11) (ci := 9) (f := 0) (p := 12) (by decide +kernel) rfl hH k_tn t0 ?_
    refine hs_k (x := Int32.ofNat 10) (p := 14) (by decide +kernel) ?_
    refine hs_br2n (c := .ge) (t := 31) (f := 17) (by decide +kernel) (by omega) (by omega) (fun (c14 : 10 ≤ k) => ?_) (fun (c14 : ¬ (10 ≤ k)) => ?_)
    · refine hs_aload (i := 0) (p := 32) (by decide +kernel) rfl ?_
      have hHo := hH
      refine ht_callv (T := et_TT) (t := 7) (mi := 76) (na := 0) (ci := 5) (lk := 5) (lm := 1) (L0 := eg_en (eg_mL 76) [.ref rd]) (by decide +kernel) rfl hH k_rd rfl rfl rfl rfl rfl (by rw [show eg_mL 76 = 1 from by decide +kernel]; first | done | rfl) ?_
      refine (fc_fail hH k_rd htk htl r8 (by omega) r2).mono (fun u hu => xw_cb hu (fun G32 v32 hH x32 hP32 => ?_))
      have r8 := (x32.2 rd 8 lt_rd (fun h => absurd h.2 (by decide))).trans r8
      have t0 := (x32.2 tn 0 lt_tn (fun h => (hi_ne k_tn k_rd (by decide)) h.1)).trans t0
      have t1 := (x32.2 tn 1 lt_tn (fun h => (hi_ne k_tn k_rd (by decide)) h.1)).trans t1
      have t2 := (x32.2 tn 2 lt_tn (fun h => (hi_ne k_tn k_rd (by decide)) h.1)).trans t2
      have t3 := (x32.2 tn 3 lt_tn (fun h => (hi_ne k_tn k_rd (by decide)) h.1)).trans t3
      have lt_rd := Nat.lt_of_lt_of_le lt_rd x32.1
      have lt_tn := Nat.lt_of_lt_of_le lt_tn x32.1
      have lt_A := Nat.lt_of_lt_of_le lt_A x32.1
      have lt_B := Nat.lt_of_lt_of_le lt_B x32.1
      have lt_C := Nat.lt_of_lt_of_le lt_C x32.1
      have hX := hX.tr x32 (fun b j hb h => (.inl (And.intro (And.left h) (by rw [And.right h]; decide))))
      have m32 := x32.1
      have htk := htk.xf hHo k_rd et_ex.rf x32 (fun a j hs => .inl (And.intro hs.1 (.inl hs.2)))
      obtain ⟨rfl, q32, hq32, e32⟩ := hP32
      show et_go none _ 85 35 _ [.null] _ _ _ _
      refine hs_popn (p := 36) (by decide +kernel) ?_
      refine hs_vret (by decide +kernel) ?_
      exact ⟨_, _, _, _, rfl, hx0, hH, hX, .inl ⟨(by first | exact if_pos (show k = 10 by omega) | (rw [if_neg (show ¬ k = 10 by omega)]; exact absurd rfl (by omega))), _, (by omega), e32⟩⟩
    · have hk10 : k < 10 := by omega
      refine hs_iload (i := 2) (p := 18) (by decide +kernel) rfl ?_
      refine hs_if0 (c := .ne) (t := 37) (f := 21) (by decide +kernel) (show ¬ (¬ Int32.ofNat 0 = 0) by decide) ?_
      refine hs_aload (i := 0) (p := 22) (by decide +kernel) rfl ?_
      refine hs_gst (v := Value.ref 30) (p := 25) (by decide +kernel) ?_
      refine ht_callv (T := et_TT) (t := 7) (mi := 78) (na := 1) (ci := 5) (lk := 5) (lm := 2) (L0 := eg_en (eg_mL 78) [.ref rd, .ref 30]) (by decide +kernel) rfl hH k_rd rfl rfl rfl rfl rfl (by rw [show eg_mL 78 = 2 from by decide +kernel]; first | done | rfl) ?_
      refine (fc_is hH k_rd htk htl r8 (by omega) (wd := 30) (by decide)).mono (fun u hu => xp_cb hu ?_)
      by_cases i25 : wat L x = 30
      · rw [if_pos i25]
        have il25 : x < L.length := wat_i (by rw [i25]; decide)
        show et_go none _ 85 28 _ [.int (Int32.ofNat 1)] _ _ _ _
        refine hs_if1 (c := .ne) (t := 37) (f := 31) (by decide +kernel) (show ¬ Int32.ofNat 1 = 0 by decide) ?_
        refine hs_aload (i := 0) (p := 38) (by decide +kernel) rfl ?_
        refine hs_dup1 (p := 39) (by decide +kernel) ?_
        refine hf_get (T := et_TT) (t := 7) (ci := 5) (f := 8) (p := 42) (by decide +kernel) rfl hH k_rd r8 ?_
        refine hs_k (x := Int32.ofNat 1) (p := 43) (by decide +kernel) ?_
        refine hs_iaddn (p := 44) (by decide +kernel) ?_
        have hHo := hH
        refine hf_put (T := et_TT) (t := 7) (ci := 5) (f := 8) (p := 47) (ty := .int) (by decide +kernel) rfl rfl rfl rfl rfl hH k_rd (hi_nv (by omega) (by omega)) (fun G44 hH x44 e44 => ?_)
        have r2 := (x44.2 rd 2 lt_rd (fun h => absurd h.2 (by decide))).trans r2
        have t0 := (x44.2 tn 0 lt_tn (fun h => (hi_ne k_tn k_rd (by decide)) h.1)).trans t0
        have t1 := (x44.2 tn 1 lt_tn (fun h => (hi_ne k_tn k_rd (by decide)) h.1)).trans t1
        have t2 := (x44.2 tn 2 lt_tn (fun h => (hi_ne k_tn k_rd (by decide)) h.1)).trans t2
        have t3 := (x44.2 tn 3 lt_tn (fun h => (hi_ne k_tn k_rd (by decide)) h.1)).trans t3
        have lt_rd := Nat.lt_of_lt_of_le lt_rd x44.1
        have lt_tn := Nat.lt_of_lt_of_le lt_tn x44.1
        have lt_A := Nat.lt_of_lt_of_le lt_A x44.1
        have lt_B := Nat.lt_of_lt_of_le lt_B x44.1
        have lt_C := Nat.lt_of_lt_of_le lt_C x44.1
        have hX := hX.tr x44 (fun b j hb h => (.inr (.inl h)))
        have m44 := x44.1
        have htk := htk.xf hHo k_rd et_ex.rf x44 (fun a j hs => .inl (And.intro hs.1 (.inr (.inr hs.2))))
        have e44 : et_pl (eg_at G44 rd) 8 = some (.int (Int32.ofNat (x + 1))) := e44
        refine hs_aload (i := 0) (p := 48) (by decide +kernel) rfl ?_
        refine hs_k (x := Int32.ofNat 50) (p := 50) (by decide +kernel) ?_
        have hHo := hH
        refine ht_callv (T := et_TT) (t := 7) (mi := 83) (na := 1) (ci := 5) (lk := 5) (lm := 3) (L0 := eg_en (eg_mL 83) [.ref rd, .int (Int32.ofNat 50)]) (by decide +kernel) rfl hH k_rd rfl rfl rfl rfl rfl (by rw [show eg_mL 83 = 3 from by decide +kernel]; first | done | rfl) ?_
        refine (fc_tn hH k_rd htk htl e44 (by omega) r2 (by decide) (by omega)).mono (fun u hu => xw_cb hu (fun G50 v50 hH x50 hP50 => ?_))
        have t0 := (x50.2 tn 0 lt_tn (fun h => Or.elim h (fun h => (hi_ne k_tn k_rd (by decide)) h.1) (fun h => (hi_ne k_tn k_rd (by decide)) h.1))).trans t0
        have t1 := (x50.2 tn 1 lt_tn (fun h => Or.elim h (fun h => (hi_ne k_tn k_rd (by decide)) h.1) (fun h => (hi_ne k_tn k_rd (by decide)) h.1))).trans t1
        have t2 := (x50.2 tn 2 lt_tn (fun h => Or.elim h (fun h => (hi_ne k_tn k_rd (by decide)) h.1) (fun h => (hi_ne k_tn k_rd (by decide)) h.1))).trans t2
        have t3 := (x50.2 tn 3 lt_tn (fun h => Or.elim h (fun h => (hi_ne k_tn k_rd (by decide)) h.1) (fun h => (hi_ne k_tn k_rd (by decide)) h.1))).trans t3
        have lt_rd := Nat.lt_of_lt_of_le lt_rd x50.1
        have lt_tn := Nat.lt_of_lt_of_le lt_tn x50.1
        have lt_A := Nat.lt_of_lt_of_le lt_A x50.1
        have lt_B := Nat.lt_of_lt_of_le lt_B x50.1
        have lt_C := Nat.lt_of_lt_of_le lt_C x50.1
        have hX := hX.tr x50 (fun b j hb h => (Or.elim h (fun h => (.inl (And.intro (And.left h) (by rw [And.right h]; decide)))) (fun h => (.inr (.inl h)))))
        have m50 := x50.1
        have htk := htk.xf hHo k_rd et_ex.rf x50 (fun a j hs => .inl ((Or.elim hs (fun h => And.intro h.1 (.inl h.2)) (fun h => And.intro h.1 (.inr (.inr h.2))))))
        rcases hP50 with ⟨v50, tv50, tm50, rfl, t850, t250⟩ | ⟨tv50, rfl, t850, q50, hq50, t250⟩
        · have tl50 := (List.getElem?_eq_some_iff.mp tv50).1
          show et_go none _ 85 53 _ [.int (Int32.ofNat v50)] _ _ _ _
          refine hs_istore (i := 3) (p := 54) (by decide +kernel) (Nat.le_of_ble_eq_true rfl) ?_
          refine hs_nul (p := 55) (by decide +kernel) ?_
          refine hs_astore0 (i := 4) (p := 57) (by decide +kernel) (Nat.le_of_ble_eq_true rfl) ?_
          refine hs_aload (i := 0) (p := 58) (by decide +kernel) rfl ?_
          refine hf_get (T := et_TT) (t := 7) (ci := 5) (f := 2) (p := 61) (by decide +kernel) rfl hH k_rd t250 ?_
          refine hs_k (x := (-1)) (p := 62) (by decide +kernel) ?_
          refine hs_br2 (c := .ne) (t := 93) (f := 65) (by decide +kernel) (fun hz => absurd rfl hz) (fun _ => ?_)
          refine hs_aload (i := 0) (p := 66) (by decide +kernel) rfl ?_
          refine hs_gst (v := Value.ref 31) (p := 69) (by decide +kernel) ?_
          refine ht_callv (T := et_TT) (t := 7) (mi := 78) (na := 1) (ci := 5) (lk := 5) (lm := 2) (L0 := eg_en (eg_mL 78) [.ref rd, .ref 31]) (by decide +kernel) rfl hH k_rd rfl rfl rfl rfl rfl (by rw [show eg_mL 78 = 2 from by decide +kernel]; first | done | rfl) ?_
          refine (fc_is hH k_rd htk htl t850 (by omega) (wd := 31) (by decide)).mono (fun u hu => xp_cb hu ?_)
          by_cases i69 : wat L ((x + 1) + 1) = 31
          · rw [if_pos i69]
            have il69 : ((x + 1) + 1) < L.length := wat_i (by rw [i69]; decide)
            show et_go none _ 85 72 _ [.int (Int32.ofNat 1)] _ _ _ _
            refine hs_if0 (c := .eq) (t := 93) (f := 75) (by decide +kernel) (show ¬ (Int32.ofNat 1 = 0) by decide) ?_
            refine hs_aload (i := 0) (p := 76) (by decide +kernel) rfl ?_
            refine hs_dup1 (p := 77) (by decide +kernel) ?_
            refine hf_get (T := et_TT) (t := 7) (ci := 5) (f := 8) (p := 80) (by decide +kernel) rfl hH k_rd t850 ?_
            refine hs_k (x := Int32.ofNat 1) (p := 81) (by decide +kernel) ?_
            refine hs_iaddn (p := 82) (by decide +kernel) ?_
            have hHo := hH
            refine hf_put (T := et_TT) (t := 7) (ci := 5) (f := 8) (p := 85) (ty := .int) (by decide +kernel) rfl rfl rfl rfl rfl hH k_rd (hi_nv (by omega) (by omega)) (fun G82 hH x82 e82 => ?_)
            have t250 := (x82.2 rd 2 lt_rd (fun h => absurd h.2 (by decide))).trans t250
            have t0 := (x82.2 tn 0 lt_tn (fun h => (hi_ne k_tn k_rd (by decide)) h.1)).trans t0
            have t1 := (x82.2 tn 1 lt_tn (fun h => (hi_ne k_tn k_rd (by decide)) h.1)).trans t1
            have t2 := (x82.2 tn 2 lt_tn (fun h => (hi_ne k_tn k_rd (by decide)) h.1)).trans t2
            have t3 := (x82.2 tn 3 lt_tn (fun h => (hi_ne k_tn k_rd (by decide)) h.1)).trans t3
            have lt_rd := Nat.lt_of_lt_of_le lt_rd x82.1
            have lt_tn := Nat.lt_of_lt_of_le lt_tn x82.1
            have lt_A := Nat.lt_of_lt_of_le lt_A x82.1
            have lt_B := Nat.lt_of_lt_of_le lt_B x82.1
            have lt_C := Nat.lt_of_lt_of_le lt_C x82.1
            have hX := hX.tr x82 (fun b j hb h => (.inr (.inl h)))
            have m82 := x82.1
            have htk := htk.xf hHo k_rd et_ex.rf x82 (fun a j hs => .inl (And.intro hs.1 (.inr (.inr hs.2))))
            have e82 : et_pl (eg_at G82 rd) 8 = some (.int (Int32.ofNat (x + 3))) := e82
            refine hs_aload (i := 0) (p := 86) (by decide +kernel) rfl ?_
            refine hs_k (x := Int32.ofNat 0) (p := 87) (by decide +kernel) ?_
            refine hs_k (x := Int32.ofNat 0) (p := 88) (by decide +kernel) ?_
            have hHo := hH
            refine ht_callv (T := et_TT) (t := 7) (mi := 75) (na := 2) (ci := 5) (lk := 5) (lm := 8) (L0 := eg_en (eg_mL 75) [.ref rd, .int (Int32.ofNat 0), .int (Int32.ofNat 0)]) (by decide +kernel) rfl hH k_rd rfl rfl rfl rfl rfl (by rw [show eg_mL 75 = 8 from by decide +kernel]; first | done | rfl) ?_
            refine (((pp_ag 6).2 _ _ _ _ _ _ hH k_rd e82 (by omega) (by omega) (by omega)).and ((fx_ag 6).2 _ _ _ _ _ _ _ hH k_rd htk htl e82 (by omega) t250 (by omega) (by omega))).mono (fun u hu => fz_cb (t := 2) (by decide) hu (fun K88 G88 v88 c88 s88 hxx88 hH x88 hc88 hs88 hm88 => ?_))
            have x88 := rx_in x88
            have t0 := (x88.2 tn 0 lt_tn (fun h => Or.elim h (fun h => (hi_ne k_tn k_rd (by decide)) h.1) (fun h => (hi_ne k_tn k_rd (by decide)) h.1))).trans t0
            have t1 := (x88.2 tn 1 lt_tn (fun h => Or.elim h (fun h => (hi_ne k_tn k_rd (by decide)) h.1) (fun h => (hi_ne k_tn k_rd (by decide)) h.1))).trans t1
            have t2 := (x88.2 tn 2 lt_tn (fun h => Or.elim h (fun h => (hi_ne k_tn k_rd (by decide)) h.1) (fun h => (hi_ne k_tn k_rd (by decide)) h.1))).trans t2
            have t3 := (x88.2 tn 3 lt_tn (fun h => Or.elim h (fun h => (hi_ne k_tn k_rd (by decide)) h.1) (fun h => (hi_ne k_tn k_rd (by decide)) h.1))).trans t3
            have lt_rd := Nat.lt_of_lt_of_le lt_rd x88.1
            have lt_tn := Nat.lt_of_lt_of_le lt_tn x88.1
            have lt_A := Nat.lt_of_lt_of_le lt_A x88.1
            have lt_B := Nat.lt_of_lt_of_le lt_B x88.1
            have lt_C := Nat.lt_of_lt_of_le lt_C x88.1
            have hX := hX.tr x88 (fun b j hb h => (Or.elim h (fun h => (.inl h)) (fun h => (.inr (.inl h)))))
            have m88 := x88.1
            have htk := htk.xf hHo k_rd hxx88 x88 (fun a j hs => .inl (rx_3 hs))
            have k_rd := hxx88 _ _ k_rd
            have k_tn := hxx88 _ _ k_tn
            have k_A := hxx88 _ _ k_A
            have k_B := hxx88 _ _ k_B
            have k_C := hxx88 _ _ k_C
            have hx0 := hx0.tr hxx88
            rcases sp88 : sp_C 6 (L.drop (x + 3)) with _ | ⟨f88, r88⟩
            · rw [sp88] at hm88
              obtain ⟨rfl, q88, hq88, r2⟩ := hm88
              show et_go none _ 85 91 _ [.null] _ _ _ _
              refine hs_astore0 (i := 4) (p := 93) (by decide +kernel) (Nat.le_of_ble_eq_true rfl) ?_
              refine hs_aload (i := 0) (p := 94) (by decide +kernel) rfl ?_
              refine hf_get (T := et_TT) (t := 7) (ci := 5) (f := 2) (p := 97) (by decide +kernel) rfl hH k_rd r2 ?_
              refine hs_k (x := (-1)) (p := 98) (by decide +kernel) ?_
              refine hs_br2 (c := .ne) (t := 109) (f := 101) (by decide +kernel) (fun _ => ?_) (fun hz => absurd (show ¬ ((Int32.ofNat q88 : Int32) = (-1)) from xi_nm1 (by omega)) hz)
              refine hs_vret (by decide +kernel) ?_
              exact ⟨_, _, _, _, rfl, hx0, hH, hX, .inl ⟨(by first | exact if_pos (show k = 10 by omega) | (rw [if_neg (show ¬ k = 10 by omega)]; exact ln_cn (T := L.drop x) (w := 30) (by rw [wat_d]; exact i25) (.inr rfl) (by rw [List.drop_drop]; exact dr_s tv50) tm50 (by rw [wat_d]; exact i69) (by rw [List.drop_drop]; exact sp88))), _, (by omega), r2⟩⟩
            · rw [sp88] at hm88
              obtain ⟨y88, b88, rfl, hy88, hz88, r8, r2, rfl, k_b88, R88⟩ := hm88
              have lt_b88 := (hH.2.2 _ _ k_b88).1
              obtain ⟨R88, nb88⟩ := R88
              have Rb88 := R88.in
              show et_go none _ 85 91 _ [.ref b88] _ _ _ _
              refine hs_astore (i := 4) (p := 93) (by decide +kernel) (Nat.le_of_ble_eq_true rfl) ?_
              refine hs_aload (i := 0) (p := 94) (by decide +kernel) rfl ?_
              refine hf_get (T := et_TT) (t := 7) (ci := 5) (f := 2) (p := 97) (by decide +kernel) rfl hH k_rd r2 ?_
              refine hs_k (x := (-1)) (p := 98) (by decide +kernel) ?_
              refine hs_br2 (c := .ne) (t := 109) (f := 101) (by decide +kernel) (fun hz => absurd rfl hz) (fun _ => ?_)
              refine hs_aload (i := 1) (p := 102) (by decide +kernel) rfl ?_
              refine hs_iload (i := 2) (p := 103) (by decide +kernel) rfl ?_
              refine hs_iload (i := 3) (p := 104) (by decide +kernel) rfl ?_
              refine hs_aload (i := 4) (p := 106) (by decide +kernel) rfl ?_
              refine ht_callv (T := et_TT) (t := 11) (mi := 113) (na := 3) (ci := 9) (lk := 5) (lm := 4) (L0 := eg_en (eg_mL 113) [.ref tn, .int (Int32.ofNat 0), .int (Int32.ofNat v50), .ref b88]) (by decide +kernel) rfl hH k_tn rfl rfl rfl rfl rfl (by rw [show eg_mL 113 = 4 from by decide +kernel]; first | done | rfl) ?_
              refine (fc_addL1 (t := 0) (v := v50) hH k_tn t0 hk10 t1 t2 t3 k_A k_B k_C (by decide) k_b88).mono (fun u hu => xw_cb hu (fun G106 v106 hH x106 hP106 => ?_))
              obtain ⟨rfl, l0, l1, l2, l3⟩ := hP106
              have t1 := (x106.2 tn 1 lt_tn (fun h => Or.elim h (fun h => absurd h.2 (by decide)) (fun h => Or.elim h (fun h => (hi_ne k_tn k_A (by decide)) h.1) (fun h => Or.elim h (fun h => (hi_ne k_tn k_B (by decide)) h.1) (fun h => (hi_ne k_tn k_C (by decide)) h.1))))).trans t1
              have t2 := (x106.2 tn 2 lt_tn (fun h => Or.elim h (fun h => absurd h.2 (by decide)) (fun h => Or.elim h (fun h => (hi_ne k_tn k_A (by decide)) h.1) (fun h => Or.elim h (fun h => (hi_ne k_tn k_B (by decide)) h.1) (fun h => (hi_ne k_tn k_C (by decide)) h.1))))).trans t2
              have t3 := (x106.2 tn 3 lt_tn (fun h => Or.elim h (fun h => absurd h.2 (by decide)) (fun h => Or.elim h (fun h => (hi_ne k_tn k_A (by decide)) h.1) (fun h => Or.elim h (fun h => (hi_ne k_tn k_B (by decide)) h.1) (fun h => (hi_ne k_tn k_C (by decide)) h.1))))).trans t3
              have nb88 := (x106.2 b88 1 lt_b88 (fun h => Or.elim h (fun h => (hi_ne k_b88 k_tn (by decide)) h.1) (fun h => Or.elim h (fun h => (hi_ne k_b88 k_A (by decide)) h.1) (fun h => Or.elim h (fun h => (hi_ne k_b88 k_B (by decide)) h.1) (fun h => (hi_ne k_b88 k_C (by decide)) h.1))))).trans nb88
              have r2 := (x106.2 rd 2 lt_rd (fun h => Or.elim h (fun h => (hi_ne k_rd k_tn (by decide)) h.1) (fun h => Or.elim h (fun h => (hi_ne k_rd k_A (by decide)) h.1) (fun h => Or.elim h (fun h => (hi_ne k_rd k_B (by decide)) h.1) (fun h => (hi_ne k_rd k_C (by decide)) h.1))))).trans r2
              have r8 := (x106.2 rd 8 lt_rd (fun h => Or.elim h (fun h => (hi_ne k_rd k_tn (by decide)) h.1) (fun h => Or.elim h (fun h => (hi_ne k_rd k_A (by decide)) h.1) (fun h => Or.elim h (fun h => (hi_ne k_rd k_B (by decide)) h.1) (fun h => (hi_ne k_rd k_C (by decide)) h.1))))).trans r8
              have lt_rd := Nat.lt_of_lt_of_le lt_rd x106.1
              have lt_tn := Nat.lt_of_lt_of_le lt_tn x106.1
              have lt_A := Nat.lt_of_lt_of_le lt_A x106.1
              have lt_B := Nat.lt_of_lt_of_le lt_B x106.1
              have lt_C := Nat.lt_of_lt_of_le lt_C x106.1
              have lt_b88 := Nat.lt_of_lt_of_le lt_b88 x106.1
              have hX := hX.tr x106 (fun b j hb h => (Or.elim h (fun h => (.inr (.inr (.inl h)))) (fun h => (Or.elim h (fun h => (.inr (.inr (.inr (.inl h))))) (fun h => (Or.elim h (fun h => (.inr (.inr (.inr (.inr (.inl h)))))) (fun h => (.inr (.inr (.inr (.inr (.inr h))))))))))))
              have m106 := x106.1
              have R88 := R88.fr (x106.agf (lo := G82.2) (hi := G88.2) (by omega) (fun a j h1 h2 hs => by first | omega | (dsimp only at hs; omega))).ag
              show et_go none _ 85 109 _ [] _ _ _ _
              refine hs_vret (by decide +kernel) ?_
              exact ⟨_, _, _, _, rfl, hx0, hH, hX, .inr ⟨((30 == 29), v50, some f88), y88, (by rw [if_neg (show ¬ k = 10 by omega)]; exact ln_c (T := L.drop x) (w := 30) (by rw [wat_d]; exact i25) (.inr rfl) (by rw [List.drop_drop]; exact dr_s tv50) tm50 (by rw [wat_d]; exact i69) (by rw [List.drop_drop]; exact sp88)), by omega, r8, r2, l0, ⟨tl_b (b := (30 == 29)) (by decide) l1, l2, tm50, ⟨b88, l3, k_b88, R88.wk (by omega) (by omega)⟩⟩⟩⟩
          · rw [if_neg i69]
            show et_go none _ 85 72 _ [.int (Int32.ofNat 0)] _ _ _ _
            refine hs_if1 (c := .eq) (t := 93) (f := 75) (by decide +kernel) (show Int32.ofNat 0 = 0 by decide) ?_
            refine hs_aload (i := 0) (p := 94) (by decide +kernel) rfl ?_
            refine hf_get (T := et_TT) (t := 7) (ci := 5) (f := 2) (p := 97) (by decide +kernel) rfl hH k_rd t250 ?_
            refine hs_k (x := (-1)) (p := 98) (by decide +kernel) ?_
            refine hs_br2 (c := .ne) (t := 109) (f := 101) (by decide +kernel) (fun hz => absurd rfl hz) (fun _ => ?_)
            refine hs_aload (i := 1) (p := 102) (by decide +kernel) rfl ?_
            refine hs_iload (i := 2) (p := 103) (by decide +kernel) rfl ?_
            refine hs_iload (i := 3) (p := 104) (by decide +kernel) rfl ?_
            refine hs_aload0 (i := 4) (p := 106) (by decide +kernel) rfl ?_
            refine ht_callv (T := et_TT) (t := 11) (mi := 113) (na := 3) (ci := 9) (lk := 5) (lm := 4) (L0 := eg_en (eg_mL 113) [.ref tn, .int (Int32.ofNat 0), .int (Int32.ofNat v50), .null]) (by decide +kernel) rfl hH k_tn rfl rfl rfl rfl rfl (by rw [show eg_mL 113 = 4 from by decide +kernel]; first | done | rfl) ?_
            refine (fc_addL0 (t := 0) (v := v50) hH k_tn t0 hk10 t1 t2 t3 k_A k_B k_C (by decide)).mono (fun u hu => xw_cb hu (fun G106 v106 hH x106 hP106 => ?_))
            obtain ⟨rfl, l0, l1, l2, l3⟩ := hP106
            have t850 := (x106.2 rd 8 lt_rd (fun h => Or.elim h (fun h => (hi_ne k_rd k_tn (by decide)) h.1) (fun h => Or.elim h (fun h => (hi_ne k_rd k_A (by decide)) h.1) (fun h => Or.elim h (fun h => (hi_ne k_rd k_B (by decide)) h.1) (fun h => (hi_ne k_rd k_C (by decide)) h.1))))).trans t850
            have t250 := (x106.2 rd 2 lt_rd (fun h => Or.elim h (fun h => (hi_ne k_rd k_tn (by decide)) h.1) (fun h => Or.elim h (fun h => (hi_ne k_rd k_A (by decide)) h.1) (fun h => Or.elim h (fun h => (hi_ne k_rd k_B (by decide)) h.1) (fun h => (hi_ne k_rd k_C (by decide)) h.1))))).trans t250
            have t1 := (x106.2 tn 1 lt_tn (fun h => Or.elim h (fun h => absurd h.2 (by decide)) (fun h => Or.elim h (fun h => (hi_ne k_tn k_A (by decide)) h.1) (fun h => Or.elim h (fun h => (hi_ne k_tn k_B (by decide)) h.1) (fun h => (hi_ne k_tn k_C (by decide)) h.1))))).trans t1
            have t2 := (x106.2 tn 2 lt_tn (fun h => Or.elim h (fun h => absurd h.2 (by decide)) (fun h => Or.elim h (fun h => (hi_ne k_tn k_A (by decide)) h.1) (fun h => Or.elim h (fun h => (hi_ne k_tn k_B (by decide)) h.1) (fun h => (hi_ne k_tn k_C (by decide)) h.1))))).trans t2
            have t3 := (x106.2 tn 3 lt_tn (fun h => Or.elim h (fun h => absurd h.2 (by decide)) (fun h => Or.elim h (fun h => (hi_ne k_tn k_A (by decide)) h.1) (fun h => Or.elim h (fun h => (hi_ne k_tn k_B (by decide)) h.1) (fun h => (hi_ne k_tn k_C (by decide)) h.1))))).trans t3
            have lt_rd := Nat.lt_of_lt_of_le lt_rd x106.1
            have lt_tn := Nat.lt_of_lt_of_le lt_tn x106.1
            have lt_A := Nat.lt_of_lt_of_le lt_A x106.1
            have lt_B := Nat.lt_of_lt_of_le lt_B x106.1
            have lt_C := Nat.lt_of_lt_of_le lt_C x106.1
            have hX := hX.tr x106 (fun b j hb h => (Or.elim h (fun h => (.inr (.inr (.inl h)))) (fun h => (Or.elim h (fun h => (.inr (.inr (.inr (.inl h))))) (fun h => (Or.elim h (fun h => (.inr (.inr (.inr (.inr (.inl h)))))) (fun h => (.inr (.inr (.inr (.inr (.inr h))))))))))))
            have m106 := x106.1
            show et_go none _ 85 109 _ [] _ _ _ _
            refine hs_vret (by decide +kernel) ?_
            exact ⟨_, _, _, _, rfl, hx0, hH, hX, .inr ⟨((30 == 29), v50, none), (x + 1 + 1), (by rw [if_neg (show ¬ k = 10 by omega)]; exact ln_1 (T := L.drop x) (w := 30) (by rw [wat_d]; exact i25) (.inr rfl) (by rw [List.drop_drop]; exact dr_s tv50) tm50 (by rw [wat_d]; exact i69)), by omega, t850, t250, l0, ⟨tl_b (b := (30 == 29)) (by decide) l1, l2, tm50, l3⟩⟩⟩
        · show et_go none _ 85 53 _ [.int (-1)] _ _ _ _
          refine hs_istore (i := 3) (p := 54) (by decide +kernel) (Nat.le_of_ble_eq_true rfl) ?_
          refine hs_nul (p := 55) (by decide +kernel) ?_
          refine hs_astore0 (i := 4) (p := 57) (by decide +kernel) (Nat.le_of_ble_eq_true rfl) ?_
          refine hs_aload (i := 0) (p := 58) (by decide +kernel) rfl ?_
          refine hf_get (T := et_TT) (t := 7) (ci := 5) (f := 2) (p := 61) (by decide +kernel) rfl hH k_rd t250 ?_
          refine hs_k (x := (-1)) (p := 62) (by decide +kernel) ?_
          refine hs_br2 (c := .ne) (t := 93) (f := 65) (by decide +kernel) (fun _ => ?_) (fun hz => absurd (show ¬ ((Int32.ofNat q50 : Int32) = (-1)) from xi_nm1 (by omega)) hz)
          refine hs_aload (i := 0) (p := 94) (by decide +kernel) rfl ?_
          refine hf_get (T := et_TT) (t := 7) (ci := 5) (f := 2) (p := 97) (by decide +kernel) rfl hH k_rd t250 ?_
          refine hs_k (x := (-1)) (p := 98) (by decide +kernel) ?_
          refine hs_br2 (c := .ne) (t := 109) (f := 101) (by decide +kernel) (fun _ => ?_) (fun hz => absurd (show ¬ ((Int32.ofNat q50 : Int32) = (-1)) from xi_nm1 (by omega)) hz)
          refine hs_vret (by decide +kernel) ?_
          exact ⟨_, _, _, _, rfl, hx0, hH, hX, .inl ⟨(by first | exact if_pos (show k = 10 by omega) | (rw [if_neg (show ¬ k = 10 by omega)]; refine ln_n (r := L.drop (x + 1)) (by rw [List.drop_drop]) (fun z q hq => tv50 z ?_); have h : (L.drop (x + 1))[0]? = some (33, some z) := (by rw [hq] <;> rfl); rw [List.getElem?_drop] at h; exact h)), _, (by omega), t250⟩⟩
      · rw [if_neg i25]
        show et_go none _ 85 28 _ [.int (Int32.ofNat 0)] _ _ _ _
        refine hs_if0 (c := .ne) (t := 37) (f := 31) (by decide +kernel) (show ¬ (¬ Int32.ofNat 0 = 0) by decide) ?_
        refine hs_aload (i := 0) (p := 32) (by decide +kernel) rfl ?_
        have hHo := hH
        refine ht_callv (T := et_TT) (t := 7) (mi := 76) (na := 0) (ci := 5) (lk := 5) (lm := 1) (L0 := eg_en (eg_mL 76) [.ref rd]) (by decide +kernel) rfl hH k_rd rfl rfl rfl rfl rfl (by rw [show eg_mL 76 = 1 from by decide +kernel]; first | done | rfl) ?_
        refine (fc_fail hH k_rd htk htl r8 (by omega) r2).mono (fun u hu => xw_cb hu (fun G32 v32 hH x32 hP32 => ?_))
        have r8 := (x32.2 rd 8 lt_rd (fun h => absurd h.2 (by decide))).trans r8
        have t0 := (x32.2 tn 0 lt_tn (fun h => (hi_ne k_tn k_rd (by decide)) h.1)).trans t0
        have t1 := (x32.2 tn 1 lt_tn (fun h => (hi_ne k_tn k_rd (by decide)) h.1)).trans t1
        have t2 := (x32.2 tn 2 lt_tn (fun h => (hi_ne k_tn k_rd (by decide)) h.1)).trans t2
        have t3 := (x32.2 tn 3 lt_tn (fun h => (hi_ne k_tn k_rd (by decide)) h.1)).trans t3
        have lt_rd := Nat.lt_of_lt_of_le lt_rd x32.1
        have lt_tn := Nat.lt_of_lt_of_le lt_tn x32.1
        have lt_A := Nat.lt_of_lt_of_le lt_A x32.1
        have lt_B := Nat.lt_of_lt_of_le lt_B x32.1
        have lt_C := Nat.lt_of_lt_of_le lt_C x32.1
        have hX := hX.tr x32 (fun b j hb h => (.inl (And.intro (And.left h) (by rw [And.right h]; decide))))
        have m32 := x32.1
        have htk := htk.xf hHo k_rd et_ex.rf x32 (fun a j hs => .inl (And.intro hs.1 (.inl hs.2)))
        obtain ⟨rfl, q32, hq32, e32⟩ := hP32
        show et_go none _ 85 35 _ [.null] _ _ _ _
        refine hs_popn (p := 36) (by decide +kernel) ?_
        refine hs_vret (by decide +kernel) ?_
        exact ⟨_, _, _, _, rfl, hx0, hH, hX, .inl ⟨(by first | exact if_pos (show k = 10 by omega) | (rw [if_neg (show ¬ k = 10 by omega)]; exact ln_0 (by rw [wat_d]; exact i4) (by rw [wat_d]; exact i25))), _, (by omega), e32⟩⟩
def ttZ (rd : Nat) (S : Nat → Nat → Prop) (K : et_K) (G : eg_G) (sp : Option (List sp_L)) (u : eg_O) : Prop := ∃ (K' : et_K) (G' : eg_G) (v : Value) (c s : Nat), u = (.inl (some v), G', c, s) ∧ et_ex K K' ∧ et_H et_TT K' G' ∧ xf S G G' ∧ ((sp = none ∧ v = .null) ∨ ∃ (ls : List sp_L) (tn A B C mid : Nat), sp = some ls ∧ v = .ref tn ∧ K' tn = some 11 ∧ G.2 ≤ tn ∧ tn < mid ∧ mid ≤ G'.2 ∧ (et_pl (eg_at G' tn) 1 = some (.ref A) ∧ et_pl (eg_at G' tn) 2 = some (.ref B) ∧ et_pl (eg_at G' tn) 3 = some (.ref C)) ∧ (K' A = some 26 ∧ K' B = some 16 ∧ K' C = some 42) ∧ (G.2 ≤ A ∧ A < mid) ∧ (G.2 ≤ B ∧ B < mid) ∧ (G.2 ≤ C ∧ C < mid) ∧ tlR K' G' tn A B C mid G'.2 ls)
theorem lns_w {i : Nat} {ls : List sp_L} {T : List sp_T} (hi : i ≤ 10) (sq : (if i = 10 then none else sp_line T) = none) : sp_lines (10 - i) ls T = none := by
  by_cases e : i = 10
  · subst e
    rfl
  · rw [if_neg e] at sq
    rw [show 10 - i = 10 - (i + 1) + 1 by omega]
    exact lns_0 sq
theorem tcR_lo {K : et_K} {G : eg_G} {C n lo lo' hi : Nat} {o : Option (sp_E → Bool)} (h : tcR K G C n lo' hi o) (h1 : lo ≤ lo') : tcR K G C n lo hi o := by
  cases o with
  | none => exact h
  | some f =>
    obtain ⟨c, e, k, hd⟩ := h
    exact ⟨c, e, k, hd.wk h1 (Nat.le_refl _)⟩
theorem fn_tt {mid : Nat} (h34 : ∀ t ∈ L, ¬ t.1 = 34) (hx0 : et_ex K0 K) (hX : xf (fun b j => (b = rd ∧ (2 ≤ j ∧ j ≤ 3)) ∨ ((b = rd ∧ j = 8))) G0 G) (hH : et_H et_TT K G) (k_rd : K rd = some 7) (htk : tk K G rd L) (htl : tl L) (r8 : et_pl (eg_at G rd) 8 = some (.int (Int32.ofNat x))) (hx : x ≤ L.length) (r2 : et_pl (eg_at G rd) 2 = some (.int (-1))) (k_tn : K tn = some 11) (t0 : et_pl (eg_at G tn) 0 = some (.int (Int32.ofNat i))) (t1 : et_pl (eg_at G tn) 1 = some (.ref A)) (t2 : et_pl (eg_at G tn) 2 = some (.ref B)) (t3 : et_pl (eg_at G tn) 3 = some (.ref C)) (k_A : K A = some 26) (k_B : K B = some 16) (k_C : K C = some 42) (n_tn : G0.2 ≤ tn) (n_A : G0.2 ≤ A) (n_B : G0.2 ≤ B) (n_C : G0.2 ≤ C) (md_tn : tn < mid) (md_A : A < mid) (md_B : B < mid) (md_C : C < mid) (hmid : mid ≤ G.2) (lr_rd : rd < G0.2) (htl2 : tlR K G tn A B C mid G.2 ls) (hls : ls.length = i) (hi : i ≤ 10) : et_go none (d + 27) 84 31 [some (.ref rd), some (.ref tn), some (.int (Int32.ofNat 1)), some (.int (Int32.ofNat i))] [] G ck sk (ttZ rd (fun b j => (b = rd ∧ (2 ≤ j ∧ j ≤ 3)) ∨ ((b = rd ∧ j = 8))) K0 G0 (sp_lines (10 - i) ls (L.drop x))) := by
  induction hm : 11 - i using Nat.strongRecOn generalizing i ck sk x ls K G with
  | _ z ih =>
    have hl4 : L.length ≤ 400 := by obtain ⟨_, _, _, _, _, h, _⟩ := htk; exact h
    have mX := hX.1
    have lt_rd := (hH.2.2 _ _ k_rd).1
    have lt_tn := (hH.2.2 _ _ k_tn).1
    have lt_A := (hH.2.2 _ _ k_A).1
    have lt_B := (hH.2.2 _ _ k_B).1
    have lt_C := (hH.2.2 _ _ k_C).1
    refine hs_iload (i := 3) (p := 32) (by decide +kernel) rfl ?_
    refine hs_k (x := Int32.ofNat 10) (p := 34) (by decide +kernel) ?_
    refine hs_br2n (c := .gt) (t := 90) (f := 37) (by decide +kernel) (by omega) (by omega) (fun (c34 : 10 < i) => ?_) (fun (c34 : ¬ (10 < i)) => ?_)
    · exact absurd c34 (by omega)
    · refine hs_iload (i := 2) (p := 38) (by decide +kernel) rfl ?_
      refine hs_if0 (c := .eq) (t := 90) (f := 41) (by decide +kernel) (show ¬ (Int32.ofNat 1 = 0) by decide) ?_
      refine hs_aload (i := 0) (p := 42) (by decide +kernel) rfl ?_
      refine hs_aload (i := 1) (p := 43) (by decide +kernel) rfl ?_
      have hHo := hH
      have lt_tn0 := lt_tn
      have lt_A0 := lt_A
      have lt_B0 := lt_B
      have lt_C0 := lt_C
      refine ht_callv (T := et_TT) (t := 7) (mi := 85) (na := 1) (ci := 5) (lk := 4) (lm := 5) (L0 := eg_en (eg_mL 85) [.ref rd, .ref tn]) (by decide +kernel) rfl hH k_rd rfl rfl rfl rfl rfl (by rw [show eg_mL 85 = 5 from by decide +kernel]; first | done | rfl) ?_
      refine (fc_line (k := i) hH k_rd htk htl r8 (by omega) r2 k_tn t0 t1 t2 t3 k_A k_B k_C (by omega) (by omega)).mono (fun u hu => ?_)
      obtain ⟨K43, G43, c43, s43, rfl, hxx43, hH, x43, hm43⟩ := hu
      have htk := tk_xg htk hHo k_rd hxx43 x43 (fun a j t ht hs => ⟨(fun e => by subst e; rcases hs with h | h | h | h | h | h <;> (have h := h.1; subst h; first | (rw [k_rd] at ht; cases ht) | (rw [k_tn] at ht; cases ht) | (rw [k_A] at ht; cases ht) | (rw [k_B] at ht; cases ht) | (rw [k_C] at ht; cases ht))), (fun e => by subst e; rcases hs with h | h | h | h | h | h <;> (have h := h.1; subst h; first | (rw [k_rd] at ht; cases ht) | (rw [k_tn] at ht; cases ht) | (rw [k_A] at ht; cases ht) | (rw [k_B] at ht; cases ht) | (rw [k_C] at ht; cases ht))), (fun e h4 => by rcases hs with h | h | h | h | h | h <;> first | omega | (have h := h.1; rw [e] at h; first | exact hi_ne k_rd k_tn (by decide) h | exact hi_ne k_rd k_A (by decide) h | exact hi_ne k_rd k_B (by decide) h | exact hi_ne k_rd k_C (by decide) h))⟩)
      have t1 := (x43.2 tn 1 lt_tn (fun h => by rcases h with h | h | h | h | h | h <;> first | omega | (have h := h.1; first | exact hi_ne k_tn k_rd (by decide) h | exact hi_ne k_tn k_A (by decide) h | exact hi_ne k_tn k_B (by decide) h | exact hi_ne k_tn k_C (by decide) h))).trans t1
      have t2 := (x43.2 tn 2 lt_tn (fun h => by rcases h with h | h | h | h | h | h <;> first | omega | (have h := h.1; first | exact hi_ne k_tn k_rd (by decide) h | exact hi_ne k_tn k_A (by decide) h | exact hi_ne k_tn k_B (by decide) h | exact hi_ne k_tn k_C (by decide) h))).trans t2
      have t3 := (x43.2 tn 3 lt_tn (fun h => by rcases h with h | h | h | h | h | h <;> first | omega | (have h := h.1; first | exact hi_ne k_tn k_rd (by decide) h | exact hi_ne k_tn k_A (by decide) h | exact hi_ne k_tn k_B (by decide) h | exact hi_ne k_tn k_C (by decide) h))).trans t3
      have lt_tn := Nat.lt_of_lt_of_le lt_tn x43.1
      have lt_A := Nat.lt_of_lt_of_le lt_A x43.1
      have lt_B := Nat.lt_of_lt_of_le lt_B x43.1
      have lt_C := Nat.lt_of_lt_of_le lt_C x43.1
      have lt_rd := Nat.lt_of_lt_of_le lt_rd x43.1
      have hX := hX.tr x43 (fun b j hb h => by first | omega | (dsimp only at h ⊢; omega))
      have m_x43 := x43.1
      have k_o := And.intro k_rd (And.intro k_tn (And.intro k_A (And.intro k_B k_C)))
      have k_rd := hxx43 _ _ k_rd
      have k_tn := hxx43 _ _ k_tn
      have k_A := hxx43 _ _ k_A
      have k_B := hxx43 _ _ k_B
      have k_C := hxx43 _ _ k_C
      have hx0 := hx0.tr hxx43
      rcases hm43 with ⟨sq, q, hq, r2⟩ | ⟨l, y, sq, hy, r8, r2, t0, htl3⟩
      · refine hs_cb ?_
        show et_go none _ 84 46 _ [] _ _ _ _
        refine hs_aload (i := 0) (p := 47) (by decide +kernel) rfl ?_
        refine hf_get (T := et_TT) (t := 7) (ci := 5) (f := 2) (p := 50) (by decide +kernel) rfl hH k_rd r2 ?_
        refine hs_k (x := (-1)) (p := 51) (by decide +kernel) ?_
        refine hs_br2 (c := .ne) (t := 68) (f := 54) (by decide +kernel) (fun _ => ?_) (fun hz => absurd (show ¬ ((Int32.ofNat q : Int32) = (-1)) from xi_nm1 (by omega)) hz)
        refine hs_k (x := Int32.ofNat 0) (p := 69) (by decide +kernel) ?_
        refine hs_istore (i := 2) (p := 70) (by decide +kernel) (Nat.le_of_ble_eq_true rfl) ?_
        refine hs_iload (i := 2) (p := 71) (by decide +kernel) rfl ?_
        refine hs_if1 (c := .eq) (t := 84) (f := 74) (by decide +kernel) (show Int32.ofNat 0 = 0 by decide) ?_
        refine hs_iinc1 (i := 3) (p := 87) (by decide +kernel) rfl (Nat.le_of_ble_eq_true rfl) ?_
        refine hs_goto (p := 31) (by decide +kernel) ?_
        refine hs_iload (i := 3) (p := 32) (by decide +kernel) rfl ?_
        refine hs_k (x := Int32.ofNat 10) (p := 34) (by decide +kernel) ?_
        refine hs_br2n (c := .gt) (t := 90) (f := 37) (by decide +kernel) (by omega) (by omega) (fun (c34 : 10 < (i + 1)) => ?_) (fun (c34 : ¬ (10 < (i + 1))) => ?_)
        · refine hs_aload (i := 0) (p := 91) (by decide +kernel) rfl ?_
          refine hf_get (T := et_TT) (t := 7) (ci := 5) (f := 2) (p := 94) (by decide +kernel) rfl hH k_rd r2 ?_
          refine hs_k (x := (-1)) (p := 95) (by decide +kernel) ?_
          refine hs_br2 (c := .ne) (t := 113) (f := 98) (by decide +kernel) (fun _ => ?_) (fun hz => absurd (show ¬ ((Int32.ofNat q : Int32) = (-1)) from xi_nm1 (by omega)) hz)
          refine hs_aload (i := 0) (p := 114) (by decide +kernel) rfl ?_
          refine hf_get (T := et_TT) (t := 7) (ci := 5) (f := 2) (p := 117) (by decide +kernel) rfl hH k_rd r2 ?_
          refine hs_k (x := (-1)) (p := 118) (by decide +kernel) ?_
          refine hs_br2 (c := .ne) (t := 125) (f := 121) (by decide +kernel) (fun _ => ?_) (fun hz => absurd (show ¬ ((Int32.ofNat q : Int32) = (-1)) from xi_nm1 (by omega)) hz)
          refine hs_nul (p := 126) (by decide +kernel) ?_
          refine hs_aretN (cn := "KnobEye$Turner") (by decide +kernel) ?_
          exact ⟨_, _, _, _, _, rfl, hx0, hH, hX, .inl ⟨lns_w hi sq, rfl⟩⟩
        · refine hs_iload (i := 2) (p := 38) (by decide +kernel) rfl ?_
          refine hs_if1 (c := .eq) (t := 90) (f := 41) (by decide +kernel) (show Int32.ofNat 0 = 0 by decide) ?_
          refine hs_aload (i := 0) (p := 91) (by decide +kernel) rfl ?_
          refine hf_get (T := et_TT) (t := 7) (ci := 5) (f := 2) (p := 94) (by decide +kernel) rfl hH k_rd r2 ?_
          refine hs_k (x := (-1)) (p := 95) (by decide +kernel) ?_
          refine hs_br2 (c := .ne) (t := 113) (f := 98) (by decide +kernel) (fun _ => ?_) (fun hz => absurd (show ¬ ((Int32.ofNat q : Int32) = (-1)) from xi_nm1 (by omega)) hz)
          refine hs_aload (i := 0) (p := 114) (by decide +kernel) rfl ?_
          refine hf_get (T := et_TT) (t := 7) (ci := 5) (f := 2) (p := 117) (by decide +kernel) rfl hH k_rd r2 ?_
          refine hs_k (x := (-1)) (p := 118) (by decide +kernel) ?_
          refine hs_br2 (c := .ne) (t := 125) (f := 121) (by decide +kernel) (fun _ => ?_) (fun hz => absurd (show ¬ ((Int32.ofNat q : Int32) = (-1)) from xi_nm1 (by omega)) hz)
          refine hs_nul (p := 126) (by decide +kernel) ?_
          refine hs_aretN (cn := "KnobEye$Turner") (by decide +kernel) ?_
          exact ⟨_, _, _, _, _, rfl, hx0, hH, hX, .inl ⟨lns_w hi sq, rfl⟩⟩
      · have hi9 : ¬ i = 10 := fun e => by rw [if_pos e] at sq; cases sq
        rw [if_neg hi9] at sq
        have htl2 := htl2.snoc (hi' := G43.2) (l := l) hxx43 x43 ⟨lt_A0, lt_B0, lt_C0⟩ (by omega) (by omega) (fun j hj => ⟨(fun hs => by rcases hs with h | h | h | h | h | h <;> first | omega | (have h := h.1; first | exact hi_ne k_o.2.2.1 k_o.1 (by decide) h | exact hi_ne k_o.2.2.1 k_o.2.1 (by decide) h | exact hi_ne k_o.2.2.1 k_o.2.2.2.1 (by decide) h | exact hi_ne k_o.2.2.1 k_o.2.2.2.2 (by decide) h)), (fun hs => by rcases hs with h | h | h | h | h | h <;> first | omega | (have h := h.1; first | exact hi_ne k_o.2.2.2.1 k_o.1 (by decide) h | exact hi_ne k_o.2.2.2.1 k_o.2.1 (by decide) h | exact hi_ne k_o.2.2.2.1 k_o.2.2.1 (by decide) h | exact hi_ne k_o.2.2.2.1 k_o.2.2.2.2 (by decide) h)), (fun hs => by rcases hs with h | h | h | h | h | h <;> first | omega | (have h := h.1; first | exact hi_ne k_o.2.2.2.2 k_o.1 (by decide) h | exact hi_ne k_o.2.2.2.2 k_o.2.1 (by decide) h | exact hi_ne k_o.2.2.2.2 k_o.2.2.2.1 (by decide) h | exact hi_ne k_o.2.2.2.2 k_o.2.2.1 (by decide) h))⟩) (fun a j h1 h2 hs => by first | omega | (dsimp only at hs; omega)) (by rw [hls]; exact t0) (by rw [hls]; obtain ⟨z1, z2, z3, z4⟩ := htl3; exact ⟨z1, z2, z3, tcR_lo z4 (by omega)⟩)
        refine hs_cb ?_
        show et_go none _ 84 46 _ [] _ _ _ _
        refine hs_aload (i := 0) (p := 47) (by decide +kernel) rfl ?_
        refine hf_get (T := et_TT) (t := 7) (ci := 5) (f := 2) (p := 50) (by decide +kernel) rfl hH k_rd r2 ?_
        refine hs_k (x := (-1)) (p := 51) (by decide +kernel) ?_
        refine hs_br2 (c := .ne) (t := 68) (f := 54) (by decide +kernel) (fun hz => absurd rfl hz) (fun _ => ?_)
        refine hs_aload (i := 0) (p := 55) (by decide +kernel) rfl ?_
        refine hs_gst (v := Value.ref 32) (p := 58) (by decide +kernel) ?_
        refine ht_callv (T := et_TT) (t := 7) (mi := 78) (na := 1) (ci := 5) (lk := 4) (lm := 2) (L0 := eg_en (eg_mL 78) [.ref rd, .ref 32]) (by decide +kernel) rfl hH k_rd rfl rfl rfl rfl rfl (by rw [show eg_mL 78 = 2 from by decide +kernel]; first | done | rfl) ?_
        refine (fc_is hH k_rd htk htl r8 (by omega) (wd := 32) (by decide)).mono (fun u hu => xp_cb hu ?_)
        by_cases i58 : wat L y = 32
        · rw [if_pos i58]
          have il58 : y < L.length := wat_i (by rw [i58]; decide)
          show et_go none _ 84 61 _ [.int (Int32.ofNat 1)] _ _ _ _
          refine hs_if0 (c := .eq) (t := 68) (f := 64) (by decide +kernel) (show ¬ (Int32.ofNat 1 = 0) by decide) ?_
          refine hs_k (x := Int32.ofNat 1) (p := 65) (by decide +kernel) ?_
          refine hs_goto (p := 69) (by decide +kernel) ?_
          refine hs_istore (i := 2) (p := 70) (by decide +kernel) (Nat.le_of_ble_eq_true rfl) ?_
          refine hs_iload (i := 2) (p := 71) (by decide +kernel) rfl ?_
          refine hs_if0 (c := .eq) (t := 84) (f := 74) (by decide +kernel) (show ¬ (Int32.ofNat 1 = 0) by decide) ?_
          refine hs_aload (i := 0) (p := 75) (by decide +kernel) rfl ?_
          refine hs_dup1 (p := 76) (by decide +kernel) ?_
          refine hf_get (T := et_TT) (t := 7) (ci := 5) (f := 8) (p := 79) (by decide +kernel) rfl hH k_rd r8 ?_
          refine hs_k (x := Int32.ofNat 1) (p := 80) (by decide +kernel) ?_
          refine hs_iaddn (p := 81) (by decide +kernel) ?_
          have hHo := hH
          have lt_tn0 := lt_tn
          have lt_A0 := lt_A
          have lt_B0 := lt_B
          have lt_C0 := lt_C
          refine hf_put (T := et_TT) (t := 7) (ci := 5) (f := 8) (p := 84) (ty := .int) (by decide +kernel) rfl rfl rfl rfl rfl hH k_rd (hi_nv (by omega) (by omega)) (fun G81 hH x81 e81 => ?_)
          have t1 := (x81.2 tn 1 lt_tn (fun h => (hi_ne k_tn k_rd (by decide)) h.1)).trans t1
          have t2 := (x81.2 tn 2 lt_tn (fun h => (hi_ne k_tn k_rd (by decide)) h.1)).trans t2
          have t3 := (x81.2 tn 3 lt_tn (fun h => (hi_ne k_tn k_rd (by decide)) h.1)).trans t3
          have r2 := (x81.2 rd 2 lt_rd (fun h => absurd h.2 (by decide))).trans r2
          have t0 := (x81.2 tn 0 lt_tn (fun h => (hi_ne k_tn k_rd (by decide)) h.1)).trans t0
          have lt_rd := Nat.lt_of_lt_of_le lt_rd x81.1
          have lt_tn := Nat.lt_of_lt_of_le lt_tn x81.1
          have lt_A := Nat.lt_of_lt_of_le lt_A x81.1
          have lt_B := Nat.lt_of_lt_of_le lt_B x81.1
          have lt_C := Nat.lt_of_lt_of_le lt_C x81.1
          have hX := hX.tr x81 (fun b j hb h => (.inr h))
          have m_x81 := x81.1
          have htk := htk.xf hHo k_rd et_ex.rf x81 (fun a j hs => .inl (And.intro hs.1 (.inr (.inr hs.2))))
          have htl2 := htl2.fr (hi' := G81.2) et_ex.rf x81 lt_tn0 ⟨lt_A0, lt_B0, lt_C0⟩ (by omega) (by omega) (fun j => ⟨(fun hs => absurd hs.1 (by omega)), (fun hs => absurd hs.1 (by omega)), (fun hs => absurd hs.1 (by omega)), (fun hs => absurd hs.1 (by omega))⟩) (fun a j h1 h2 hs => absurd hs.1 (by omega))
          refine hs_iinc1 (i := 3) (p := 87) (by decide +kernel) rfl (Nat.le_of_ble_eq_true rfl) ?_
          refine hs_goto (p := 31) (by decide +kernel) ?_
          show et_go none _ 84 31 [some (.ref rd), some (.ref tn), some (.int (Int32.ofNat 1)), some (.int (Int32.ofNat (i + 1)))] [] _ _ _ _
          rw [show 10 - i = 10 - (i + 1) + 1 by omega]
          rw [show sp_lines (10 - (i + 1) + 1) ls (L.drop x) = sp_lines (10 - (i + 1)) (ls ++ [l]) (L.drop (y + 1)) from (lns_s sq (by rw [wat_d]; exact i58)).trans (by rw [List.drop_drop])]
          exact ih (11 - (i + 1)) (by omega) (i := i + 1) (ls := ls ++ [l]) hx0 hX hH k_rd htk e81 (by omega) r2 k_tn t0 t1 t2 t3 k_A k_B k_C (by omega) htl2 (by rw [List.length_append, hls]; rfl) (by omega) rfl
        · rw [if_neg i58]
          show et_go none _ 84 61 _ [.int (Int32.ofNat 0)] _ _ _ _
          refine hs_if1 (c := .eq) (t := 68) (f := 64) (by decide +kernel) (show Int32.ofNat 0 = 0 by decide) ?_
          refine hs_k (x := Int32.ofNat 0) (p := 69) (by decide +kernel) ?_
          refine hs_istore (i := 2) (p := 70) (by decide +kernel) (Nat.le_of_ble_eq_true rfl) ?_
          refine hs_iload (i := 2) (p := 71) (by decide +kernel) rfl ?_
          refine hs_if1 (c := .eq) (t := 84) (f := 74) (by decide +kernel) (show Int32.ofNat 0 = 0 by decide) ?_
          refine hs_iinc1 (i := 3) (p := 87) (by decide +kernel) rfl (Nat.le_of_ble_eq_true rfl) ?_
          refine hs_goto (p := 31) (by decide +kernel) ?_
          refine hs_iload (i := 3) (p := 32) (by decide +kernel) rfl ?_
          refine hs_k (x := Int32.ofNat 10) (p := 34) (by decide +kernel) ?_
          refine hs_br2n (c := .gt) (t := 90) (f := 37) (by decide +kernel) (by omega) (by omega) (fun (c34 : 10 < (i + 1)) => ?_) (fun (c34 : ¬ (10 < (i + 1))) => ?_)
          · refine hs_aload (i := 0) (p := 91) (by decide +kernel) rfl ?_
            refine hf_get (T := et_TT) (t := 7) (ci := 5) (f := 2) (p := 94) (by decide +kernel) rfl hH k_rd r2 ?_
            refine hs_k (x := (-1)) (p := 95) (by decide +kernel) ?_
            refine hs_br2 (c := .ne) (t := 113) (f := 98) (by decide +kernel) (fun hz => absurd rfl hz) (fun _ => ?_)
            refine hs_aload (i := 0) (p := 99) (by decide +kernel) rfl ?_
            refine hs_gst (v := Value.ref 34) (p := 102) (by decide +kernel) ?_
            refine ht_callv (T := et_TT) (t := 7) (mi := 78) (na := 1) (ci := 5) (lk := 4) (lm := 2) (L0 := eg_en (eg_mL 78) [.ref rd, .ref 34]) (by decide +kernel) rfl hH k_rd rfl rfl rfl rfl rfl (by rw [show eg_mL 78 = 2 from by decide +kernel]; first | done | rfl) ?_
            refine (fc_is hH k_rd htk htl r8 (by omega) (wd := 34) (by decide)).mono (fun u hu => xp_cb hu ?_)
            by_cases i102 : wat L y = 34
            · rw [if_pos i102]
              show et_go none _ 84 105 _ [.int (Int32.ofNat 1)] _ _ _ _
              refine hs_if1 (c := .ne) (t := 113) (f := 108) (by decide +kernel) (show ¬ Int32.ofNat 1 = 0 by decide) ?_
              refine hs_aload (i := 0) (p := 114) (by decide +kernel) rfl ?_
              refine hf_get (T := et_TT) (t := 7) (ci := 5) (f := 2) (p := 117) (by decide +kernel) rfl hH k_rd r2 ?_
              refine hs_k (x := (-1)) (p := 118) (by decide +kernel) ?_
              refine hs_br2 (c := .ne) (t := 125) (f := 121) (by decide +kernel) (fun hz => absurd rfl hz) (fun _ => ?_)
              refine hs_aload (i := 1) (p := 122) (by decide +kernel) rfl ?_
              refine hs_goto (p := 126) (by decide +kernel) ?_
              refine hs_aret (cn := "KnobEye$Turner") (by decide +kernel) ?_
              exact ⟨_, _, _, _, _, rfl, hx0, hH, hX, .inr ⟨_, tn, A, B, C, mid, (by rw [show 10 - i = 10 - (i + 1) + 1 by omega]; exact lns_e sq ((wat_34 h34).mp i102)), rfl, k_tn, n_tn, md_tn, by omega, ⟨t1, t2, t3⟩, ⟨k_A, k_B, k_C⟩, ⟨n_A, md_A⟩, ⟨n_B, md_B⟩, ⟨n_C, md_C⟩, htl2⟩⟩
            · rw [if_neg i102]
              show et_go none _ 84 105 _ [.int (Int32.ofNat 0)] _ _ _ _
              refine hs_if0 (c := .ne) (t := 113) (f := 108) (by decide +kernel) (show ¬ (¬ Int32.ofNat 0 = 0) by decide) ?_
              refine hs_aload (i := 0) (p := 109) (by decide +kernel) rfl ?_
              have hHo := hH
              have lt_tn0 := lt_tn
              have lt_A0 := lt_A
              have lt_B0 := lt_B
              have lt_C0 := lt_C
              refine ht_callv (T := et_TT) (t := 7) (mi := 76) (na := 0) (ci := 5) (lk := 4) (lm := 1) (L0 := eg_en (eg_mL 76) [.ref rd]) (by decide +kernel) rfl hH k_rd rfl rfl rfl rfl rfl (by rw [show eg_mL 76 = 1 from by decide +kernel]; first | done | rfl) ?_
              refine (fc_fail hH k_rd htk htl r8 (by omega) r2).mono (fun u hu => xw_cb hu (fun G109 v109 hH x109 hP109 => ?_))
              have t1 := (x109.2 tn 1 lt_tn (fun h => (hi_ne k_tn k_rd (by decide)) h.1)).trans t1
              have t2 := (x109.2 tn 2 lt_tn (fun h => (hi_ne k_tn k_rd (by decide)) h.1)).trans t2
              have t3 := (x109.2 tn 3 lt_tn (fun h => (hi_ne k_tn k_rd (by decide)) h.1)).trans t3
              have r8 := (x109.2 rd 8 lt_rd (fun h => absurd h.2 (by decide))).trans r8
              have t0 := (x109.2 tn 0 lt_tn (fun h => (hi_ne k_tn k_rd (by decide)) h.1)).trans t0
              have lt_rd := Nat.lt_of_lt_of_le lt_rd x109.1
              have lt_tn := Nat.lt_of_lt_of_le lt_tn x109.1
              have lt_A := Nat.lt_of_lt_of_le lt_A x109.1
              have lt_B := Nat.lt_of_lt_of_le lt_B x109.1
              have lt_C := Nat.lt_of_lt_of_le lt_C x109.1
              have hX := hX.tr x109 (fun b j hb h => (.inl (And.intro (And.left h) (by rw [And.right h]; decide))))
              have m_x109 := x109.1
              have htk := htk.xf hHo k_rd et_ex.rf x109 (fun a j hs => .inl (And.intro hs.1 (.inl hs.2)))
              have htl2 := htl2.fr (hi' := G109.2) et_ex.rf x109 lt_tn0 ⟨lt_A0, lt_B0, lt_C0⟩ (by omega) (by omega) (fun j => ⟨(fun hs => absurd hs.1 (by omega)), (fun hs => absurd hs.1 (by omega)), (fun hs => absurd hs.1 (by omega)), (fun hs => absurd hs.1 (by omega))⟩) (fun a j h1 h2 hs => absurd hs.1 (by omega))
              obtain ⟨rfl, q109, hq109, e109⟩ := hP109
              show et_go none _ 84 112 _ [.null] _ _ _ _
              refine hs_popn (p := 113) (by decide +kernel) ?_
              refine hs_aload (i := 0) (p := 114) (by decide +kernel) rfl ?_
              refine hf_get (T := et_TT) (t := 7) (ci := 5) (f := 2) (p := 117) (by decide +kernel) rfl hH k_rd e109 ?_
              refine hs_k (x := (-1)) (p := 118) (by decide +kernel) ?_
              refine hs_br2 (c := .ne) (t := 125) (f := 121) (by decide +kernel) (fun _ => ?_) (fun hz => absurd (show ¬ ((Int32.ofNat q109 : Int32) = (-1)) from xi_nm1 (by omega)) hz)
              refine hs_nul (p := 126) (by decide +kernel) ?_
              refine hs_aretN (cn := "KnobEye$Turner") (by decide +kernel) ?_
              exact ⟨_, _, _, _, _, rfl, hx0, hH, hX, .inl ⟨(by rw [show 10 - i = 10 - (i + 1) + 1 by omega]; exact lns_x sq (fun h => i102 ((wat_34 h34).mpr h)) (by rw [wat_d]; exact i58)), rfl⟩⟩
          · refine hs_iload (i := 2) (p := 38) (by decide +kernel) rfl ?_
            refine hs_if1 (c := .eq) (t := 90) (f := 41) (by decide +kernel) (show Int32.ofNat 0 = 0 by decide) ?_
            refine hs_aload (i := 0) (p := 91) (by decide +kernel) rfl ?_
            refine hf_get (T := et_TT) (t := 7) (ci := 5) (f := 2) (p := 94) (by decide +kernel) rfl hH k_rd r2 ?_
            refine hs_k (x := (-1)) (p := 95) (by decide +kernel) ?_
            refine hs_br2 (c := .ne) (t := 113) (f := 98) (by decide +kernel) (fun hz => absurd rfl hz) (fun _ => ?_)
            refine hs_aload (i := 0) (p := 99) (by decide +kernel) rfl ?_
            refine hs_gst (v := Value.ref 34) (p := 102) (by decide +kernel) ?_
            refine ht_callv (T := et_TT) (t := 7) (mi := 78) (na := 1) (ci := 5) (lk := 4) (lm := 2) (L0 := eg_en (eg_mL 78) [.ref rd, .ref 34]) (by decide +kernel) rfl hH k_rd rfl rfl rfl rfl rfl (by rw [show eg_mL 78 = 2 from by decide +kernel]; first | done | rfl) ?_
            refine (fc_is hH k_rd htk htl r8 (by omega) (wd := 34) (by decide)).mono (fun u hu => xp_cb hu ?_)
            by_cases i102 : wat L y = 34
            · rw [if_pos i102]
              show et_go none _ 84 105 _ [.int (Int32.ofNat 1)] _ _ _ _
              refine hs_if1 (c := .ne) (t := 113) (f := 108) (by decide +kernel) (show ¬ Int32.ofNat 1 = 0 by decide) ?_
              refine hs_aload (i := 0) (p := 114) (by decide +kernel) rfl ?_
              refine hf_get (T := et_TT) (t := 7) (ci := 5) (f := 2) (p := 117) (by decide +kernel) rfl hH k_rd r2 ?_
              refine hs_k (x := (-1)) (p := 118) (by decide +kernel) ?_
              refine hs_br2 (c := .ne) (t := 125) (f := 121) (by decide +kernel) (fun hz => absurd rfl hz) (fun _ => ?_)
              refine hs_aload (i := 1) (p := 122) (by decide +kernel) rfl ?_
              refine hs_goto (p := 126) (by decide +kernel) ?_
              refine hs_aret (cn := "KnobEye$Turner") (by decide +kernel) ?_
              exact ⟨_, _, _, _, _, rfl, hx0, hH, hX, .inr ⟨_, tn, A, B, C, mid, (by rw [show 10 - i = 10 - (i + 1) + 1 by omega]; exact lns_e sq ((wat_34 h34).mp i102)), rfl, k_tn, n_tn, md_tn, by omega, ⟨t1, t2, t3⟩, ⟨k_A, k_B, k_C⟩, ⟨n_A, md_A⟩, ⟨n_B, md_B⟩, ⟨n_C, md_C⟩, htl2⟩⟩
            · rw [if_neg i102]
              show et_go none _ 84 105 _ [.int (Int32.ofNat 0)] _ _ _ _
              refine hs_if0 (c := .ne) (t := 113) (f := 108) (by decide +kernel) (show ¬ (¬ Int32.ofNat 0 = 0) by decide) ?_
              refine hs_aload (i := 0) (p := 109) (by decide +kernel) rfl ?_
              have hHo := hH
              have lt_tn0 := lt_tn
              have lt_A0 := lt_A
              have lt_B0 := lt_B
              have lt_C0 := lt_C
              refine ht_callv (T := et_TT) (t := 7) (mi := 76) (na := 0) (ci := 5) (lk := 4) (lm := 1) (L0 := eg_en (eg_mL 76) [.ref rd]) (by decide +kernel) rfl hH k_rd rfl rfl rfl rfl rfl (by rw [show eg_mL 76 = 1 from by decide +kernel]; first | done | rfl) ?_
              refine (fc_fail hH k_rd htk htl r8 (by omega) r2).mono (fun u hu => xw_cb hu (fun G109 v109 hH x109 hP109 => ?_))
              have t1 := (x109.2 tn 1 lt_tn (fun h => (hi_ne k_tn k_rd (by decide)) h.1)).trans t1
              have t2 := (x109.2 tn 2 lt_tn (fun h => (hi_ne k_tn k_rd (by decide)) h.1)).trans t2
              have t3 := (x109.2 tn 3 lt_tn (fun h => (hi_ne k_tn k_rd (by decide)) h.1)).trans t3
              have r8 := (x109.2 rd 8 lt_rd (fun h => absurd h.2 (by decide))).trans r8
              have t0 := (x109.2 tn 0 lt_tn (fun h => (hi_ne k_tn k_rd (by decide)) h.1)).trans t0
              have lt_rd := Nat.lt_of_lt_of_le lt_rd x109.1
              have lt_tn := Nat.lt_of_lt_of_le lt_tn x109.1
              have lt_A := Nat.lt_of_lt_of_le lt_A x109.1
              have lt_B := Nat.lt_of_lt_of_le lt_B x109.1
              have lt_C := Nat.lt_of_lt_of_le lt_C x109.1
              have hX := hX.tr x109 (fun b j hb h => (.inl (And.intro (And.left h) (by rw [And.right h]; decide))))
              have m_x109 := x109.1
              have htk := htk.xf hHo k_rd et_ex.rf x109 (fun a j hs => .inl (And.intro hs.1 (.inl hs.2)))
              have htl2 := htl2.fr (hi' := G109.2) et_ex.rf x109 lt_tn0 ⟨lt_A0, lt_B0, lt_C0⟩ (by omega) (by omega) (fun j => ⟨(fun hs => absurd hs.1 (by omega)), (fun hs => absurd hs.1 (by omega)), (fun hs => absurd hs.1 (by omega)), (fun hs => absurd hs.1 (by omega))⟩) (fun a j h1 h2 hs => absurd hs.1 (by omega))
              obtain ⟨rfl, q109, hq109, e109⟩ := hP109
              show et_go none _ 84 112 _ [.null] _ _ _ _
              refine hs_popn (p := 113) (by decide +kernel) ?_
              refine hs_aload (i := 0) (p := 114) (by decide +kernel) rfl ?_
              refine hf_get (T := et_TT) (t := 7) (ci := 5) (f := 2) (p := 117) (by decide +kernel) rfl hH k_rd e109 ?_
              refine hs_k (x := (-1)) (p := 118) (by decide +kernel) ?_
              refine hs_br2 (c := .ne) (t := 125) (f := 121) (by decide +kernel) (fun _ => ?_) (fun hz => absurd (show ¬ ((Int32.ofNat q109 : Int32) = (-1)) from xi_nm1 (by omega)) hz)
              refine hs_nul (p := 126) (by decide +kernel) ?_
              refine hs_aretN (cn := "KnobEye$Turner") (by decide +kernel) ?_
              exact ⟨_, _, _, _, _, rfl, hx0, hH, hX, .inl ⟨(by rw [show 10 - i = 10 - (i + 1) + 1 by omega]; exact lns_x sq (fun h => i102 ((wat_34 h34).mpr h)) (by rw [wat_d]; exact i58)), rfl⟩⟩
theorem fc_ttB (h34 : ∀ t ∈ L, ¬ t.1 = 34) (hH : et_H et_TT K G) (k_rd : K rd = some 7) (htk : tk K G rd L) (htl : tl L) (r8 : et_pl (eg_at G rd) 8 = some (.int (Int32.ofNat 0))) (r2 : et_pl (eg_at G rd) 2 = some (.int (-1))) : et_go none (d + 27) 84 5 [some (.ref rd), none, none, none] [] G 0 0 (ttZ rd (fun b j => (b = rd ∧ (2 ≤ j ∧ j ≤ 3)) ∨ ((b = rd ∧ j = 8))) K G (sp_turner (L.drop 0))) := by
  have hx0 : et_ex K K := et_ex.rf
  have hX : xf (fun b j => (b = rd ∧ (2 ≤ j ∧ j ≤ 3)) ∨ ((b = rd ∧ j = 8))) G G := xf.rf
  have hl4 : L.length ≤ 400 := by obtain ⟨_, _, _, _, _, h, _⟩ := htk; exact h
  have hx : 0 ≤ L.length := Nat.zero_le _
  have lt_rd := (hH.2.2 _ _ k_rd).1
  have lr_rd := lt_rd
  have hHo := hH
  refine hf_newU (ci := 9) (n := 4) (fs := [.int 0, .null, .null, .null]) (p := 8) (by decide +kernel) (by omega) (by omega) (by decide +kernel) (by decide +kernel) hH (fun GN5 hu5 x5 mm5 => ?_)
  have hH := hu5.1
  have r8 := (x5.2 rd 8 lt_rd (fun h => h)).trans r8
  have r2 := (x5.2 rd 2 lt_rd (fun h => h)).trans r2
  have lt_rd := Nat.lt_of_lt_of_le lt_rd x5.1
  have hX := hX.tr x5 (fun b j hb h => h.elim)
  have m_x5 := x5.1
  have htk := htk.xf hHo k_rd et_ex.rf x5 (fun a j hs => hs.elim)
  refine hs_dup1 (p := 9) (by decide +kernel) ?_
  refine hs_callp (mi := 112) (na := 0) (lk := 4) (lm := 1) (L0 := eg_en (eg_mL 112) [.ref G.2]) (by decide +kernel) rfl rfl rfl rfl rfl (by rw [show eg_mL 112 = 1 from by decide +kernel]; first | done | rfl) ?_
  have hHo := hH
  refine (fu_turner hu5).mono (fun u hu => fuZ_cb hu (fun K9 G9 hxx9 hH k_tn x9 hn9 => ?_))
  have lb : G.2 < GN5.2 := by omega
  have r8 := (x9.2 rd 8 lt_rd (fun h => absurd h (Nat.ne_of_lt (by omega)))).trans r8
  have r2 := (x9.2 rd 2 lt_rd (fun h => absurd h (Nat.ne_of_lt (by omega)))).trans r2
  have htk := tk_xg htk hHo k_rd hxx9 x9 (fun a j t ht hs => by have := (hHo.2.2 _ _ ht).1; exact absurd hs (fun e => hu5.2.1 t (by rw [← e]; exact ht)))
  have lt_rd := Nat.lt_of_lt_of_le lt_rd x9.1
  have hX := hX.tr x9 (fun b j hb h => by first | omega | (dsimp only at h ⊢; omega))
  have m_x9 := x9.1
  have k_rd := hxx9 _ _ k_rd
  have hx0 := hx0.tr hxx9
  obtain ⟨t0, A, B, C, t1, t2, t3, k_A, k_B, k_C, nA, nB, nC⟩ := hn9
  obtain ⟨tn, etn⟩ : ∃ tn, tn = G.2 := ⟨_, rfl⟩
  rw [← etn] at k_tn t0 t1 t2 t3
  rw [← etn]
  have lt_tn := (hH.2.2 _ _ k_tn).1
  have lt_A := (hH.2.2 _ _ k_A).1
  have lt_B := (hH.2.2 _ _ k_B).1
  have lt_C := (hH.2.2 _ _ k_C).1
  have htl2 : tlR K9 G9 tn A B C G9.2 G9.2 [] := ⟨t0, fun i l h => by rw [List.getElem?_nil] at h; cases h⟩
  have n_tn : G.2 ≤ tn := by omega
  have n_A : G.2 ≤ A := by omega
  have n_B : G.2 ≤ B := by omega
  have n_C : G.2 ≤ C := by omega
  obtain ⟨mid, emid⟩ : ∃ mid, mid = G9.2 := ⟨_, rfl⟩
  have htl2 : tlR K9 G9 tn A B C mid G9.2 [] := by rw [emid]; exact htl2
  have md_tn : tn < mid := by omega
  have md_A : A < mid := by omega
  have md_B : B < mid := by omega
  have md_C : C < mid := by omega
  have hmid : mid ≤ G9.2 := by omega
  show et_go none _ 84 12 _ [.ref tn] _ _ _ _
  refine hs_astore (i := 1) (p := 13) (by decide +kernel) (Nat.le_of_ble_eq_true rfl) ?_
  refine hs_aload (i := 0) (p := 14) (by decide +kernel) rfl ?_
  refine hs_gst (v := Value.ref 34) (p := 17) (by decide +kernel) ?_
  refine ht_callv (T := et_TT) (t := 7) (mi := 78) (na := 1) (ci := 5) (lk := 4) (lm := 2) (L0 := eg_en (eg_mL 78) [.ref rd, .ref 34]) (by decide +kernel) rfl hH k_rd rfl rfl rfl rfl rfl (by rw [show eg_mL 78 = 2 from by decide +kernel]; first | done | rfl) ?_
  refine (fc_is hH k_rd htk htl r8 (by omega) (wd := 34) (by decide)).mono (fun u hu => xp_cb hu ?_)
  by_cases i17 : wat L 0 = 34
  · rw [if_pos i17]
    show et_go none _ 84 20 _ [.int (Int32.ofNat 1)] _ _ _ _
    refine hs_if1 (c := .ne) (t := 27) (f := 23) (by decide +kernel) (show ¬ Int32.ofNat 1 = 0 by decide) ?_
    refine hs_k (x := Int32.ofNat 0) (p := 28) (by decide +kernel) ?_
    refine hs_istore (i := 2) (p := 29) (by decide +kernel) (Nat.le_of_ble_eq_true rfl) ?_
    refine hs_k (x := Int32.ofNat 0) (p := 30) (by decide +kernel) ?_
    refine hs_istore (i := 3) (p := 31) (by decide +kernel) (Nat.le_of_ble_eq_true rfl) ?_
    refine hs_iload (i := 3) (p := 32) (by decide +kernel) rfl ?_
    refine hs_k (x := Int32.ofNat 10) (p := 34) (by decide +kernel) ?_
    refine hs_br2n (c := .gt) (t := 90) (f := 37) (by decide +kernel) (by omega) (by omega) (fun h => absurd h (show ¬ (10 < 0) by decide)) (fun _ => ?_)
    refine hs_iload (i := 2) (p := 38) (by decide +kernel) rfl ?_
    refine hs_if1 (c := .eq) (t := 90) (f := 41) (by decide +kernel) (show Int32.ofNat 0 = 0 by decide) ?_
    refine hs_aload (i := 0) (p := 91) (by decide +kernel) rfl ?_
    refine hf_get (T := et_TT) (t := 7) (ci := 5) (f := 2) (p := 94) (by decide +kernel) rfl hH k_rd r2 ?_
    refine hs_k (x := (-1)) (p := 95) (by decide +kernel) ?_
    refine hs_br2 (c := .ne) (t := 113) (f := 98) (by decide +kernel) (fun hz => absurd rfl hz) (fun _ => ?_)
    refine hs_aload (i := 0) (p := 99) (by decide +kernel) rfl ?_
    refine hs_gst (v := Value.ref 34) (p := 102) (by decide +kernel) ?_
    refine ht_callv (T := et_TT) (t := 7) (mi := 78) (na := 1) (ci := 5) (lk := 4) (lm := 2) (L0 := eg_en (eg_mL 78) [.ref rd, .ref 34]) (by decide +kernel) rfl hH k_rd rfl rfl rfl rfl rfl (by rw [show eg_mL 78 = 2 from by decide +kernel]; first | done | rfl) ?_
    refine (fc_is hH k_rd htk htl r8 (by omega) (wd := 34) (by decide)).mono (fun u hu => xp_cb hu ?_)
    by_cases i102 : wat L 0 = 34
    · rw [if_pos i102]
      show et_go none _ 84 105 _ [.int (Int32.ofNat 1)] _ _ _ _
      refine hs_if1 (c := .ne) (t := 113) (f := 108) (by decide +kernel) (show ¬ Int32.ofNat 1 = 0 by decide) ?_
      refine hs_aload (i := 0) (p := 114) (by decide +kernel) rfl ?_
      refine hf_get (T := et_TT) (t := 7) (ci := 5) (f := 2) (p := 117) (by decide +kernel) rfl hH k_rd r2 ?_
      refine hs_k (x := (-1)) (p := 118) (by decide +kernel) ?_
      refine hs_br2 (c := .ne) (t := 125) (f := 121) (by decide +kernel) (fun hz => absurd rfl hz) (fun _ => ?_)
      refine hs_aload (i := 1) (p := 122) (by decide +kernel) rfl ?_
      refine hs_goto (p := 126) (by decide +kernel) ?_
      refine hs_aret (cn := "KnobEye$Turner") (by decide +kernel) ?_
      exact ⟨_, _, _, _, _, rfl, hx0, hH, hX, .inr ⟨_, tn, A, B, C, mid, tur_0 ((wat_34 h34).mp i17), rfl, k_tn, n_tn, md_tn, by omega, ⟨t1, t2, t3⟩, ⟨k_A, k_B, k_C⟩, ⟨n_A, md_A⟩, ⟨n_B, md_B⟩, ⟨n_C, md_C⟩, htl2⟩⟩
    · rw [if_neg i102]
      show et_go none _ 84 105 _ [.int (Int32.ofNat 0)] _ _ _ _
      refine hs_if0 (c := .ne) (t := 113) (f := 108) (by decide +kernel) (show ¬ (¬ Int32.ofNat 0 = 0) by decide) ?_
      refine hs_aload (i := 0) (p := 109) (by decide +kernel) rfl ?_
      have hHo := hH
      have lt_tn0 := lt_tn
      have lt_A0 := lt_A
      have lt_B0 := lt_B
      have lt_C0 := lt_C
      refine ht_callv (T := et_TT) (t := 7) (mi := 76) (na := 0) (ci := 5) (lk := 4) (lm := 1) (L0 := eg_en (eg_mL 76) [.ref rd]) (by decide +kernel) rfl hH k_rd rfl rfl rfl rfl rfl (by rw [show eg_mL 76 = 1 from by decide +kernel]; first | done | rfl) ?_
      refine (fc_fail hH k_rd htk htl r8 (by omega) r2).mono (fun u hu => xw_cb hu (fun G109 v109 hH x109 hP109 => ?_))
      have r8 := (x109.2 rd 8 lt_rd (fun h => absurd h.2 (by decide))).trans r8
      have t0 := (x109.2 tn 0 lt_tn (fun h => (hi_ne k_tn k_rd (by decide)) h.1)).trans t0
      have t1 := (x109.2 tn 1 lt_tn (fun h => (hi_ne k_tn k_rd (by decide)) h.1)).trans t1
      have t2 := (x109.2 tn 2 lt_tn (fun h => (hi_ne k_tn k_rd (by decide)) h.1)).trans t2
      have t3 := (x109.2 tn 3 lt_tn (fun h => (hi_ne k_tn k_rd (by decide)) h.1)).trans t3
      have lt_rd := Nat.lt_of_lt_of_le lt_rd x109.1
      have lt_tn := Nat.lt_of_lt_of_le lt_tn x109.1
      have lt_A := Nat.lt_of_lt_of_le lt_A x109.1
      have lt_B := Nat.lt_of_lt_of_le lt_B x109.1
      have lt_C := Nat.lt_of_lt_of_le lt_C x109.1
      have hX := hX.tr x109 (fun b j hb h => (.inl (And.intro (And.left h) (by rw [And.right h]; decide))))
      have m_x109 := x109.1
      have htk := htk.xf hHo k_rd et_ex.rf x109 (fun a j hs => .inl (And.intro hs.1 (.inl hs.2)))
      have htl2 := htl2.fr (hi' := G109.2) et_ex.rf x109 lt_tn0 ⟨lt_A0, lt_B0, lt_C0⟩ (by omega) (by omega) (fun j => ⟨(fun hs => absurd hs.1 (by omega)), (fun hs => absurd hs.1 (by omega)), (fun hs => absurd hs.1 (by omega)), (fun hs => absurd hs.1 (by omega))⟩) (fun a j h1 h2 hs => absurd hs.1 (by omega))
      obtain ⟨rfl, q109, hq109, e109⟩ := hP109
      show et_go none _ 84 112 _ [.null] _ _ _ _
      refine hs_popn (p := 113) (by decide +kernel) ?_
      refine hs_aload (i := 0) (p := 114) (by decide +kernel) rfl ?_
      refine hf_get (T := et_TT) (t := 7) (ci := 5) (f := 2) (p := 117) (by decide +kernel) rfl hH k_rd e109 ?_
      refine hs_k (x := (-1)) (p := 118) (by decide +kernel) ?_
      refine hs_br2 (c := .ne) (t := 125) (f := 121) (by decide +kernel) (fun _ => ?_) (fun hz => absurd (show ¬ ((Int32.ofNat q109 : Int32) = (-1)) from xi_nm1 (by omega)) hz)
      refine hs_nul (p := 126) (by decide +kernel) ?_
      refine hs_aretN (cn := "KnobEye$Turner") (by decide +kernel) ?_
      exact absurd i17 i102
  · rw [if_neg i17]
    show et_go none _ 84 20 _ [.int (Int32.ofNat 0)] _ _ _ _
    refine hs_if0 (c := .ne) (t := 27) (f := 23) (by decide +kernel) (show ¬ (¬ Int32.ofNat 0 = 0) by decide) ?_
    refine hs_k (x := Int32.ofNat 1) (p := 24) (by decide +kernel) ?_
    refine hs_goto (p := 28) (by decide +kernel) ?_
    refine hs_istore (i := 2) (p := 29) (by decide +kernel) (Nat.le_of_ble_eq_true rfl) ?_
    refine hs_k (x := Int32.ofNat 0) (p := 30) (by decide +kernel) ?_
    refine hs_istore (i := 3) (p := 31) (by decide +kernel) (Nat.le_of_ble_eq_true rfl) ?_
    show et_go none _ 84 31 [some (.ref rd), some (.ref tn), some (.int (Int32.ofNat 1)), some (.int (Int32.ofNat 0))] [] _ _ _ _
    rw [tur_s (fun h => i17 ((wat_34 h34).mpr h))]
    exact (fn_tt (K0 := K) (G0 := G) (ls := []) (i := 0) h34 hx0 hX hH k_rd htk htl r8 (by omega) r2 k_tn t0 t1 t2 t3 k_A k_B k_C n_tn n_A n_B n_C md_tn md_A md_B md_C hmid lr_rd htl2 rfl (by omega))
theorem fc_tt {ta ba na tp n : Nat} (hH : et_H et_TT K G) (k_rd : K rd = some 7) (r0 : et_pl (eg_at G rd) 0 = some (.ref tp)) (k_tp : K tp = some 33) (r1 : et_pl (eg_at G rd) 1 = some (.int (Int32.ofNat n))) (hn : n ≤ 400) (ht : ∀ i, i < n → et_pl (eg_at G tp) i = some (.int (Int32.ofNat (bt i)))) (hb : ∀ i, i < n → bt i < 256) (k_ta : K ta = some 41) (k_ba : K ba = some 21) (k_na : K na = some 21) (hne : ¬ ba = na) (r4 : et_pl (eg_at G rd) 4 = some (.ref ta)) (r5 : et_pl (eg_at G rd) 5 = some (.ref ba)) (r6 : et_pl (eg_at G rd) 6 = some (.ref na)) (hd : 28 ≤ d2) : et_go none d2 84 0 (eg_en (eg_mL 84) [.ref rd]) [] G 0 0 (ttZ rd (fun b j => (b = rd ∧ 1 ≤ j) ∨ ((b = ta ∧ 0 ≤ j) ∨ ((b = ba ∧ 0 ≤ j) ∨ ((b = na ∧ 0 ≤ j))))) K G (sp_turner (tz_ts 1 bt n 0))) := by
  obtain ⟨d, rfl⟩ : ∃ d, d2 = d + 27 := ⟨d2 - 27, by omega⟩
  rw [show eg_mL 84 = 4 from by decide +kernel]
  show et_go none (d + 27) 84 0 [some (.ref rd), none, none, none] [] G 0 0 _
  refine hs_aload (i := 0) (p := 1) (by decide +kernel) rfl ?_
  refine hs_k (x := Int32.ofNat 1) (p := 2) (by decide +kernel) ?_
  refine ht_callv (T := et_TT) (t := 7) (mi := 67) (na := 1) (ci := 5) (lk := 4) (lm := 4) (L0 := eg_en (eg_mL 67) [.ref rd, .int (Int32.ofNat 1)]) (by decide +kernel) rfl hH k_rd rfl rfl rfl rfl rfl (by rw [show eg_mL 67 = 4 from by decide +kernel]; first | done | rfl) ?_
  refine (fc_split hH k_rd r0 k_tp r1 hn ht hb k_ta k_ba k_na hne r4 r5 r6 (by decide) (by omega)).mono (fun u hu => xw_cb hu (fun G2 v2 hH2 x2 hP2 => ?_))
  obtain ⟨rfl, htk, q1, q2, q3, q8⟩ := hP2
  show et_go none _ 84 5 _ [] _ _ _ _
  refine (fc_ttB ts_34 hH2 k_rd htk tl_ts q8 q2).mono (fun u hu => ?_)
  obtain ⟨K', G', v, c, s, e, g1, g2, g3, g4⟩ := hu
  refine ⟨K', G', v, c, s, e, g1, g2, (x2.wk (fun a j _ h => ?_)).tr (g3.wk (fun a j _ h => ?_)) (fun a j ha h => h), ?_⟩
  · first | omega | (dsimp only at h ⊢; omega) | (dsimp only at h; omega) | (dsimp only; omega)
  · first | omega | (dsimp only at h ⊢; omega) | (dsimp only at h; omega) | (dsimp only; omega)
  · rcases g4 with h | ⟨ls, tn, A, B, C, mid, h1, h2, h3, h4, h5⟩
    · exact .inl h
    · obtain ⟨h6, h7, h8, h9, ⟨a1, a2⟩, ⟨b1, b2⟩, ⟨c1, c2⟩, h10⟩ := h5
      have := x2.1
      exact .inr ⟨ls, tn, A, B, C, mid, h1, h2, h3, by omega, h6, h7, h8, h9, ⟨by omega, a2⟩, ⟨by omega, b2⟩, ⟨by omega, c2⟩, h10⟩
theorem fc_turner {ta ba na tp n : Nat} (hH : et_H et_TT K G) (k_rd : K rd = some 7) (r0 : et_pl (eg_at G rd) 0 = some (.ref tp)) (k_tp : K tp = some 33) (r1 : et_pl (eg_at G rd) 1 = some (.int (Int32.ofNat n))) (hn : n ≤ 400) (ht : ∀ i, i < n → et_pl (eg_at G tp) i = some (.int (Int32.ofNat (bt i)))) (hb : ∀ i, i < n → bt i < 256) (k_ta : K ta = some 41) (k_ba : K ba = some 21) (k_na : K na = some 21) (hne : ¬ ba = na) (r4 : et_pl (eg_at G rd) 4 = some (.ref ta)) (r5 : et_pl (eg_at G rd) 5 = some (.ref ba)) (r6 : et_pl (eg_at G rd) 6 = some (.ref na)) (k_th : K th = some 12) (h3 : et_pl (eg_at G th) 3 = some (.ref rd)) (h0 : et_pl (eg_at G th) 0 = some (.ref s0)) (k_s0 : K s0 = some 10) (g7 : et_pl (eg_at G s0) 7 = some (.int (Int32.ofNat c))) (hc : c ≤ 4) (g8 : et_pl (eg_at G s0) 8 = some (.ref ra)) (k_ra : K ra = some 38) (hd : 29 ≤ d2) : et_go none d2 132 0 (eg_en (eg_mL 132) [.ref th]) [] G 0 0 (xk_Z (fun b j => (b = rd ∧ 1 ≤ j) ∨ ((b = ta ∧ 0 ≤ j) ∨ ((b = ba ∧ 0 ≤ j) ∨ ((b = na ∧ 0 ≤ j) ∨ ((b = s0 ∧ j = 7) ∨ ((b = ra ∧ j = c))))))) K G (fun K' G' v => (sp_turner (tz_ts 1 bt n 0) = none ∧ v = .inr 0 ∧ et_pl (eg_at G' s0) 7 = some (.int (Int32.ofNat c))) ∨ (c = 4 ∧ ¬ sp_turner (tz_ts 1 bt n 0) = none ∧ v = .inr 2 ∧ et_pl (eg_at G' s0) 7 = some (.int (Int32.ofNat c))) ∨ (c < 4 ∧ v = .inl (some (.int (Int32.ofNat c))) ∧ et_pl (eg_at G' s0) 7 = some (.int (Int32.ofNat (c + 1))) ∧ ∃ (ls : List sp_L) (tn A B C mid hi : Nat), sp_turner (tz_ts 1 bt n 0) = some ls ∧ et_pl (eg_at G' ra) c = some (.ref tn) ∧ K' tn = some 11 ∧ G.2 ≤ tn ∧ tn < mid ∧ mid ≤ hi ∧ hi ≤ G'.2 ∧ (et_pl (eg_at G' tn) 1 = some (.ref A) ∧ et_pl (eg_at G' tn) 2 = some (.ref B) ∧ et_pl (eg_at G' tn) 3 = some (.ref C)) ∧ (K' A = some 26 ∧ K' B = some 16 ∧ K' C = some 42) ∧ (G.2 ≤ A ∧ A < mid) ∧ (G.2 ≤ B ∧ B < mid) ∧ (G.2 ≤ C ∧ C < mid) ∧ tlR K' G' tn A B C mid hi ls))) := by
  obtain ⟨d, rfl⟩ : ∃ d, d2 = d + 29 := ⟨d2 - 29, by omega⟩
  rw [show eg_mL 132 = 2 from by decide +kernel]
  show et_go none (d + 29) 132 0 [some (.ref th), none] [] G 0 0 (xk_Z _ _ _ _)
  have lt_th := (hH.2.2 _ _ k_th).1
  have lt_s0 := (hH.2.2 _ _ k_s0).1
  have lt_rd := (hH.2.2 _ _ k_rd).1
  have lt_ta := (hH.2.2 _ _ k_ta).1
  have lt_ba := (hH.2.2 _ _ k_ba).1
  have lt_na := (hH.2.2 _ _ k_na).1
  have lt_tp := (hH.2.2 _ _ k_tp).1
  have lt_ra := (hH.2.2 _ _ k_ra).1
  have hX : xf (fun b j => (b = rd ∧ 1 ≤ j) ∨ ((b = ta ∧ 0 ≤ j) ∨ ((b = ba ∧ 0 ≤ j) ∨ ((b = na ∧ 0 ≤ j) ∨ ((b = s0 ∧ j = 7) ∨ ((b = ra ∧ j = c))))))) G G := xf.rf
  have hx0 : et_ex K K := et_ex.rf
  have lr_th := lt_th
  have lr_s0 := lt_s0
  have lr_rd := lt_rd
  have lr_ta := lt_ta
  have lr_ba := lt_ba
  have lr_na := lt_na
  have lr_tp := lt_tp
  have lr_ra := lt_ra
  refine hs_aload (i := 0) (p := 1) (by decide +kernel) rfl ?_
  refine hf_get (T := et_TT) (t := 12) (ci := 10) (f := 3) (p := 4) (by decide +kernel) rfl hH k_th h3 ?_
  refine ht_callv (T := et_TT) (t := 7) (mi := 84) (na := 0) (ci := 5) (lk := 2) (lm := 4) (L0 := eg_en (eg_mL 84) [.ref rd]) (by decide +kernel) rfl hH k_rd rfl rfl rfl rfl rfl (by rw [show eg_mL 84 = 4 from by decide +kernel]; first | done | rfl) ?_
  refine (fc_tt hH k_rd r0 k_tp r1 hn ht hb k_ta k_ba k_na hne r4 r5 r6 (by omega)).mono (fun u hu => ?_)
  obtain ⟨K4, G4, v4, c4, s4, rfl, hxx4, hH, x4, hm4⟩ := hu
  have h3 := (x4.2 th 3 lt_th (fun h => Or.elim h (fun h => (hi_ne k_th k_rd (by decide)) h.1) (fun h => Or.elim h (fun h => (hi_ne k_th k_ta (by decide)) h.1) (fun h => Or.elim h (fun h => (hi_ne k_th k_ba (by decide)) h.1) (fun h => (hi_ne k_th k_na (by decide)) h.1))))).trans h3
  have h0 := (x4.2 th 0 lt_th (fun h => Or.elim h (fun h => (hi_ne k_th k_rd (by decide)) h.1) (fun h => Or.elim h (fun h => (hi_ne k_th k_ta (by decide)) h.1) (fun h => Or.elim h (fun h => (hi_ne k_th k_ba (by decide)) h.1) (fun h => (hi_ne k_th k_na (by decide)) h.1))))).trans h0
  have r0 := (x4.2 rd 0 lt_rd (fun h => Or.elim h (fun h => by have h := h.2; omega) (fun h => Or.elim h (fun h => (hi_ne k_rd k_ta (by decide)) h.1) (fun h => Or.elim h (fun h => (hi_ne k_rd k_ba (by decide)) h.1) (fun h => (hi_ne k_rd k_na (by decide)) h.1))))).trans r0
  have g7 := (x4.2 s0 7 lt_s0 (fun h => Or.elim h (fun h => (hi_ne k_s0 k_rd (by decide)) h.1) (fun h => Or.elim h (fun h => (hi_ne k_s0 k_ta (by decide)) h.1) (fun h => Or.elim h (fun h => (hi_ne k_s0 k_ba (by decide)) h.1) (fun h => (hi_ne k_s0 k_na (by decide)) h.1))))).trans g7
  have g8 := (x4.2 s0 8 lt_s0 (fun h => Or.elim h (fun h => (hi_ne k_s0 k_rd (by decide)) h.1) (fun h => Or.elim h (fun h => (hi_ne k_s0 k_ta (by decide)) h.1) (fun h => Or.elim h (fun h => (hi_ne k_s0 k_ba (by decide)) h.1) (fun h => (hi_ne k_s0 k_na (by decide)) h.1))))).trans g8
  have lt_th := Nat.lt_of_lt_of_le lt_th x4.1
  have lt_s0 := Nat.lt_of_lt_of_le lt_s0 x4.1
  have lt_rd := Nat.lt_of_lt_of_le lt_rd x4.1
  have lt_ta := Nat.lt_of_lt_of_le lt_ta x4.1
  have lt_ba := Nat.lt_of_lt_of_le lt_ba x4.1
  have lt_na := Nat.lt_of_lt_of_le lt_na x4.1
  have lt_tp := Nat.lt_of_lt_of_le lt_tp x4.1
  have lt_ra := Nat.lt_of_lt_of_le lt_ra x4.1
  have hX := hX.tr x4 (fun b j hb h => by first | omega | (dsimp only at h ⊢; omega) | (dsimp only at h; omega) | (dsimp only; omega))
  have m_x4 := x4.1
  have k_th := hxx4 _ _ k_th
  have k_s0 := hxx4 _ _ k_s0
  have k_rd := hxx4 _ _ k_rd
  have k_ta := hxx4 _ _ k_ta
  have k_ba := hxx4 _ _ k_ba
  have k_na := hxx4 _ _ k_na
  have k_tp := hxx4 _ _ k_tp
  have k_ra := hxx4 _ _ k_ra
  have hx0 := hx0.tr hxx4
  rcases hm4 with ⟨sq, rfl⟩ | ⟨ls, tn, A, B, C, mid, sq, rfl, k_tn, n_tn, md_tn, hmid, ⟨t1, t2, t3⟩, ⟨k_A, k_B, k_C⟩, ⟨n_A, md_A⟩, ⟨n_B, md_B⟩, ⟨n_C, md_C⟩, htl2⟩
  · refine hs_cb ?_
    show et_go none _ 132 7 _ [.null] _ _ _ _
    refine hs_astore0 (i := 1) (p := 8) (by decide +kernel) (Nat.le_of_ble_eq_true rfl) ?_
    refine hs_aload0 (i := 1) (p := 9) (by decide +kernel) rfl ?_
    refine hs_ifnonnull0 (p := 12) (by decide +kernel) ?_
    refine hs_thr (x := 0) (lk := 2) (by decide +kernel) rfl rfl ?_
    exact ⟨_, _, _, _, _, rfl, hx0, hH, hX, .inl ⟨sq, rfl, g7⟩⟩
  · have lt_tn := (hH.2.2 _ _ k_tn).1
    have lt_A := (hH.2.2 _ _ k_A).1
    have lt_B := (hH.2.2 _ _ k_B).1
    have lt_C := (hH.2.2 _ _ k_C).1
    obtain ⟨hi, ehi⟩ : ∃ hi, hi = G4.2 := ⟨_, rfl⟩
    rw [← ehi] at htl2
    have hmid : mid ≤ hi := by rw [ehi]; exact hmid
    refine hs_cb ?_
    show et_go none _ 132 7 _ [.ref tn] _ _ _ _
    refine hs_astore (i := 1) (p := 8) (by decide +kernel) (Nat.le_of_ble_eq_true rfl) ?_
    refine hs_aload (i := 1) (p := 9) (by decide +kernel) rfl ?_
    refine hs_ifnonnull1 (p := 20) (by decide +kernel) ?_
    refine hs_aload (i := 0) (p := 21) (by decide +kernel) rfl ?_
    refine hf_get (T := et_TT) (t := 12) (ci := 10) (f := 0) (p := 24) (by decide +kernel) rfl hH k_th h0 ?_
    refine hf_get (T := et_TT) (t := 10) (ci := 8) (f := 7) (p := 27) (by decide +kernel) rfl hH k_s0 g7 ?_
    refine hs_k (x := Int32.ofNat 4) (p := 28) (by decide +kernel) ?_
    refine hs_br2n (c := .lt) (t := 39) (f := 31) (by decide +kernel) (by omega) (by omega) (fun (c28 : c < 4) => ?_) (fun (c28 : ¬ (c < 4)) => ?_)
    · refine hs_aload (i := 0) (p := 40) (by decide +kernel) rfl ?_
      refine hf_get (T := et_TT) (t := 12) (ci := 10) (f := 0) (p := 43) (by decide +kernel) rfl hH k_th h0 ?_
      refine hf_get (T := et_TT) (t := 10) (ci := 8) (f := 8) (p := 46) (by decide +kernel) rfl hH k_s0 g8 ?_
      refine hs_aload (i := 0) (p := 47) (by decide +kernel) rfl ?_
      refine hf_get (T := et_TT) (t := 12) (ci := 10) (f := 0) (p := 50) (by decide +kernel) rfl hH k_th h0 ?_
      refine hf_get (T := et_TT) (t := 10) (ci := 8) (f := 7) (p := 53) (by decide +kernel) rfl hH k_s0 g7 ?_
      refine hs_aload (i := 1) (p := 54) (by decide +kernel) rfl ?_
      refine hf_aas1 (t := 38) (u := 11) (N := 4) (kd := 7) (cj := 9) (p := 55) (by decide +kernel) ⟨rfl, rfl⟩ (by decide +kernel) hH k_ra (by omega) k_tn (fun G54 hH x54 e54 => ?_)
      have htl2 := htl2.fr (hi' := hi) et_ex.rf x54 lt_tn (And.intro lt_A (And.intro lt_B lt_C)) (by omega) (by omega) (fun j => ⟨(fun hs => absurd hs.1 (by omega)), (fun hs => absurd hs.1 (by omega)), (fun hs => absurd hs.1 (by omega)), (fun hs => absurd hs.1 (by omega))⟩) (fun a j h1 h2 hs => absurd hs.1 (by omega))
      have h3 := (x54.2 th 3 lt_th (fun h => (hi_ne k_th k_ra (by decide)) h.1)).trans h3
      have h0 := (x54.2 th 0 lt_th (fun h => (hi_ne k_th k_ra (by decide)) h.1)).trans h0
      have r0 := (x54.2 rd 0 lt_rd (fun h => (hi_ne k_rd k_ra (by decide)) h.1)).trans r0
      have g7 := (x54.2 s0 7 lt_s0 (fun h => (hi_ne k_s0 k_ra (by decide)) h.1)).trans g7
      have g8 := (x54.2 s0 8 lt_s0 (fun h => (hi_ne k_s0 k_ra (by decide)) h.1)).trans g8
      have t1 := (x54.2 tn 1 lt_tn (fun h => (hi_ne k_tn k_ra (by decide)) h.1)).trans t1
      have t2 := (x54.2 tn 2 lt_tn (fun h => (hi_ne k_tn k_ra (by decide)) h.1)).trans t2
      have t3 := (x54.2 tn 3 lt_tn (fun h => (hi_ne k_tn k_ra (by decide)) h.1)).trans t3
      have lt_th := Nat.lt_of_lt_of_le lt_th x54.1
      have lt_s0 := Nat.lt_of_lt_of_le lt_s0 x54.1
      have lt_rd := Nat.lt_of_lt_of_le lt_rd x54.1
      have lt_ta := Nat.lt_of_lt_of_le lt_ta x54.1
      have lt_ba := Nat.lt_of_lt_of_le lt_ba x54.1
      have lt_na := Nat.lt_of_lt_of_le lt_na x54.1
      have lt_tp := Nat.lt_of_lt_of_le lt_tp x54.1
      have lt_ra := Nat.lt_of_lt_of_le lt_ra x54.1
      have lt_tn := Nat.lt_of_lt_of_le lt_tn x54.1
      have lt_A := Nat.lt_of_lt_of_le lt_A x54.1
      have lt_B := Nat.lt_of_lt_of_le lt_B x54.1
      have lt_C := Nat.lt_of_lt_of_le lt_C x54.1
      have hX := hX.tr x54 (fun b j hb h => by first | omega | (dsimp only at h ⊢; omega) | (dsimp only at h; omega) | (dsimp only; omega))
      have m_x54 := x54.1
      refine hs_aload (i := 0) (p := 56) (by decide +kernel) rfl ?_
      refine hf_get (T := et_TT) (t := 12) (ci := 10) (f := 0) (p := 59) (by decide +kernel) rfl hH k_th h0 ?_
      refine hs_dup1 (p := 60) (by decide +kernel) ?_
      refine hf_get (T := et_TT) (t := 10) (ci := 8) (f := 7) (p := 63) (by decide +kernel) rfl hH k_s0 g7 ?_
      refine hs_k (x := Int32.ofNat 1) (p := 64) (by decide +kernel) ?_
      refine hs_iaddn (p := 65) (by decide +kernel) ?_
      refine hf_put (T := et_TT) (t := 10) (ci := 8) (f := 7) (p := 68) (ty := .int) (by decide +kernel) rfl rfl rfl rfl rfl hH k_s0 (hi_nv (by omega) (by omega)) (fun G65 hH x65 e65 => ?_)
      have htl2 := htl2.fr (hi' := hi) et_ex.rf x65 lt_tn (And.intro lt_A (And.intro lt_B lt_C)) (by omega) (by omega) (fun j => ⟨(fun hs => absurd hs.1 (by omega)), (fun hs => absurd hs.1 (by omega)), (fun hs => absurd hs.1 (by omega)), (fun hs => absurd hs.1 (by omega))⟩) (fun a j h1 h2 hs => absurd hs.1 (by omega))
      have h3 := (x65.2 th 3 lt_th (fun h => (hi_ne k_th k_s0 (by decide)) h.1)).trans h3
      have h0 := (x65.2 th 0 lt_th (fun h => (hi_ne k_th k_s0 (by decide)) h.1)).trans h0
      have r0 := (x65.2 rd 0 lt_rd (fun h => (hi_ne k_rd k_s0 (by decide)) h.1)).trans r0
      have g8 := (x65.2 s0 8 lt_s0 (fun h => absurd h.2 (by decide))).trans g8
      have t1 := (x65.2 tn 1 lt_tn (fun h => (hi_ne k_tn k_s0 (by decide)) h.1)).trans t1
      have t2 := (x65.2 tn 2 lt_tn (fun h => (hi_ne k_tn k_s0 (by decide)) h.1)).trans t2
      have t3 := (x65.2 tn 3 lt_tn (fun h => (hi_ne k_tn k_s0 (by decide)) h.1)).trans t3
      have e54 := (x65.2 ra c lt_ra (fun h => (hi_ne k_ra k_s0 (by decide)) h.1)).trans e54
      have lt_th := Nat.lt_of_lt_of_le lt_th x65.1
      have lt_s0 := Nat.lt_of_lt_of_le lt_s0 x65.1
      have lt_rd := Nat.lt_of_lt_of_le lt_rd x65.1
      have lt_ta := Nat.lt_of_lt_of_le lt_ta x65.1
      have lt_ba := Nat.lt_of_lt_of_le lt_ba x65.1
      have lt_na := Nat.lt_of_lt_of_le lt_na x65.1
      have lt_tp := Nat.lt_of_lt_of_le lt_tp x65.1
      have lt_ra := Nat.lt_of_lt_of_le lt_ra x65.1
      have lt_tn := Nat.lt_of_lt_of_le lt_tn x65.1
      have lt_A := Nat.lt_of_lt_of_le lt_A x65.1
      have lt_B := Nat.lt_of_lt_of_le lt_B x65.1
      have lt_C := Nat.lt_of_lt_of_le lt_C x65.1
      have hX := hX.tr x65 (fun b j hb h => by first | omega | (dsimp only at h ⊢; omega) | (dsimp only at h; omega) | (dsimp only; omega))
      have m_x65 := x65.1
      refine hs_aload (i := 0) (p := 69) (by decide +kernel) rfl ?_
      refine hf_get (T := et_TT) (t := 12) (ci := 10) (f := 0) (p := 72) (by decide +kernel) rfl hH k_th h0 ?_
      refine hf_get (T := et_TT) (t := 10) (ci := 8) (f := 7) (p := 75) (by decide +kernel) rfl hH k_s0 e65 ?_
      refine hs_k (x := Int32.ofNat 1) (p := 76) (by decide +kernel) ?_
      refine hs_isubn (p := 77) (by decide +kernel) (by omega) ?_
      refine hs_iret (by decide +kernel) ?_
      rw [Nat.add_sub_cancel]
      exact ⟨_, _, _, _, _, rfl, hx0, hH, hX, .inr (.inr ⟨by omega, rfl, e65, ls, tn, A, B, C, mid, hi, sq, e54, k_tn, n_tn, md_tn, hmid, by omega, ⟨t1, t2, t3⟩, ⟨k_A, k_B, k_C⟩, ⟨n_A, md_A⟩, ⟨n_B, md_B⟩, ⟨n_C, md_C⟩, htl2⟩)⟩
    · refine hs_thr (x := 2) (lk := 2) (by decide +kernel) rfl rfl ?_
      exact ⟨_, _, _, _, _, rfl, hx0, hH, hX, .inr (.inl ⟨by omega, (by rw [sq]; intro h; cases h), rfl, g7⟩)⟩
theorem fh_turner {ta ba na tp n out : Nat} (hH : et_H et_TT K G) (k_rd : K rd = some 7) (r0 : et_pl (eg_at G rd) 0 = some (.ref tp)) (k_tp : K tp = some 33) (r1 : et_pl (eg_at G rd) 1 = some (.int (Int32.ofNat n))) (hn : n ≤ 400) (ht : ∀ i, i < n → et_pl (eg_at G tp) i = some (.int (Int32.ofNat (bt i)))) (hb : ∀ i, i < n → bt i < 256) (k_ta : K ta = some 41) (k_ba : K ba = some 21) (k_na : K na = some 21) (hne : ¬ ba = na) (r4 : et_pl (eg_at G rd) 4 = some (.ref ta)) (r5 : et_pl (eg_at G rd) 5 = some (.ref ba)) (r6 : et_pl (eg_at G rd) 6 = some (.ref na)) (k_th : K th = some 12) (h3 : et_pl (eg_at G th) 3 = some (.ref rd)) (h0 : et_pl (eg_at G th) 0 = some (.ref s0)) (k_s0 : K s0 = some 10) (g7 : et_pl (eg_at G s0) 7 = some (.int (Int32.ofNat c))) (hc : c ≤ 4) (g8 : et_pl (eg_at G s0) 8 = some (.ref ra)) (k_ra : K ra = some 38) (k_out : K out = some 31) (hd : 30 ≤ d2) : et_go none d2 1 0 (eg_en (eg_mL 1) [.ref th, .ref out]) [] G 0 0 (xk_Z (fun b j => (b = rd ∧ 1 ≤ j) ∨ ((b = ta ∧ 0 ≤ j) ∨ ((b = ba ∧ 0 ≤ j) ∨ ((b = na ∧ 0 ≤ j) ∨ ((b = s0 ∧ j = 7) ∨ ((b = ra ∧ j = c) ∨ ((b = out ∧ j = 0)))))))) K G (fun K' G' v => (sp_turner (tz_ts 1 bt n 0) = none ∧ v = .inl (some (.int (Int32.ofNat 1))) ∧ et_pl (eg_at G' s0) 7 = some (.int (Int32.ofNat c))) ∨ (c = 4 ∧ ¬ sp_turner (tz_ts 1 bt n 0) = none ∧ v = .inl (some (.int (Int32.ofNat 2))) ∧ et_pl (eg_at G' s0) 7 = some (.int (Int32.ofNat c))) ∨ (c < 4 ∧ v = .inl (some (.int (Int32.ofNat 0))) ∧ et_pl (eg_at G' out) 0 = some (.long (Int32.ofNat c).toInt64) ∧ et_pl (eg_at G' s0) 7 = some (.int (Int32.ofNat (c + 1))) ∧ ∃ (ls : List sp_L) (tn A B C mid hi : Nat), sp_turner (tz_ts 1 bt n 0) = some ls ∧ et_pl (eg_at G' ra) c = some (.ref tn) ∧ K' tn = some 11 ∧ G.2 ≤ tn ∧ tn < mid ∧ mid ≤ hi ∧ hi ≤ G'.2 ∧ (et_pl (eg_at G' tn) 1 = some (.ref A) ∧ et_pl (eg_at G' tn) 2 = some (.ref B) ∧ et_pl (eg_at G' tn) 3 = some (.ref C)) ∧ (K' A = some 26 ∧ K' B = some 16 ∧ K' C = some 42) ∧ (G.2 ≤ A ∧ A < mid) ∧ (G.2 ≤ B ∧ B < mid) ∧ (G.2 ≤ C ∧ C < mid) ∧ tlR K' G' tn A B C mid hi ls))) := by
  obtain ⟨d, rfl⟩ : ∃ d, d2 = d + 30 := ⟨d2 - 30, by omega⟩
  rw [show eg_mL 1 = 3 from by decide +kernel]
  show et_go none (d + 30) 1 0 [some (.ref th), some (.ref out), none] [] G 0 0 (xk_Z _ _ _ _)
  have lt_th := (hH.2.2 _ _ k_th).1
  have lt_rd := (hH.2.2 _ _ k_rd).1
  have lt_s0 := (hH.2.2 _ _ k_s0).1
  have lt_ta := (hH.2.2 _ _ k_ta).1
  have lt_ba := (hH.2.2 _ _ k_ba).1
  have lt_na := (hH.2.2 _ _ k_na).1
  have lt_out := (hH.2.2 _ _ k_out).1
  have lt_ra := (hH.2.2 _ _ k_ra).1
  have hX : xf (fun b j => (b = rd ∧ 1 ≤ j) ∨ ((b = ta ∧ 0 ≤ j) ∨ ((b = ba ∧ 0 ≤ j) ∨ ((b = na ∧ 0 ≤ j) ∨ ((b = s0 ∧ j = 7) ∨ ((b = ra ∧ j = c) ∨ ((b = out ∧ j = 0)))))))) G G := xf.rf
  have hx0 : et_ex K K := et_ex.rf
  have lr_th := lt_th
  have lr_rd := lt_rd
  have lr_s0 := lt_s0
  have lr_ta := lt_ta
  have lr_ba := lt_ba
  have lr_na := lt_na
  have lr_out := lt_out
  have lr_ra := lt_ra
  refine hs_aload (i := 1) (p := 1) (by decide +kernel) rfl ?_
  refine hs_k (x := Int32.ofNat 0) (p := 2) (by decide +kernel) ?_
  refine hs_aload (i := 0) (p := 3) (by decide +kernel) rfl ?_
  refine ht_callv (T := et_TT) (t := 12) (mi := 132) (na := 0) (ci := 10) (lk := 3) (lm := 2) (L0 := eg_en (eg_mL 132) [.ref th]) (by decide +kernel) rfl hH k_th rfl rfl rfl rfl rfl (by rw [show eg_mL 132 = 2 from by decide +kernel]; first | done | rfl) ?_
  refine (fc_turner hH k_rd r0 k_tp r1 hn ht hb k_ta k_ba k_na hne r4 r5 r6 k_th h3 h0 k_s0 g7 hc g8 k_ra (by omega)).mono (fun u hu => ?_)
  obtain ⟨K3, G3, v3, c3, s3, rfl, hxx3, hH, x3, hm3⟩ := hu
  have lt_th := Nat.lt_of_lt_of_le lt_th x3.1
  have lt_rd := Nat.lt_of_lt_of_le lt_rd x3.1
  have lt_s0 := Nat.lt_of_lt_of_le lt_s0 x3.1
  have lt_ta := Nat.lt_of_lt_of_le lt_ta x3.1
  have lt_ba := Nat.lt_of_lt_of_le lt_ba x3.1
  have lt_na := Nat.lt_of_lt_of_le lt_na x3.1
  have lt_out := Nat.lt_of_lt_of_le lt_out x3.1
  have lt_ra := Nat.lt_of_lt_of_le lt_ra x3.1
  have hX := hX.tr x3 (fun b j hb h => by first | omega | (dsimp only at h ⊢; omega) | (dsimp only at h; omega) | (dsimp only; omega))
  have m_x3 := x3.1
  have k_th := hxx3 _ _ k_th
  have k_rd := hxx3 _ _ k_rd
  have k_s0 := hxx3 _ _ k_s0
  have k_ta := hxx3 _ _ k_ta
  have k_ba := hxx3 _ _ k_ba
  have k_na := hxx3 _ _ k_na
  have k_out := hxx3 _ _ k_out
  have k_ra := hxx3 _ _ k_ra
  have hx0 := hx0.tr hxx3
  rcases hm3 with ⟨sq, rfl, q0⟩ | ⟨c4, sq, rfl, q0⟩ | ⟨c4, rfl, q0, ls, tn, A, B, C, mid, hi, sq, q1, k_tn, n_tn, md_tn, hmid, hhi, ⟨t1, t2, t3⟩, ⟨k_A, k_B, k_C⟩, ⟨n_A, md_A⟩, ⟨n_B, md_B⟩, ⟨n_C, md_C⟩, htl2⟩
  · refine hs_ch (h := 11) (i := 2) (n := 1) (hh := (eg_mh 1).getD []) (by decide +kernel) ⟨by decide +kernel, by decide +kernel⟩ (Nat.le_of_ble_eq_true rfl) ?_
    show et_go none _ 1 12 [some (.ref th), some (.ref out), none] [] _ _ _ _
    refine hs_k (x := Int32.ofNat 1) (p := 13) (by decide +kernel) ?_
    refine hs_iret (by decide +kernel) ?_
    exact ⟨_, _, _, _, _, rfl, hx0, hH, hX, .inl ⟨sq, rfl, q0⟩⟩
  · refine hs_ch (h := 14) (i := 2) (n := 1) (hh := (eg_mh 1).getD []) (by decide +kernel) ⟨by decide +kernel, by decide +kernel⟩ (Nat.le_of_ble_eq_true rfl) ?_
    show et_go none _ 1 15 [some (.ref th), some (.ref out), none] [] _ _ _ _
    refine hs_k (x := Int32.ofNat 2) (p := 16) (by decide +kernel) ?_
    refine hs_iret (by decide +kernel) ?_
    exact ⟨_, _, _, _, _, rfl, hx0, hH, hX, .inr (.inl ⟨c4, sq, rfl, q0⟩)⟩
  · have lt_tn := (hH.2.2 _ _ k_tn).1
    have lt_A := (hH.2.2 _ _ k_A).1
    have lt_B := (hH.2.2 _ _ k_B).1
    have lt_C := (hH.2.2 _ _ k_C).1
    refine hs_cb ?_
    show et_go none _ 1 6 _ [.int (Int32.ofNat c), .int (Int32.ofNat 0), .ref out] _ _ _ _
    refine hs_i2l (p := 7) (by decide +kernel) ?_
    refine hf_lst (T := et_TT) (t := 31) (N := 1) (p := 8) (by decide +kernel) rfl rfl hH k_out (by omega) (by decide) (fun G7 hH x7 e7 => ?_)
    have htl2 := htl2.fr (hi' := hi) et_ex.rf x7 lt_tn (And.intro lt_A (And.intro lt_B lt_C)) (by omega) (by omega) (fun j => ⟨(fun hs => absurd hs.1 (by omega)), (fun hs => absurd hs.1 (by omega)), (fun hs => absurd hs.1 (by omega)), (fun hs => absurd hs.1 (by omega))⟩) (fun a j h1 h2 hs => absurd hs.1 (by omega))
    have q0 := (x7.2 s0 7 lt_s0 (fun h => (hi_ne k_s0 k_out (by decide)) h.1)).trans q0
    have q1 := (x7.2 ra c lt_ra (fun h => (hi_ne k_ra k_out (by decide)) h.1)).trans q1
    have t1 := (x7.2 tn 1 lt_tn (fun h => (hi_ne k_tn k_out (by decide)) h.1)).trans t1
    have t2 := (x7.2 tn 2 lt_tn (fun h => (hi_ne k_tn k_out (by decide)) h.1)).trans t2
    have t3 := (x7.2 tn 3 lt_tn (fun h => (hi_ne k_tn k_out (by decide)) h.1)).trans t3
    have lt_th := Nat.lt_of_lt_of_le lt_th x7.1
    have lt_rd := Nat.lt_of_lt_of_le lt_rd x7.1
    have lt_s0 := Nat.lt_of_lt_of_le lt_s0 x7.1
    have lt_ta := Nat.lt_of_lt_of_le lt_ta x7.1
    have lt_ba := Nat.lt_of_lt_of_le lt_ba x7.1
    have lt_na := Nat.lt_of_lt_of_le lt_na x7.1
    have lt_out := Nat.lt_of_lt_of_le lt_out x7.1
    have lt_ra := Nat.lt_of_lt_of_le lt_ra x7.1
    have lt_tn := Nat.lt_of_lt_of_le lt_tn x7.1
    have lt_A := Nat.lt_of_lt_of_le lt_A x7.1
    have lt_B := Nat.lt_of_lt_of_le lt_B x7.1
    have lt_C := Nat.lt_of_lt_of_le lt_C x7.1
    have hX := hX.tr x7 (fun b j hb h => by first | omega | (dsimp only at h ⊢; omega) | (dsimp only at h; omega) | (dsimp only; omega))
    have m_x7 := x7.1
    refine hs_goto (p := 17) (by decide +kernel) ?_
    refine hs_k (x := Int32.ofNat 0) (p := 18) (by decide +kernel) ?_
    refine hs_iret (by decide +kernel) ?_
    exact ⟨_, _, _, _, _, rfl, hx0, hH, hX, .inr (.inr ⟨c4, rfl, e7, q0, ls, tn, A, B, C, mid, hi, sq, q1, k_tn, n_tn, md_tn, hmid, by omega, ⟨t1, t2, t3⟩, ⟨k_A, k_B, k_C⟩, ⟨n_A, md_A⟩, ⟨n_B, md_B⟩, ⟨n_C, md_C⟩, htl2⟩)⟩
end FLB
