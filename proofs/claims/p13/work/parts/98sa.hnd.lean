/-! THE LAW'S CASES, both sides -/
def lw_ks : List (Nat × Nat) := [(0, 0), (7, 1), (9, 2), (2, 3), (5, 4)]
def lw_I (K : et_K) (G : eg_G) (th am out rd s0 s1 aw ai tp ba na tm c h : Nat) (cn im : Nat → Nat) : Prop := (et_H et_TT K G ∧ ci K G th ∧ K th = some 12 ∧ K am = some 13 ∧ K out = some 31 ∧ et_pl (eg_at G th) 3 = some (.ref rd) ∧ K rd = some 7 ∧ pl_at G rd c ∧ pm_at G am c ∧ c ≤ 400) ∧ (h ≤ 1 ∧ ph_at G th h ∧ pg_at G am h) ∧ rc lw_ks K G th s0 s1 cn im ∧ rm lw_ks K G am aw ai cn im ∧ (∀ k, cn k ≤ 400) ∧ (∀ k, im k ≤ 400) ∧ yw K G th s0 s1 aw ai (cn 4) (im 4) ∧ ∃ tb : Nat → Nat, tC K G rd tp ba na c tb ∧ tM K G am tm c tb ∧ ∀ i, i < c → tb i < 256
theorem lw_kl : ∀ q ∈ lw_ks, q.2 < 11900 := by decide
theorem ff_le {c : Nat} (h : c ≤ 400) : ff c ≤ 400 := by
  unfold ff
  split <;> omega
def ls_ab (pc j : Nat) : Bool := decide (hs_al 1000 pc = some (0, pc + 1)) && (decide (hs_il 1000 (pc + 1) = some (4, pc + 3)) && (decide (hs_kc 1000 (pc + 3) = some (Int32.ofNat j, pc + 4)) && (decide (hs_o 1000 (pc + 4) = some (.iadd, pc + 5)) && decide (hs_o 1000 (pc + 5) = some (.iaload, pc + 6)))))
section LWA
variable {n : Nat} {f : Nat → Int32} {d pc p ck sk i j th am out rd s0 s1 aw ai tp ba na tm c h : Nat} {cn im : Nat → Nat} {x5 x6 x1 x2 x3 : Option Value} {st : List Value} {K : et_K} {G : eg_G} {Z : eg_O → Prop}
theorem ls_arg (hc : ls_ab pc j = true) (hi : i + j < n) (hn : n ≤ 3072) (h : et_go (some (n, f)) d 1000 (pc + 6) [some (.ref 150), x1, x2, x3, some (.int (Int32.ofNat i)), x5, x6] (.int (f (i + j)) :: st) G ck sk Z) : et_go (some (n, f)) d 1000 pc [some (.ref 150), x1, x2, x3, some (.int (Int32.ofNat i)), x5, x6] st G ck sk Z := by
  unfold ls_ab at hc
  rw [Bool.and_eq_true, Bool.and_eq_true, Bool.and_eq_true, Bool.and_eq_true] at hc
  obtain ⟨h1, h2, h3, h4, h5⟩ := hc
  refine ls_aload (of_decide_eq_true h1) rfl ?_
  refine ls_iload (of_decide_eq_true h2) rfl ?_
  refine ls_k (of_decide_eq_true h3) ?_
  refine ls_iaddn (of_decide_eq_true h4) ?_
  exact ls_scr (of_decide_eq_true h5) hi hn h
def ls_bb (pc : Nat) : Bool := decide (hs_if 1000 pc = some (.eq, pc + 7, pc + 3)) && (decide (hs_kc 1000 (pc + 3) = some (Int32.ofNat 1, pc + 4)) && (decide (hs_gt 1000 (pc + 4) = some (pc + 8)) && decide (hs_kc 1000 (pc + 7) = some (Int32.ofNat 0, pc + 8))))
theorem ls_bool {sc : eg_Sc} {L : eg_Ls} {x : Int32} (hc : ls_bb pc = true) (h : ∀ b : Nat, b ≤ 1 → b = (if x = 0 then 0 else 1) → et_go sc d 1000 (pc + 8) L (.int (Int32.ofNat b) :: st) G ck sk Z) : et_go sc d 1000 pc L (.int x :: st) G ck sk Z := by
  unfold ls_bb at hc
  rw [Bool.and_eq_true, Bool.and_eq_true, Bool.and_eq_true] at hc
  obtain ⟨h1, h2, h3, h4⟩ := hc
  refine ls_br1 (of_decide_eq_true h1) (fun (hx : x = 0) => ?_) (fun (hx : ¬ x = 0) => ?_)
  · exact ls_k (of_decide_eq_true h4) (h 0 (by decide) (by rw [if_pos hx]))
  · refine ls_k (of_decide_eq_true h2) ?_
    exact ls_goto (of_decide_eq_true h3) (h 1 (by decide) (by rw [if_neg hx]))
theorem ls_cbvQ2 {sc : eg_Sc} {d k pc ck sk c s : Nat} {L : eg_Ls} {r : List Value} {Z Q1 Q2 : eg_O → Prop} {T : List et_D} {w : et_Wd} {M : et_M} {u : eg_O} {q : et_P} (hu : hi_Z T w M [(.inl (some q), c, s)] u ∧ Q1 u) (hu2 : Q2 u) (h : ∀ (v : Value) (K' : et_K) (G' : eg_G) (c' s' : Nat), et_ex w.1 K' → et_fr M w.1 w.2.2 G' → et_H T K' G' → et_v K' q v → c' ≤ c → s' ≤ s → Q1 (.inl (some v), G', c', s') → Q2 (.inl (some v), G', c', s') → et_go sc d k (pc + 3) L (v :: r) G' (ck + c') (sk + s') Z) : ls_cont sc d k pc L r ck sk Z u := ls_cbvQ (Q := fun u => Q1 u ∧ Q2 u) ⟨hu.1, hu.2, hu2⟩ (fun v K' G' c' s' h1 h2 h3 h4 h5 h6 h7 => h v K' G' c' s' h1 h2 h3 h4 h5 h6 h7.1 h7.2)
def pmu (am c : Nat) (u : eg_O) : Prop := pm_at u.2.1 am c
def plu (rd c : Nat) (u : eg_O) : Prop := pl_at u.2.1 rd c
theorem fm_thrown {d2 : Nat} {x : Int32} (hH : et_H et_TT K G) (k_am : K am = some 13) (ht : et_pl (eg_at G am) 0 = some (.int x)) : et_go none d2 315 0 (eg_en (eg_mL 315) [.ref am]) [] G 0 0 (xp_Z G (some (.int x))) := by
  rw [show eg_mL 315 = 1 from by decide +kernel]
  show et_go none d2 315 0 [some (.ref am)] [] G 0 0 _
  refine hs_aload (i := 0) (p := 1) (by decide +kernel) rfl ?_
  refine hf_get (T := et_TT) (t := 13) (ci := 11) (f := 0) (p := 4) (by decide +kernel) rfl hH k_am ht ?_
  refine hs_iret (by decide +kernel) ?_
  rfl
set_option maxHeartbeats 2000000 in
theorem lw_c0 (hI : lw_I K G th am out rd s0 s1 aw ai tp ba na tm c h cn im) (hi : i + 6 ≤ n) (hn : n ≤ 3072) (hN : ∀ (K' : et_K) (G' : eg_G) (c' h' : Nat) (cn' im' : Nat → Nat) (ck' sk' : Nat) (y5 y6 : Option Value), lw_I K' G' th am out rd s0 s1 aw ai tp ba na tm c' h' cn' im' → ck' ≤ ck + 841 → sk' ≤ sk + 7168 → et_go (some (n, f)) (d + 41) 1000 1656 [some (.ref 150), some (.ref th), some (.ref am), some (.ref out), some (.int (Int32.ofNat i)), y5, y6] [] G' ck' sk' Z) : et_go (some (n, f)) (d + 41) 1000 212 [some (.ref 150), some (.ref th), some (.ref am), some (.ref out), some (.int (Int32.ofNat i)), x5, x6] [] G ck sk Z := by
  obtain ⟨⟨hH, hci, k_th, k_am, k_out, h3, k_rd, hl, hm, hc⟩, ⟨hh1, hp, hg⟩, hrc, hrm, hbc, hbi, hyw, tb, htC, htM, htb⟩ := hI
  refine ls_aload (i := 1) (p := 213) (by decide +kernel) rfl ?_
  refine ls_arg (j := 1) (by decide +kernel) (by omega) hn ?_
  refine ls_arg (j := 2) (by decide +kernel) (by omega) hn ?_
  refine ls_arg (j := 3) (by decide +kernel) (by omega) hn ?_
  refine ls_arg (j := 4) (by decide +kernel) (by omega) hn ?_
  refine ls_arg (j := 5) (by decide +kernel) (by omega) hn ?_
  refine lt_callv (T := et_TT) (t := 12) (mi := 116) (na := 5) (ci := 10) (lk := 7) (lm := 6) (L0 := eg_en (eg_mL 116) [.ref th, .int (f (i + 1)), .int (f (i + 2)), .int (f (i + 3)), .int (f (i + 4)), .int (f (i + 5))]) (by decide +kernel) rfl hH k_th rfl rfl rfl rfl rfl (by rw [show eg_mL 116 = 6 from by decide +kernel]; first | done | rfl) ?_
  refine ((hc_feedC (w := (K, [], G)) hH k_th h3 k_rd hl hc (by omega)).and (fc_feed hH k_rd htC.2.1.1 htC.1.1 hl htC.2.2 k_th h3 hc (by omega))).mono (fun u hu => ls_cbvQ2 ⟨hu.1.1, (show plu rd (ff c) u from hu.1.2)⟩ hu.2 (fun v243 K243 G243 c243 s243 x243 f243 hH hv243 cl243 sl243 hP hQ => ?_))
  obtain ⟨_, _, eu, -, -, hQ⟩ := hQ
  cases eu
  have hyw := hyw.fr k_th hrc.1.1 hrc.1.2.1 hrm.1.1 hrm.1.2 x243 f243 (by decide +kernel)
  have hci := hci.fr x243 f243 (by decide +kernel)
  have h3 := (f243.2 th 12 k_th 3 rfl).trans h3
  have hl := hP
  have hm := (f243.2 am 13 k_am 5 rfl).trans hm
  have hp := (f243.2 th 12 k_th 2 rfl).trans hp
  have hg := (f243.2 am 13 k_am 3 rfl).trans hg
  have htC := htC.mk' k_rd x243 f243 (by decide +kernel) (fd_c hQ)
  have htM := htM.fr k_am x243 f243 (by decide +kernel)
  have hrc := hrc.fr k_th x243 f243 (by decide +kernel)
  have hrm := hrm.fr k_am x243 f243 (by decide +kernel)
  have k_th := x243 _ _ k_th
  have k_am := x243 _ _ k_am
  have k_out := x243 _ _ k_out
  have k_rd := x243 _ _ k_rd
  obtain ⟨v243, rfl, -⟩ := hv243
  show et_go _ _ 1000 246 [some (.ref 150), some (.ref th), some (.ref am), some (.ref out), some (.int (Int32.ofNat i)), x5, x6] [.int v243] _ ck sk _
  refine ls_pop (p := 247) (by decide +kernel) ?_
  refine ls_aload (i := 2) (p := 248) (by decide +kernel) rfl ?_
  refine ls_arg (j := 1) (by decide +kernel) (by omega) hn ?_
  refine ls_arg (j := 2) (by decide +kernel) (by omega) hn ?_
  refine ls_arg (j := 3) (by decide +kernel) (by omega) hn ?_
  refine ls_arg (j := 4) (by decide +kernel) (by omega) hn ?_
  refine ls_arg (j := 5) (by decide +kernel) (by omega) hn ?_
  refine lt_callv (T := et_TT) (t := 13) (mi := 177) (na := 5) (ci := 11) (lk := 7) (lm := 7) (L0 := eg_en (eg_mL 177) [.ref am, .int (f (i + 1)), .int (f (i + 2)), .int (f (i + 3)), .int (f (i + 4)), .int (f (i + 5))]) (by decide +kernel) rfl hH k_am rfl rfl rfl rfl rfl (by rw [show eg_mL 177 = 7 from by decide +kernel]; first | done | rfl) ?_
  obtain ⟨fv, m11, k_fv⟩ := hf_ref (t := 13) (f := 11) (u := 14) hH k_am rfl rfl (.inr trivial)
  refine ((hc_feedM (w := (K243, [], G243)) hH k_am hm hc (by omega)).and (fm_feed hH k_am htM.2.1 htM.1 m11 k_fv hm hc htM.2.2)).mono (fun u hu => ls_cbvQ2 ⟨hu.1.1, (show pmu am (ff c) u from hu.1.2)⟩ hu.2 (fun v278 K278 G278 c278 s278 x278 f278 hH hv278 cl278 sl278 hP hQ => ?_))
  obtain ⟨_, _, eu, -, -, hQ⟩ := hQ
  cases eu
  have hyw := hyw.fr k_th hrc.1.1 hrc.1.2.1 hrm.1.1 hrm.1.2 x278 f278 (by decide +kernel)
  have hci := hci.fr x278 f278 (by decide +kernel)
  have h3 := (f278.2 th 12 k_th 3 rfl).trans h3
  have hl := (f278.2 rd 7 k_rd 1 rfl).trans hl
  have hm := hP
  have hp := (f278.2 th 12 k_th 2 rfl).trans hp
  have hg := (f278.2 am 13 k_am 3 rfl).trans hg
  have htC := htC.fr k_rd x278 f278 (by decide +kernel)
  have htM := htM.mk' k_am x278 f278 (by decide +kernel) (fd_m hQ)
  have hrc := hrc.fr k_th x278 f278 (by decide +kernel)
  have hrm := hrm.fr k_am x278 f278 (by decide +kernel)
  have k_th := x278 _ _ k_th
  have k_am := x278 _ _ k_am
  have k_out := x278 _ _ k_out
  have k_rd := x278 _ _ k_rd
  obtain ⟨v278, rfl, -⟩ := hv278
  show et_go _ _ 1000 281 [some (.ref 150), some (.ref th), some (.ref am), some (.ref out), some (.int (Int32.ofNat i)), x5, x6] [.int v278] _ ck sk _
  refine ls_pop (p := 282) (by decide +kernel) ?_
  refine ls_goto (p := 1656) (by decide +kernel) ?_
  exact hN _ _ (ff c) h _ _ _ _ _ _ ⟨⟨hH, hci, k_th, k_am, k_out, h3, k_rd, hl, hm, (ff_le hc)⟩, ⟨hh1, hp, hg⟩, hrc, hrm, hbc, hbi, hyw, _, htC, htM, fun i hi => tbf_lt htb hi⟩ (by omega) (by omega)
set_option maxHeartbeats 2000000 in
theorem lw_c1 (hI : lw_I K G th am out rd s0 s1 aw ai tp ba na tm c h cn im) (hi : i + 6 ≤ n) (hn : n ≤ 3072) (hN : ∀ (K' : et_K) (G' : eg_G) (c' h' : Nat) (cn' im' : Nat → Nat) (ck' sk' : Nat) (y5 y6 : Option Value), lw_I K' G' th am out rd s0 s1 aw ai tp ba na tm c' h' cn' im' → ck' ≤ ck + 841 → sk' ≤ sk + 7168 → et_go (some (n, f)) (d + 41) 1000 1656 [some (.ref 150), some (.ref th), some (.ref am), some (.ref out), some (.int (Int32.ofNat i)), y5, y6] [] G' ck' sk' Z) : et_go (some (n, f)) (d + 41) 1000 285 [some (.ref 150), some (.ref th), some (.ref am), some (.ref out), some (.int (Int32.ofNat i)), x5, x6] [] G ck sk Z := by
  obtain ⟨⟨hH, hci, k_th, k_am, k_out, h3, k_rd, hl, hm, hc⟩, ⟨hh1, hp, hg⟩, hrc, hrm, hbc, hbi, hyw, tb, htC, htM, htb⟩ := hI
  refine ls_aload (i := 1) (p := 286) (by decide +kernel) rfl ?_
  refine ls_arg (j := 1) (by decide +kernel) (by omega) hn ?_
  refine lt_callv (T := et_TT) (t := 12) (mi := 117) (na := 1) (ci := 10) (lk := 7) (lm := 2) (L0 := eg_en (eg_mL 117) [.ref th, .int (f (i + 1))]) (by decide +kernel) rfl hH k_th rfl rfl rfl rfl rfl (by rw [show eg_mL 117 = 2 from by decide +kernel]; first | done | rfl) ?_
  refine (hc_endC (w := (K, [], G)) hH k_th h3 k_rd hl hc (by omega)).mono (fun u hu => ls_cbz hu (fun K292 G292 v292 x292 f292 hH hP => ?_))
  obtain ⟨rfl, hP⟩ := hP
  have hyw := hyw.fr k_th hrc.1.1 hrc.1.2.1 hrm.1.1 hrm.1.2 x292 f292 (by decide +kernel)
  have hci := hci.fr x292 f292 (by decide +kernel)
  have h3 := (f292.2 th 12 k_th 3 rfl).trans h3
  have hl := hP
  have hm := (f292.2 am 13 k_am 5 rfl).trans hm
  have hp := (f292.2 th 12 k_th 2 rfl).trans hp
  have hg := (f292.2 am 13 k_am 3 rfl).trans hg
  have htC := (htC.fr k_rd x292 f292 (by decide +kernel)).le (fe_le2 (n := f (i + 1)) hc)
  have htM := htM.fr k_am x292 f292 (by decide +kernel)
  have hrc := hrc.fr k_th x292 f292 (by decide +kernel)
  have hrm := hrm.fr k_am x292 f292 (by decide +kernel)
  have k_th := x292 _ _ k_th
  have k_am := x292 _ _ k_am
  have k_out := x292 _ _ k_out
  have k_rd := x292 _ _ k_rd
  show et_go _ _ 1000 295 [some (.ref 150), some (.ref th), some (.ref am), some (.ref out), some (.int (Int32.ofNat i)), x5, x6] [.int (Int32.ofNat (fe (f (i + 1)) c).1)] _ ck sk _
  refine ls_pop (p := 296) (by decide +kernel) ?_
  refine ls_aload (i := 2) (p := 297) (by decide +kernel) rfl ?_
  refine ls_arg (j := 1) (by decide +kernel) (by omega) hn ?_
  refine lt_callv (T := et_TT) (t := 13) (mi := 178) (na := 1) (ci := 11) (lk := 7) (lm := 2) (L0 := eg_en (eg_mL 178) [.ref am, .int (f (i + 1))]) (by decide +kernel) rfl hH k_am rfl rfl rfl rfl rfl (by rw [show eg_mL 178 = 2 from by decide +kernel]; first | done | rfl) ?_
  refine (hc_endM (w := (K292, [], G292)) hH k_am hm hc).mono (fun u hu => ls_cbz hu (fun K303 G303 v303 x303 f303 hH hP => ?_))
  obtain ⟨rfl, hP⟩ := hP
  have hyw := hyw.fr k_th hrc.1.1 hrc.1.2.1 hrm.1.1 hrm.1.2 x303 f303 (by decide +kernel)
  have hci := hci.fr x303 f303 (by decide +kernel)
  have h3 := (f303.2 th 12 k_th 3 rfl).trans h3
  have hl := (f303.2 rd 7 k_rd 1 rfl).trans hl
  have hm := hP
  have hp := (f303.2 th 12 k_th 2 rfl).trans hp
  have hg := (f303.2 am 13 k_am 3 rfl).trans hg
  have htC := htC.fr k_rd x303 f303 (by decide +kernel)
  have htM := (htM.fr k_am x303 f303 (by decide +kernel)).le (fe_le2 (n := f (i + 1)) hc)
  have hrc := hrc.fr k_th x303 f303 (by decide +kernel)
  have hrm := hrm.fr k_am x303 f303 (by decide +kernel)
  have k_th := x303 _ _ k_th
  have k_am := x303 _ _ k_am
  have k_out := x303 _ _ k_out
  have k_rd := x303 _ _ k_rd
  show et_go _ _ 1000 306 [some (.ref 150), some (.ref th), some (.ref am), some (.ref out), some (.int (Int32.ofNat i)), x5, x6] [.int (Int32.ofNat (fe (f (i + 1)) c).1)] _ ck sk _
  refine ls_pop (p := 307) (by decide +kernel) ?_
  refine ls_goto (p := 1656) (by decide +kernel) ?_
  exact hN _ _ (fe (f (i + 1)) c).2 h _ _ _ _ _ _ ⟨⟨hH, hci, k_th, k_am, k_out, h3, k_rd, hl, hm, (fe_le hc).1⟩, ⟨hh1, hp, hg⟩, hrc, hrm, hbc, hbi, hyw, _, htC, htM, fun z hz => htb z (Nat.lt_of_lt_of_le hz (fe_le2 (n := f (i + 1)) hc))⟩ (by omega) (by omega)
set_option maxHeartbeats 2000000 in
theorem lw_c2 (hI : lw_I K G th am out rd s0 s1 aw ai tp ba na tm c h cn im) (hi : i + 6 ≤ n) (hn : n ≤ 3072) (hN : ∀ (K' : et_K) (G' : eg_G) (c' h' : Nat) (cn' im' : Nat → Nat) (ck' sk' : Nat) (y5 y6 : Option Value), lw_I K' G' th am out rd s0 s1 aw ai tp ba na tm c' h' cn' im' → ck' ≤ ck + 841 → sk' ≤ sk + 7168 → et_go (some (n, f)) (d + 41) 1000 1656 [some (.ref 150), some (.ref th), some (.ref am), some (.ref out), some (.int (Int32.ofNat i)), y5, y6] [] G' ck' sk' Z) : et_go (some (n, f)) (d + 41) 1000 310 [some (.ref 150), some (.ref th), some (.ref am), some (.ref out), some (.int (Int32.ofNat i)), x5, x6] [] G ck sk Z := by
  obtain ⟨⟨hH, hci, k_th, k_am, k_out, h3, k_rd, hl, hm, hc⟩, ⟨hh1, hp, hg⟩, hrc, hrm, hbc, hbi, hyw, tb, htC, htM, htb⟩ := hI
  refine ls_aload (i := 1) (p := 311) (by decide +kernel) rfl ?_
  refine ls_aload (i := 3) (p := 312) (by decide +kernel) rfl ?_
  refine ls_calls (mi := 0) (na := 2) (lk := 7) (lm := 3) (L0 := eg_en (eg_mL 0) [.ref th, .ref out]) (by decide +kernel) rfl rfl rfl rfl rfl rfl (by rw [show eg_mL 0 = 3 from by decide +kernel]; first | done | rfl) ?_
  obtain ⟨t0, t1, ra0, ca0, rc0, ec0, cc0, ra1, ca1, rc1, ec1, cc1, hC⟩ := id hci
  obtain rfl : s0 = t0 := Value.ref.inj (Option.some.inj (hrc.2.1.1.symm.trans hC.2.1.1))
  obtain rfl : s1 = t1 := Value.ref.inj (Option.some.inj (hrc.2.1.2.symm.trans hC.2.1.2))
  have ee0 : ec0 = cn 4 := xi_inj (by have := hC.2.2.2.1.2.2.2.1.2.1; omega) (by have := hbc 4; omega) (hC.2.2.2.1.2.2.1.2.1.symm.trans (hrc.2.2 (5, 4) (by decide)).1)
  have ee1 : ec1 = im 4 := xi_inj (by have := hC.2.2.2.2.2.2.2.1.2.1; omega) (by have := hbi 4; omega) (hC.2.2.2.2.2.2.1.2.1.symm.trans (hrc.2.2 (5, 4) (by decide)).2)
  have b0 : cn 0 ≤ 4 := Int.ofNat_le.mp (hf_bd (t := 10) hH hrc.1.1 rfl rfl (hrc.2.2 (0, 0) (by decide)).1 (hbc 0))
  have hH0 := hH
  have k_th0 := k_th
  have k_out0 := k_out
  have k_rd0 := k_rd
  have k_am0 := k_am
  have hrc0 := hrc
  have hrm0 := hrm
  obtain ⟨ta, r4, k_ta⟩ := hf_ref (t := 7) (f := 4) (u := 41) hH k_rd rfl rfl (.inr trivial)
  have htC0 := htC
  have k_ra := hC.2.2.2.1.1.2.1
  refine ((hh_i0 hH hci k_th k_out h3 k_rd (by omega)).and (fh_rule (ea := 0) hH k_rd htC.2.1.1 htC.1.1 hl hc htC.2.2 htb k_ta htC.1.2.1 htC.1.2.2 htC.2.1.2.2.2 r4 htC.2.1.2.1 htC.2.1.2.2.1 k_th h3 hrc.2.1.1 hrc.1.1 (hrc.2.2 (0, 0) (by decide)).1 b0 hC.2.2.2.1.2.1.1 k_ra k_out (by omega))).mono (fun u hu => ls_cbrQ hu (fun v312 K312 G312 c312 s312 x312 f312 hH hci hP cl312 sl312 hQ => ?_))
  obtain ⟨_, _, _, _, _, eu, -, -, hxf, hQ⟩ := hQ
  cases eu
  have hyw := hyw.fr k_th hrc.1.1 hrc.1.2.1 hrm.1.1 hrm.1.2 x312 f312 (by decide +kernel)
  have h3 := (f312.2 th 12 k_th 3 rfl).trans h3
  have hl := hP
  have hm := (f312.2 am 13 k_am 5 rfl).trans hm
  have hp := (f312.2 th 12 k_th 2 rfl).trans hp
  have hg := (f312.2 am 13 k_am 3 rfl).trans hg
  have htC := (htC.fr k_rd x312 f312 (by decide +kernel)).le (Nat.zero_le _)
  have htM := htM.fr k_am x312 f312 (by decide +kernel)
  have hrm := hrm.fr k_am x312 f312 (by decide +kernel)
  have k_th := x312 _ _ k_th
  have k_am := x312 _ _ k_am
  have k_out := x312 _ _ k_out
  have k_rd := x312 _ _ k_rd
  have k_z := hrc0.1.2.1
  have w1 : et_pl (eg_at G312 s1) 0 = some (.int (Int32.ofNat (im 0))) := (hxf.2 s1 0 (hH0.2.2 _ _ hrc0.1.2.1).1 (fun h => by rcases h with h | h | h | h | h | h | h <;> first | exact hrc0.1.2.2 h.1.symm | (have h := h.1; rw [h] at k_z; first | (rw [k_rd0] at k_z; cases k_z) | (rw [k_ta] at k_z; cases k_z) | (rw [htC0.1.2.1] at k_z; cases k_z) | (rw [htC0.1.2.2] at k_z; cases k_z) | (rw [k_ra] at k_z; cases k_z) | (rw [k_out0] at k_z; cases k_z)))).trans (hrc0.2.2 (0, 0) (by decide)).2
  rcases hQ with ⟨sq, ev, q0⟩ | ⟨c4, sq, ev, q0⟩ | ⟨c4, ev, ho, q0, f_, N_, q_, bb_, sq, -⟩
  · cases ev
    have hrc := hrc0.upf k_th0 x312 f312 q0 w1 (by decide +kernel)
    show et_go _ _ 1000 315 [some (.ref 150), some (.ref th), some (.ref am), some (.ref out), some (.int (Int32.ofNat i)), x5, x6] [.int (Int32.ofNat 1)] _ (ck + c312) (sk + s312) _
    refine ls_istore (i := 5) (p := 317) (by decide +kernel) (Nat.le_of_ble_eq_true rfl) ?_
    refine ls_aload (i := 2) (p := 318) (by decide +kernel) rfl ?_
    refine lt_callv (T := et_TT) (t := 13) (mi := 180) (na := 0) (ci := 11) (lk := 7) (lm := 2) (L0 := eg_en (eg_mL 180) [.ref am]) (by decide +kernel) rfl hH k_am rfl rfl rfl rfl rfl (by rw [show eg_mL 180 = 2 from by decide +kernel]; first | done | rfl) ?_
    have hH1 := hH
    have k_am1 := k_am
    have hrm0 := hrm
    have htM0 := htM
    obtain ⟨aj, m18, k_aj⟩ := hf_ref (t := 13) (f := 18) (u := 25) hH k_am rfl rfl (.inr trivial)
    refine ((hc_ruleT (w := (K312, [], G312)) hH k_am (by omega)).and (fm_rule hH k_am htM.2.1 htM.1 hm hc htM.2.2 htb hrm.1.1 hrm.2.1.1 m18 (hrm.2.2 (0, 0) (by decide)).1 b0 (by omega))).mono (fun u hu => ls_cbvQ2 ⟨hu.1.1, (show pmu am 0 u from hu.1.2)⟩ hu.2 (fun v318 K318 G318 c318 s318 x318 f318 hH hv318 cl318 sl318 hP hQ => ?_))
    obtain ⟨_, _, eu, hxf, hQ⟩ := hQ
    cases eu
    have hyw := hyw.fr k_th hrc.1.1 hrc.1.2.1 hrm.1.1 hrm.1.2 x318 f318 (by decide +kernel)
    have hci := hci.fr x318 f318 (by decide +kernel)
    have h3 := (f318.2 th 12 k_th 3 rfl).trans h3
    have hl := (f318.2 rd 7 k_rd 1 rfl).trans hl
    have hm := hP
    have hp := (f318.2 th 12 k_th 2 rfl).trans hp
    have hg := (f318.2 am 13 k_am 3 rfl).trans hg
    have htC := htC.fr k_rd x318 f318 (by decide +kernel)
    have htM := (htM.fr k_am x318 f318 (by decide +kernel)).le (Nat.zero_le _)
    have hrc := hrc.fr k_th x318 f318 (by decide +kernel)
    have k_th := x318 _ _ k_th
    have k_am := x318 _ _ k_am
    have k_out := x318 _ _ k_out
    have k_rd := x318 _ _ k_rd
    rcases hQ with ⟨sq2, ev2, ht, z0⟩ | ⟨r4, sq2, ev2, ht, z0⟩ | ⟨f2, sq2, r4, ev2, ht, z0, -⟩
    · cases ev2
      have hrm := hrm0.up hH1 k_am1 x318 hxf (fun a j t ha hs => by rcases hs with ⟨ea, ej⟩ | ⟨ea, ej⟩ | ⟨ea, ej⟩ <;> rw [ea] at ha <;> first | (rw [k_am1] at ha; cases ha; exact ⟨fun _ => by omega, fun h => absurd h (by decide), by decide⟩) | (rw [hrm0.1.1] at ha; cases ha; exact ⟨fun h => absurd h (by decide), fun _ => by omega, by decide⟩) | (rw [k_aj] at ha; cases ha; exact ⟨fun h => absurd h (by decide), fun h => absurd h (by decide), by decide⟩)) z0 (by decide)
      have hbc := rc_upb (k := 0) (v := cn 0) hbc (by omega)
      show et_go _ _ 1000 321 [some (.ref 150), some (.ref th), some (.ref am), some (.ref out), some (.int (Int32.ofNat i)), some (.int (Int32.ofNat 1)), x6] [.int (Int32.ofNat 0)] _ (ck + c312) (sk + s312) _
      refine ls_istore (i := 6) (p := 323) (by decide +kernel) (Nat.le_of_ble_eq_true rfl) ?_
      refine ls_goto (p := 1656) (by decide +kernel) ?_
      exact hN _ _ 0 h _ _ _ _ _ _ ⟨⟨hH, hci, k_th, k_am, k_out, h3, k_rd, hl, hm, (by decide)⟩, ⟨hh1, hp, hg⟩, hrc, hrm, hbc, hbi, hyw, _, htC, htM, fun i hi => absurd hi (Nat.not_lt_zero i)⟩ (by omega) (by omega)
    · exact absurd sq sq2
    · (rw [sq] at sq2; cases sq2)
  · cases ev
    have hrc := hrc0.upf k_th0 x312 f312 q0 w1 (by decide +kernel)
    show et_go _ _ 1000 315 [some (.ref 150), some (.ref th), some (.ref am), some (.ref out), some (.int (Int32.ofNat i)), x5, x6] [.int (Int32.ofNat 2)] _ (ck + c312) (sk + s312) _
    refine ls_istore (i := 5) (p := 317) (by decide +kernel) (Nat.le_of_ble_eq_true rfl) ?_
    refine ls_aload (i := 2) (p := 318) (by decide +kernel) rfl ?_
    refine lt_callv (T := et_TT) (t := 13) (mi := 180) (na := 0) (ci := 11) (lk := 7) (lm := 2) (L0 := eg_en (eg_mL 180) [.ref am]) (by decide +kernel) rfl hH k_am rfl rfl rfl rfl rfl (by rw [show eg_mL 180 = 2 from by decide +kernel]; first | done | rfl) ?_
    have hH1 := hH
    have k_am1 := k_am
    have hrm0 := hrm
    have htM0 := htM
    obtain ⟨aj, m18, k_aj⟩ := hf_ref (t := 13) (f := 18) (u := 25) hH k_am rfl rfl (.inr trivial)
    refine ((hc_ruleT (w := (K312, [], G312)) hH k_am (by omega)).and (fm_rule hH k_am htM.2.1 htM.1 hm hc htM.2.2 htb hrm.1.1 hrm.2.1.1 m18 (hrm.2.2 (0, 0) (by decide)).1 b0 (by omega))).mono (fun u hu => ls_cbvQ2 ⟨hu.1.1, (show pmu am 0 u from hu.1.2)⟩ hu.2 (fun v318 K318 G318 c318 s318 x318 f318 hH hv318 cl318 sl318 hP hQ => ?_))
    obtain ⟨_, _, eu, hxf, hQ⟩ := hQ
    cases eu
    have hyw := hyw.fr k_th hrc.1.1 hrc.1.2.1 hrm.1.1 hrm.1.2 x318 f318 (by decide +kernel)
    have hci := hci.fr x318 f318 (by decide +kernel)
    have h3 := (f318.2 th 12 k_th 3 rfl).trans h3
    have hl := (f318.2 rd 7 k_rd 1 rfl).trans hl
    have hm := hP
    have hp := (f318.2 th 12 k_th 2 rfl).trans hp
    have hg := (f318.2 am 13 k_am 3 rfl).trans hg
    have htC := htC.fr k_rd x318 f318 (by decide +kernel)
    have htM := (htM.fr k_am x318 f318 (by decide +kernel)).le (Nat.zero_le _)
    have hrc := hrc.fr k_th x318 f318 (by decide +kernel)
    have k_th := x318 _ _ k_th
    have k_am := x318 _ _ k_am
    have k_out := x318 _ _ k_out
    have k_rd := x318 _ _ k_rd
    rcases hQ with ⟨sq2, ev2, ht, z0⟩ | ⟨r4, sq2, ev2, ht, z0⟩ | ⟨f2, sq2, r4, ev2, ht, z0, -⟩
    · exact absurd sq2 sq
    · cases ev2
      have hrm := hrm0.up hH1 k_am1 x318 hxf (fun a j t ha hs => by rcases hs with ⟨ea, ej⟩ | ⟨ea, ej⟩ | ⟨ea, ej⟩ <;> rw [ea] at ha <;> first | (rw [k_am1] at ha; cases ha; exact ⟨fun _ => by omega, fun h => absurd h (by decide), by decide⟩) | (rw [hrm0.1.1] at ha; cases ha; exact ⟨fun h => absurd h (by decide), fun _ => by omega, by decide⟩) | (rw [k_aj] at ha; cases ha; exact ⟨fun h => absurd h (by decide), fun h => absurd h (by decide), by decide⟩)) z0 (by decide)
      have hbc := rc_upb (k := 0) (v := cn 0) hbc (by omega)
      show et_go _ _ 1000 321 [some (.ref 150), some (.ref th), some (.ref am), some (.ref out), some (.int (Int32.ofNat i)), some (.int (Int32.ofNat 2)), x6] [.int (Int32.ofNat 0)] _ (ck + c312) (sk + s312) _
      refine ls_istore (i := 6) (p := 323) (by decide +kernel) (Nat.le_of_ble_eq_true rfl) ?_
      refine ls_goto (p := 1656) (by decide +kernel) ?_
      exact hN _ _ 0 h _ _ _ _ _ _ ⟨⟨hH, hci, k_th, k_am, k_out, h3, k_rd, hl, hm, (by decide)⟩, ⟨hh1, hp, hg⟩, hrc, hrm, hbc, hbi, hyw, _, htC, htM, fun i hi => absurd hi (Nat.not_lt_zero i)⟩ (by omega) (by omega)
    · exact absurd c4 (by omega)
  · cases ev
    have hrc := hrc0.upf k_th0 x312 f312 q0 w1 (by decide +kernel)
    show et_go _ _ 1000 315 [some (.ref 150), some (.ref th), some (.ref am), some (.ref out), some (.int (Int32.ofNat i)), x5, x6] [.int (Int32.ofNat 0)] _ (ck + c312) (sk + s312) _
    refine ls_istore (i := 5) (p := 317) (by decide +kernel) (Nat.le_of_ble_eq_true rfl) ?_
    refine ls_aload (i := 2) (p := 318) (by decide +kernel) rfl ?_
    refine lt_callv (T := et_TT) (t := 13) (mi := 180) (na := 0) (ci := 11) (lk := 7) (lm := 2) (L0 := eg_en (eg_mL 180) [.ref am]) (by decide +kernel) rfl hH k_am rfl rfl rfl rfl rfl (by rw [show eg_mL 180 = 2 from by decide +kernel]; first | done | rfl) ?_
    have hH1 := hH
    have k_am1 := k_am
    have hrm0 := hrm
    have htM0 := htM
    obtain ⟨aj, m18, k_aj⟩ := hf_ref (t := 13) (f := 18) (u := 25) hH k_am rfl rfl (.inr trivial)
    refine ((hc_ruleT (w := (K312, [], G312)) hH k_am (by omega)).and (fm_rule hH k_am htM.2.1 htM.1 hm hc htM.2.2 htb hrm.1.1 hrm.2.1.1 m18 (hrm.2.2 (0, 0) (by decide)).1 b0 (by omega))).mono (fun u hu => ls_cbvQ2 ⟨hu.1.1, (show pmu am 0 u from hu.1.2)⟩ hu.2 (fun v318 K318 G318 c318 s318 x318 f318 hH hv318 cl318 sl318 hP hQ => ?_))
    obtain ⟨_, _, eu, hxf, hQ⟩ := hQ
    cases eu
    have hyw := hyw.fr k_th hrc.1.1 hrc.1.2.1 hrm.1.1 hrm.1.2 x318 f318 (by decide +kernel)
    have hci := hci.fr x318 f318 (by decide +kernel)
    have h3 := (f318.2 th 12 k_th 3 rfl).trans h3
    have hl := (f318.2 rd 7 k_rd 1 rfl).trans hl
    have hm := hP
    have hp := (f318.2 th 12 k_th 2 rfl).trans hp
    have hg := (f318.2 am 13 k_am 3 rfl).trans hg
    have htC := htC.fr k_rd x318 f318 (by decide +kernel)
    have htM := (htM.fr k_am x318 f318 (by decide +kernel)).le (Nat.zero_le _)
    have hrc := hrc.fr k_th x318 f318 (by decide +kernel)
    have ho := (f318.2 out 31 k_out 0 rfl).trans ho
    have k_th := x318 _ _ k_th
    have k_am := x318 _ _ k_am
    have k_out := x318 _ _ k_out
    have k_rd := x318 _ _ k_rd
    rcases hQ with ⟨sq2, ev2, ht, z0⟩ | ⟨r4, sq2, ev2, ht, z0⟩ | ⟨f2, sq2, r4, ev2, ht, z0, -⟩
    · (rw [sq2] at sq; cases sq)
    · exact absurd c4 (by omega)
    · cases ev2
      have hrm := hrm0.up hH1 k_am1 x318 hxf (fun a j t ha hs => by rcases hs with ⟨ea, ej⟩ | ⟨ea, ej⟩ | ⟨ea, ej⟩ <;> rw [ea] at ha <;> first | (rw [k_am1] at ha; cases ha; exact ⟨fun _ => by omega, fun h => absurd h (by decide), by decide⟩) | (rw [hrm0.1.1] at ha; cases ha; exact ⟨fun h => absurd h (by decide), fun _ => by omega, by decide⟩) | (rw [k_aj] at ha; cases ha; exact ⟨fun h => absurd h (by decide), fun h => absurd h (by decide), by decide⟩)) z0 (by decide)
      have hbc := rc_upb (k := 0) (v := cn 0 + 1) hbc (by omega)
      show et_go _ _ 1000 321 [some (.ref 150), some (.ref th), some (.ref am), some (.ref out), some (.int (Int32.ofNat i)), some (.int (Int32.ofNat 0)), x6] [.int (Int32.ofNat (cn 0))] _ (ck + c312) (sk + s312) _
      refine ls_istore (i := 6) (p := 323) (by decide +kernel) (Nat.le_of_ble_eq_true rfl) ?_
      refine ls_goto (p := 1656) (by decide +kernel) ?_
      exact hN _ _ 0 h _ _ _ _ _ _ ⟨⟨hH, hci, k_th, k_am, k_out, h3, k_rd, hl, hm, (by decide)⟩, ⟨hh1, hp, hg⟩, hrc, hrm, hbc, hbi, hyw, _, htC, htM, fun i hi => absurd hi (Nat.not_lt_zero i)⟩ (by omega) (by omega)
set_option maxHeartbeats 2000000 in
theorem lw_c3 (hI : lw_I K G th am out rd s0 s1 aw ai tp ba na tm c h cn im) (hi : i + 6 ≤ n) (hn : n ≤ 3072) (hN : ∀ (K' : et_K) (G' : eg_G) (c' h' : Nat) (cn' im' : Nat → Nat) (ck' sk' : Nat) (y5 y6 : Option Value), lw_I K' G' th am out rd s0 s1 aw ai tp ba na tm c' h' cn' im' → ck' ≤ ck + 841 → sk' ≤ sk + 7168 → et_go (some (n, f)) (d + 41) 1000 1656 [some (.ref 150), some (.ref th), some (.ref am), some (.ref out), some (.int (Int32.ofNat i)), y5, y6] [] G' ck' sk' Z) : et_go (some (n, f)) (d + 41) 1000 326 [some (.ref 150), some (.ref th), some (.ref am), some (.ref out), some (.int (Int32.ofNat i)), x5, x6] [] G ck sk Z := by
  obtain ⟨⟨hH, hci, k_th, k_am, k_out, h3, k_rd, hl, hm, hc⟩, ⟨hh1, hp, hg⟩, hrc, hrm, hbc, hbi, hyw, tb, htC, htM, htb⟩ := hI
  refine ls_aload (i := 1) (p := 327) (by decide +kernel) rfl ?_
  refine ls_aload (i := 3) (p := 328) (by decide +kernel) rfl ?_
  refine ls_calls (mi := 1) (na := 2) (lk := 7) (lm := 3) (L0 := eg_en (eg_mL 1) [.ref th, .ref out]) (by decide +kernel) rfl rfl rfl rfl rfl rfl (by rw [show eg_mL 1 = 3 from by decide +kernel]; first | done | rfl) ?_
  obtain ⟨t0, t1, ra0, ca0, rc0, ec0, cc0, ra1, ca1, rc1, ec1, cc1, hC⟩ := id hci
  obtain rfl : s0 = t0 := Value.ref.inj (Option.some.inj (hrc.2.1.1.symm.trans hC.2.1.1))
  obtain rfl : s1 = t1 := Value.ref.inj (Option.some.inj (hrc.2.1.2.symm.trans hC.2.1.2))
  have ee0 : ec0 = cn 4 := xi_inj (by have := hC.2.2.2.1.2.2.2.1.2.1; omega) (by have := hbc 4; omega) (hC.2.2.2.1.2.2.1.2.1.symm.trans (hrc.2.2 (5, 4) (by decide)).1)
  have ee1 : ec1 = im 4 := xi_inj (by have := hC.2.2.2.2.2.2.2.1.2.1; omega) (by have := hbi 4; omega) (hC.2.2.2.2.2.2.1.2.1.symm.trans (hrc.2.2 (5, 4) (by decide)).2)
  have b1 : cn 1 ≤ 4 := Int.ofNat_le.mp (hf_bd (t := 10) hH hrc.1.1 rfl rfl (hrc.2.2 (7, 1) (by decide)).1 (hbc 1))
  have hH0 := hH
  have k_th0 := k_th
  have k_out0 := k_out
  have k_rd0 := k_rd
  have k_am0 := k_am
  have hrc0 := hrc
  have hrm0 := hrm
  obtain ⟨ta, r4, k_ta⟩ := hf_ref (t := 7) (f := 4) (u := 41) hH k_rd rfl rfl (.inr trivial)
  obtain ⟨tu, g8, k_ra⟩ := hf_ref (t := 10) (f := 8) (u := 38) hH hrc.1.1 rfl rfl (.inr trivial)
  have htC0 := htC
  refine ((hh_i1 hH hci k_th k_out h3 k_rd (by omega)).and (fh_turner hH k_rd htC.2.1.1 htC.1.1 hl hc htC.2.2 htb k_ta htC.1.2.1 htC.1.2.2 htC.2.1.2.2.2 r4 htC.2.1.2.1 htC.2.1.2.2.1 k_th h3 hrc.2.1.1 hrc.1.1 (hrc.2.2 (7, 1) (by decide)).1 b1 g8 k_ra k_out (by omega))).mono (fun u hu => ls_cbrQ hu (fun v328 K328 G328 c328 s328 x328 f328 hH hci hP cl328 sl328 hQ => ?_))
  obtain ⟨_, _, _, _, _, eu, -, -, hxf, hQ⟩ := hQ
  cases eu
  have hyw := hyw.fr k_th hrc.1.1 hrc.1.2.1 hrm.1.1 hrm.1.2 x328 f328 (by decide +kernel)
  have h3 := (f328.2 th 12 k_th 3 rfl).trans h3
  have hl := hP
  have hm := (f328.2 am 13 k_am 5 rfl).trans hm
  have hp := (f328.2 th 12 k_th 2 rfl).trans hp
  have hg := (f328.2 am 13 k_am 3 rfl).trans hg
  have htC := (htC.fr k_rd x328 f328 (by decide +kernel)).le (Nat.zero_le _)
  have htM := htM.fr k_am x328 f328 (by decide +kernel)
  have hrm := hrm.fr k_am x328 f328 (by decide +kernel)
  have k_th := x328 _ _ k_th
  have k_am := x328 _ _ k_am
  have k_out := x328 _ _ k_out
  have k_rd := x328 _ _ k_rd
  have k_z := hrc0.1.2.1
  have w1 : et_pl (eg_at G328 s1) 7 = some (.int (Int32.ofNat (im 1))) := (hxf.2 s1 7 (hH0.2.2 _ _ hrc0.1.2.1).1 (fun h => by rcases h with h | h | h | h | h | h | h <;> first | exact hrc0.1.2.2 h.1.symm | (have h := h.1; rw [h] at k_z; first | (rw [k_rd0] at k_z; cases k_z) | (rw [k_ta] at k_z; cases k_z) | (rw [htC0.1.2.1] at k_z; cases k_z) | (rw [htC0.1.2.2] at k_z; cases k_z) | (rw [k_ra] at k_z; cases k_z) | (rw [k_out0] at k_z; cases k_z)))).trans (hrc0.2.2 (7, 1) (by decide)).2
  rcases hQ with ⟨sq, ev, q0⟩ | ⟨c4, sq, ev, q0⟩ | ⟨c4, ev, ho, q0, ls_, tn_, A_, B_, C_, mid_, hi_, sq, -⟩
  · cases ev
    have hrc := hrc0.upf k_th0 x328 f328 q0 w1 (by decide +kernel)
    show et_go _ _ 1000 331 [some (.ref 150), some (.ref th), some (.ref am), some (.ref out), some (.int (Int32.ofNat i)), x5, x6] [.int (Int32.ofNat 1)] _ (ck + c328) (sk + s328) _
    refine ls_istore (i := 5) (p := 333) (by decide +kernel) (Nat.le_of_ble_eq_true rfl) ?_
    refine ls_aload (i := 2) (p := 334) (by decide +kernel) rfl ?_
    refine lt_callv (T := et_TT) (t := 13) (mi := 206) (na := 0) (ci := 11) (lk := 7) (lm := 1) (L0 := eg_en (eg_mL 206) [.ref am]) (by decide +kernel) rfl hH k_am rfl rfl rfl rfl rfl (by rw [show eg_mL 206 = 1 from by decide +kernel]; first | done | rfl) ?_
    have hH1 := hH
    have k_am1 := k_am
    have hrm0 := hrm
    have htM0 := htM
    refine ((hc_turnerT (w := (K328, [], G328)) hH k_am (by omega)).and (fm_turner hH k_am htM.2.1 htM.1 hm hc htM.2.2 htb hrm.1.1 hrm.2.1.1 (hrm.2.2 (7, 1) (by decide)).1 b1 (by omega))).mono (fun u hu => ls_cbvQ2 ⟨hu.1.1, (show pmu am 0 u from hu.1.2)⟩ hu.2 (fun v334 K334 G334 c334 s334 x334 f334 hH hv334 cl334 sl334 hP hQ => ?_))
    obtain ⟨_, _, eu, hxf, hQ⟩ := hQ
    cases eu
    have hyw := hyw.fr k_th hrc.1.1 hrc.1.2.1 hrm.1.1 hrm.1.2 x334 f334 (by decide +kernel)
    have hci := hci.fr x334 f334 (by decide +kernel)
    have h3 := (f334.2 th 12 k_th 3 rfl).trans h3
    have hl := (f334.2 rd 7 k_rd 1 rfl).trans hl
    have hm := hP
    have hp := (f334.2 th 12 k_th 2 rfl).trans hp
    have hg := (f334.2 am 13 k_am 3 rfl).trans hg
    have htC := htC.fr k_rd x334 f334 (by decide +kernel)
    have htM := (htM.fr k_am x334 f334 (by decide +kernel)).le (Nat.zero_le _)
    have hrc := hrc.fr k_th x334 f334 (by decide +kernel)
    have k_th := x334 _ _ k_th
    have k_am := x334 _ _ k_am
    have k_out := x334 _ _ k_out
    have k_rd := x334 _ _ k_rd
    rcases hQ with ⟨sq2, ev2, ht, z0⟩ | ⟨r4, sq2, ev2, ht, z0⟩ | ⟨f2, sq2, r4, ev2, ht, z0, -⟩
    · cases ev2
      have hrm := hrm0.up hH1 k_am1 x334 hxf (fun a j t ha hs => by rcases hs with ⟨ea, ej⟩ | ⟨ea, ej⟩ <;> rw [ea] at ha <;> first | (rw [k_am1] at ha; cases ha; exact ⟨fun _ => by omega, fun h => absurd h (by decide), by decide⟩) | (rw [hrm0.1.1] at ha; cases ha; exact ⟨fun h => absurd h (by decide), fun _ => by omega, by decide⟩)) z0 (by decide)
      have hbc := rc_upb (k := 1) (v := cn 1) hbc (by omega)
      show et_go _ _ 1000 337 [some (.ref 150), some (.ref th), some (.ref am), some (.ref out), some (.int (Int32.ofNat i)), some (.int (Int32.ofNat 1)), x6] [.int (Int32.ofNat 0)] _ (ck + c328) (sk + s328) _
      refine ls_istore (i := 6) (p := 339) (by decide +kernel) (Nat.le_of_ble_eq_true rfl) ?_
      refine ls_goto (p := 1656) (by decide +kernel) ?_
      exact hN _ _ 0 h _ _ _ _ _ _ ⟨⟨hH, hci, k_th, k_am, k_out, h3, k_rd, hl, hm, (by decide)⟩, ⟨hh1, hp, hg⟩, hrc, hrm, hbc, hbi, hyw, _, htC, htM, fun i hi => absurd hi (Nat.not_lt_zero i)⟩ (by omega) (by omega)
    · exact absurd sq sq2
    · (rw [sq] at sq2; cases sq2)
  · cases ev
    have hrc := hrc0.upf k_th0 x328 f328 q0 w1 (by decide +kernel)
    show et_go _ _ 1000 331 [some (.ref 150), some (.ref th), some (.ref am), some (.ref out), some (.int (Int32.ofNat i)), x5, x6] [.int (Int32.ofNat 2)] _ (ck + c328) (sk + s328) _
    refine ls_istore (i := 5) (p := 333) (by decide +kernel) (Nat.le_of_ble_eq_true rfl) ?_
    refine ls_aload (i := 2) (p := 334) (by decide +kernel) rfl ?_
    refine lt_callv (T := et_TT) (t := 13) (mi := 206) (na := 0) (ci := 11) (lk := 7) (lm := 1) (L0 := eg_en (eg_mL 206) [.ref am]) (by decide +kernel) rfl hH k_am rfl rfl rfl rfl rfl (by rw [show eg_mL 206 = 1 from by decide +kernel]; first | done | rfl) ?_
    have hH1 := hH
    have k_am1 := k_am
    have hrm0 := hrm
    have htM0 := htM
    refine ((hc_turnerT (w := (K328, [], G328)) hH k_am (by omega)).and (fm_turner hH k_am htM.2.1 htM.1 hm hc htM.2.2 htb hrm.1.1 hrm.2.1.1 (hrm.2.2 (7, 1) (by decide)).1 b1 (by omega))).mono (fun u hu => ls_cbvQ2 ⟨hu.1.1, (show pmu am 0 u from hu.1.2)⟩ hu.2 (fun v334 K334 G334 c334 s334 x334 f334 hH hv334 cl334 sl334 hP hQ => ?_))
    obtain ⟨_, _, eu, hxf, hQ⟩ := hQ
    cases eu
    have hyw := hyw.fr k_th hrc.1.1 hrc.1.2.1 hrm.1.1 hrm.1.2 x334 f334 (by decide +kernel)
    have hci := hci.fr x334 f334 (by decide +kernel)
    have h3 := (f334.2 th 12 k_th 3 rfl).trans h3
    have hl := (f334.2 rd 7 k_rd 1 rfl).trans hl
    have hm := hP
    have hp := (f334.2 th 12 k_th 2 rfl).trans hp
    have hg := (f334.2 am 13 k_am 3 rfl).trans hg
    have htC := htC.fr k_rd x334 f334 (by decide +kernel)
    have htM := (htM.fr k_am x334 f334 (by decide +kernel)).le (Nat.zero_le _)
    have hrc := hrc.fr k_th x334 f334 (by decide +kernel)
    have k_th := x334 _ _ k_th
    have k_am := x334 _ _ k_am
    have k_out := x334 _ _ k_out
    have k_rd := x334 _ _ k_rd
    rcases hQ with ⟨sq2, ev2, ht, z0⟩ | ⟨r4, sq2, ev2, ht, z0⟩ | ⟨f2, sq2, r4, ev2, ht, z0, -⟩
    · exact absurd sq2 sq
    · cases ev2
      have hrm := hrm0.up hH1 k_am1 x334 hxf (fun a j t ha hs => by rcases hs with ⟨ea, ej⟩ | ⟨ea, ej⟩ <;> rw [ea] at ha <;> first | (rw [k_am1] at ha; cases ha; exact ⟨fun _ => by omega, fun h => absurd h (by decide), by decide⟩) | (rw [hrm0.1.1] at ha; cases ha; exact ⟨fun h => absurd h (by decide), fun _ => by omega, by decide⟩)) z0 (by decide)
      have hbc := rc_upb (k := 1) (v := cn 1) hbc (by omega)
      show et_go _ _ 1000 337 [some (.ref 150), some (.ref th), some (.ref am), some (.ref out), some (.int (Int32.ofNat i)), some (.int (Int32.ofNat 2)), x6] [.int (Int32.ofNat 0)] _ (ck + c328) (sk + s328) _
      refine ls_istore (i := 6) (p := 339) (by decide +kernel) (Nat.le_of_ble_eq_true rfl) ?_
      refine ls_goto (p := 1656) (by decide +kernel) ?_
      exact hN _ _ 0 h _ _ _ _ _ _ ⟨⟨hH, hci, k_th, k_am, k_out, h3, k_rd, hl, hm, (by decide)⟩, ⟨hh1, hp, hg⟩, hrc, hrm, hbc, hbi, hyw, _, htC, htM, fun i hi => absurd hi (Nat.not_lt_zero i)⟩ (by omega) (by omega)
    · exact absurd c4 (by omega)
  · cases ev
    have hrc := hrc0.upf k_th0 x328 f328 q0 w1 (by decide +kernel)
    show et_go _ _ 1000 331 [some (.ref 150), some (.ref th), some (.ref am), some (.ref out), some (.int (Int32.ofNat i)), x5, x6] [.int (Int32.ofNat 0)] _ (ck + c328) (sk + s328) _
    refine ls_istore (i := 5) (p := 333) (by decide +kernel) (Nat.le_of_ble_eq_true rfl) ?_
    refine ls_aload (i := 2) (p := 334) (by decide +kernel) rfl ?_
    refine lt_callv (T := et_TT) (t := 13) (mi := 206) (na := 0) (ci := 11) (lk := 7) (lm := 1) (L0 := eg_en (eg_mL 206) [.ref am]) (by decide +kernel) rfl hH k_am rfl rfl rfl rfl rfl (by rw [show eg_mL 206 = 1 from by decide +kernel]; first | done | rfl) ?_
    have hH1 := hH
    have k_am1 := k_am
    have hrm0 := hrm
    have htM0 := htM
    refine ((hc_turnerT (w := (K328, [], G328)) hH k_am (by omega)).and (fm_turner hH k_am htM.2.1 htM.1 hm hc htM.2.2 htb hrm.1.1 hrm.2.1.1 (hrm.2.2 (7, 1) (by decide)).1 b1 (by omega))).mono (fun u hu => ls_cbvQ2 ⟨hu.1.1, (show pmu am 0 u from hu.1.2)⟩ hu.2 (fun v334 K334 G334 c334 s334 x334 f334 hH hv334 cl334 sl334 hP hQ => ?_))
    obtain ⟨_, _, eu, hxf, hQ⟩ := hQ
    cases eu
    have hyw := hyw.fr k_th hrc.1.1 hrc.1.2.1 hrm.1.1 hrm.1.2 x334 f334 (by decide +kernel)
    have hci := hci.fr x334 f334 (by decide +kernel)
    have h3 := (f334.2 th 12 k_th 3 rfl).trans h3
    have hl := (f334.2 rd 7 k_rd 1 rfl).trans hl
    have hm := hP
    have hp := (f334.2 th 12 k_th 2 rfl).trans hp
    have hg := (f334.2 am 13 k_am 3 rfl).trans hg
    have htC := htC.fr k_rd x334 f334 (by decide +kernel)
    have htM := (htM.fr k_am x334 f334 (by decide +kernel)).le (Nat.zero_le _)
    have hrc := hrc.fr k_th x334 f334 (by decide +kernel)
    have ho := (f334.2 out 31 k_out 0 rfl).trans ho
    have k_th := x334 _ _ k_th
    have k_am := x334 _ _ k_am
    have k_out := x334 _ _ k_out
    have k_rd := x334 _ _ k_rd
    rcases hQ with ⟨sq2, ev2, ht, z0⟩ | ⟨r4, sq2, ev2, ht, z0⟩ | ⟨f2, sq2, r4, ev2, ht, z0, -⟩
    · (rw [sq2] at sq; cases sq)
    · exact absurd c4 (by omega)
    · cases ev2
      have hrm := hrm0.up hH1 k_am1 x334 hxf (fun a j t ha hs => by rcases hs with ⟨ea, ej⟩ | ⟨ea, ej⟩ <;> rw [ea] at ha <;> first | (rw [k_am1] at ha; cases ha; exact ⟨fun _ => by omega, fun h => absurd h (by decide), by decide⟩) | (rw [hrm0.1.1] at ha; cases ha; exact ⟨fun h => absurd h (by decide), fun _ => by omega, by decide⟩)) z0 (by decide)
      have hbc := rc_upb (k := 1) (v := cn 1 + 1) hbc (by omega)
      show et_go _ _ 1000 337 [some (.ref 150), some (.ref th), some (.ref am), some (.ref out), some (.int (Int32.ofNat i)), some (.int (Int32.ofNat 0)), x6] [.int (Int32.ofNat (cn 1))] _ (ck + c328) (sk + s328) _
      refine ls_istore (i := 6) (p := 339) (by decide +kernel) (Nat.le_of_ble_eq_true rfl) ?_
      refine ls_goto (p := 1656) (by decide +kernel) ?_
      exact hN _ _ 0 h _ _ _ _ _ _ ⟨⟨hH, hci, k_th, k_am, k_out, h3, k_rd, hl, hm, (by decide)⟩, ⟨hh1, hp, hg⟩, hrc, hrm, hbc, hbi, hyw, _, htC, htM, fun i hi => absurd hi (Nat.not_lt_zero i)⟩ (by omega) (by omega)
set_option maxHeartbeats 2000000 in
theorem lw_c4 (hI : lw_I K G th am out rd s0 s1 aw ai tp ba na tm c h cn im) (hi : i + 6 ≤ n) (hn : n ≤ 3072) (hN : ∀ (K' : et_K) (G' : eg_G) (c' h' : Nat) (cn' im' : Nat → Nat) (ck' sk' : Nat) (y5 y6 : Option Value), lw_I K' G' th am out rd s0 s1 aw ai tp ba na tm c' h' cn' im' → ck' ≤ ck + 841 → sk' ≤ sk + 7168 → et_go (some (n, f)) (d + 41) 1000 1656 [some (.ref 150), some (.ref th), some (.ref am), some (.ref out), some (.int (Int32.ofNat i)), y5, y6] [] G' ck' sk' Z) : et_go (some (n, f)) (d + 41) 1000 342 [some (.ref 150), some (.ref th), some (.ref am), some (.ref out), some (.int (Int32.ofNat i)), x5, x6] [] G ck sk Z := by
  obtain ⟨⟨hH, hci, k_th, k_am, k_out, h3, k_rd, hl, hm, hc⟩, ⟨hh1, hp, hg⟩, hrc, hrm, hbc, hbi, hyw, tb, htC, htM, htb⟩ := hI
  refine ls_aload (i := 1) (p := 343) (by decide +kernel) rfl ?_
  refine ls_arg (j := 1) (by decide +kernel) (by omega) hn ?_
  refine ls_arg (j := 2) (by decide +kernel) (by omega) hn ?_
  refine ls_aload (i := 3) (p := 356) (by decide +kernel) rfl ?_
  refine ls_calls (mi := 2) (na := 4) (lk := 7) (lm := 5) (L0 := eg_en (eg_mL 2) [.ref th, .int (f (i + 1)), .int (f (i + 2)), .ref out]) (by decide +kernel) rfl rfl rfl rfl rfl rfl (by rw [show eg_mL 2 = 5 from by decide +kernel]; first | done | rfl) ?_
  obtain ⟨t0, t1, ra0, ca0, rc0, ec0, cc0, ra1, ca1, rc1, ec1, cc1, hC⟩ := id hci
  obtain rfl : s0 = t0 := Value.ref.inj (Option.some.inj (hrc.2.1.1.symm.trans hC.2.1.1))
  obtain rfl : s1 = t1 := Value.ref.inj (Option.some.inj (hrc.2.1.2.symm.trans hC.2.1.2))
  have ee0 : ec0 = cn 4 := xi_inj (by have := hC.2.2.2.1.2.2.2.1.2.1; omega) (by have := hbc 4; omega) (hC.2.2.2.1.2.2.1.2.1.symm.trans (hrc.2.2 (5, 4) (by decide)).1)
  have ee1 : ec1 = im 4 := xi_inj (by have := hC.2.2.2.2.2.2.2.1.2.1; omega) (by have := hbi 4; omega) (hC.2.2.2.2.2.2.1.2.1.symm.trans (hrc.2.2 (5, 4) (by decide)).2)
  have er0 : rc0 = cn 0 := xi_inj (by have := hC.2.2.2.1.2.2.2.1.1; omega) (by have := hbc 0; omega) (hC.2.2.2.1.2.2.1.1.symm.trans (hrc.2.2 (0, 0) (by decide)).1)
  have b0 : cn 0 ≤ 4 := Int.ofNat_le.mp (hf_bd (t := 10) hH hrc.1.1 rfl rfl (hrc.2.2 (0, 0) (by decide)).1 (hbc 0))
  have b2 : cn 2 ≤ 6 := Int.ofNat_le.mp (hf_bd (t := 10) hH hrc.1.1 rfl rfl (hrc.2.2 (9, 2) (by decide)).1 (hbc 2))
  have b4 : cn 4 ≤ 3 := Int.ofNat_le.mp (hf_bd (t := 10) hH hrc.1.1 rfl rfl (hrc.2.2 (5, 4) (by decide)).1 (hbc 4))
  have hH0 := hH
  have k_th0 := k_th
  have k_out0 := k_out
  have k_rd0 := k_rd
  have k_am0 := k_am
  have hrc0 := hrc
  have hrm0 := hrm
  obtain ⟨ta, r4, k_ta⟩ := hf_ref (t := 7) (f := 4) (u := 41) hH k_rd rfl rfl (.inr trivial)
  obtain ⟨ea, g6, k_ea⟩ := hf_ref (t := 10) (f := 6) (u := 40) hH hrc.1.1 rfl rfl (.inr trivial)
  have htC0 := htC
  have k_ra := hC.2.2.2.1.1.2.2
  have hru : ∀ i, i < cn 0 → ∃ q, et_pl (eg_at G ra0) i = some (.ref q) := fun i hi => hC.2.2.2.1.2.2.2.2.1 i (by rw [er0]; exact hi)
  refine ((hh_i2 hH hci k_th k_out h3 k_rd (by omega)).and (fh_claim hH k_rd htC.2.1.1 htC.1.1 hl hc htC.2.2 htb k_ta htC.1.2.1 htC.1.2.2 htC.2.1.2.2.2 r4 htC.2.1.2.1 htC.2.1.2.2.1 k_th h3 hrc.2.1.1 hrc.1.1 (hrc.2.2 (0, 0) (by decide)).1 b0 hC.2.2.2.1.2.1.1 hC.2.2.2.1.1.2.1 hru (hrc.2.2 (5, 4) (by decide)).1 b4 g6 k_ea (hrc.2.2 (9, 2) (by decide)).1 b2 hC.2.2.2.1.2.1.2 k_ra k_out (by omega))).mono (fun u hu => ls_cbrQ hu (fun v356 K356 G356 c356 s356 x356 f356 hH hci hP cl356 sl356 hQ => ?_))
  obtain ⟨_, _, _, _, _, eu, -, -, hxf, hQ⟩ := hQ
  cases eu
  have hyw := hyw.fr k_th hrc.1.1 hrc.1.2.1 hrm.1.1 hrm.1.2 x356 f356 (by decide +kernel)
  have h3 := (f356.2 th 12 k_th 3 rfl).trans h3
  have hl := hP
  have hm := (f356.2 am 13 k_am 5 rfl).trans hm
  have hp := (f356.2 th 12 k_th 2 rfl).trans hp
  have hg := (f356.2 am 13 k_am 3 rfl).trans hg
  have htC := (htC.fr k_rd x356 f356 (by decide +kernel)).le (Nat.zero_le _)
  have htM := htM.fr k_am x356 f356 (by decide +kernel)
  have hrm := hrm.fr k_am x356 f356 (by decide +kernel)
  have k_th := x356 _ _ k_th
  have k_am := x356 _ _ k_am
  have k_out := x356 _ _ k_out
  have k_rd := x356 _ _ k_rd
  have k_z := hrc0.1.2.1
  have w1 : et_pl (eg_at G356 s1) 9 = some (.int (Int32.ofNat (im 2))) := (hxf.2 s1 9 (hH0.2.2 _ _ hrc0.1.2.1).1 (fun h => by rcases h with h | h | h | h | h | h | h <;> first | exact hrc0.1.2.2 h.1.symm | (have h := h.1; rw [h] at k_z; first | (rw [k_rd0] at k_z; cases k_z) | (rw [k_ta] at k_z; cases k_z) | (rw [htC0.1.2.1] at k_z; cases k_z) | (rw [htC0.1.2.2] at k_z; cases k_z) | (rw [k_ra] at k_z; cases k_z) | (rw [k_out0] at k_z; cases k_z)))).trans (hrc0.2.2 (9, 2) (by decide)).2
  rcases hQ with ⟨cx, ev, q0⟩ | ⟨cx, sq, ev, q0⟩ | ⟨cx, c4, sq, ev, q0⟩ | ⟨cx, c4, ev, ho, q0, f_, N_, q_, bb_, sq, -⟩
  · cases ev
    have hrc := hrc0.upf k_th0 x356 f356 q0 w1 (by decide +kernel)
    show et_go _ _ 1000 359 [some (.ref 150), some (.ref th), some (.ref am), some (.ref out), some (.int (Int32.ofNat i)), x5, x6] [.int (Int32.ofNat 1)] _ (ck + c356) (sk + s356) _
    refine ls_istore (i := 5) (p := 361) (by decide +kernel) (Nat.le_of_ble_eq_true rfl) ?_
    refine ls_aload (i := 2) (p := 362) (by decide +kernel) rfl ?_
    refine ls_arg (j := 1) (by decide +kernel) (by omega) hn ?_
    refine ls_arg (j := 2) (by decide +kernel) (by omega) hn ?_
    refine lt_callv (T := et_TT) (t := 13) (mi := 207) (na := 2) (ci := 11) (lk := 7) (lm := 4) (L0 := eg_en (eg_mL 207) [.ref am, .int (f (i + 1)), .int (f (i + 2))]) (by decide +kernel) rfl hH k_am rfl rfl rfl rfl rfl (by rw [show eg_mL 207 = 4 from by decide +kernel]; first | done | rfl) ?_
    have hH1 := hH
    have k_am1 := k_am
    have hrm0 := hrm
    have htM0 := htM
    refine ((hc_claimT (w := (K356, [], G356)) hH k_am (by omega)).and (fm_claim hH k_am htM.2.1 htM.1 hm hc htM.2.2 htb hrm.1.1 hrm.2.1.1 (hrm.2.2 (9, 2) (by decide)).1 b2 (hrm.2.2 (0, 0) (by decide)).1 b0 (hrm.2.2 (5, 4) (by decide)).1 b4 (by omega))).mono (fun u hu => ls_cbvQ2 ⟨hu.1.1, (show pmu am 0 u from hu.1.2)⟩ hu.2 (fun v374 K374 G374 c374 s374 x374 f374 hH hv374 cl374 sl374 hP hQ => ?_))
    obtain ⟨_, _, eu, hxf, hQ⟩ := hQ
    cases eu
    have hyw := hyw.fr k_th hrc.1.1 hrc.1.2.1 hrm.1.1 hrm.1.2 x374 f374 (by decide +kernel)
    have hci := hci.fr x374 f374 (by decide +kernel)
    have h3 := (f374.2 th 12 k_th 3 rfl).trans h3
    have hl := (f374.2 rd 7 k_rd 1 rfl).trans hl
    have hm := hP
    have hp := (f374.2 th 12 k_th 2 rfl).trans hp
    have hg := (f374.2 am 13 k_am 3 rfl).trans hg
    have htC := htC.fr k_rd x374 f374 (by decide +kernel)
    have htM := (htM.fr k_am x374 f374 (by decide +kernel)).le (Nat.zero_le _)
    have hrc := hrc.fr k_th x374 f374 (by decide +kernel)
    have k_th := x374 _ _ k_th
    have k_am := x374 _ _ k_am
    have k_out := x374 _ _ k_out
    have k_rd := x374 _ _ k_rd
    rcases hQ with ⟨cx2, ev2, ht, z0⟩ | ⟨cx2, sq2, ev2, ht, z0⟩ | ⟨cx2, r4, sq2, ev2, ht, z0⟩ | ⟨cx2, f2, sq2, r4, ev2, ht, z0, -⟩
    · cases ev2
      have hrm := hrm0.up hH1 k_am1 x374 hxf (fun a j t ha hs => by rcases hs with ⟨ea, ej⟩ | ⟨ea, ej⟩ <;> rw [ea] at ha <;> first | (rw [k_am1] at ha; cases ha; exact ⟨fun _ => by omega, fun h => absurd h (by decide), by decide⟩) | (rw [hrm0.1.1] at ha; cases ha; exact ⟨fun h => absurd h (by decide), fun _ => by omega, by decide⟩)) z0 (by decide)
      have hbc := rc_upb (k := 2) (v := cn 2) hbc (by omega)
      show et_go _ _ 1000 377 [some (.ref 150), some (.ref th), some (.ref am), some (.ref out), some (.int (Int32.ofNat i)), some (.int (Int32.ofNat 1)), x6] [.int (Int32.ofNat 0)] _ (ck + c356) (sk + s356) _
      refine ls_istore (i := 6) (p := 379) (by decide +kernel) (Nat.le_of_ble_eq_true rfl) ?_
      refine ls_goto (p := 1656) (by decide +kernel) ?_
      exact hN _ _ 0 h _ _ _ _ _ _ ⟨⟨hH, hci, k_th, k_am, k_out, h3, k_rd, hl, hm, (by decide)⟩, ⟨hh1, hp, hg⟩, hrc, hrm, hbc, hbi, hyw, _, htC, htM, fun i hi => absurd hi (Nat.not_lt_zero i)⟩ (by omega) (by omega)
    · exact absurd cx2 cx
    · exact absurd cx2 cx
    · exact absurd cx2 cx
  · cases ev
    have hrc := hrc0.upf k_th0 x356 f356 q0 w1 (by decide +kernel)
    show et_go _ _ 1000 359 [some (.ref 150), some (.ref th), some (.ref am), some (.ref out), some (.int (Int32.ofNat i)), x5, x6] [.int (Int32.ofNat 2)] _ (ck + c356) (sk + s356) _
    refine ls_istore (i := 5) (p := 361) (by decide +kernel) (Nat.le_of_ble_eq_true rfl) ?_
    refine ls_aload (i := 2) (p := 362) (by decide +kernel) rfl ?_
    refine ls_arg (j := 1) (by decide +kernel) (by omega) hn ?_
    refine ls_arg (j := 2) (by decide +kernel) (by omega) hn ?_
    refine lt_callv (T := et_TT) (t := 13) (mi := 207) (na := 2) (ci := 11) (lk := 7) (lm := 4) (L0 := eg_en (eg_mL 207) [.ref am, .int (f (i + 1)), .int (f (i + 2))]) (by decide +kernel) rfl hH k_am rfl rfl rfl rfl rfl (by rw [show eg_mL 207 = 4 from by decide +kernel]; first | done | rfl) ?_
    have hH1 := hH
    have k_am1 := k_am
    have hrm0 := hrm
    have htM0 := htM
    refine ((hc_claimT (w := (K356, [], G356)) hH k_am (by omega)).and (fm_claim hH k_am htM.2.1 htM.1 hm hc htM.2.2 htb hrm.1.1 hrm.2.1.1 (hrm.2.2 (9, 2) (by decide)).1 b2 (hrm.2.2 (0, 0) (by decide)).1 b0 (hrm.2.2 (5, 4) (by decide)).1 b4 (by omega))).mono (fun u hu => ls_cbvQ2 ⟨hu.1.1, (show pmu am 0 u from hu.1.2)⟩ hu.2 (fun v374 K374 G374 c374 s374 x374 f374 hH hv374 cl374 sl374 hP hQ => ?_))
    obtain ⟨_, _, eu, hxf, hQ⟩ := hQ
    cases eu
    have hyw := hyw.fr k_th hrc.1.1 hrc.1.2.1 hrm.1.1 hrm.1.2 x374 f374 (by decide +kernel)
    have hci := hci.fr x374 f374 (by decide +kernel)
    have h3 := (f374.2 th 12 k_th 3 rfl).trans h3
    have hl := (f374.2 rd 7 k_rd 1 rfl).trans hl
    have hm := hP
    have hp := (f374.2 th 12 k_th 2 rfl).trans hp
    have hg := (f374.2 am 13 k_am 3 rfl).trans hg
    have htC := htC.fr k_rd x374 f374 (by decide +kernel)
    have htM := (htM.fr k_am x374 f374 (by decide +kernel)).le (Nat.zero_le _)
    have hrc := hrc.fr k_th x374 f374 (by decide +kernel)
    have k_th := x374 _ _ k_th
    have k_am := x374 _ _ k_am
    have k_out := x374 _ _ k_out
    have k_rd := x374 _ _ k_rd
    rcases hQ with ⟨cx2, ev2, ht, z0⟩ | ⟨cx2, sq2, ev2, ht, z0⟩ | ⟨cx2, r4, sq2, ev2, ht, z0⟩ | ⟨cx2, f2, sq2, r4, ev2, ht, z0, -⟩
    · exact absurd cx cx2
    · cases ev2
      have hrm := hrm0.up hH1 k_am1 x374 hxf (fun a j t ha hs => by rcases hs with ⟨ea, ej⟩ | ⟨ea, ej⟩ <;> rw [ea] at ha <;> first | (rw [k_am1] at ha; cases ha; exact ⟨fun _ => by omega, fun h => absurd h (by decide), by decide⟩) | (rw [hrm0.1.1] at ha; cases ha; exact ⟨fun h => absurd h (by decide), fun _ => by omega, by decide⟩)) z0 (by decide)
      have hbc := rc_upb (k := 2) (v := cn 2) hbc (by omega)
      show et_go _ _ 1000 377 [some (.ref 150), some (.ref th), some (.ref am), some (.ref out), some (.int (Int32.ofNat i)), some (.int (Int32.ofNat 2)), x6] [.int (Int32.ofNat 0)] _ (ck + c356) (sk + s356) _
      refine ls_istore (i := 6) (p := 379) (by decide +kernel) (Nat.le_of_ble_eq_true rfl) ?_
      refine ls_goto (p := 1656) (by decide +kernel) ?_
      exact hN _ _ 0 h _ _ _ _ _ _ ⟨⟨hH, hci, k_th, k_am, k_out, h3, k_rd, hl, hm, (by decide)⟩, ⟨hh1, hp, hg⟩, hrc, hrm, hbc, hbi, hyw, _, htC, htM, fun i hi => absurd hi (Nat.not_lt_zero i)⟩ (by omega) (by omega)
    · exact absurd sq sq2
    · (rw [sq] at sq2; cases sq2)
  · cases ev
    have hrc := hrc0.upf k_th0 x356 f356 q0 w1 (by decide +kernel)
    show et_go _ _ 1000 359 [some (.ref 150), some (.ref th), some (.ref am), some (.ref out), some (.int (Int32.ofNat i)), x5, x6] [.int (Int32.ofNat 3)] _ (ck + c356) (sk + s356) _
    refine ls_istore (i := 5) (p := 361) (by decide +kernel) (Nat.le_of_ble_eq_true rfl) ?_
    refine ls_aload (i := 2) (p := 362) (by decide +kernel) rfl ?_
    refine ls_arg (j := 1) (by decide +kernel) (by omega) hn ?_
    refine ls_arg (j := 2) (by decide +kernel) (by omega) hn ?_
    refine lt_callv (T := et_TT) (t := 13) (mi := 207) (na := 2) (ci := 11) (lk := 7) (lm := 4) (L0 := eg_en (eg_mL 207) [.ref am, .int (f (i + 1)), .int (f (i + 2))]) (by decide +kernel) rfl hH k_am rfl rfl rfl rfl rfl (by rw [show eg_mL 207 = 4 from by decide +kernel]; first | done | rfl) ?_
    have hH1 := hH
    have k_am1 := k_am
    have hrm0 := hrm
    have htM0 := htM
    refine ((hc_claimT (w := (K356, [], G356)) hH k_am (by omega)).and (fm_claim hH k_am htM.2.1 htM.1 hm hc htM.2.2 htb hrm.1.1 hrm.2.1.1 (hrm.2.2 (9, 2) (by decide)).1 b2 (hrm.2.2 (0, 0) (by decide)).1 b0 (hrm.2.2 (5, 4) (by decide)).1 b4 (by omega))).mono (fun u hu => ls_cbvQ2 ⟨hu.1.1, (show pmu am 0 u from hu.1.2)⟩ hu.2 (fun v374 K374 G374 c374 s374 x374 f374 hH hv374 cl374 sl374 hP hQ => ?_))
    obtain ⟨_, _, eu, hxf, hQ⟩ := hQ
    cases eu
    have hyw := hyw.fr k_th hrc.1.1 hrc.1.2.1 hrm.1.1 hrm.1.2 x374 f374 (by decide +kernel)
    have hci := hci.fr x374 f374 (by decide +kernel)
    have h3 := (f374.2 th 12 k_th 3 rfl).trans h3
    have hl := (f374.2 rd 7 k_rd 1 rfl).trans hl
    have hm := hP
    have hp := (f374.2 th 12 k_th 2 rfl).trans hp
    have hg := (f374.2 am 13 k_am 3 rfl).trans hg
    have htC := htC.fr k_rd x374 f374 (by decide +kernel)
    have htM := (htM.fr k_am x374 f374 (by decide +kernel)).le (Nat.zero_le _)
    have hrc := hrc.fr k_th x374 f374 (by decide +kernel)
    have k_th := x374 _ _ k_th
    have k_am := x374 _ _ k_am
    have k_out := x374 _ _ k_out
    have k_rd := x374 _ _ k_rd
    rcases hQ with ⟨cx2, ev2, ht, z0⟩ | ⟨cx2, sq2, ev2, ht, z0⟩ | ⟨cx2, r4, sq2, ev2, ht, z0⟩ | ⟨cx2, f2, sq2, r4, ev2, ht, z0, -⟩
    · exact absurd cx cx2
    · exact absurd sq2 sq
    · cases ev2
      have hrm := hrm0.up hH1 k_am1 x374 hxf (fun a j t ha hs => by rcases hs with ⟨ea, ej⟩ | ⟨ea, ej⟩ <;> rw [ea] at ha <;> first | (rw [k_am1] at ha; cases ha; exact ⟨fun _ => by omega, fun h => absurd h (by decide), by decide⟩) | (rw [hrm0.1.1] at ha; cases ha; exact ⟨fun h => absurd h (by decide), fun _ => by omega, by decide⟩)) z0 (by decide)
      have hbc := rc_upb (k := 2) (v := cn 2) hbc (by omega)
      show et_go _ _ 1000 377 [some (.ref 150), some (.ref th), some (.ref am), some (.ref out), some (.int (Int32.ofNat i)), some (.int (Int32.ofNat 3)), x6] [.int (Int32.ofNat 0)] _ (ck + c356) (sk + s356) _
      refine ls_istore (i := 6) (p := 379) (by decide +kernel) (Nat.le_of_ble_eq_true rfl) ?_
      refine ls_goto (p := 1656) (by decide +kernel) ?_
      exact hN _ _ 0 h _ _ _ _ _ _ ⟨⟨hH, hci, k_th, k_am, k_out, h3, k_rd, hl, hm, (by decide)⟩, ⟨hh1, hp, hg⟩, hrc, hrm, hbc, hbi, hyw, _, htC, htM, fun i hi => absurd hi (Nat.not_lt_zero i)⟩ (by omega) (by omega)
    · exact absurd c4 (by omega)
  · cases ev
    have hrc := hrc0.upf k_th0 x356 f356 q0 w1 (by decide +kernel)
    show et_go _ _ 1000 359 [some (.ref 150), some (.ref th), some (.ref am), some (.ref out), some (.int (Int32.ofNat i)), x5, x6] [.int (Int32.ofNat 0)] _ (ck + c356) (sk + s356) _
    refine ls_istore (i := 5) (p := 361) (by decide +kernel) (Nat.le_of_ble_eq_true rfl) ?_
    refine ls_aload (i := 2) (p := 362) (by decide +kernel) rfl ?_
    refine ls_arg (j := 1) (by decide +kernel) (by omega) hn ?_
    refine ls_arg (j := 2) (by decide +kernel) (by omega) hn ?_
    refine lt_callv (T := et_TT) (t := 13) (mi := 207) (na := 2) (ci := 11) (lk := 7) (lm := 4) (L0 := eg_en (eg_mL 207) [.ref am, .int (f (i + 1)), .int (f (i + 2))]) (by decide +kernel) rfl hH k_am rfl rfl rfl rfl rfl (by rw [show eg_mL 207 = 4 from by decide +kernel]; first | done | rfl) ?_
    have hH1 := hH
    have k_am1 := k_am
    have hrm0 := hrm
    have htM0 := htM
    refine ((hc_claimT (w := (K356, [], G356)) hH k_am (by omega)).and (fm_claim hH k_am htM.2.1 htM.1 hm hc htM.2.2 htb hrm.1.1 hrm.2.1.1 (hrm.2.2 (9, 2) (by decide)).1 b2 (hrm.2.2 (0, 0) (by decide)).1 b0 (hrm.2.2 (5, 4) (by decide)).1 b4 (by omega))).mono (fun u hu => ls_cbvQ2 ⟨hu.1.1, (show pmu am 0 u from hu.1.2)⟩ hu.2 (fun v374 K374 G374 c374 s374 x374 f374 hH hv374 cl374 sl374 hP hQ => ?_))
    obtain ⟨_, _, eu, hxf, hQ⟩ := hQ
    cases eu
    have hyw := hyw.fr k_th hrc.1.1 hrc.1.2.1 hrm.1.1 hrm.1.2 x374 f374 (by decide +kernel)
    have hci := hci.fr x374 f374 (by decide +kernel)
    have h3 := (f374.2 th 12 k_th 3 rfl).trans h3
    have hl := (f374.2 rd 7 k_rd 1 rfl).trans hl
    have hm := hP
    have hp := (f374.2 th 12 k_th 2 rfl).trans hp
    have hg := (f374.2 am 13 k_am 3 rfl).trans hg
    have htC := htC.fr k_rd x374 f374 (by decide +kernel)
    have htM := (htM.fr k_am x374 f374 (by decide +kernel)).le (Nat.zero_le _)
    have hrc := hrc.fr k_th x374 f374 (by decide +kernel)
    have ho := (f374.2 out 31 k_out 0 rfl).trans ho
    have k_th := x374 _ _ k_th
    have k_am := x374 _ _ k_am
    have k_out := x374 _ _ k_out
    have k_rd := x374 _ _ k_rd
    rcases hQ with ⟨cx2, ev2, ht, z0⟩ | ⟨cx2, sq2, ev2, ht, z0⟩ | ⟨cx2, r4, sq2, ev2, ht, z0⟩ | ⟨cx2, f2, sq2, r4, ev2, ht, z0, -⟩
    · exact absurd cx cx2
    · (rw [sq2] at sq; cases sq)
    · exact absurd c4 (by omega)
    · cases ev2
      have hrm := hrm0.up hH1 k_am1 x374 hxf (fun a j t ha hs => by rcases hs with ⟨ea, ej⟩ | ⟨ea, ej⟩ <;> rw [ea] at ha <;> first | (rw [k_am1] at ha; cases ha; exact ⟨fun _ => by omega, fun h => absurd h (by decide), by decide⟩) | (rw [hrm0.1.1] at ha; cases ha; exact ⟨fun h => absurd h (by decide), fun _ => by omega, by decide⟩)) z0 (by decide)
      have hbc := rc_upb (k := 2) (v := cn 2 + 1) hbc (by omega)
      show et_go _ _ 1000 377 [some (.ref 150), some (.ref th), some (.ref am), some (.ref out), some (.int (Int32.ofNat i)), some (.int (Int32.ofNat 0)), x6] [.int (Int32.ofNat (cn 2))] _ (ck + c356) (sk + s356) _
      refine ls_istore (i := 6) (p := 379) (by decide +kernel) (Nat.le_of_ble_eq_true rfl) ?_
      refine ls_goto (p := 1656) (by decide +kernel) ?_
      exact hN _ _ 0 h _ _ _ _ _ _ ⟨⟨hH, hci, k_th, k_am, k_out, h3, k_rd, hl, hm, (by decide)⟩, ⟨hh1, hp, hg⟩, hrc, hrm, hbc, hbi, hyw, _, htC, htM, fun i hi => absurd hi (Nat.not_lt_zero i)⟩ (by omega) (by omega)
set_option maxHeartbeats 2000000 in
theorem lw_c5 (hI : lw_I K G th am out rd s0 s1 aw ai tp ba na tm c h cn im) (hi : i + 6 ≤ n) (hn : n ≤ 3072) (hN : ∀ (K' : et_K) (G' : eg_G) (c' h' : Nat) (cn' im' : Nat → Nat) (ck' sk' : Nat) (y5 y6 : Option Value), lw_I K' G' th am out rd s0 s1 aw ai tp ba na tm c' h' cn' im' → ck' ≤ ck + 841 → sk' ≤ sk + 7168 → et_go (some (n, f)) (d + 41) 1000 1656 [some (.ref 150), some (.ref th), some (.ref am), some (.ref out), some (.int (Int32.ofNat i)), y5, y6] [] G' ck' sk' Z) : et_go (some (n, f)) (d + 41) 1000 382 [some (.ref 150), some (.ref th), some (.ref am), some (.ref out), some (.int (Int32.ofNat i)), x5, x6] [] G ck sk Z := by
  obtain ⟨⟨hH, hci, k_th, k_am, k_out, h3, k_rd, hl, hm, hc⟩, ⟨hh1, hp, hg⟩, hrc, hrm, hbc, hbi, hyw, tb, htC, htM, htb⟩ := hI
  refine ls_aload (i := 1) (p := 383) (by decide +kernel) rfl ?_
  refine lt_callv (T := et_TT) (t := 12) (mi := 118) (na := 0) (ci := 10) (lk := 7) (lm := 1) (L0 := eg_en (eg_mL 118) [.ref th]) (by decide +kernel) rfl hH k_th rfl rfl rfl rfl rfl (by rw [show eg_mL 118 = 1 from by decide +kernel]; first | done | rfl) ?_
  refine (ek_p118_ok (K, [], G) [.ref th] _ hH (by omega) rfl (ht_ac (.inr ⟨by decide, _, rfl, k_th⟩) ht_an)).mono (fun u hu => ls_cbv hu (fun v383 K383 G383 c383 s383 x383 f383 hH hv383 cl383 sl383 => ?_))
  have hyw := hyw.fr k_th hrc.1.1 hrc.1.2.1 hrm.1.1 hrm.1.2 x383 f383 (by decide +kernel)
  have hci := hci.fr x383 f383 (by decide +kernel)
  have h3 := (f383.2 th 12 k_th 3 rfl).trans h3
  have hl := (f383.2 rd 7 k_rd 1 rfl).trans hl
  have hm := (f383.2 am 13 k_am 5 rfl).trans hm
  have hp := (f383.2 th 12 k_th 2 rfl).trans hp
  have hg := (f383.2 am 13 k_am 3 rfl).trans hg
  have htC := htC.fr k_rd x383 f383 (by decide +kernel)
  have htM := htM.fr k_am x383 f383 (by decide +kernel)
  have hrc := hrc.fr k_th x383 f383 (by decide +kernel)
  have hrm := hrm.fr k_am x383 f383 (by decide +kernel)
  have k_th := x383 _ _ k_th
  have k_am := x383 _ _ k_am
  have k_out := x383 _ _ k_out
  have k_rd := x383 _ _ k_rd
  obtain ⟨v383, rfl, -⟩ := hv383
  show et_go _ _ 1000 386 [some (.ref 150), some (.ref th), some (.ref am), some (.ref out), some (.int (Int32.ofNat i)), x5, x6] [.int v383] _ (ck + c383) (sk + s383) _
  refine ls_pop (p := 387) (by decide +kernel) ?_
  refine ls_aload (i := 2) (p := 388) (by decide +kernel) rfl ?_
  refine lt_callv (T := et_TT) (t := 13) (mi := 179) (na := 0) (ci := 11) (lk := 7) (lm := 1) (L0 := eg_en (eg_mL 179) [.ref am]) (by decide +kernel) rfl hH k_am rfl rfl rfl rfl rfl (by rw [show eg_mL 179 = 1 from by decide +kernel]; first | done | rfl) ?_
  refine (er_p179_ok (K383, [], G383) [.ref am] _ hH (by omega) rfl (ht_ac (.inr ⟨by decide, _, rfl, k_am⟩) ht_an)).mono (fun u hu => ls_cbv hu (fun v388 K388 G388 c388 s388 x388 f388 hH hv388 cl388 sl388 => ?_))
  have hyw := hyw.fr k_th hrc.1.1 hrc.1.2.1 hrm.1.1 hrm.1.2 x388 f388 (by decide +kernel)
  have hci := hci.fr x388 f388 (by decide +kernel)
  have h3 := (f388.2 th 12 k_th 3 rfl).trans h3
  have hl := (f388.2 rd 7 k_rd 1 rfl).trans hl
  have hm := (f388.2 am 13 k_am 5 rfl).trans hm
  have hp := (f388.2 th 12 k_th 2 rfl).trans hp
  have hg := (f388.2 am 13 k_am 3 rfl).trans hg
  have htC := htC.fr k_rd x388 f388 (by decide +kernel)
  have htM := htM.fr k_am x388 f388 (by decide +kernel)
  have hrc := hrc.fr k_th x388 f388 (by decide +kernel)
  have hrm := hrm.fr k_am x388 f388 (by decide +kernel)
  have k_th := x388 _ _ k_th
  have k_am := x388 _ _ k_am
  have k_out := x388 _ _ k_out
  have k_rd := x388 _ _ k_rd
  obtain ⟨v388, rfl, -⟩ := hv388
  show et_go _ _ 1000 391 [some (.ref 150), some (.ref th), some (.ref am), some (.ref out), some (.int (Int32.ofNat i)), x5, x6] [.int v388] _ ((ck + c383) + c388) ((sk + s383) + s388) _
  refine ls_pop (p := 392) (by decide +kernel) ?_
  refine ls_goto (p := 1656) (by decide +kernel) ?_
  exact hN _ _ c h _ _ _ _ _ _ ⟨⟨hH, hci, k_th, k_am, k_out, h3, k_rd, hl, hm, hc⟩, ⟨hh1, hp, hg⟩, hrc, hrm, hbc, hbi, hyw, _, htC, htM, htb⟩ (by omega) (by omega)
set_option maxHeartbeats 2000000 in
theorem lw_c6 (hI : lw_I K G th am out rd s0 s1 aw ai tp ba na tm c h cn im) (hi : i + 6 ≤ n) (hn : n ≤ 3072) (hN : ∀ (K' : et_K) (G' : eg_G) (c' h' : Nat) (cn' im' : Nat → Nat) (ck' sk' : Nat) (y5 y6 : Option Value), lw_I K' G' th am out rd s0 s1 aw ai tp ba na tm c' h' cn' im' → ck' ≤ ck + 841 → sk' ≤ sk + 7168 → et_go (some (n, f)) (d + 41) 1000 1656 [some (.ref 150), some (.ref th), some (.ref am), some (.ref out), some (.int (Int32.ofNat i)), y5, y6] [] G' ck' sk' Z) : et_go (some (n, f)) (d + 41) 1000 395 [some (.ref 150), some (.ref th), some (.ref am), some (.ref out), some (.int (Int32.ofNat i)), x5, x6] [] G ck sk Z := by
  obtain ⟨⟨hH, hci, k_th, k_am, k_out, h3, k_rd, hl, hm, hc⟩, ⟨hh1, hp, hg⟩, hrc, hrm, hbc, hbi, hyw, tb, htC, htM, htb⟩ := hI
  refine ls_aload (i := 1) (p := 396) (by decide +kernel) rfl ?_
  refine ls_arg (j := 1) (by decide +kernel) (by omega) hn ?_
  refine ls_arg (j := 2) (by decide +kernel) (by omega) hn ?_
  refine ls_aload (i := 3) (p := 409) (by decide +kernel) rfl ?_
  refine ls_calls (mi := 3) (na := 4) (lk := 7) (lm := 5) (L0 := eg_en (eg_mL 3) [.ref th, .int (f (i + 1)), .int (f (i + 2)), .ref out]) (by decide +kernel) rfl rfl rfl rfl rfl rfl (by rw [show eg_mL 3 = 5 from by decide +kernel]; first | done | rfl) ?_
  refine (hh_c3 (K, [], G) [.ref th, .int (f (i + 1)), .int (f (i + 2)), .ref out] _ hH (by omega) rfl (ht_ac (.inr ⟨by decide, _, rfl, k_th⟩) (ht_ac hi_any (ht_ac hi_any (ht_ac (.inr ⟨by decide, _, rfl, k_out⟩) ht_an))))).mono (fun u hu => ls_cbv hu (fun v409 K409 G409 c409 s409 x409 f409 hH hv409 cl409 sl409 => ?_))
  have hyw := hyw.fr k_th hrc.1.1 hrc.1.2.1 hrm.1.1 hrm.1.2 x409 f409 (by decide +kernel)
  have hci := hci.fr x409 f409 (by decide +kernel)
  have h3 := (f409.2 th 12 k_th 3 rfl).trans h3
  have hl := (f409.2 rd 7 k_rd 1 rfl).trans hl
  have hm := (f409.2 am 13 k_am 5 rfl).trans hm
  have hp := (f409.2 th 12 k_th 2 rfl).trans hp
  have hg := (f409.2 am 13 k_am 3 rfl).trans hg
  have htC := htC.fr k_rd x409 f409 (by decide +kernel)
  have htM := htM.fr k_am x409 f409 (by decide +kernel)
  have hrc := hrc.fr k_th x409 f409 (by decide +kernel)
  have hrm := hrm.fr k_am x409 f409 (by decide +kernel)
  have k_th := x409 _ _ k_th
  have k_am := x409 _ _ k_am
  have k_out := x409 _ _ k_out
  have k_rd := x409 _ _ k_rd
  obtain ⟨v409, rfl, -⟩ := hv409
  show et_go _ _ 1000 412 [some (.ref 150), some (.ref th), some (.ref am), some (.ref out), some (.int (Int32.ofNat i)), x5, x6] [.int v409] _ (ck + c409) (sk + s409) _
  refine ls_istore (i := 5) (p := 414) (by decide +kernel) (Nat.le_of_ble_eq_true rfl) ?_
  refine ls_aload (i := 2) (p := 415) (by decide +kernel) rfl ?_
  refine ls_arg (j := 1) (by decide +kernel) (by omega) hn ?_
  refine ls_arg (j := 2) (by decide +kernel) (by omega) hn ?_
  refine lt_callv (T := et_TT) (t := 13) (mi := 211) (na := 2) (ci := 11) (lk := 7) (lm := 3) (L0 := eg_en (eg_mL 211) [.ref am, .int (f (i + 1)), .int (f (i + 2))]) (by decide +kernel) rfl hH k_am rfl rfl rfl rfl rfl (by rw [show eg_mL 211 = 3 from by decide +kernel]; first | done | rfl) ?_
  refine (er_p211_ok (K409, [], G409) [.ref am, .int (f (i + 1)), .int (f (i + 2))] _ hH (by omega) rfl (ht_ac (.inr ⟨by decide, _, rfl, k_am⟩) (ht_ac hi_any (ht_ac hi_any ht_an)))).mono (fun u hu => ls_cbv hu (fun v427 K427 G427 c427 s427 x427 f427 hH hv427 cl427 sl427 => ?_))
  have hyw := hyw.fr k_th hrc.1.1 hrc.1.2.1 hrm.1.1 hrm.1.2 x427 f427 (by decide +kernel)
  have hci := hci.fr x427 f427 (by decide +kernel)
  have h3 := (f427.2 th 12 k_th 3 rfl).trans h3
  have hl := (f427.2 rd 7 k_rd 1 rfl).trans hl
  have hm := (f427.2 am 13 k_am 5 rfl).trans hm
  have hp := (f427.2 th 12 k_th 2 rfl).trans hp
  have hg := (f427.2 am 13 k_am 3 rfl).trans hg
  have htC := htC.fr k_rd x427 f427 (by decide +kernel)
  have htM := htM.fr k_am x427 f427 (by decide +kernel)
  have hrc := hrc.fr k_th x427 f427 (by decide +kernel)
  have hrm := hrm.fr k_am x427 f427 (by decide +kernel)
  have k_th := x427 _ _ k_th
  have k_am := x427 _ _ k_am
  have k_out := x427 _ _ k_out
  have k_rd := x427 _ _ k_rd
  obtain ⟨v427, rfl, -⟩ := hv427
  show et_go _ _ 1000 430 [some (.ref 150), some (.ref th), some (.ref am), some (.ref out), some (.int (Int32.ofNat i)), some (.int v409), x6] [.int v427] _ ((ck + c409) + c427) ((sk + s409) + s427) _
  refine ls_istore (i := 6) (p := 432) (by decide +kernel) (Nat.le_of_ble_eq_true rfl) ?_
  refine ls_goto (p := 1656) (by decide +kernel) ?_
  exact hN _ _ c h _ _ _ _ _ _ ⟨⟨hH, hci, k_th, k_am, k_out, h3, k_rd, hl, hm, hc⟩, ⟨hh1, hp, hg⟩, hrc, hrm, hbc, hbi, hyw, _, htC, htM, htb⟩ (by omega) (by omega)
set_option maxHeartbeats 2000000 in
theorem lw_c7 (hI : lw_I K G th am out rd s0 s1 aw ai tp ba na tm c h cn im) (hi : i + 6 ≤ n) (hn : n ≤ 3072) (hN : ∀ (K' : et_K) (G' : eg_G) (c' h' : Nat) (cn' im' : Nat → Nat) (ck' sk' : Nat) (y5 y6 : Option Value), lw_I K' G' th am out rd s0 s1 aw ai tp ba na tm c' h' cn' im' → ck' ≤ ck + 841 → sk' ≤ sk + 7168 → et_go (some (n, f)) (d + 41) 1000 1656 [some (.ref 150), some (.ref th), some (.ref am), some (.ref out), some (.int (Int32.ofNat i)), y5, y6] [] G' ck' sk' Z) : et_go (some (n, f)) (d + 41) 1000 435 [some (.ref 150), some (.ref th), some (.ref am), some (.ref out), some (.int (Int32.ofNat i)), x5, x6] [] G ck sk Z := by
  obtain ⟨⟨hH, hci, k_th, k_am, k_out, h3, k_rd, hl, hm, hc⟩, ⟨hh1, hp, hg⟩, hrc, hrm, hbc, hbi, hyw, tb, htC, htM, htb⟩ := hI
  refine ls_aload (i := 1) (p := 436) (by decide +kernel) rfl ?_
  refine ls_arg (j := 1) (by decide +kernel) (by omega) hn ?_
  refine ls_arg (j := 2) (by decide +kernel) (by omega) hn ?_
  refine ls_bool (by decide +kernel) (fun b448 hb448 hbe448 => ?_)
  refine ls_aload (i := 3) (p := 457) (by decide +kernel) rfl ?_
  refine ls_calls (mi := 4) (na := 4) (lk := 7) (lm := 5) (L0 := eg_en (eg_mL 4) [.ref th, .int (f (i + 1)), .int (Int32.ofNat b448), .ref out]) (by decide +kernel) rfl rfl rfl rfl rfl rfl (by rw [show eg_mL 4 = 5 from by decide +kernel]; first | done | rfl) ?_
  have b3 : cn 3 ≤ 20 := Int.ofNat_le.mp (hf_bd (t := 10) hH hrc.1.1 rfl rfl (hrc.2.2 (2, 3) (by decide)).1 (hbc 3))
  have hH0 := hH
  have k_th0 := k_th
  have k_out0 := k_out
  have k_rd0 := k_rd
  have k_am0 := k_am
  have hrc0 := hrc
  have hrm0 := hrm
  obtain ⟨la, g3, k_la⟩ := hf_ref (t := 10) (f := 3) (u := 17) hH hrc.1.1 rfl rfl (.inr trivial)
  obtain ⟨ya, g4, k_ya⟩ := hf_ref (t := 10) (f := 4) (u := 27) hH hrc.1.1 rfl rfl (.inr trivial)
  have hyy : (Int32.ofNat b448) = Int32.ofNat 0 ∨ (Int32.ofNat b448) = Int32.ofNat 1 := (show b448 = 0 ∨ b448 = 1 by omega).elim (fun h => .inl (by rw [h])) (fun h => .inr (by rw [h]))
  refine ((hh_c4 (K, [], G) [.ref th, .int (f (i + 1)), .int (Int32.ofNat b448), .ref out] _ hH (by omega) rfl (ht_ac (.inr ⟨by decide, _, rfl, k_th⟩) (ht_ac hi_any (ht_ac (hi_nv (by omega) (by omega)) (ht_ac (.inr ⟨by decide, _, rfl, k_out⟩) ht_an))))).and (fh_card hH k_th hrc.2.1.1 hrc.1.1 (hrc.2.2 (2, 3) (by decide)).1 b3 g3 k_la g4 k_ya hyy k_out (by omega))).mono (fun u hu => ls_cbvQ hu (fun v457 K457 G457 c457 s457 x457 f457 hH hv457 cl457 sl457 hQ => ?_))
  obtain ⟨_, _, _, _, eu, -, hxf, hQ⟩ := hQ
  cases eu
  have hyw := hyw.fr k_th hrc.1.1 hrc.1.2.1 hrm.1.1 hrm.1.2 x457 f457 (by decide +kernel)
  have hci := hci.fr x457 f457 (by decide +kernel)
  have h3 := (f457.2 th 12 k_th 3 rfl).trans h3
  have hl := (f457.2 rd 7 k_rd 1 rfl).trans hl
  have hm := (f457.2 am 13 k_am 5 rfl).trans hm
  have hp := (f457.2 th 12 k_th 2 rfl).trans hp
  have hg := (f457.2 am 13 k_am 3 rfl).trans hg
  have htC := htC.fr k_rd x457 f457 (by decide +kernel)
  have htM := htM.fr k_am x457 f457 (by decide +kernel)
  have hrm := hrm.fr k_am x457 f457 (by decide +kernel)
  have k_th := x457 _ _ k_th
  have k_am := x457 _ _ k_am
  have k_out := x457 _ _ k_out
  have k_rd := x457 _ _ k_rd
  have k_z := hrc0.1.2.1
  have w1 : et_pl (eg_at G457 s1) 2 = some (.int (Int32.ofNat (im 3))) := (hxf.2 s1 2 (hH0.2.2 _ _ hrc0.1.2.1).1 (fun h => by rcases h with h | h | h | h | h <;> first | exact hrc0.1.2.2 h.1.symm | (have h := h.1; rw [h] at k_z; first | (rw [k_th0] at k_z; cases k_z) | (rw [k_la] at k_z; cases k_z) | (rw [k_ya] at k_z; cases k_z) | (rw [k_out0] at k_z; cases k_z)))).trans (hrc0.2.2 (2, 3) (by decide)).2
  rcases hQ with ⟨cx, ev, q0⟩ | ⟨cx, c4, ev, q0⟩ | ⟨cx, c4, ev, ho, q0, -⟩
  · cases ev
    have hrc := hrc0.upf k_th0 x457 f457 q0 w1 (by decide +kernel)
    show et_go _ _ 1000 460 [some (.ref 150), some (.ref th), some (.ref am), some (.ref out), some (.int (Int32.ofNat i)), x5, x6] [.int (Int32.ofNat 1)] _ (ck + c457) (sk + s457) _
    refine ls_istore (i := 5) (p := 462) (by decide +kernel) (Nat.le_of_ble_eq_true rfl) ?_
    refine ls_aload (i := 2) (p := 463) (by decide +kernel) rfl ?_
    refine ls_arg (j := 1) (by decide +kernel) (by omega) hn ?_
    refine ls_arg (j := 2) (by decide +kernel) (by omega) hn ?_
    refine ls_bool (by decide +kernel) (fun b475 hb475 hbe475 => ?_)
    refine lt_callv (T := et_TT) (t := 13) (mi := 217) (na := 2) (ci := 11) (lk := 7) (lm := 3) (L0 := eg_en (eg_mL 217) [.ref am, .int (f (i + 1)), .int (Int32.ofNat b475)]) (by decide +kernel) rfl hH k_am rfl rfl rfl rfl rfl (by rw [show eg_mL 217 = 3 from by decide +kernel]; first | done | rfl) ?_
    have k_am1 := k_am
    have hrm0 := hrm
    refine ((er_p217_ok (K457, [], G457) [.ref am, .int (f (i + 1)), .int (Int32.ofNat b475)] _ hH (by omega) rfl (ht_ac (.inr ⟨by decide, _, rfl, k_am⟩) (ht_ac hi_any (ht_ac (hi_nv (by omega) (by omega)) ht_an)))).and (fm_card hH k_am hrm.1.1 hrm.2.1.1 (hrm.2.2 (2, 3) (by decide)).1 b3 (by omega))).mono (fun u hu => ls_cbvQ hu (fun v483 K483 G483 c483 s483 x483 f483 hH hv483 cl483 sl483 hQ => ?_))
    obtain ⟨_, _, eu, -, hxf, hQ⟩ := hQ
    cases eu
    have hyw := hyw.fr k_th hrc.1.1 hrc.1.2.1 hrm.1.1 hrm.1.2 x483 f483 (by decide +kernel)
    have hci := hci.fr x483 f483 (by decide +kernel)
    have h3 := (f483.2 th 12 k_th 3 rfl).trans h3
    have hl := (f483.2 rd 7 k_rd 1 rfl).trans hl
    have hm := (f483.2 am 13 k_am 5 rfl).trans hm
    have hp := (f483.2 th 12 k_th 2 rfl).trans hp
    have hg := (f483.2 am 13 k_am 3 rfl).trans hg
    have htC := htC.fr k_rd x483 f483 (by decide +kernel)
    have htM := htM.fr k_am x483 f483 (by decide +kernel)
    have hrc := hrc.fr k_th x483 f483 (by decide +kernel)
    have k_th := x483 _ _ k_th
    have k_am := x483 _ _ k_am
    have k_out := x483 _ _ k_out
    have k_rd := x483 _ _ k_rd
    rcases hQ with ⟨cx2, ev2, ht, z0⟩ | ⟨cx2, r4, ev2, ht, z0⟩ | ⟨cx2, r4, ev2, ht, z0, -⟩
    · cases ev2
      have hrm := hrm0.upf k_am1 x483 f483 z0 (by decide +kernel)
      have hbc := rc_upb (k := 3) (v := cn 3) hbc (by omega)
      show et_go _ _ 1000 486 [some (.ref 150), some (.ref th), some (.ref am), some (.ref out), some (.int (Int32.ofNat i)), some (.int (Int32.ofNat 1)), x6] [.int (Int32.ofNat 0)] _ (ck + c457) (sk + s457) _
      refine ls_istore (i := 6) (p := 488) (by decide +kernel) (Nat.le_of_ble_eq_true rfl) ?_
      refine ls_goto (p := 1656) (by decide +kernel) ?_
      exact hN _ _ c h _ _ _ _ _ _ ⟨⟨hH, hci, k_th, k_am, k_out, h3, k_rd, hl, hm, hc⟩, ⟨hh1, hp, hg⟩, hrc, hrm, hbc, hbi, hyw, _, htC, htM, htb⟩ (by omega) (by omega)
    · exact absurd cx2 cx
    · exact absurd cx2 cx
  · cases ev
    have hrc := hrc0.upf k_th0 x457 f457 q0 w1 (by decide +kernel)
    show et_go _ _ 1000 460 [some (.ref 150), some (.ref th), some (.ref am), some (.ref out), some (.int (Int32.ofNat i)), x5, x6] [.int (Int32.ofNat 2)] _ (ck + c457) (sk + s457) _
    refine ls_istore (i := 5) (p := 462) (by decide +kernel) (Nat.le_of_ble_eq_true rfl) ?_
    refine ls_aload (i := 2) (p := 463) (by decide +kernel) rfl ?_
    refine ls_arg (j := 1) (by decide +kernel) (by omega) hn ?_
    refine ls_arg (j := 2) (by decide +kernel) (by omega) hn ?_
    refine ls_bool (by decide +kernel) (fun b475 hb475 hbe475 => ?_)
    refine lt_callv (T := et_TT) (t := 13) (mi := 217) (na := 2) (ci := 11) (lk := 7) (lm := 3) (L0 := eg_en (eg_mL 217) [.ref am, .int (f (i + 1)), .int (Int32.ofNat b475)]) (by decide +kernel) rfl hH k_am rfl rfl rfl rfl rfl (by rw [show eg_mL 217 = 3 from by decide +kernel]; first | done | rfl) ?_
    have k_am1 := k_am
    have hrm0 := hrm
    refine ((er_p217_ok (K457, [], G457) [.ref am, .int (f (i + 1)), .int (Int32.ofNat b475)] _ hH (by omega) rfl (ht_ac (.inr ⟨by decide, _, rfl, k_am⟩) (ht_ac hi_any (ht_ac (hi_nv (by omega) (by omega)) ht_an)))).and (fm_card hH k_am hrm.1.1 hrm.2.1.1 (hrm.2.2 (2, 3) (by decide)).1 b3 (by omega))).mono (fun u hu => ls_cbvQ hu (fun v483 K483 G483 c483 s483 x483 f483 hH hv483 cl483 sl483 hQ => ?_))
    obtain ⟨_, _, eu, -, hxf, hQ⟩ := hQ
    cases eu
    have hyw := hyw.fr k_th hrc.1.1 hrc.1.2.1 hrm.1.1 hrm.1.2 x483 f483 (by decide +kernel)
    have hci := hci.fr x483 f483 (by decide +kernel)
    have h3 := (f483.2 th 12 k_th 3 rfl).trans h3
    have hl := (f483.2 rd 7 k_rd 1 rfl).trans hl
    have hm := (f483.2 am 13 k_am 5 rfl).trans hm
    have hp := (f483.2 th 12 k_th 2 rfl).trans hp
    have hg := (f483.2 am 13 k_am 3 rfl).trans hg
    have htC := htC.fr k_rd x483 f483 (by decide +kernel)
    have htM := htM.fr k_am x483 f483 (by decide +kernel)
    have hrc := hrc.fr k_th x483 f483 (by decide +kernel)
    have k_th := x483 _ _ k_th
    have k_am := x483 _ _ k_am
    have k_out := x483 _ _ k_out
    have k_rd := x483 _ _ k_rd
    rcases hQ with ⟨cx2, ev2, ht, z0⟩ | ⟨cx2, r4, ev2, ht, z0⟩ | ⟨cx2, r4, ev2, ht, z0, -⟩
    · exact absurd cx cx2
    · cases ev2
      have hrm := hrm0.upf k_am1 x483 f483 z0 (by decide +kernel)
      have hbc := rc_upb (k := 3) (v := cn 3) hbc (by omega)
      show et_go _ _ 1000 486 [some (.ref 150), some (.ref th), some (.ref am), some (.ref out), some (.int (Int32.ofNat i)), some (.int (Int32.ofNat 2)), x6] [.int (Int32.ofNat 0)] _ (ck + c457) (sk + s457) _
      refine ls_istore (i := 6) (p := 488) (by decide +kernel) (Nat.le_of_ble_eq_true rfl) ?_
      refine ls_goto (p := 1656) (by decide +kernel) ?_
      exact hN _ _ c h _ _ _ _ _ _ ⟨⟨hH, hci, k_th, k_am, k_out, h3, k_rd, hl, hm, hc⟩, ⟨hh1, hp, hg⟩, hrc, hrm, hbc, hbi, hyw, _, htC, htM, htb⟩ (by omega) (by omega)
    · exact absurd c4 (by omega)
  · cases ev
    have hrc := hrc0.upf k_th0 x457 f457 q0 w1 (by decide +kernel)
    show et_go _ _ 1000 460 [some (.ref 150), some (.ref th), some (.ref am), some (.ref out), some (.int (Int32.ofNat i)), x5, x6] [.int (Int32.ofNat 0)] _ (ck + c457) (sk + s457) _
    refine ls_istore (i := 5) (p := 462) (by decide +kernel) (Nat.le_of_ble_eq_true rfl) ?_
    refine ls_aload (i := 2) (p := 463) (by decide +kernel) rfl ?_
    refine ls_arg (j := 1) (by decide +kernel) (by omega) hn ?_
    refine ls_arg (j := 2) (by decide +kernel) (by omega) hn ?_
    refine ls_bool (by decide +kernel) (fun b475 hb475 hbe475 => ?_)
    refine lt_callv (T := et_TT) (t := 13) (mi := 217) (na := 2) (ci := 11) (lk := 7) (lm := 3) (L0 := eg_en (eg_mL 217) [.ref am, .int (f (i + 1)), .int (Int32.ofNat b475)]) (by decide +kernel) rfl hH k_am rfl rfl rfl rfl rfl (by rw [show eg_mL 217 = 3 from by decide +kernel]; first | done | rfl) ?_
    have k_am1 := k_am
    have hrm0 := hrm
    refine ((er_p217_ok (K457, [], G457) [.ref am, .int (f (i + 1)), .int (Int32.ofNat b475)] _ hH (by omega) rfl (ht_ac (.inr ⟨by decide, _, rfl, k_am⟩) (ht_ac hi_any (ht_ac (hi_nv (by omega) (by omega)) ht_an)))).and (fm_card hH k_am hrm.1.1 hrm.2.1.1 (hrm.2.2 (2, 3) (by decide)).1 b3 (by omega))).mono (fun u hu => ls_cbvQ hu (fun v483 K483 G483 c483 s483 x483 f483 hH hv483 cl483 sl483 hQ => ?_))
    obtain ⟨_, _, eu, -, hxf, hQ⟩ := hQ
    cases eu
    have hyw := hyw.fr k_th hrc.1.1 hrc.1.2.1 hrm.1.1 hrm.1.2 x483 f483 (by decide +kernel)
    have hci := hci.fr x483 f483 (by decide +kernel)
    have h3 := (f483.2 th 12 k_th 3 rfl).trans h3
    have hl := (f483.2 rd 7 k_rd 1 rfl).trans hl
    have hm := (f483.2 am 13 k_am 5 rfl).trans hm
    have hp := (f483.2 th 12 k_th 2 rfl).trans hp
    have hg := (f483.2 am 13 k_am 3 rfl).trans hg
    have htC := htC.fr k_rd x483 f483 (by decide +kernel)
    have htM := htM.fr k_am x483 f483 (by decide +kernel)
    have hrc := hrc.fr k_th x483 f483 (by decide +kernel)
    have ho := (f483.2 out 31 k_out 0 rfl).trans ho
    have k_th := x483 _ _ k_th
    have k_am := x483 _ _ k_am
    have k_out := x483 _ _ k_out
    have k_rd := x483 _ _ k_rd
    rcases hQ with ⟨cx2, ev2, ht, z0⟩ | ⟨cx2, r4, ev2, ht, z0⟩ | ⟨cx2, r4, ev2, ht, z0, -⟩
    · exact absurd cx cx2
    · exact absurd c4 (by omega)
    · cases ev2
      have hrm := hrm0.upf k_am1 x483 f483 z0 (by decide +kernel)
      have hbc := rc_upb (k := 3) (v := cn 3 + 1) hbc (by omega)
      show et_go _ _ 1000 486 [some (.ref 150), some (.ref th), some (.ref am), some (.ref out), some (.int (Int32.ofNat i)), some (.int (Int32.ofNat 0)), x6] [.int (Int32.ofNat (cn 3))] _ (ck + c457) (sk + s457) _
      refine ls_istore (i := 6) (p := 488) (by decide +kernel) (Nat.le_of_ble_eq_true rfl) ?_
      refine ls_goto (p := 1656) (by decide +kernel) ?_
      exact hN _ _ c h _ _ _ _ _ _ ⟨⟨hH, hci, k_th, k_am, k_out, h3, k_rd, hl, hm, hc⟩, ⟨hh1, hp, hg⟩, hrc, hrm, hbc, hbi, hyw, _, htC, htM, htb⟩ (by omega) (by omega)
set_option maxHeartbeats 2000000 in
theorem lw_c8 (hI : lw_I K G th am out rd s0 s1 aw ai tp ba na tm c h cn im) (hi : i + 6 ≤ n) (hn : n ≤ 3072) (hN : ∀ (K' : et_K) (G' : eg_G) (c' h' : Nat) (cn' im' : Nat → Nat) (ck' sk' : Nat) (y5 y6 : Option Value), lw_I K' G' th am out rd s0 s1 aw ai tp ba na tm c' h' cn' im' → ck' ≤ ck + 841 → sk' ≤ sk + 7168 → et_go (some (n, f)) (d + 41) 1000 1656 [some (.ref 150), some (.ref th), some (.ref am), some (.ref out), some (.int (Int32.ofNat i)), y5, y6] [] G' ck' sk' Z) : et_go (some (n, f)) (d + 41) 1000 491 [some (.ref 150), some (.ref th), some (.ref am), some (.ref out), some (.int (Int32.ofNat i)), x5, x6] [] G ck sk Z := by
  obtain ⟨⟨hH, hci, k_th, k_am, k_out, h3, k_rd, hl, hm, hc⟩, ⟨hh1, hp, hg⟩, hrc, hrm, hbc, hbi, hyw, tb, htC, htM, htb⟩ := hI
  refine ls_aload (i := 1) (p := 492) (by decide +kernel) rfl ?_
  refine ls_arg (j := 1) (by decide +kernel) (by omega) hn ?_
  refine ls_arg (j := 2) (by decide +kernel) (by omega) hn ?_
  refine ls_aload (i := 3) (p := 505) (by decide +kernel) rfl ?_
  refine ls_calls (mi := 5) (na := 4) (lk := 7) (lm := 5) (L0 := eg_en (eg_mL 5) [.ref th, .int (f (i + 1)), .int (f (i + 2)), .ref out]) (by decide +kernel) rfl rfl rfl rfl rfl rfl (by rw [show eg_mL 5 = 5 from by decide +kernel]; first | done | rfl) ?_
  obtain ⟨t0, t1, ra0, ca0, rc0, ec0, cc0, ra1, ca1, rc1, ec1, cc1, hC⟩ := id hci
  obtain rfl : s0 = t0 := Value.ref.inj (Option.some.inj (hrc.2.1.1.symm.trans hC.2.1.1))
  obtain rfl : s1 = t1 := Value.ref.inj (Option.some.inj (hrc.2.1.2.symm.trans hC.2.1.2))
  have ee0 : ec0 = cn 4 := xi_inj (by have := hC.2.2.2.1.2.2.2.1.2.1; omega) (by have := hbc 4; omega) (hC.2.2.2.1.2.2.1.2.1.symm.trans (hrc.2.2 (5, 4) (by decide)).1)
  have ee1 : ec1 = im 4 := xi_inj (by have := hC.2.2.2.2.2.2.2.1.2.1; omega) (by have := hbi 4; omega) (hC.2.2.2.2.2.2.1.2.1.symm.trans (hrc.2.2 (5, 4) (by decide)).2)
  have er0 : rc0 = cn 0 := xi_inj (by have := hC.2.2.2.1.2.2.2.1.1; omega) (by have := hbc 0; omega) (hC.2.2.2.1.2.2.1.1.symm.trans (hrc.2.2 (0, 0) (by decide)).1)
  have b0 : cn 0 ≤ 4 := Int.ofNat_le.mp (hf_bd (t := 10) hH hrc.1.1 rfl rfl (hrc.2.2 (0, 0) (by decide)).1 (hbc 0))
  have b3 : cn 3 ≤ 20 := Int.ofNat_le.mp (hf_bd (t := 10) hH hrc.1.1 rfl rfl (hrc.2.2 (2, 3) (by decide)).1 (hbc 3))
  have hH0 := hH
  have k_th0 := k_th
  have k_out0 := k_out
  have k_rd0 := k_rd
  have k_am0 := k_am
  have hrc0 := hrc
  have hrm0 := hrm
  obtain ⟨la, g3, k_la⟩ := hf_ref (t := 10) (f := 3) (u := 17) hH hrc.1.1 rfl rfl (.inr trivial)
  obtain ⟨ya, g4, k_ya⟩ := hf_ref (t := 10) (f := 4) (u := 27) hH hrc.1.1 rfl rfl (.inr trivial)
  have hru : ∀ i, i < cn 0 → ∃ q, et_pl (eg_at G ra0) i = some (.ref q) := fun i hi => hC.2.2.2.1.2.2.2.2.1 i (by rw [er0]; exact hi)
  refine ((hh_c5 (K, [], G) [.ref th, .int (f (i + 1)), .int (f (i + 2)), .ref out] _ hH (by omega) rfl (ht_ac (.inr ⟨by decide, _, rfl, k_th⟩) (ht_ac hi_any (ht_ac hi_any (ht_ac (.inr ⟨by decide, _, rfl, k_out⟩) ht_an))))).and (fh_made hH k_th hrc.2.1.1 hrc.1.1 hrc.1.2.1 hrc.1.2.2 (hrc.2.2 (0, 0) (by decide)).1 b0 hC.2.2.2.1.2.1.1 hC.2.2.2.1.1.2.1 hru (hrc.2.2 (2, 3) (by decide)).1 b3 g3 k_la g4 k_ya (hrc.2.2 (2, 3) (by decide)).2 k_out (by omega))).mono (fun u hu => ls_cbvQ hu (fun v505 K505 G505 c505 s505 x505 f505 hH hv505 cl505 sl505 hQ => ?_))
  obtain ⟨_, _, _, _, _, eu, -, -, hQ, w1⟩ := hQ
  cases eu
  have hyw := hyw.fr k_th hrc.1.1 hrc.1.2.1 hrm.1.1 hrm.1.2 x505 f505 (by decide +kernel)
  have hci := hci.fr x505 f505 (by decide +kernel)
  have h3 := (f505.2 th 12 k_th 3 rfl).trans h3
  have hl := (f505.2 rd 7 k_rd 1 rfl).trans hl
  have hm := (f505.2 am 13 k_am 5 rfl).trans hm
  have hp := (f505.2 th 12 k_th 2 rfl).trans hp
  have hg := (f505.2 am 13 k_am 3 rfl).trans hg
  have htC := htC.fr k_rd x505 f505 (by decide +kernel)
  have htM := htM.fr k_am x505 f505 (by decide +kernel)
  have hrm := hrm.fr k_am x505 f505 (by decide +kernel)
  have k_th := x505 _ _ k_th
  have k_am := x505 _ _ k_am
  have k_out := x505 _ _ k_out
  have k_rd := x505 _ _ k_rd
  rcases hQ with ⟨cx, ev, q0⟩ | ⟨cx, cy, ev, q0⟩ | ⟨cx, cy, c4, ev, q0⟩ | ⟨cx, cy, c4, ev, ho, q0⟩
  · cases ev
    have hrc := hrc0.upf k_th0 x505 f505 q0 w1 (by decide +kernel)
    show et_go _ _ 1000 508 [some (.ref 150), some (.ref th), some (.ref am), some (.ref out), some (.int (Int32.ofNat i)), x5, x6] [.int (Int32.ofNat 1)] _ (ck + c505) (sk + s505) _
    refine ls_istore (i := 5) (p := 510) (by decide +kernel) (Nat.le_of_ble_eq_true rfl) ?_
    refine ls_aload (i := 2) (p := 511) (by decide +kernel) rfl ?_
    refine ls_arg (j := 1) (by decide +kernel) (by omega) hn ?_
    refine ls_arg (j := 2) (by decide +kernel) (by omega) hn ?_
    refine lt_callv (T := et_TT) (t := 13) (mi := 220) (na := 2) (ci := 11) (lk := 7) (lm := 3) (L0 := eg_en (eg_mL 220) [.ref am, .int (f (i + 1)), .int (f (i + 2))]) (by decide +kernel) rfl hH k_am rfl rfl rfl rfl rfl (by rw [show eg_mL 220 = 3 from by decide +kernel]; first | done | rfl) ?_
    have k_am1 := k_am
    have hrm0 := hrm
    refine ((er_p220_ok (K505, [], G505) [.ref am, .int (f (i + 1)), .int (f (i + 2))] _ hH (by omega) rfl (ht_ac (.inr ⟨by decide, _, rfl, k_am⟩) (ht_ac hi_any (ht_ac hi_any ht_an)))).and (fm_made hH k_am hrm.1.1 hrm.2.1.1 (hrm.2.2 (2, 3) (by decide)).1 b3 (hrm.2.2 (0, 0) (by decide)).1 b0 (by omega))).mono (fun u hu => ls_cbvQ hu (fun v523 K523 G523 c523 s523 x523 f523 hH hv523 cl523 sl523 hQ => ?_))
    obtain ⟨w_, eu, hQ⟩ := hQ
    cases eu
    have hyw := hyw.fr k_th hrc.1.1 hrc.1.2.1 hrm.1.1 hrm.1.2 x523 f523 (by decide +kernel)
    have hci := hci.fr x523 f523 (by decide +kernel)
    have h3 := (f523.2 th 12 k_th 3 rfl).trans h3
    have hl := (f523.2 rd 7 k_rd 1 rfl).trans hl
    have hm := (f523.2 am 13 k_am 5 rfl).trans hm
    have hp := (f523.2 th 12 k_th 2 rfl).trans hp
    have hg := (f523.2 am 13 k_am 3 rfl).trans hg
    have htC := htC.fr k_rd x523 f523 (by decide +kernel)
    have htM := htM.fr k_am x523 f523 (by decide +kernel)
    have hrc := hrc.fr k_th x523 f523 (by decide +kernel)
    have k_th := x523 _ _ k_th
    have k_am := x523 _ _ k_am
    have k_out := x523 _ _ k_out
    have k_rd := x523 _ _ k_rd
    rcases hQ with ⟨cx2, ht, z0⟩ | ⟨cx2, cy2, ht, z0⟩ | ⟨cx2, cy2, r4, ht, z0⟩ | ⟨cx2, cy2, r4, ev2, ht, z0⟩
    · have hrm := hrm0.upf k_am1 x523 f523 z0 (by decide +kernel)
      have hbc := rc_upb (k := 3) (v := cn 3) hbc (by omega)
      show et_go _ _ 1000 526 [some (.ref 150), some (.ref th), some (.ref am), some (.ref out), some (.int (Int32.ofNat i)), some (.int (Int32.ofNat 1)), x6] [.int w_] _ ((ck + c505) + c523) ((sk + s505) + s523) _
      refine ls_istore (i := 6) (p := 528) (by decide +kernel) (Nat.le_of_ble_eq_true rfl) ?_
      refine ls_goto (p := 1656) (by decide +kernel) ?_
      exact hN _ _ c h _ _ _ _ _ _ ⟨⟨hH, hci, k_th, k_am, k_out, h3, k_rd, hl, hm, hc⟩, ⟨hh1, hp, hg⟩, hrc, hrm, hbc, hbi, hyw, _, htC, htM, htb⟩ (by omega) (by omega)
    · exact absurd cx2 cx
    · exact absurd cx2 cx
    · exact absurd cx2 cx
  · cases ev
    have hrc := hrc0.upf k_th0 x505 f505 q0 w1 (by decide +kernel)
    show et_go _ _ 1000 508 [some (.ref 150), some (.ref th), some (.ref am), some (.ref out), some (.int (Int32.ofNat i)), x5, x6] [.int (Int32.ofNat 2)] _ (ck + c505) (sk + s505) _
    refine ls_istore (i := 5) (p := 510) (by decide +kernel) (Nat.le_of_ble_eq_true rfl) ?_
    refine ls_aload (i := 2) (p := 511) (by decide +kernel) rfl ?_
    refine ls_arg (j := 1) (by decide +kernel) (by omega) hn ?_
    refine ls_arg (j := 2) (by decide +kernel) (by omega) hn ?_
    refine lt_callv (T := et_TT) (t := 13) (mi := 220) (na := 2) (ci := 11) (lk := 7) (lm := 3) (L0 := eg_en (eg_mL 220) [.ref am, .int (f (i + 1)), .int (f (i + 2))]) (by decide +kernel) rfl hH k_am rfl rfl rfl rfl rfl (by rw [show eg_mL 220 = 3 from by decide +kernel]; first | done | rfl) ?_
    have k_am1 := k_am
    have hrm0 := hrm
    refine ((er_p220_ok (K505, [], G505) [.ref am, .int (f (i + 1)), .int (f (i + 2))] _ hH (by omega) rfl (ht_ac (.inr ⟨by decide, _, rfl, k_am⟩) (ht_ac hi_any (ht_ac hi_any ht_an)))).and (fm_made hH k_am hrm.1.1 hrm.2.1.1 (hrm.2.2 (2, 3) (by decide)).1 b3 (hrm.2.2 (0, 0) (by decide)).1 b0 (by omega))).mono (fun u hu => ls_cbvQ hu (fun v523 K523 G523 c523 s523 x523 f523 hH hv523 cl523 sl523 hQ => ?_))
    obtain ⟨w_, eu, hQ⟩ := hQ
    cases eu
    have hyw := hyw.fr k_th hrc.1.1 hrc.1.2.1 hrm.1.1 hrm.1.2 x523 f523 (by decide +kernel)
    have hci := hci.fr x523 f523 (by decide +kernel)
    have h3 := (f523.2 th 12 k_th 3 rfl).trans h3
    have hl := (f523.2 rd 7 k_rd 1 rfl).trans hl
    have hm := (f523.2 am 13 k_am 5 rfl).trans hm
    have hp := (f523.2 th 12 k_th 2 rfl).trans hp
    have hg := (f523.2 am 13 k_am 3 rfl).trans hg
    have htC := htC.fr k_rd x523 f523 (by decide +kernel)
    have htM := htM.fr k_am x523 f523 (by decide +kernel)
    have hrc := hrc.fr k_th x523 f523 (by decide +kernel)
    have k_th := x523 _ _ k_th
    have k_am := x523 _ _ k_am
    have k_out := x523 _ _ k_out
    have k_rd := x523 _ _ k_rd
    rcases hQ with ⟨cx2, ht, z0⟩ | ⟨cx2, cy2, ht, z0⟩ | ⟨cx2, cy2, r4, ht, z0⟩ | ⟨cx2, cy2, r4, ev2, ht, z0⟩
    · exact absurd cx cx2
    · have hrm := hrm0.upf k_am1 x523 f523 z0 (by decide +kernel)
      have hbc := rc_upb (k := 3) (v := cn 3) hbc (by omega)
      show et_go _ _ 1000 526 [some (.ref 150), some (.ref th), some (.ref am), some (.ref out), some (.int (Int32.ofNat i)), some (.int (Int32.ofNat 2)), x6] [.int w_] _ ((ck + c505) + c523) ((sk + s505) + s523) _
      refine ls_istore (i := 6) (p := 528) (by decide +kernel) (Nat.le_of_ble_eq_true rfl) ?_
      refine ls_goto (p := 1656) (by decide +kernel) ?_
      exact hN _ _ c h _ _ _ _ _ _ ⟨⟨hH, hci, k_th, k_am, k_out, h3, k_rd, hl, hm, hc⟩, ⟨hh1, hp, hg⟩, hrc, hrm, hbc, hbi, hyw, _, htC, htM, htb⟩ (by omega) (by omega)
    · exact absurd cy2 cy
    · exact absurd cy2 cy
  · cases ev
    have hrc := hrc0.upf k_th0 x505 f505 q0 w1 (by decide +kernel)
    show et_go _ _ 1000 508 [some (.ref 150), some (.ref th), some (.ref am), some (.ref out), some (.int (Int32.ofNat i)), x5, x6] [.int (Int32.ofNat 3)] _ (ck + c505) (sk + s505) _
    refine ls_istore (i := 5) (p := 510) (by decide +kernel) (Nat.le_of_ble_eq_true rfl) ?_
    refine ls_aload (i := 2) (p := 511) (by decide +kernel) rfl ?_
    refine ls_arg (j := 1) (by decide +kernel) (by omega) hn ?_
    refine ls_arg (j := 2) (by decide +kernel) (by omega) hn ?_
    refine lt_callv (T := et_TT) (t := 13) (mi := 220) (na := 2) (ci := 11) (lk := 7) (lm := 3) (L0 := eg_en (eg_mL 220) [.ref am, .int (f (i + 1)), .int (f (i + 2))]) (by decide +kernel) rfl hH k_am rfl rfl rfl rfl rfl (by rw [show eg_mL 220 = 3 from by decide +kernel]; first | done | rfl) ?_
    have k_am1 := k_am
    have hrm0 := hrm
    refine ((er_p220_ok (K505, [], G505) [.ref am, .int (f (i + 1)), .int (f (i + 2))] _ hH (by omega) rfl (ht_ac (.inr ⟨by decide, _, rfl, k_am⟩) (ht_ac hi_any (ht_ac hi_any ht_an)))).and (fm_made hH k_am hrm.1.1 hrm.2.1.1 (hrm.2.2 (2, 3) (by decide)).1 b3 (hrm.2.2 (0, 0) (by decide)).1 b0 (by omega))).mono (fun u hu => ls_cbvQ hu (fun v523 K523 G523 c523 s523 x523 f523 hH hv523 cl523 sl523 hQ => ?_))
    obtain ⟨w_, eu, hQ⟩ := hQ
    cases eu
    have hyw := hyw.fr k_th hrc.1.1 hrc.1.2.1 hrm.1.1 hrm.1.2 x523 f523 (by decide +kernel)
    have hci := hci.fr x523 f523 (by decide +kernel)
    have h3 := (f523.2 th 12 k_th 3 rfl).trans h3
    have hl := (f523.2 rd 7 k_rd 1 rfl).trans hl
    have hm := (f523.2 am 13 k_am 5 rfl).trans hm
    have hp := (f523.2 th 12 k_th 2 rfl).trans hp
    have hg := (f523.2 am 13 k_am 3 rfl).trans hg
    have htC := htC.fr k_rd x523 f523 (by decide +kernel)
    have htM := htM.fr k_am x523 f523 (by decide +kernel)
    have hrc := hrc.fr k_th x523 f523 (by decide +kernel)
    have k_th := x523 _ _ k_th
    have k_am := x523 _ _ k_am
    have k_out := x523 _ _ k_out
    have k_rd := x523 _ _ k_rd
    rcases hQ with ⟨cx2, ht, z0⟩ | ⟨cx2, cy2, ht, z0⟩ | ⟨cx2, cy2, r4, ht, z0⟩ | ⟨cx2, cy2, r4, ev2, ht, z0⟩
    · exact absurd cx cx2
    · exact absurd cy cy2
    · have hrm := hrm0.upf k_am1 x523 f523 z0 (by decide +kernel)
      have hbc := rc_upb (k := 3) (v := cn 3) hbc (by omega)
      show et_go _ _ 1000 526 [some (.ref 150), some (.ref th), some (.ref am), some (.ref out), some (.int (Int32.ofNat i)), some (.int (Int32.ofNat 3)), x6] [.int w_] _ ((ck + c505) + c523) ((sk + s505) + s523) _
      refine ls_istore (i := 6) (p := 528) (by decide +kernel) (Nat.le_of_ble_eq_true rfl) ?_
      refine ls_goto (p := 1656) (by decide +kernel) ?_
      exact hN _ _ c h _ _ _ _ _ _ ⟨⟨hH, hci, k_th, k_am, k_out, h3, k_rd, hl, hm, hc⟩, ⟨hh1, hp, hg⟩, hrc, hrm, hbc, hbi, hyw, _, htC, htM, htb⟩ (by omega) (by omega)
    · exact absurd c4 (by omega)
  · cases ev
    have hrc := hrc0.upf k_th0 x505 f505 q0 w1 (by decide +kernel)
    show et_go _ _ 1000 508 [some (.ref 150), some (.ref th), some (.ref am), some (.ref out), some (.int (Int32.ofNat i)), x5, x6] [.int (Int32.ofNat 0)] _ (ck + c505) (sk + s505) _
    refine ls_istore (i := 5) (p := 510) (by decide +kernel) (Nat.le_of_ble_eq_true rfl) ?_
    refine ls_aload (i := 2) (p := 511) (by decide +kernel) rfl ?_
    refine ls_arg (j := 1) (by decide +kernel) (by omega) hn ?_
    refine ls_arg (j := 2) (by decide +kernel) (by omega) hn ?_
    refine lt_callv (T := et_TT) (t := 13) (mi := 220) (na := 2) (ci := 11) (lk := 7) (lm := 3) (L0 := eg_en (eg_mL 220) [.ref am, .int (f (i + 1)), .int (f (i + 2))]) (by decide +kernel) rfl hH k_am rfl rfl rfl rfl rfl (by rw [show eg_mL 220 = 3 from by decide +kernel]; first | done | rfl) ?_
    have k_am1 := k_am
    have hrm0 := hrm
    refine ((er_p220_ok (K505, [], G505) [.ref am, .int (f (i + 1)), .int (f (i + 2))] _ hH (by omega) rfl (ht_ac (.inr ⟨by decide, _, rfl, k_am⟩) (ht_ac hi_any (ht_ac hi_any ht_an)))).and (fm_made hH k_am hrm.1.1 hrm.2.1.1 (hrm.2.2 (2, 3) (by decide)).1 b3 (hrm.2.2 (0, 0) (by decide)).1 b0 (by omega))).mono (fun u hu => ls_cbvQ hu (fun v523 K523 G523 c523 s523 x523 f523 hH hv523 cl523 sl523 hQ => ?_))
    obtain ⟨w_, eu, hQ⟩ := hQ
    cases eu
    have hyw := hyw.fr k_th hrc.1.1 hrc.1.2.1 hrm.1.1 hrm.1.2 x523 f523 (by decide +kernel)
    have hci := hci.fr x523 f523 (by decide +kernel)
    have h3 := (f523.2 th 12 k_th 3 rfl).trans h3
    have hl := (f523.2 rd 7 k_rd 1 rfl).trans hl
    have hm := (f523.2 am 13 k_am 5 rfl).trans hm
    have hp := (f523.2 th 12 k_th 2 rfl).trans hp
    have hg := (f523.2 am 13 k_am 3 rfl).trans hg
    have htC := htC.fr k_rd x523 f523 (by decide +kernel)
    have htM := htM.fr k_am x523 f523 (by decide +kernel)
    have hrc := hrc.fr k_th x523 f523 (by decide +kernel)
    have ho := (f523.2 out 31 k_out 0 rfl).trans ho
    have k_th := x523 _ _ k_th
    have k_am := x523 _ _ k_am
    have k_out := x523 _ _ k_out
    have k_rd := x523 _ _ k_rd
    rcases hQ with ⟨cx2, ht, z0⟩ | ⟨cx2, cy2, ht, z0⟩ | ⟨cx2, cy2, r4, ht, z0⟩ | ⟨cx2, cy2, r4, ev2, ht, z0⟩
    · exact absurd cx cx2
    · exact absurd cy cy2
    · exact absurd c4 (by omega)
    · cases ev2
      have hrm := hrm0.upf k_am1 x523 f523 z0 (by decide +kernel)
      have hbc := rc_upb (k := 3) (v := cn 3 + 1) hbc (by omega)
      show et_go _ _ 1000 526 [some (.ref 150), some (.ref th), some (.ref am), some (.ref out), some (.int (Int32.ofNat i)), some (.int (Int32.ofNat 0)), x6] [.int (Int32.ofNat (cn 3))] _ ((ck + c505) + c523) ((sk + s505) + s523) _
      refine ls_istore (i := 6) (p := 528) (by decide +kernel) (Nat.le_of_ble_eq_true rfl) ?_
      refine ls_goto (p := 1656) (by decide +kernel) ?_
      exact hN _ _ c h _ _ _ _ _ _ ⟨⟨hH, hci, k_th, k_am, k_out, h3, k_rd, hl, hm, hc⟩, ⟨hh1, hp, hg⟩, hrc, hrm, hbc, hbi, hyw, _, htC, htM, htb⟩ (by omega) (by omega)
set_option maxHeartbeats 2000000 in
theorem lw_c9 (hI : lw_I K G th am out rd s0 s1 aw ai tp ba na tm c h cn im) (hi : i + 6 ≤ n) (hn : n ≤ 3072) (hN : ∀ (K' : et_K) (G' : eg_G) (c' h' : Nat) (cn' im' : Nat → Nat) (ck' sk' : Nat) (y5 y6 : Option Value), lw_I K' G' th am out rd s0 s1 aw ai tp ba na tm c' h' cn' im' → ck' ≤ ck + 841 → sk' ≤ sk + 7168 → et_go (some (n, f)) (d + 41) 1000 1656 [some (.ref 150), some (.ref th), some (.ref am), some (.ref out), some (.int (Int32.ofNat i)), y5, y6] [] G' ck' sk' Z) : et_go (some (n, f)) (d + 41) 1000 531 [some (.ref 150), some (.ref th), some (.ref am), some (.ref out), some (.int (Int32.ofNat i)), x5, x6] [] G ck sk Z := by
  obtain ⟨⟨hH, hci, k_th, k_am, k_out, h3, k_rd, hl, hm, hc⟩, ⟨hh1, hp, hg⟩, hrc, hrm, hbc, hbi, hyw, tb, htC, htM, htb⟩ := hI
  refine ls_aload (i := 1) (p := 532) (by decide +kernel) rfl ?_
  refine lt_callv (T := et_TT) (t := 12) (mi := 119) (na := 0) (ci := 10) (lk := 7) (lm := 1) (L0 := eg_en (eg_mL 119) [.ref th]) (by decide +kernel) rfl hH k_th rfl rfl rfl rfl rfl (by rw [show eg_mL 119 = 1 from by decide +kernel]; first | done | rfl) ?_
  have b3 : cn 3 ≤ 20 := Int.ofNat_le.mp (hf_bd (t := 10) hH hrc.1.1 rfl rfl (hrc.2.2 (2, 3) (by decide)).1 (hbc 3))
  have hH0 := hH
  have k_th0 := k_th
  have k_out0 := k_out
  have k_rd0 := k_rd
  have k_am0 := k_am
  have hrc0 := hrc
  have hrm0 := hrm
  refine ((ek_p119_ok (K, [], G) [.ref th] _ hH (by omega) rfl (ht_ac (.inr ⟨by decide, _, rfl, k_th⟩) ht_an)).and (fc_away hH k_th hrc.2.1.1 hrc.1.1 (hrc.2.2 (2, 3) (by decide)).1 b3)).mono (fun u hu => ls_cbvQ hu (fun v532 K532 G532 c532 s532 x532 f532 hH hv532 cl532 sl532 hQ => ?_))
  obtain ⟨_, _, eu, -, hxf, hQ⟩ := hQ
  cases eu
  have hyw := hyw.fr k_th hrc.1.1 hrc.1.2.1 hrm.1.1 hrm.1.2 x532 f532 (by decide +kernel)
  have hci := hci.fr x532 f532 (by decide +kernel)
  have h3 := (f532.2 th 12 k_th 3 rfl).trans h3
  have hl := (f532.2 rd 7 k_rd 1 rfl).trans hl
  have hm := (f532.2 am 13 k_am 5 rfl).trans hm
  have hp := (f532.2 th 12 k_th 2 rfl).trans hp
  have hg := (f532.2 am 13 k_am 3 rfl).trans hg
  have htC := htC.fr k_rd x532 f532 (by decide +kernel)
  have htM := htM.fr k_am x532 f532 (by decide +kernel)
  have hrm := hrm.fr k_am x532 f532 (by decide +kernel)
  have k_th := x532 _ _ k_th
  have k_am := x532 _ _ k_am
  have k_out := x532 _ _ k_out
  have k_rd := x532 _ _ k_rd
  have k_z := hrc0.1.2.1
  have w1 : et_pl (eg_at G532 s1) 2 = some (.int (Int32.ofNat (im 3))) := (hxf.2 s1 2 (hH0.2.2 _ _ hrc0.1.2.1).1 (fun h => by rcases h with h | h <;> first | exact hrc0.1.2.2 h.1.symm | (have h := h.1; rw [h] at k_z; first | (rw [k_th0] at k_z; cases k_z)))).trans (hrc0.2.2 (2, 3) (by decide)).2
  rcases hQ with ⟨c4, ev, q0⟩ | ⟨c4, ev, q0⟩
  · cases ev
    have hrc := hrc0.upf k_th0 x532 f532 q0 w1 (by decide +kernel)
    show et_go _ _ 1000 535 [some (.ref 150), some (.ref th), some (.ref am), some (.ref out), some (.int (Int32.ofNat i)), x5, x6] [.int (-1)] _ ck sk _
    refine ls_pop (p := 536) (by decide +kernel) ?_
    refine ls_aload (i := 2) (p := 537) (by decide +kernel) rfl ?_
    refine lt_callv (T := et_TT) (t := 13) (mi := 221) (na := 0) (ci := 11) (lk := 7) (lm := 1) (L0 := eg_en (eg_mL 221) [.ref am]) (by decide +kernel) rfl hH k_am rfl rfl rfl rfl rfl (by rw [show eg_mL 221 = 1 from by decide +kernel]; first | done | rfl) ?_
    have k_am1 := k_am
    have hrm0 := hrm
    refine ((er_p221_ok (K532, [], G532) [.ref am] _ hH (by omega) rfl (ht_ac (.inr ⟨by decide, _, rfl, k_am⟩) ht_an)).and (fm_away hH k_am hrm.1.1 hrm.2.1.1 (hrm.2.2 (2, 3) (by decide)).1 b3)).mono (fun u hu => ls_cbvQ hu (fun v537 K537 G537 c537 s537 x537 f537 hH hv537 cl537 sl537 hQ => ?_))
    obtain ⟨_, _, eu, -, hxf, ht, hQ⟩ := hQ
    cases eu
    have hyw := hyw.fr k_th hrc.1.1 hrc.1.2.1 hrm.1.1 hrm.1.2 x537 f537 (by decide +kernel)
    have hci := hci.fr x537 f537 (by decide +kernel)
    have h3 := (f537.2 th 12 k_th 3 rfl).trans h3
    have hl := (f537.2 rd 7 k_rd 1 rfl).trans hl
    have hm := (f537.2 am 13 k_am 5 rfl).trans hm
    have hp := (f537.2 th 12 k_th 2 rfl).trans hp
    have hg := (f537.2 am 13 k_am 3 rfl).trans hg
    have htC := htC.fr k_rd x537 f537 (by decide +kernel)
    have htM := htM.fr k_am x537 f537 (by decide +kernel)
    have hrc := hrc.fr k_th x537 f537 (by decide +kernel)
    have k_th := x537 _ _ k_th
    have k_am := x537 _ _ k_am
    have k_out := x537 _ _ k_out
    have k_rd := x537 _ _ k_rd
    rcases hQ with ⟨r4, ev2, z0⟩ | ⟨r4, ev2, z0⟩
    · cases ev2
      have hrm := hrm0.upf k_am1 x537 f537 z0 (by decide +kernel)
      have hbc := rc_upb (k := 3) (v := cn 3) hbc (by omega)
      show et_go _ _ 1000 540 [some (.ref 150), some (.ref th), some (.ref am), some (.ref out), some (.int (Int32.ofNat i)), x5, x6] [.int (-1)] _ ck sk _
      refine ls_pop (p := 541) (by decide +kernel) ?_
      refine ls_goto (p := 1656) (by decide +kernel) ?_
      exact hN _ _ c h _ _ _ _ _ _ ⟨⟨hH, hci, k_th, k_am, k_out, h3, k_rd, hl, hm, hc⟩, ⟨hh1, hp, hg⟩, hrc, hrm, hbc, hbi, hyw, _, htC, htM, htb⟩ (by omega) (by omega)
    · exact absurd c4 r4
  · cases ev
    have hrc := hrc0.upf k_th0 x532 f532 q0 w1 (by decide +kernel)
    show et_go _ _ 1000 535 [some (.ref 150), some (.ref th), some (.ref am), some (.ref out), some (.int (Int32.ofNat i)), x5, x6] [.int (Int32.ofNat (cn 3 - 1))] _ ck sk _
    refine ls_pop (p := 536) (by decide +kernel) ?_
    refine ls_aload (i := 2) (p := 537) (by decide +kernel) rfl ?_
    refine lt_callv (T := et_TT) (t := 13) (mi := 221) (na := 0) (ci := 11) (lk := 7) (lm := 1) (L0 := eg_en (eg_mL 221) [.ref am]) (by decide +kernel) rfl hH k_am rfl rfl rfl rfl rfl (by rw [show eg_mL 221 = 1 from by decide +kernel]; first | done | rfl) ?_
    have k_am1 := k_am
    have hrm0 := hrm
    refine ((er_p221_ok (K532, [], G532) [.ref am] _ hH (by omega) rfl (ht_ac (.inr ⟨by decide, _, rfl, k_am⟩) ht_an)).and (fm_away hH k_am hrm.1.1 hrm.2.1.1 (hrm.2.2 (2, 3) (by decide)).1 b3)).mono (fun u hu => ls_cbvQ hu (fun v537 K537 G537 c537 s537 x537 f537 hH hv537 cl537 sl537 hQ => ?_))
    obtain ⟨_, _, eu, -, hxf, ht, hQ⟩ := hQ
    cases eu
    have hyw := hyw.fr k_th hrc.1.1 hrc.1.2.1 hrm.1.1 hrm.1.2 x537 f537 (by decide +kernel)
    have hci := hci.fr x537 f537 (by decide +kernel)
    have h3 := (f537.2 th 12 k_th 3 rfl).trans h3
    have hl := (f537.2 rd 7 k_rd 1 rfl).trans hl
    have hm := (f537.2 am 13 k_am 5 rfl).trans hm
    have hp := (f537.2 th 12 k_th 2 rfl).trans hp
    have hg := (f537.2 am 13 k_am 3 rfl).trans hg
    have htC := htC.fr k_rd x537 f537 (by decide +kernel)
    have htM := htM.fr k_am x537 f537 (by decide +kernel)
    have hrc := hrc.fr k_th x537 f537 (by decide +kernel)
    have k_th := x537 _ _ k_th
    have k_am := x537 _ _ k_am
    have k_out := x537 _ _ k_out
    have k_rd := x537 _ _ k_rd
    rcases hQ with ⟨r4, ev2, z0⟩ | ⟨r4, ev2, z0⟩
    · exact absurd r4 c4
    · cases ev2
      have hrm := hrm0.upf k_am1 x537 f537 z0 (by decide +kernel)
      have hbc := rc_upb (k := 3) (v := cn 3 - 1) hbc (by omega)
      show et_go _ _ 1000 540 [some (.ref 150), some (.ref th), some (.ref am), some (.ref out), some (.int (Int32.ofNat i)), x5, x6] [.int (Int32.ofNat (cn 3 - 1))] _ ck sk _
      refine ls_pop (p := 541) (by decide +kernel) ?_
      refine ls_goto (p := 1656) (by decide +kernel) ?_
      exact hN _ _ c h _ _ _ _ _ _ ⟨⟨hH, hci, k_th, k_am, k_out, h3, k_rd, hl, hm, hc⟩, ⟨hh1, hp, hg⟩, hrc, hrm, hbc, hbi, hyw, _, htC, htM, htb⟩ (by omega) (by omega)
set_option maxHeartbeats 2000000 in
theorem lw_c10 (hI : lw_I K G th am out rd s0 s1 aw ai tp ba na tm c h cn im) (hi : i + 6 ≤ n) (hn : n ≤ 3072) (hN : ∀ (K' : et_K) (G' : eg_G) (c' h' : Nat) (cn' im' : Nat → Nat) (ck' sk' : Nat) (y5 y6 : Option Value), lw_I K' G' th am out rd s0 s1 aw ai tp ba na tm c' h' cn' im' → ck' ≤ ck + 841 → sk' ≤ sk + 7168 → et_go (some (n, f)) (d + 41) 1000 1656 [some (.ref 150), some (.ref th), some (.ref am), some (.ref out), some (.int (Int32.ofNat i)), y5, y6] [] G' ck' sk' Z) : et_go (some (n, f)) (d + 41) 1000 544 [some (.ref 150), some (.ref th), some (.ref am), some (.ref out), some (.int (Int32.ofNat i)), x5, x6] [] G ck sk Z := by
  obtain ⟨⟨hH, hci, k_th, k_am, k_out, h3, k_rd, hl, hm, hc⟩, ⟨hh1, hp, hg⟩, hrc, hrm, hbc, hbi, hyw, tb, htC, htM, htb⟩ := hI
  refine ls_aload (i := 1) (p := 545) (by decide +kernel) rfl ?_
  refine ls_aload (i := 3) (p := 546) (by decide +kernel) rfl ?_
  refine ls_calls (mi := 6) (na := 2) (lk := 7) (lm := 3) (L0 := eg_en (eg_mL 6) [.ref th, .ref out]) (by decide +kernel) rfl rfl rfl rfl rfl rfl (by rw [show eg_mL 6 = 3 from by decide +kernel]; first | done | rfl) ?_
  have h5 : et_pl (eg_at G s0) 5 = some (.int (Int32.ofNat (cn 4))) := (hrc.2.2 (5, 4) (by decide)).1
  have he : cn 4 ≤ 3 := Int.ofNat_le.mp (hf_bd (t := 10) hH hrc.1.1 rfl rfl h5 (hbc 4))
  have hH0 := hH
  have k_th0 := k_th
  have k_out0 := k_out
  refine ((hh_i6 hH hci k_th k_out (by omega)).and (fh_eye hH k_th k_out hrc.2.1.1 hrc.1.1 h5 he (by omega))).mono (fun u hu => ls_cbrQ hu (fun v546 K546 G546 c546 s546 x546 f546 hH hci hP cl546 sl546 hQ => ?_))
  obtain ⟨_, _, _, _, eu, -, hxf, hQ⟩ := hQ
  cases eu
  have hyw := hyw.fr k_th hrc.1.1 hrc.1.2.1 hrm.1.1 hrm.1.2 x546 f546 (by decide +kernel)
  have h3 := (f546.2 th 12 k_th 3 rfl).trans h3
  have hl := (f546.2 rd 7 k_rd 1 rfl).trans hl
  have hm := (f546.2 am 13 k_am 5 rfl).trans hm
  have hp := (f546.2 th 12 k_th 2 rfl).trans hp
  have hg := (f546.2 am 13 k_am 3 rfl).trans hg
  have htC := htC.fr k_rd x546 f546 (by decide +kernel)
  have htM := htM.fr k_am x546 f546 (by decide +kernel)
  have hrm := hrm.fr k_am x546 f546 (by decide +kernel)
  have k_th := x546 _ _ k_th
  have k_am := x546 _ _ k_am
  have k_out := x546 _ _ k_out
  have k_rd := x546 _ _ k_rd
  have hS0 : ∀ a j t, K a = some t → ((a = s0 ∧ j = 5) ∨ (a = out ∧ j = 0)) → (t = 12 → 2 ≤ j) ∧ (t = 10 → a = s0 ∧ j = 5) := by
    intro a j t ha h
    rcases h with ⟨ea, ej⟩ | ⟨ea, ej⟩
    · rw [ea, hrc.1.1] at ha; cases ha; exact ⟨fun h => absurd h (by decide), fun _ => ⟨ea, ej⟩⟩
    · rw [ea, k_out0] at ha; cases ha; exact ⟨fun h => absurd h (by decide), fun h => absurd h (by decide)⟩
  rcases hQ with ⟨he1, ev, ho, h5⟩ | ⟨he1, ev, h5⟩
  · cases ev
    have hrc := hrc.up hH0 k_th0 x546 hxf hS0 h5 (k0 := 4) (by decide)
    show et_go _ _ 1000 549 [some (.ref 150), some (.ref th), some (.ref am), some (.ref out), some (.int (Int32.ofNat i)), x5, x6] [.int (Int32.ofNat 0)] _ (ck + c546) (sk + s546) _
    refine ls_istore (i := 5) (p := 551) (by decide +kernel) (Nat.le_of_ble_eq_true rfl) ?_
    refine ls_aload (i := 2) (p := 552) (by decide +kernel) rfl ?_
    refine lt_callv (T := et_TT) (t := 13) (mi := 222) (na := 0) (ci := 11) (lk := 7) (lm := 3) (L0 := eg_en (eg_mL 222) [.ref am]) (by decide +kernel) rfl hH k_am rfl rfl rfl rfl rfl (by rw [show eg_mL 222 = 3 from by decide +kernel]; first | done | rfl) ?_
    have h4 : et_pl (eg_at G546 aw) 4 = some (.int (Int32.ofNat (cn 4))) := (hrm.2.2 (5, 4) (by decide)).1
    have hH1 := hH
    have k_am0 := k_am
    obtain ⟨sp_, ya_, yb_, E_, F_, cw, iw, y1, y2, y3, ⟨y4, y5⟩, ⟨y6, y7⟩, y8, y9⟩ := hyw
    refine ((er_p222_ok (K546, [], G546) [.ref am] _ hH (by omega) rfl (ht_ac (.inr ⟨by decide, _, rfl, k_am⟩) ht_an)).and ((fm_eye hH k_am hrm.1.1 hrm.2.1.1 h4 he (by omega)).and (fm_eyeV hH k_am hrm.1.1 hrm.2.1.1 h4 he y4 (fun h => y8 _ h (Nat.le_refl _)) (by omega)))).mono (fun u hu => ls_cbvQ (Q := fun u => xw_Z _ _ _ _ u ∧ vz u.2.1 aw cw) hu (fun v552 K552 G552 c552 s552 x552 f552 hH hv552 cl552 sl552 hQ => ?_))
    obtain ⟨⟨_, _, eu, -, hxf, hQ⟩, hqz⟩ := hQ
    cases eu
    have y3 := y3.fr y1 f552 (by decide +kernel)
    have y2 := y2.fr y1 k_th hrc.1.1 hrc.1.2.1 f552 (by decide +kernel)
    have y5 := y5.fr hrm.1.2 f552 (by decide +kernel)
    have y1 := y1.ex x552
    have hyw : yw K552 G552 th s0 s1 aw ai (cn 4) (im 4) := ⟨sp_, ya_, yb_, E_, F_, cw, iw, y1, y2, y3, ⟨hqz, y5⟩, ⟨y6, y7⟩, y8, y9⟩
    have hci := hci.fr x552 f552 (by decide +kernel)
    have h3 := (f552.2 th 12 k_th 3 rfl).trans h3
    have hl := (f552.2 rd 7 k_rd 1 rfl).trans hl
    have hm := (f552.2 am 13 k_am 5 rfl).trans hm
    have hp := (f552.2 th 12 k_th 2 rfl).trans hp
    have hg := (f552.2 am 13 k_am 3 rfl).trans hg
    have htC := htC.fr k_rd x552 f552 (by decide +kernel)
    have htM := htM.fr k_am x552 f552 (by decide +kernel)
    have hrc := hrc.fr k_th x552 f552 (by decide +kernel)
    have ho := (f552.2 out 31 k_out 0 rfl).trans ho
    have k_th := x552 _ _ k_th
    have k_am := x552 _ _ k_am
    have k_out := x552 _ _ k_out
    have k_rd := x552 _ _ k_rd
    have hS1 : ∀ a j t, K546 a = some t → ((a = am ∧ j = 0) ∨ (a = aw ∧ j = 4) ∨ (a = aw ∧ 45 ≤ j ∧ j ≤ 113)) → (t = 13 → j = 0 ∨ 3 ≤ j) ∧ ((t = 46 → j = 4 ∨ 5 ≤ j) ∧ ¬ t = 47) := by
      intro a j t ha h
      rcases h with ⟨ea, ej⟩ | ⟨ea, ej⟩ | ⟨ea, ej⟩
      · rw [ea, k_am0] at ha; cases ha; exact ⟨fun _ => .inl ej, fun h => absurd h (by decide), by decide⟩
      · rw [ea, hrm.1.1] at ha; cases ha; exact ⟨fun h => absurd h (by decide), fun _ => .inl ej, by decide⟩
      · rw [ea, hrm.1.1] at ha; cases ha; exact ⟨fun h => absurd h (by decide), fun _ => .inr (by omega), by decide⟩
    rcases hQ with ⟨he2, ev, ht, h4⟩ | ⟨he2, ht, h4⟩
    · cases ev
      have hrm := hrm.up hH1 k_am0 x552 hxf hS1 h4 (by decide)
      have hbc := rc_upb (k := 4) (v := cn 4 + 1) hbc (by omega)
      have hyw := hyw.le (Nat.le_succ (cn 4))
      show et_go _ _ 1000 555 [some (.ref 150), some (.ref th), some (.ref am), some (.ref out), some (.int (Int32.ofNat i)), some (.int (Int32.ofNat 0)), x6] [.int (Int32.ofNat (cn 4))] _ (ck + c546) (sk + s546) _
      refine ls_istore (i := 6) (p := 557) (by decide +kernel) (Nat.le_of_ble_eq_true rfl) ?_
      refine ls_goto (p := 1656) (by decide +kernel) ?_
      exact hN _ _ c h _ _ _ _ _ _ ⟨⟨hH, hci, k_th, k_am, k_out, h3, k_rd, hl, hm, hc⟩, ⟨hh1, hp, hg⟩, hrc, hrm, hbc, hbi, hyw, _, htC, htM, htb⟩ (by omega) (by omega)
    · exact absurd he1 he2
  · cases ev
    have hrc := hrc.up hH0 k_th0 x546 hxf hS0 h5 (k0 := 4) (by decide)
    show et_go _ _ 1000 549 [some (.ref 150), some (.ref th), some (.ref am), some (.ref out), some (.int (Int32.ofNat i)), x5, x6] [.int (Int32.ofNat 1)] _ (ck + c546) (sk + s546) _
    refine ls_istore (i := 5) (p := 551) (by decide +kernel) (Nat.le_of_ble_eq_true rfl) ?_
    refine ls_aload (i := 2) (p := 552) (by decide +kernel) rfl ?_
    refine lt_callv (T := et_TT) (t := 13) (mi := 222) (na := 0) (ci := 11) (lk := 7) (lm := 3) (L0 := eg_en (eg_mL 222) [.ref am]) (by decide +kernel) rfl hH k_am rfl rfl rfl rfl rfl (by rw [show eg_mL 222 = 3 from by decide +kernel]; first | done | rfl) ?_
    have h4 : et_pl (eg_at G546 aw) 4 = some (.int (Int32.ofNat (cn 4))) := (hrm.2.2 (5, 4) (by decide)).1
    have hH1 := hH
    have k_am0 := k_am
    obtain ⟨sp_, ya_, yb_, E_, F_, cw, iw, y1, y2, y3, ⟨y4, y5⟩, ⟨y6, y7⟩, y8, y9⟩ := hyw
    refine ((er_p222_ok (K546, [], G546) [.ref am] _ hH (by omega) rfl (ht_ac (.inr ⟨by decide, _, rfl, k_am⟩) ht_an)).and ((fm_eye hH k_am hrm.1.1 hrm.2.1.1 h4 he (by omega)).and (fm_eyeV hH k_am hrm.1.1 hrm.2.1.1 h4 he y4 (fun h => y8 _ h (Nat.le_refl _)) (by omega)))).mono (fun u hu => ls_cbvQ (Q := fun u => xw_Z _ _ _ _ u ∧ vz u.2.1 aw cw) hu (fun v552 K552 G552 c552 s552 x552 f552 hH hv552 cl552 sl552 hQ => ?_))
    obtain ⟨⟨_, _, eu, -, hxf, hQ⟩, hqz⟩ := hQ
    cases eu
    have y3 := y3.fr y1 f552 (by decide +kernel)
    have y2 := y2.fr y1 k_th hrc.1.1 hrc.1.2.1 f552 (by decide +kernel)
    have y5 := y5.fr hrm.1.2 f552 (by decide +kernel)
    have y1 := y1.ex x552
    have hyw : yw K552 G552 th s0 s1 aw ai (cn 4) (im 4) := ⟨sp_, ya_, yb_, E_, F_, cw, iw, y1, y2, y3, ⟨hqz, y5⟩, ⟨y6, y7⟩, y8, y9⟩
    have hci := hci.fr x552 f552 (by decide +kernel)
    have h3 := (f552.2 th 12 k_th 3 rfl).trans h3
    have hl := (f552.2 rd 7 k_rd 1 rfl).trans hl
    have hm := (f552.2 am 13 k_am 5 rfl).trans hm
    have hp := (f552.2 th 12 k_th 2 rfl).trans hp
    have hg := (f552.2 am 13 k_am 3 rfl).trans hg
    have htC := htC.fr k_rd x552 f552 (by decide +kernel)
    have htM := htM.fr k_am x552 f552 (by decide +kernel)
    have hrc := hrc.fr k_th x552 f552 (by decide +kernel)
    have k_th := x552 _ _ k_th
    have k_am := x552 _ _ k_am
    have k_out := x552 _ _ k_out
    have k_rd := x552 _ _ k_rd
    have hS1 : ∀ a j t, K546 a = some t → ((a = am ∧ j = 0) ∨ (a = aw ∧ j = 4) ∨ (a = aw ∧ 45 ≤ j ∧ j ≤ 113)) → (t = 13 → j = 0 ∨ 3 ≤ j) ∧ ((t = 46 → j = 4 ∨ 5 ≤ j) ∧ ¬ t = 47) := by
      intro a j t ha h
      rcases h with ⟨ea, ej⟩ | ⟨ea, ej⟩ | ⟨ea, ej⟩
      · rw [ea, k_am0] at ha; cases ha; exact ⟨fun _ => .inl ej, fun h => absurd h (by decide), by decide⟩
      · rw [ea, hrm.1.1] at ha; cases ha; exact ⟨fun h => absurd h (by decide), fun _ => .inl ej, by decide⟩
      · rw [ea, hrm.1.1] at ha; cases ha; exact ⟨fun h => absurd h (by decide), fun _ => .inr (by omega), by decide⟩
    rcases hQ with ⟨he2, ev, ht, h4⟩ | ⟨he2, ht, h4⟩
    · exact absurd he2 he1
    · obtain ⟨v552, rfl, -⟩ := hv552
      have hrm := hrm.up hH1 k_am0 x552 hxf hS1 h4 (by decide)
      have hbc := rc_upb (k := 4) (v := cn 4) hbc (by omega)
      show et_go _ _ 1000 555 [some (.ref 150), some (.ref th), some (.ref am), some (.ref out), some (.int (Int32.ofNat i)), some (.int (Int32.ofNat 1)), x6] [.int v552] _ (ck + c546) (sk + s546) _
      refine ls_istore (i := 6) (p := 557) (by decide +kernel) (Nat.le_of_ble_eq_true rfl) ?_
      refine ls_goto (p := 1656) (by decide +kernel) ?_
      exact hN _ _ c h _ _ _ _ _ _ ⟨⟨hH, hci, k_th, k_am, k_out, h3, k_rd, hl, hm, hc⟩, ⟨hh1, hp, hg⟩, hrc, hrm, hbc, hbi, hyw, _, htC, htM, htb⟩ (by omega) (by omega)
set_option maxHeartbeats 2000000 in
theorem lw_c11 (hI : lw_I K G th am out rd s0 s1 aw ai tp ba na tm c h cn im) (hi : i + 6 ≤ n) (hn : n ≤ 3072) (hN : ∀ (K' : et_K) (G' : eg_G) (c' h' : Nat) (cn' im' : Nat → Nat) (ck' sk' : Nat) (y5 y6 : Option Value), lw_I K' G' th am out rd s0 s1 aw ai tp ba na tm c' h' cn' im' → ck' ≤ ck + 841 → sk' ≤ sk + 7168 → et_go (some (n, f)) (d + 41) 1000 1656 [some (.ref 150), some (.ref th), some (.ref am), some (.ref out), some (.int (Int32.ofNat i)), y5, y6] [] G' ck' sk' Z) : et_go (some (n, f)) (d + 41) 1000 560 [some (.ref 150), some (.ref th), some (.ref am), some (.ref out), some (.int (Int32.ofNat i)), x5, x6] [] G ck sk Z := by
  obtain ⟨⟨hH, hci, k_th, k_am, k_out, h3, k_rd, hl, hm, hc⟩, ⟨hh1, hp, hg⟩, hrc, hrm, hbc, hbi, hyw, tb, htC, htM, htb⟩ := hI
  refine ls_aload (i := 1) (p := 561) (by decide +kernel) rfl ?_
  refine ls_arg (j := 1) (by decide +kernel) (by omega) hn ?_
  refine ls_arg (j := 2) (by decide +kernel) (by omega) hn ?_
  refine ls_arg (j := 3) (by decide +kernel) (by omega) hn ?_
  refine ls_aload (i := 3) (p := 580) (by decide +kernel) rfl ?_
  refine ls_calls (mi := 7) (na := 5) (lk := 7) (lm := 6) (L0 := eg_en (eg_mL 7) [.ref th, .int (f (i + 1)), .int (f (i + 2)), .int (f (i + 3)), .ref out]) (by decide +kernel) rfl rfl rfl rfl rfl rfl (by rw [show eg_mL 7 = 6 from by decide +kernel]; first | done | rfl) ?_
  have h5 : et_pl (eg_at G s0) 5 = some (.int (Int32.ofNat (cn 4))) := (hrc.2.2 (5, 4) (by decide)).1
  have he : cn 4 ≤ 3 := Int.ofNat_le.mp (hf_bd (t := 10) hH hrc.1.1 rfl rfl h5 (hbc 4))
  obtain ⟨sp_, ya_, yb_, E_, F_, cw, iw, y1, y2, y3, ⟨y4, y5⟩, ⟨y6, y7⟩, y8, y9⟩ := hyw
  refine ((hh_c7 (K, [], G) [.ref th, .int (f (i + 1)), .int (f (i + 2)), .int (f (i + 3)), .ref out] _ hH (by omega) rfl (ht_ac (.inr ⟨by decide, _, rfl, k_th⟩) (ht_ac hi_any (ht_ac hi_any (ht_ac hi_any (ht_ac (.inr ⟨by decide, _, rfl, k_out⟩) ht_an)))))).and (fh_wireE hH k_th k_out hrc.2.1.1 hrc.1.1 h5 he y1 y2 y3 y6 (by omega))).mono (fun u hu => ls_cbvQ (Q := wqC out (cn 4) (f (i + 1)) (f (i + 2)) (f (i + 3)) E_ F_ cw iw) hu (fun v580 K580 G580 c580 s580 x580 f580 hH hv580 cl580 sl580 hQ => ?_))
  have y2 := y2.fr y1 k_th hrc.1.1 hrc.1.2.1 f580 (by decide +kernel)
  have y4 := y4.fr hrm.1.1 f580 (by decide +kernel)
  have y5 := y5.fr hrm.1.2 f580 (by decide +kernel)
  have y1 := y1.ex x580
  have hci := hci.fr x580 f580 (by decide +kernel)
  have h3 := (f580.2 th 12 k_th 3 rfl).trans h3
  have hl := (f580.2 rd 7 k_rd 1 rfl).trans hl
  have hm := (f580.2 am 13 k_am 5 rfl).trans hm
  have hp := (f580.2 th 12 k_th 2 rfl).trans hp
  have hg := (f580.2 am 13 k_am 3 rfl).trans hg
  have htC := htC.fr k_rd x580 f580 (by decide +kernel)
  have htM := htM.fr k_am x580 f580 (by decide +kernel)
  have hrc := hrc.fr k_th x580 f580 (by decide +kernel)
  have hrm := hrm.fr k_am x580 f580 (by decide +kernel)
  have k_th := x580 _ _ k_th
  have k_am := x580 _ _ k_am
  have k_out := x580 _ _ k_out
  have k_rd := x580 _ _ k_rd
  rcases hQ with ⟨q1, ev, y3⟩ | ⟨n0, qx, qn, q6, ⟨q1, ev, y3⟩ | ⟨q1, q2, ev, y3⟩ | ⟨q1, q2, ev, ho, y3⟩⟩
  · cases ev
    show et_go _ _ 1000 583 [some (.ref 150), some (.ref th), some (.ref am), some (.ref out), some (.int (Int32.ofNat i)), x5, x6] [.int (Int32.ofNat 1)] _ (ck + c580) (sk + s580) _
    refine ls_istore (i := 5) (p := 585) (by decide +kernel) (Nat.le_of_ble_eq_true rfl) ?_
    refine ls_aload (i := 2) (p := 586) (by decide +kernel) rfl ?_
    refine ls_arg (j := 1) (by decide +kernel) (by omega) hn ?_
    refine ls_arg (j := 2) (by decide +kernel) (by omega) hn ?_
    refine ls_arg (j := 3) (by decide +kernel) (by omega) hn ?_
    refine lt_callv (T := et_TT) (t := 13) (mi := 223) (na := 3) (ci := 11) (lk := 7) (lm := 5) (L0 := eg_en (eg_mL 223) [.ref am, .int (f (i + 1)), .int (f (i + 2)), .int (f (i + 3))]) (by decide +kernel) rfl hH k_am rfl rfl rfl rfl rfl (by rw [show eg_mL 223 = 5 from by decide +kernel]; first | done | rfl) ?_
    have h4 : et_pl (eg_at G580 aw) 4 = some (.int (Int32.ofNat (cn 4))) := (hrm.2.2 (5, 4) (by decide)).1
    refine ((er_p223_ok (K580, [], G580) [.ref am, .int (f (i + 1)), .int (f (i + 2)), .int (f (i + 3))] _ hH (by omega) rfl (ht_ac (.inr ⟨by decide, _, rfl, k_am⟩) (ht_ac hi_any (ht_ac hi_any (ht_ac hi_any ht_an))))).and (fm_wireN hH k_am hrm.1.1 hrm.2.1.1 h4 he q1 y4 (by omega))).mono (fun u hu => ls_cbvQ (Q := fun u => u.1 = .inl (some (.int (Int32.ofNat 0))) ∧ et_pl (eg_at u.2.1 am) 0 = some (.int (Int32.ofNat 1)) ∧ vz u.2.1 aw cw) hu (fun v604 K604 G604 c604 s604 x604 f604 hH hv604 cl604 sl604 hQ => ?_))
    have y2 := y2.fr y1 k_th hrc.1.1 hrc.1.2.1 f604 (by decide +kernel)
    have y3 := y3.fr y1 f604 (by decide +kernel)
    have y5 := y5.fr hrm.1.2 f604 (by decide +kernel)
    have y1 := y1.ex x604
    have hci := hci.fr x604 f604 (by decide +kernel)
    have h3 := (f604.2 th 12 k_th 3 rfl).trans h3
    have hl := (f604.2 rd 7 k_rd 1 rfl).trans hl
    have hm := (f604.2 am 13 k_am 5 rfl).trans hm
    have hp := (f604.2 th 12 k_th 2 rfl).trans hp
    have hg := (f604.2 am 13 k_am 3 rfl).trans hg
    have htC := htC.fr k_rd x604 f604 (by decide +kernel)
    have htM := htM.fr k_am x604 f604 (by decide +kernel)
    have hrc := hrc.fr k_th x604 f604 (by decide +kernel)
    have hrm := hrm.fr k_am x604 f604 (by decide +kernel)
    have k_th := x604 _ _ k_th
    have k_am := x604 _ _ k_am
    have k_out := x604 _ _ k_out
    have k_rd := x604 _ _ k_rd
    · obtain ⟨ev2, ht, y4⟩ := hQ
      cases ev2
      have hyw : yw K604 G604 th s0 s1 aw ai (cn 4) (im 4) := ⟨sp_, ya_, yb_, E_, F_, cw, iw, y1, y2, y3, ⟨y4, y5⟩, ⟨y6, y7⟩, y8, y9⟩
      show et_go _ _ 1000 607 [some (.ref 150), some (.ref th), some (.ref am), some (.ref out), some (.int (Int32.ofNat i)), some (.int (Int32.ofNat 1)), x6] [.int (Int32.ofNat 0)] _ ((ck + c580) + c604) ((sk + s580) + s604) _
      refine ls_istore (i := 6) (p := 609) (by decide +kernel) (Nat.le_of_ble_eq_true rfl) ?_
      refine ls_aload (i := 2) (p := 610) (by decide +kernel) rfl ?_
      refine lt_callv (T := et_TT) (t := 13) (mi := 315) (na := 0) (ci := 11) (lk := 7) (lm := 1) (L0 := eg_en (eg_mL 315) [.ref am]) (by decide +kernel) rfl hH k_am rfl rfl rfl rfl rfl (by rw [show eg_mL 315 = 1 from by decide +kernel]; first | done | rfl) ?_
      refine (fm_thrown hH k_am ht).mono (fun u hu => ?_)
      obtain rfl : u = (.inl (some (.int (Int32.ofNat 1))), G604, 0, 0) := hu
      refine ls_cb ?_
      show et_go _ _ 1000 613 [some (.ref 150), some (.ref th), some (.ref am), some (.ref out), some (.int (Int32.ofNat i)), some (.int (Int32.ofNat 1)), some (.int (Int32.ofNat 0))] [.int (Int32.ofNat 1)] _ ((ck + c580) + c604) ((sk + s580) + s604) _
      refine ls_iload (i := 5) (p := 615) (by decide +kernel) rfl ?_
      refine ls_br2 (c := .eq) (t := 620) (f := 618) (by decide +kernel) (fun _ => ?_) (fun hz => absurd (show ((Int32.ofNat 1) : Int32) = (Int32.ofNat 1) from rfl) hz)
      refine ls_iload (i := 5) (p := 622) (by decide +kernel) rfl ?_
      refine ls_br1 (c := .ne) (t := 637) (f := 625) (by decide +kernel) (fun _ => ?_) (fun hz => absurd (show ¬ Int32.ofNat 1 = 0 by decide) hz)
      refine ls_goto (p := 1656) (by decide +kernel) ?_
      exact hN _ _ c h _ _ _ _ _ _ ⟨⟨hH, hci, k_th, k_am, k_out, h3, k_rd, hl, hm, hc⟩, ⟨hh1, hp, hg⟩, hrc, hrm, hbc, hbi, hyw, _, htC, htM, htb⟩ (by omega) (by omega)
  · cases ev
    show et_go _ _ 1000 583 [some (.ref 150), some (.ref th), some (.ref am), some (.ref out), some (.int (Int32.ofNat i)), x5, x6] [.int (Int32.ofNat 2)] _ (ck + c580) (sk + s580) _
    refine ls_istore (i := 5) (p := 585) (by decide +kernel) (Nat.le_of_ble_eq_true rfl) ?_
    refine ls_aload (i := 2) (p := 586) (by decide +kernel) rfl ?_
    refine ls_arg (j := 1) (by decide +kernel) (by omega) hn ?_
    refine ls_arg (j := 2) (by decide +kernel) (by omega) hn ?_
    refine ls_arg (j := 3) (by decide +kernel) (by omega) hn ?_
    refine lt_callv (T := et_TT) (t := 13) (mi := 223) (na := 3) (ci := 11) (lk := 7) (lm := 5) (L0 := eg_en (eg_mL 223) [.ref am, .int (f (i + 1)), .int (f (i + 2)), .int (f (i + 3))]) (by decide +kernel) rfl hH k_am rfl rfl rfl rfl rfl (by rw [show eg_mL 223 = 5 from by decide +kernel]; first | done | rfl) ?_
    have h4 : et_pl (eg_at G580 aw) 4 = some (.int (Int32.ofNat (cn 4))) := (hrm.2.2 (5, 4) (by decide)).1
    refine ((er_p223_ok (K580, [], G580) [.ref am, .int (f (i + 1)), .int (f (i + 2)), .int (f (i + 3))] _ hH (by omega) rfl (ht_ac (.inr ⟨by decide, _, rfl, k_am⟩) (ht_ac hi_any (ht_ac hi_any (ht_ac hi_any ht_an))))).and (fm_wireX hH k_am hrm.1.1 hrm.2.1.1 h4 he y4 qx qn q6 (by omega))).mono (fun u hu => ls_cbvQ (Q := wqM am aw n0 (f (i + 2)) (f (i + 3)) cw) hu (fun v604 K604 G604 c604 s604 x604 f604 hH hv604 cl604 sl604 hQ => ?_))
    have y2 := y2.fr y1 k_th hrc.1.1 hrc.1.2.1 f604 (by decide +kernel)
    have y3 := y3.fr y1 f604 (by decide +kernel)
    have y5 := y5.fr hrm.1.2 f604 (by decide +kernel)
    have y1 := y1.ex x604
    have hci := hci.fr x604 f604 (by decide +kernel)
    have h3 := (f604.2 th 12 k_th 3 rfl).trans h3
    have hl := (f604.2 rd 7 k_rd 1 rfl).trans hl
    have hm := (f604.2 am 13 k_am 5 rfl).trans hm
    have hp := (f604.2 th 12 k_th 2 rfl).trans hp
    have hg := (f604.2 am 13 k_am 3 rfl).trans hg
    have htC := htC.fr k_rd x604 f604 (by decide +kernel)
    have htM := htM.fr k_am x604 f604 (by decide +kernel)
    have hrc := hrc.fr k_th x604 f604 (by decide +kernel)
    have hrm := hrm.fr k_am x604 f604 (by decide +kernel)
    have k_th := x604 _ _ k_th
    have k_am := x604 _ _ k_am
    have k_out := x604 _ _ k_out
    have k_rd := x604 _ _ k_rd
    rcases hQ with ⟨r1, ev2, ht, y4⟩ | ⟨r1, r2, ev2, ht, y4⟩ | ⟨r1, r2, ev2, ht, y4⟩
    · cases ev2
      have hyw : yw K604 G604 th s0 s1 aw ai (cn 4) (im 4) := ⟨sp_, ya_, yb_, E_, F_, cw, iw, y1, y2, y3, ⟨y4, y5⟩, ⟨y6, y7⟩, y8, y9⟩
      show et_go _ _ 1000 607 [some (.ref 150), some (.ref th), some (.ref am), some (.ref out), some (.int (Int32.ofNat i)), some (.int (Int32.ofNat 2)), x6] [.int (Int32.ofNat 0)] _ ((ck + c580) + c604) ((sk + s580) + s604) _
      refine ls_istore (i := 6) (p := 609) (by decide +kernel) (Nat.le_of_ble_eq_true rfl) ?_
      refine ls_aload (i := 2) (p := 610) (by decide +kernel) rfl ?_
      refine lt_callv (T := et_TT) (t := 13) (mi := 315) (na := 0) (ci := 11) (lk := 7) (lm := 1) (L0 := eg_en (eg_mL 315) [.ref am]) (by decide +kernel) rfl hH k_am rfl rfl rfl rfl rfl (by rw [show eg_mL 315 = 1 from by decide +kernel]; first | done | rfl) ?_
      refine (fm_thrown hH k_am ht).mono (fun u hu => ?_)
      obtain rfl : u = (.inl (some (.int (Int32.ofNat 2))), G604, 0, 0) := hu
      refine ls_cb ?_
      show et_go _ _ 1000 613 [some (.ref 150), some (.ref th), some (.ref am), some (.ref out), some (.int (Int32.ofNat i)), some (.int (Int32.ofNat 2)), some (.int (Int32.ofNat 0))] [.int (Int32.ofNat 2)] _ ((ck + c580) + c604) ((sk + s580) + s604) _
      refine ls_iload (i := 5) (p := 615) (by decide +kernel) rfl ?_
      refine ls_br2 (c := .eq) (t := 620) (f := 618) (by decide +kernel) (fun _ => ?_) (fun hz => absurd (show ((Int32.ofNat 2) : Int32) = (Int32.ofNat 2) from rfl) hz)
      refine ls_iload (i := 5) (p := 622) (by decide +kernel) rfl ?_
      refine ls_br1 (c := .ne) (t := 637) (f := 625) (by decide +kernel) (fun _ => ?_) (fun hz => absurd (show ¬ Int32.ofNat 2 = 0 by decide) hz)
      refine ls_goto (p := 1656) (by decide +kernel) ?_
      exact hN _ _ c h _ _ _ _ _ _ ⟨⟨hH, hci, k_th, k_am, k_out, h3, k_rd, hl, hm, hc⟩, ⟨hh1, hp, hg⟩, hrc, hrm, hbc, hbi, hyw, _, htC, htM, htb⟩ (by omega) (by omega)
    · exact absurd r1 q1
    · exact absurd r1 q1
  · cases ev
    show et_go _ _ 1000 583 [some (.ref 150), some (.ref th), some (.ref am), some (.ref out), some (.int (Int32.ofNat i)), x5, x6] [.int (Int32.ofNat 3)] _ (ck + c580) (sk + s580) _
    refine ls_istore (i := 5) (p := 585) (by decide +kernel) (Nat.le_of_ble_eq_true rfl) ?_
    refine ls_aload (i := 2) (p := 586) (by decide +kernel) rfl ?_
    refine ls_arg (j := 1) (by decide +kernel) (by omega) hn ?_
    refine ls_arg (j := 2) (by decide +kernel) (by omega) hn ?_
    refine ls_arg (j := 3) (by decide +kernel) (by omega) hn ?_
    refine lt_callv (T := et_TT) (t := 13) (mi := 223) (na := 3) (ci := 11) (lk := 7) (lm := 5) (L0 := eg_en (eg_mL 223) [.ref am, .int (f (i + 1)), .int (f (i + 2)), .int (f (i + 3))]) (by decide +kernel) rfl hH k_am rfl rfl rfl rfl rfl (by rw [show eg_mL 223 = 5 from by decide +kernel]; first | done | rfl) ?_
    have h4 : et_pl (eg_at G580 aw) 4 = some (.int (Int32.ofNat (cn 4))) := (hrm.2.2 (5, 4) (by decide)).1
    refine ((er_p223_ok (K580, [], G580) [.ref am, .int (f (i + 1)), .int (f (i + 2)), .int (f (i + 3))] _ hH (by omega) rfl (ht_ac (.inr ⟨by decide, _, rfl, k_am⟩) (ht_ac hi_any (ht_ac hi_any (ht_ac hi_any ht_an))))).and (fm_wireX hH k_am hrm.1.1 hrm.2.1.1 h4 he y4 qx qn q6 (by omega))).mono (fun u hu => ls_cbvQ (Q := wqM am aw n0 (f (i + 2)) (f (i + 3)) cw) hu (fun v604 K604 G604 c604 s604 x604 f604 hH hv604 cl604 sl604 hQ => ?_))
    have y2 := y2.fr y1 k_th hrc.1.1 hrc.1.2.1 f604 (by decide +kernel)
    have y3 := y3.fr y1 f604 (by decide +kernel)
    have y5 := y5.fr hrm.1.2 f604 (by decide +kernel)
    have y1 := y1.ex x604
    have hci := hci.fr x604 f604 (by decide +kernel)
    have h3 := (f604.2 th 12 k_th 3 rfl).trans h3
    have hl := (f604.2 rd 7 k_rd 1 rfl).trans hl
    have hm := (f604.2 am 13 k_am 5 rfl).trans hm
    have hp := (f604.2 th 12 k_th 2 rfl).trans hp
    have hg := (f604.2 am 13 k_am 3 rfl).trans hg
    have htC := htC.fr k_rd x604 f604 (by decide +kernel)
    have htM := htM.fr k_am x604 f604 (by decide +kernel)
    have hrc := hrc.fr k_th x604 f604 (by decide +kernel)
    have hrm := hrm.fr k_am x604 f604 (by decide +kernel)
    have k_th := x604 _ _ k_th
    have k_am := x604 _ _ k_am
    have k_out := x604 _ _ k_out
    have k_rd := x604 _ _ k_rd
    rcases hQ with ⟨r1, ev2, ht, y4⟩ | ⟨r1, r2, ev2, ht, y4⟩ | ⟨r1, r2, ev2, ht, y4⟩
    · exact absurd q1 r1
    · cases ev2
      have hyw : yw K604 G604 th s0 s1 aw ai (cn 4) (im 4) := ⟨sp_, ya_, yb_, E_, F_, cw, iw, y1, y2, y3, ⟨y4, y5⟩, ⟨y6, y7⟩, y8, y9⟩
      show et_go _ _ 1000 607 [some (.ref 150), some (.ref th), some (.ref am), some (.ref out), some (.int (Int32.ofNat i)), some (.int (Int32.ofNat 3)), x6] [.int (Int32.ofNat 0)] _ ((ck + c580) + c604) ((sk + s580) + s604) _
      refine ls_istore (i := 6) (p := 609) (by decide +kernel) (Nat.le_of_ble_eq_true rfl) ?_
      refine ls_aload (i := 2) (p := 610) (by decide +kernel) rfl ?_
      refine lt_callv (T := et_TT) (t := 13) (mi := 315) (na := 0) (ci := 11) (lk := 7) (lm := 1) (L0 := eg_en (eg_mL 315) [.ref am]) (by decide +kernel) rfl hH k_am rfl rfl rfl rfl rfl (by rw [show eg_mL 315 = 1 from by decide +kernel]; first | done | rfl) ?_
      refine (fm_thrown hH k_am ht).mono (fun u hu => ?_)
      obtain rfl : u = (.inl (some (.int (Int32.ofNat 3))), G604, 0, 0) := hu
      refine ls_cb ?_
      show et_go _ _ 1000 613 [some (.ref 150), some (.ref th), some (.ref am), some (.ref out), some (.int (Int32.ofNat i)), some (.int (Int32.ofNat 3)), some (.int (Int32.ofNat 0))] [.int (Int32.ofNat 3)] _ ((ck + c580) + c604) ((sk + s580) + s604) _
      refine ls_iload (i := 5) (p := 615) (by decide +kernel) rfl ?_
      refine ls_br2 (c := .eq) (t := 620) (f := 618) (by decide +kernel) (fun _ => ?_) (fun hz => absurd (show ((Int32.ofNat 3) : Int32) = (Int32.ofNat 3) from rfl) hz)
      refine ls_iload (i := 5) (p := 622) (by decide +kernel) rfl ?_
      refine ls_br1 (c := .ne) (t := 637) (f := 625) (by decide +kernel) (fun _ => ?_) (fun hz => absurd (show ¬ Int32.ofNat 3 = 0 by decide) hz)
      refine ls_goto (p := 1656) (by decide +kernel) ?_
      exact hN _ _ c h _ _ _ _ _ _ ⟨⟨hH, hci, k_th, k_am, k_out, h3, k_rd, hl, hm, hc⟩, ⟨hh1, hp, hg⟩, hrc, hrm, hbc, hbi, hyw, _, htC, htM, htb⟩ (by omega) (by omega)
    · exact absurd r2 (by omega)
  · cases ev
    show et_go _ _ 1000 583 [some (.ref 150), some (.ref th), some (.ref am), some (.ref out), some (.int (Int32.ofNat i)), x5, x6] [.int (Int32.ofNat 0)] _ (ck + c580) (sk + s580) _
    refine ls_istore (i := 5) (p := 585) (by decide +kernel) (Nat.le_of_ble_eq_true rfl) ?_
    refine ls_aload (i := 2) (p := 586) (by decide +kernel) rfl ?_
    refine ls_arg (j := 1) (by decide +kernel) (by omega) hn ?_
    refine ls_arg (j := 2) (by decide +kernel) (by omega) hn ?_
    refine ls_arg (j := 3) (by decide +kernel) (by omega) hn ?_
    refine lt_callv (T := et_TT) (t := 13) (mi := 223) (na := 3) (ci := 11) (lk := 7) (lm := 5) (L0 := eg_en (eg_mL 223) [.ref am, .int (f (i + 1)), .int (f (i + 2)), .int (f (i + 3))]) (by decide +kernel) rfl hH k_am rfl rfl rfl rfl rfl (by rw [show eg_mL 223 = 5 from by decide +kernel]; first | done | rfl) ?_
    have h4 : et_pl (eg_at G580 aw) 4 = some (.int (Int32.ofNat (cn 4))) := (hrm.2.2 (5, 4) (by decide)).1
    refine ((er_p223_ok (K580, [], G580) [.ref am, .int (f (i + 1)), .int (f (i + 2)), .int (f (i + 3))] _ hH (by omega) rfl (ht_ac (.inr ⟨by decide, _, rfl, k_am⟩) (ht_ac hi_any (ht_ac hi_any (ht_ac hi_any ht_an))))).and (fm_wireX hH k_am hrm.1.1 hrm.2.1.1 h4 he y4 qx qn q6 (by omega))).mono (fun u hu => ls_cbvQ (Q := wqM am aw n0 (f (i + 2)) (f (i + 3)) cw) hu (fun v604 K604 G604 c604 s604 x604 f604 hH hv604 cl604 sl604 hQ => ?_))
    have y2 := y2.fr y1 k_th hrc.1.1 hrc.1.2.1 f604 (by decide +kernel)
    have y3 := y3.fr y1 f604 (by decide +kernel)
    have y5 := y5.fr hrm.1.2 f604 (by decide +kernel)
    have y1 := y1.ex x604
    have hci := hci.fr x604 f604 (by decide +kernel)
    have h3 := (f604.2 th 12 k_th 3 rfl).trans h3
    have hl := (f604.2 rd 7 k_rd 1 rfl).trans hl
    have hm := (f604.2 am 13 k_am 5 rfl).trans hm
    have hp := (f604.2 th 12 k_th 2 rfl).trans hp
    have hg := (f604.2 am 13 k_am 3 rfl).trans hg
    have htC := htC.fr k_rd x604 f604 (by decide +kernel)
    have htM := htM.fr k_am x604 f604 (by decide +kernel)
    have hrc := hrc.fr k_th x604 f604 (by decide +kernel)
    have hrm := hrm.fr k_am x604 f604 (by decide +kernel)
    have ho := (f604.2 out 31 k_out 0 rfl).trans ho
    have k_th := x604 _ _ k_th
    have k_am := x604 _ _ k_am
    have k_out := x604 _ _ k_out
    have k_rd := x604 _ _ k_rd
    rcases hQ with ⟨r1, ev2, ht, y4⟩ | ⟨r1, r2, ev2, ht, y4⟩ | ⟨r1, r2, ev2, ht, y4⟩
    · exact absurd q1 r1
    · exact absurd r2 (by omega)
    · cases ev2
      have hyw : yw K604 G604 th s0 s1 aw ai (cn 4) (im 4) := ⟨sp_, ya_, yb_, E_, F_, rc_up cw (45 + 23 * n0) (cw (45 + 23 * n0) + 1), iw, y1, y2, y3, ⟨y4, y5⟩, ⟨rc_upb y6 (by omega), y7⟩, fun k hk hk2 => (show rc_up cw (45 + 23 * n0) (cw (45 + 23 * n0) + 1) (45 + 23 * k) = cw (45 + 23 * k) from if_neg (by omega)).trans (y8 k hk hk2), y9⟩
      show et_go _ _ 1000 607 [some (.ref 150), some (.ref th), some (.ref am), some (.ref out), some (.int (Int32.ofNat i)), some (.int (Int32.ofNat 0)), x6] [.int (Int32.ofNat (cw (45 + 23 * n0)))] _ ((ck + c580) + c604) ((sk + s580) + s604) _
      refine ls_istore (i := 6) (p := 609) (by decide +kernel) (Nat.le_of_ble_eq_true rfl) ?_
      refine ls_aload (i := 2) (p := 610) (by decide +kernel) rfl ?_
      refine lt_callv (T := et_TT) (t := 13) (mi := 315) (na := 0) (ci := 11) (lk := 7) (lm := 1) (L0 := eg_en (eg_mL 315) [.ref am]) (by decide +kernel) rfl hH k_am rfl rfl rfl rfl rfl (by rw [show eg_mL 315 = 1 from by decide +kernel]; first | done | rfl) ?_
      refine (fm_thrown hH k_am ht).mono (fun u hu => ?_)
      obtain rfl : u = (.inl (some (.int (Int32.ofNat 0))), G604, 0, 0) := hu
      refine ls_cb ?_
      show et_go _ _ 1000 613 [some (.ref 150), some (.ref th), some (.ref am), some (.ref out), some (.int (Int32.ofNat i)), some (.int (Int32.ofNat 0)), some (.int (Int32.ofNat (cw (45 + 23 * n0))))] [.int (Int32.ofNat 0)] _ ((ck + c580) + c604) ((sk + s580) + s604) _
      refine ls_iload (i := 5) (p := 615) (by decide +kernel) rfl ?_
      refine ls_br2 (c := .eq) (t := 620) (f := 618) (by decide +kernel) (fun _ => ?_) (fun hz => absurd (show ((Int32.ofNat 0) : Int32) = (Int32.ofNat 0) from rfl) hz)
      refine ls_iload (i := 5) (p := 622) (by decide +kernel) rfl ?_
      refine ls_br1 (c := .ne) (t := 637) (f := 625) (by decide +kernel) (fun hz => absurd rfl hz) (fun _ => ?_)
      refine ls_aload (i := 3) (p := 626) (by decide +kernel) rfl ?_
      refine ls_k (x := Int32.ofNat 0) (p := 627) (by decide +kernel) ?_
      refine ls_lald (t := 31) (N := 1) (p := 628) (by decide +kernel) rfl rfl hH k_out (by decide) ho ?_
      refine ls_iload (i := 6) (p := 630) (by decide +kernel) rfl ?_
      refine ls_st (ins := .i2l) (len := 1) (p := 631) (by decide +kernel) rfl rfl rfl ?_
      refine ls_st (ins := .lcmp) (len := 1) (p := 632) (by decide +kernel) rfl rfl rfl ?_
      refine ls_br1 (c := .eq) (t := 637) (f := 635) (by decide +kernel) (fun _ => ?_) (fun hz => absurd (by first | exact lg_cmp0 _ | decide) hz)
      refine ls_goto (p := 1656) (by decide +kernel) ?_
      exact hN _ _ c h _ _ _ _ _ _ ⟨⟨hH, hci, k_th, k_am, k_out, h3, k_rd, hl, hm, hc⟩, ⟨hh1, hp, hg⟩, hrc, hrm, hbc, hbi, hyw, _, htC, htM, htb⟩ (by omega) (by omega)
set_option maxHeartbeats 2000000 in
theorem lw_c12 (hI : lw_I K G th am out rd s0 s1 aw ai tp ba na tm c h cn im) (hi : i + 6 ≤ n) (hn : n ≤ 3072) (hN : ∀ (K' : et_K) (G' : eg_G) (c' h' : Nat) (cn' im' : Nat → Nat) (ck' sk' : Nat) (y5 y6 : Option Value), lw_I K' G' th am out rd s0 s1 aw ai tp ba na tm c' h' cn' im' → ck' ≤ ck + 841 → sk' ≤ sk + 7168 → et_go (some (n, f)) (d + 41) 1000 1656 [some (.ref 150), some (.ref th), some (.ref am), some (.ref out), some (.int (Int32.ofNat i)), y5, y6] [] G' ck' sk' Z) : et_go (some (n, f)) (d + 41) 1000 640 [some (.ref 150), some (.ref th), some (.ref am), some (.ref out), some (.int (Int32.ofNat i)), x5, x6] [] G ck sk Z := by
  obtain ⟨⟨hH, hci, k_th, k_am, k_out, h3, k_rd, hl, hm, hc⟩, ⟨hh1, hp, hg⟩, hrc, hrm, hbc, hbi, hyw, tb, htC, htM, htb⟩ := hI
  refine ls_aload (i := 1) (p := 641) (by decide +kernel) rfl ?_
  refine ls_arg (j := 1) (by decide +kernel) (by omega) hn ?_
  refine ls_arg (j := 2) (by decide +kernel) (by omega) hn ?_
  refine ls_arg (j := 3) (by decide +kernel) (by omega) hn ?_
  refine ls_aload (i := 3) (p := 660) (by decide +kernel) rfl ?_
  refine ls_calls (mi := 8) (na := 5) (lk := 7) (lm := 6) (L0 := eg_en (eg_mL 8) [.ref th, .int (f (i + 1)), .int (f (i + 2)), .int (f (i + 3)), .ref out]) (by decide +kernel) rfl rfl rfl rfl rfl rfl (by rw [show eg_mL 8 = 6 from by decide +kernel]; first | done | rfl) ?_
  refine (hh_c8 (K, [], G) [.ref th, .int (f (i + 1)), .int (f (i + 2)), .int (f (i + 3)), .ref out] _ hH (by omega) rfl (ht_ac (.inr ⟨by decide, _, rfl, k_th⟩) (ht_ac hi_any (ht_ac hi_any (ht_ac hi_any (ht_ac (.inr ⟨by decide, _, rfl, k_out⟩) ht_an)))))).mono (fun u hu => ls_cbv hu (fun v660 K660 G660 c660 s660 x660 f660 hH hv660 cl660 sl660 => ?_))
  have hyw := hyw.fr k_th hrc.1.1 hrc.1.2.1 hrm.1.1 hrm.1.2 x660 f660 (by decide +kernel)
  have hci := hci.fr x660 f660 (by decide +kernel)
  have h3 := (f660.2 th 12 k_th 3 rfl).trans h3
  have hl := (f660.2 rd 7 k_rd 1 rfl).trans hl
  have hm := (f660.2 am 13 k_am 5 rfl).trans hm
  have hp := (f660.2 th 12 k_th 2 rfl).trans hp
  have hg := (f660.2 am 13 k_am 3 rfl).trans hg
  have htC := htC.fr k_rd x660 f660 (by decide +kernel)
  have htM := htM.fr k_am x660 f660 (by decide +kernel)
  have hrc := hrc.fr k_th x660 f660 (by decide +kernel)
  have hrm := hrm.fr k_am x660 f660 (by decide +kernel)
  have k_th := x660 _ _ k_th
  have k_am := x660 _ _ k_am
  have k_out := x660 _ _ k_out
  have k_rd := x660 _ _ k_rd
  obtain ⟨v660, rfl, -⟩ := hv660
  show et_go _ _ 1000 663 [some (.ref 150), some (.ref th), some (.ref am), some (.ref out), some (.int (Int32.ofNat i)), x5, x6] [.int v660] _ (ck + c660) (sk + s660) _
  refine ls_istore (i := 5) (p := 665) (by decide +kernel) (Nat.le_of_ble_eq_true rfl) ?_
  refine ls_aload (i := 2) (p := 666) (by decide +kernel) rfl ?_
  refine ls_arg (j := 1) (by decide +kernel) (by omega) hn ?_
  refine ls_arg (j := 2) (by decide +kernel) (by omega) hn ?_
  refine ls_arg (j := 3) (by decide +kernel) (by omega) hn ?_
  refine lt_callv (T := et_TT) (t := 13) (mi := 227) (na := 3) (ci := 11) (lk := 7) (lm := 6) (L0 := eg_en (eg_mL 227) [.ref am, .int (f (i + 1)), .int (f (i + 2)), .int (f (i + 3))]) (by decide +kernel) rfl hH k_am rfl rfl rfl rfl rfl (by rw [show eg_mL 227 = 6 from by decide +kernel]; first | done | rfl) ?_
  refine (er_p227_ok (K660, [], G660) [.ref am, .int (f (i + 1)), .int (f (i + 2)), .int (f (i + 3))] _ hH (by omega) rfl (ht_ac (.inr ⟨by decide, _, rfl, k_am⟩) (ht_ac hi_any (ht_ac hi_any (ht_ac hi_any ht_an))))).mono (fun u hu => ls_cbv hu (fun v684 K684 G684 c684 s684 x684 f684 hH hv684 cl684 sl684 => ?_))
  have hyw := hyw.fr k_th hrc.1.1 hrc.1.2.1 hrm.1.1 hrm.1.2 x684 f684 (by decide +kernel)
  have hci := hci.fr x684 f684 (by decide +kernel)
  have h3 := (f684.2 th 12 k_th 3 rfl).trans h3
  have hl := (f684.2 rd 7 k_rd 1 rfl).trans hl
  have hm := (f684.2 am 13 k_am 5 rfl).trans hm
  have hp := (f684.2 th 12 k_th 2 rfl).trans hp
  have hg := (f684.2 am 13 k_am 3 rfl).trans hg
  have htC := htC.fr k_rd x684 f684 (by decide +kernel)
  have htM := htM.fr k_am x684 f684 (by decide +kernel)
  have hrc := hrc.fr k_th x684 f684 (by decide +kernel)
  have hrm := hrm.fr k_am x684 f684 (by decide +kernel)
  have k_th := x684 _ _ k_th
  have k_am := x684 _ _ k_am
  have k_out := x684 _ _ k_out
  have k_rd := x684 _ _ k_rd
  obtain ⟨v684, rfl, -⟩ := hv684
  show et_go _ _ 1000 687 [some (.ref 150), some (.ref th), some (.ref am), some (.ref out), some (.int (Int32.ofNat i)), some (.int v660), x6] [.int v684] _ ((ck + c660) + c684) ((sk + s660) + s684) _
  refine ls_istore (i := 6) (p := 689) (by decide +kernel) (Nat.le_of_ble_eq_true rfl) ?_
  refine ls_goto (p := 1656) (by decide +kernel) ?_
  exact hN _ _ c h _ _ _ _ _ _ ⟨⟨hH, hci, k_th, k_am, k_out, h3, k_rd, hl, hm, hc⟩, ⟨hh1, hp, hg⟩, hrc, hrm, hbc, hbi, hyw, _, htC, htM, htb⟩ (by omega) (by omega)
set_option maxHeartbeats 2000000 in
theorem lw_c13 (hI : lw_I K G th am out rd s0 s1 aw ai tp ba na tm c h cn im) (hi : i + 6 ≤ n) (hn : n ≤ 3072) (hN : ∀ (K' : et_K) (G' : eg_G) (c' h' : Nat) (cn' im' : Nat → Nat) (ck' sk' : Nat) (y5 y6 : Option Value), lw_I K' G' th am out rd s0 s1 aw ai tp ba na tm c' h' cn' im' → ck' ≤ ck + 841 → sk' ≤ sk + 7168 → et_go (some (n, f)) (d + 41) 1000 1656 [some (.ref 150), some (.ref th), some (.ref am), some (.ref out), some (.int (Int32.ofNat i)), y5, y6] [] G' ck' sk' Z) : et_go (some (n, f)) (d + 41) 1000 692 [some (.ref 150), some (.ref th), some (.ref am), some (.ref out), some (.int (Int32.ofNat i)), x5, x6] [] G ck sk Z := by
  obtain ⟨⟨hH, hci, k_th, k_am, k_out, h3, k_rd, hl, hm, hc⟩, ⟨hh1, hp, hg⟩, hrc, hrm, hbc, hbi, hyw, tb, htC, htM, htb⟩ := hI
  refine ls_aload (i := 1) (p := 693) (by decide +kernel) rfl ?_
  refine ls_arg (j := 1) (by decide +kernel) (by omega) hn ?_
  refine ls_arg (j := 2) (by decide +kernel) (by omega) hn ?_
  refine ls_arg (j := 3) (by decide +kernel) (by omega) hn ?_
  refine ls_calls (mi := 9) (na := 4) (lk := 7) (lm := 5) (L0 := eg_en (eg_mL 9) [.ref th, .int (f (i + 1)), .int (f (i + 2)), .int (f (i + 3))]) (by decide +kernel) rfl rfl rfl rfl rfl rfl (by rw [show eg_mL 9 = 5 from by decide +kernel]; first | done | rfl) ?_
  refine (hh_c9 (K, [], G) [.ref th, .int (f (i + 1)), .int (f (i + 2)), .int (f (i + 3))] _ hH (by omega) rfl (ht_ac (.inr ⟨by decide, _, rfl, k_th⟩) (ht_ac hi_any (ht_ac hi_any (ht_ac hi_any ht_an))))).mono (fun u hu => ls_cbv hu (fun v711 K711 G711 c711 s711 x711 f711 hH hv711 cl711 sl711 => ?_))
  have hyw := hyw.fr k_th hrc.1.1 hrc.1.2.1 hrm.1.1 hrm.1.2 x711 f711 (by decide +kernel)
  have hci := hci.fr x711 f711 (by decide +kernel)
  have h3 := (f711.2 th 12 k_th 3 rfl).trans h3
  have hl := (f711.2 rd 7 k_rd 1 rfl).trans hl
  have hm := (f711.2 am 13 k_am 5 rfl).trans hm
  have hp := (f711.2 th 12 k_th 2 rfl).trans hp
  have hg := (f711.2 am 13 k_am 3 rfl).trans hg
  have htC := htC.fr k_rd x711 f711 (by decide +kernel)
  have htM := htM.fr k_am x711 f711 (by decide +kernel)
  have hrc := hrc.fr k_th x711 f711 (by decide +kernel)
  have hrm := hrm.fr k_am x711 f711 (by decide +kernel)
  have k_th := x711 _ _ k_th
  have k_am := x711 _ _ k_am
  have k_out := x711 _ _ k_out
  have k_rd := x711 _ _ k_rd
  obtain ⟨v711, rfl, -⟩ := hv711
  show et_go _ _ 1000 714 [some (.ref 150), some (.ref th), some (.ref am), some (.ref out), some (.int (Int32.ofNat i)), x5, x6] [.int v711] _ (ck + c711) (sk + s711) _
  refine ls_istore (i := 5) (p := 716) (by decide +kernel) (Nat.le_of_ble_eq_true rfl) ?_
  refine ls_aload (i := 2) (p := 717) (by decide +kernel) rfl ?_
  refine ls_arg (j := 1) (by decide +kernel) (by omega) hn ?_
  refine ls_arg (j := 2) (by decide +kernel) (by omega) hn ?_
  refine ls_arg (j := 3) (by decide +kernel) (by omega) hn ?_
  refine lt_callv (T := et_TT) (t := 13) (mi := 229) (na := 3) (ci := 11) (lk := 7) (lm := 4) (L0 := eg_en (eg_mL 229) [.ref am, .int (f (i + 1)), .int (f (i + 2)), .int (f (i + 3))]) (by decide +kernel) rfl hH k_am rfl rfl rfl rfl rfl (by rw [show eg_mL 229 = 4 from by decide +kernel]; first | done | rfl) ?_
  refine (er_p229_ok (K711, [], G711) [.ref am, .int (f (i + 1)), .int (f (i + 2)), .int (f (i + 3))] _ hH (by omega) rfl (ht_ac (.inr ⟨by decide, _, rfl, k_am⟩) (ht_ac hi_any (ht_ac hi_any (ht_ac hi_any ht_an))))).mono (fun u hu => ls_cbn hu (fun K735 G735 c735 s735 x735 f735 hH cl735 sl735 => ?_))
  have hyw := hyw.fr k_th hrc.1.1 hrc.1.2.1 hrm.1.1 hrm.1.2 x735 f735 (by decide +kernel)
  have hci := hci.fr x735 f735 (by decide +kernel)
  have h3 := (f735.2 th 12 k_th 3 rfl).trans h3
  have hl := (f735.2 rd 7 k_rd 1 rfl).trans hl
  have hm := (f735.2 am 13 k_am 5 rfl).trans hm
  have hp := (f735.2 th 12 k_th 2 rfl).trans hp
  have hg := (f735.2 am 13 k_am 3 rfl).trans hg
  have htC := htC.fr k_rd x735 f735 (by decide +kernel)
  have htM := htM.fr k_am x735 f735 (by decide +kernel)
  have hrc := hrc.fr k_th x735 f735 (by decide +kernel)
  have hrm := hrm.fr k_am x735 f735 (by decide +kernel)
  have k_th := x735 _ _ k_th
  have k_am := x735 _ _ k_am
  have k_out := x735 _ _ k_out
  have k_rd := x735 _ _ k_rd
  show et_go _ _ 1000 738 [some (.ref 150), some (.ref th), some (.ref am), some (.ref out), some (.int (Int32.ofNat i)), some (.int v711), x6] [] _ ((ck + c711) + c735) ((sk + s711) + s735) _
  refine ls_goto (p := 1656) (by decide +kernel) ?_
  exact hN _ _ c h _ _ _ _ _ _ ⟨⟨hH, hci, k_th, k_am, k_out, h3, k_rd, hl, hm, hc⟩, ⟨hh1, hp, hg⟩, hrc, hrm, hbc, hbi, hyw, _, htC, htM, htb⟩ (by omega) (by omega)
set_option maxHeartbeats 2000000 in
theorem lw_c14 (hI : lw_I K G th am out rd s0 s1 aw ai tp ba na tm c h cn im) (hi : i + 6 ≤ n) (hn : n ≤ 3072) (hN : ∀ (K' : et_K) (G' : eg_G) (c' h' : Nat) (cn' im' : Nat → Nat) (ck' sk' : Nat) (y5 y6 : Option Value), lw_I K' G' th am out rd s0 s1 aw ai tp ba na tm c' h' cn' im' → ck' ≤ ck + 841 → sk' ≤ sk + 7168 → et_go (some (n, f)) (d + 41) 1000 1656 [some (.ref 150), some (.ref th), some (.ref am), some (.ref out), some (.int (Int32.ofNat i)), y5, y6] [] G' ck' sk' Z) : et_go (some (n, f)) (d + 41) 1000 741 [some (.ref 150), some (.ref th), some (.ref am), some (.ref out), some (.int (Int32.ofNat i)), x5, x6] [] G ck sk Z := by
  obtain ⟨⟨hH, hci, k_th, k_am, k_out, h3, k_rd, hl, hm, hc⟩, ⟨hh1, hp, hg⟩, hrc, hrm, hbc, hbi, hyw, tb, htC, htM, htb⟩ := hI
  refine ls_aload (i := 1) (p := 742) (by decide +kernel) rfl ?_
  refine ls_arg (j := 1) (by decide +kernel) (by omega) hn ?_
  refine ls_arg (j := 2) (by decide +kernel) (by omega) hn ?_
  refine ls_aload (i := 3) (p := 755) (by decide +kernel) rfl ?_
  refine ls_calls (mi := 10) (na := 4) (lk := 7) (lm := 5) (L0 := eg_en (eg_mL 10) [.ref th, .int (f (i + 1)), .int (f (i + 2)), .ref out]) (by decide +kernel) rfl rfl rfl rfl rfl rfl (by rw [show eg_mL 10 = 5 from by decide +kernel]; first | done | rfl) ?_
  refine (hh_c10 (K, [], G) [.ref th, .int (f (i + 1)), .int (f (i + 2)), .ref out] _ hH (by omega) rfl (ht_ac (.inr ⟨by decide, _, rfl, k_th⟩) (ht_ac hi_any (ht_ac hi_any (ht_ac (.inr ⟨by decide, _, rfl, k_out⟩) ht_an))))).mono (fun u hu => ls_cbv hu (fun v755 K755 G755 c755 s755 x755 f755 hH hv755 cl755 sl755 => ?_))
  have hyw := hyw.fr k_th hrc.1.1 hrc.1.2.1 hrm.1.1 hrm.1.2 x755 f755 (by decide +kernel)
  have hci := hci.fr x755 f755 (by decide +kernel)
  have h3 := (f755.2 th 12 k_th 3 rfl).trans h3
  have hl := (f755.2 rd 7 k_rd 1 rfl).trans hl
  have hm := (f755.2 am 13 k_am 5 rfl).trans hm
  have hp := (f755.2 th 12 k_th 2 rfl).trans hp
  have hg := (f755.2 am 13 k_am 3 rfl).trans hg
  have htC := htC.fr k_rd x755 f755 (by decide +kernel)
  have htM := htM.fr k_am x755 f755 (by decide +kernel)
  have hrc := hrc.fr k_th x755 f755 (by decide +kernel)
  have hrm := hrm.fr k_am x755 f755 (by decide +kernel)
  have k_th := x755 _ _ k_th
  have k_am := x755 _ _ k_am
  have k_out := x755 _ _ k_out
  have k_rd := x755 _ _ k_rd
  obtain ⟨v755, rfl, -⟩ := hv755
  show et_go _ _ 1000 758 [some (.ref 150), some (.ref th), some (.ref am), some (.ref out), some (.int (Int32.ofNat i)), x5, x6] [.int v755] _ (ck + c755) (sk + s755) _
  refine ls_istore (i := 5) (p := 760) (by decide +kernel) (Nat.le_of_ble_eq_true rfl) ?_
  refine ls_aload (i := 2) (p := 761) (by decide +kernel) rfl ?_
  refine ls_arg (j := 1) (by decide +kernel) (by omega) hn ?_
  refine ls_arg (j := 2) (by decide +kernel) (by omega) hn ?_
  refine lt_callv (T := et_TT) (t := 13) (mi := 230) (na := 2) (ci := 11) (lk := 7) (lm := 3) (L0 := eg_en (eg_mL 230) [.ref am, .int (f (i + 1)), .int (f (i + 2))]) (by decide +kernel) rfl hH k_am rfl rfl rfl rfl rfl (by rw [show eg_mL 230 = 3 from by decide +kernel]; first | done | rfl) ?_
  refine (er_p230_ok (K755, [], G755) [.ref am, .int (f (i + 1)), .int (f (i + 2))] _ hH (by omega) rfl (ht_ac (.inr ⟨by decide, _, rfl, k_am⟩) (ht_ac hi_any (ht_ac hi_any ht_an)))).mono (fun u hu => ls_cbv hu (fun v773 K773 G773 c773 s773 x773 f773 hH hv773 cl773 sl773 => ?_))
  have hyw := hyw.fr k_th hrc.1.1 hrc.1.2.1 hrm.1.1 hrm.1.2 x773 f773 (by decide +kernel)
  have hci := hci.fr x773 f773 (by decide +kernel)
  have h3 := (f773.2 th 12 k_th 3 rfl).trans h3
  have hl := (f773.2 rd 7 k_rd 1 rfl).trans hl
  have hm := (f773.2 am 13 k_am 5 rfl).trans hm
  have hp := (f773.2 th 12 k_th 2 rfl).trans hp
  have hg := (f773.2 am 13 k_am 3 rfl).trans hg
  have htC := htC.fr k_rd x773 f773 (by decide +kernel)
  have htM := htM.fr k_am x773 f773 (by decide +kernel)
  have hrc := hrc.fr k_th x773 f773 (by decide +kernel)
  have hrm := hrm.fr k_am x773 f773 (by decide +kernel)
  have k_th := x773 _ _ k_th
  have k_am := x773 _ _ k_am
  have k_out := x773 _ _ k_out
  have k_rd := x773 _ _ k_rd
  obtain ⟨v773, rfl, -⟩ := hv773
  show et_go _ _ 1000 776 [some (.ref 150), some (.ref th), some (.ref am), some (.ref out), some (.int (Int32.ofNat i)), some (.int v755), x6] [.int v773] _ ((ck + c755) + c773) ((sk + s755) + s773) _
  refine ls_istore (i := 6) (p := 778) (by decide +kernel) (Nat.le_of_ble_eq_true rfl) ?_
  refine ls_goto (p := 1656) (by decide +kernel) ?_
  exact hN _ _ c h _ _ _ _ _ _ ⟨⟨hH, hci, k_th, k_am, k_out, h3, k_rd, hl, hm, hc⟩, ⟨hh1, hp, hg⟩, hrc, hrm, hbc, hbi, hyw, _, htC, htM, htb⟩ (by omega) (by omega)
set_option maxHeartbeats 2000000 in
theorem lw_c15 (hI : lw_I K G th am out rd s0 s1 aw ai tp ba na tm c h cn im) (hi : i + 6 ≤ n) (hn : n ≤ 3072) (hN : ∀ (K' : et_K) (G' : eg_G) (c' h' : Nat) (cn' im' : Nat → Nat) (ck' sk' : Nat) (y5 y6 : Option Value), lw_I K' G' th am out rd s0 s1 aw ai tp ba na tm c' h' cn' im' → ck' ≤ ck + 841 → sk' ≤ sk + 7168 → et_go (some (n, f)) (d + 41) 1000 1656 [some (.ref 150), some (.ref th), some (.ref am), some (.ref out), some (.int (Int32.ofNat i)), y5, y6] [] G' ck' sk' Z) : et_go (some (n, f)) (d + 41) 1000 781 [some (.ref 150), some (.ref th), some (.ref am), some (.ref out), some (.int (Int32.ofNat i)), x5, x6] [] G ck sk Z := by
  obtain ⟨⟨hH, hci, k_th, k_am, k_out, h3, k_rd, hl, hm, hc⟩, ⟨hh1, hp, hg⟩, hrc, hrm, hbc, hbi, hyw, tb, htC, htM, htb⟩ := hI
  refine ls_aload (i := 1) (p := 782) (by decide +kernel) rfl ?_
  refine ls_arg (j := 1) (by decide +kernel) (by omega) hn ?_
  refine ls_arg (j := 2) (by decide +kernel) (by omega) hn ?_
  refine ls_aload (i := 3) (p := 795) (by decide +kernel) rfl ?_
  refine ls_calls (mi := 11) (na := 4) (lk := 7) (lm := 5) (L0 := eg_en (eg_mL 11) [.ref th, .int (f (i + 1)), .int (f (i + 2)), .ref out]) (by decide +kernel) rfl rfl rfl rfl rfl rfl (by rw [show eg_mL 11 = 5 from by decide +kernel]; first | done | rfl) ?_
  refine (hh_c11 (K, [], G) [.ref th, .int (f (i + 1)), .int (f (i + 2)), .ref out] _ hH (by omega) rfl (ht_ac (.inr ⟨by decide, _, rfl, k_th⟩) (ht_ac hi_any (ht_ac hi_any (ht_ac (.inr ⟨by decide, _, rfl, k_out⟩) ht_an))))).mono (fun u hu => ls_cbv hu (fun v795 K795 G795 c795 s795 x795 f795 hH hv795 cl795 sl795 => ?_))
  have hyw := hyw.fr k_th hrc.1.1 hrc.1.2.1 hrm.1.1 hrm.1.2 x795 f795 (by decide +kernel)
  have hci := hci.fr x795 f795 (by decide +kernel)
  have h3 := (f795.2 th 12 k_th 3 rfl).trans h3
  have hl := (f795.2 rd 7 k_rd 1 rfl).trans hl
  have hm := (f795.2 am 13 k_am 5 rfl).trans hm
  have hp := (f795.2 th 12 k_th 2 rfl).trans hp
  have hg := (f795.2 am 13 k_am 3 rfl).trans hg
  have htC := htC.fr k_rd x795 f795 (by decide +kernel)
  have htM := htM.fr k_am x795 f795 (by decide +kernel)
  have hrc := hrc.fr k_th x795 f795 (by decide +kernel)
  have hrm := hrm.fr k_am x795 f795 (by decide +kernel)
  have k_th := x795 _ _ k_th
  have k_am := x795 _ _ k_am
  have k_out := x795 _ _ k_out
  have k_rd := x795 _ _ k_rd
  obtain ⟨v795, rfl, -⟩ := hv795
  show et_go _ _ 1000 798 [some (.ref 150), some (.ref th), some (.ref am), some (.ref out), some (.int (Int32.ofNat i)), x5, x6] [.int v795] _ (ck + c795) (sk + s795) _
  refine ls_istore (i := 5) (p := 800) (by decide +kernel) (Nat.le_of_ble_eq_true rfl) ?_
  refine ls_aload (i := 2) (p := 801) (by decide +kernel) rfl ?_
  refine ls_arg (j := 1) (by decide +kernel) (by omega) hn ?_
  refine ls_arg (j := 2) (by decide +kernel) (by omega) hn ?_
  refine lt_callv (T := et_TT) (t := 13) (mi := 243) (na := 2) (ci := 11) (lk := 7) (lm := 3) (L0 := eg_en (eg_mL 243) [.ref am, .int (f (i + 1)), .int (f (i + 2))]) (by decide +kernel) rfl hH k_am rfl rfl rfl rfl rfl (by rw [show eg_mL 243 = 3 from by decide +kernel]; first | done | rfl) ?_
  refine (er_p243_ok (K795, [], G795) [.ref am, .int (f (i + 1)), .int (f (i + 2))] _ hH (by omega) rfl (ht_ac (.inr ⟨by decide, _, rfl, k_am⟩) (ht_ac hi_any (ht_ac hi_any ht_an)))).mono (fun u hu => ls_cbv hu (fun v813 K813 G813 c813 s813 x813 f813 hH hv813 cl813 sl813 => ?_))
  have hyw := hyw.fr k_th hrc.1.1 hrc.1.2.1 hrm.1.1 hrm.1.2 x813 f813 (by decide +kernel)
  have hci := hci.fr x813 f813 (by decide +kernel)
  have h3 := (f813.2 th 12 k_th 3 rfl).trans h3
  have hl := (f813.2 rd 7 k_rd 1 rfl).trans hl
  have hm := (f813.2 am 13 k_am 5 rfl).trans hm
  have hp := (f813.2 th 12 k_th 2 rfl).trans hp
  have hg := (f813.2 am 13 k_am 3 rfl).trans hg
  have htC := htC.fr k_rd x813 f813 (by decide +kernel)
  have htM := htM.fr k_am x813 f813 (by decide +kernel)
  have hrc := hrc.fr k_th x813 f813 (by decide +kernel)
  have hrm := hrm.fr k_am x813 f813 (by decide +kernel)
  have k_th := x813 _ _ k_th
  have k_am := x813 _ _ k_am
  have k_out := x813 _ _ k_out
  have k_rd := x813 _ _ k_rd
  obtain ⟨v813, rfl, -⟩ := hv813
  show et_go _ _ 1000 816 [some (.ref 150), some (.ref th), some (.ref am), some (.ref out), some (.int (Int32.ofNat i)), some (.int v795), x6] [.int v813] _ ((ck + c795) + c813) ((sk + s795) + s813) _
  refine ls_istore (i := 6) (p := 818) (by decide +kernel) (Nat.le_of_ble_eq_true rfl) ?_
  refine ls_goto (p := 1656) (by decide +kernel) ?_
  exact hN _ _ c h _ _ _ _ _ _ ⟨⟨hH, hci, k_th, k_am, k_out, h3, k_rd, hl, hm, hc⟩, ⟨hh1, hp, hg⟩, hrc, hrm, hbc, hbi, hyw, _, htC, htM, htb⟩ (by omega) (by omega)
set_option maxHeartbeats 2000000 in
theorem lw_c16 (hI : lw_I K G th am out rd s0 s1 aw ai tp ba na tm c h cn im) (hi : i + 6 ≤ n) (hn : n ≤ 3072) (hN : ∀ (K' : et_K) (G' : eg_G) (c' h' : Nat) (cn' im' : Nat → Nat) (ck' sk' : Nat) (y5 y6 : Option Value), lw_I K' G' th am out rd s0 s1 aw ai tp ba na tm c' h' cn' im' → ck' ≤ ck + 841 → sk' ≤ sk + 7168 → et_go (some (n, f)) (d + 41) 1000 1656 [some (.ref 150), some (.ref th), some (.ref am), some (.ref out), some (.int (Int32.ofNat i)), y5, y6] [] G' ck' sk' Z) : et_go (some (n, f)) (d + 41) 1000 821 [some (.ref 150), some (.ref th), some (.ref am), some (.ref out), some (.int (Int32.ofNat i)), x5, x6] [] G ck sk Z := by
  obtain ⟨⟨hH, hci, k_th, k_am, k_out, h3, k_rd, hl, hm, hc⟩, ⟨hh1, hp, hg⟩, hrc, hrm, hbc, hbi, hyw, tb, htC, htM, htb⟩ := hI
  refine ls_aload (i := 1) (p := 822) (by decide +kernel) rfl ?_
  refine ls_arg (j := 1) (by decide +kernel) (by omega) hn ?_
  refine ls_arg (j := 2) (by decide +kernel) (by omega) hn ?_
  refine ls_arg (j := 3) (by decide +kernel) (by omega) hn ?_
  refine ls_aload (i := 3) (p := 841) (by decide +kernel) rfl ?_
  refine ls_calls (mi := 12) (na := 5) (lk := 7) (lm := 6) (L0 := eg_en (eg_mL 12) [.ref th, .int (f (i + 1)), .int (f (i + 2)), .int (f (i + 3)), .ref out]) (by decide +kernel) rfl rfl rfl rfl rfl rfl (by rw [show eg_mL 12 = 6 from by decide +kernel]; first | done | rfl) ?_
  refine (hh_c12 (K, [], G) [.ref th, .int (f (i + 1)), .int (f (i + 2)), .int (f (i + 3)), .ref out] _ hH (by omega) rfl (ht_ac (.inr ⟨by decide, _, rfl, k_th⟩) (ht_ac hi_any (ht_ac hi_any (ht_ac hi_any (ht_ac (.inr ⟨by decide, _, rfl, k_out⟩) ht_an)))))).mono (fun u hu => ls_cbv hu (fun v841 K841 G841 c841 s841 x841 f841 hH hv841 cl841 sl841 => ?_))
  have hyw := hyw.fr k_th hrc.1.1 hrc.1.2.1 hrm.1.1 hrm.1.2 x841 f841 (by decide +kernel)
  have hci := hci.fr x841 f841 (by decide +kernel)
  have h3 := (f841.2 th 12 k_th 3 rfl).trans h3
  have hl := (f841.2 rd 7 k_rd 1 rfl).trans hl
  have hm := (f841.2 am 13 k_am 5 rfl).trans hm
  have hp := (f841.2 th 12 k_th 2 rfl).trans hp
  have hg := (f841.2 am 13 k_am 3 rfl).trans hg
  have htC := htC.fr k_rd x841 f841 (by decide +kernel)
  have htM := htM.fr k_am x841 f841 (by decide +kernel)
  have hrc := hrc.fr k_th x841 f841 (by decide +kernel)
  have hrm := hrm.fr k_am x841 f841 (by decide +kernel)
  have k_th := x841 _ _ k_th
  have k_am := x841 _ _ k_am
  have k_out := x841 _ _ k_out
  have k_rd := x841 _ _ k_rd
  obtain ⟨v841, rfl, -⟩ := hv841
  show et_go _ _ 1000 844 [some (.ref 150), some (.ref th), some (.ref am), some (.ref out), some (.int (Int32.ofNat i)), x5, x6] [.int v841] _ (ck + c841) (sk + s841) _
  refine ls_istore (i := 5) (p := 846) (by decide +kernel) (Nat.le_of_ble_eq_true rfl) ?_
  refine ls_aload (i := 2) (p := 847) (by decide +kernel) rfl ?_
  refine ls_arg (j := 1) (by decide +kernel) (by omega) hn ?_
  refine ls_arg (j := 2) (by decide +kernel) (by omega) hn ?_
  refine ls_arg (j := 3) (by decide +kernel) (by omega) hn ?_
  refine lt_callv (T := et_TT) (t := 13) (mi := 244) (na := 3) (ci := 11) (lk := 7) (lm := 4) (L0 := eg_en (eg_mL 244) [.ref am, .int (f (i + 1)), .int (f (i + 2)), .int (f (i + 3))]) (by decide +kernel) rfl hH k_am rfl rfl rfl rfl rfl (by rw [show eg_mL 244 = 4 from by decide +kernel]; first | done | rfl) ?_
  refine (er_p244_ok (K841, [], G841) [.ref am, .int (f (i + 1)), .int (f (i + 2)), .int (f (i + 3))] _ hH (by omega) rfl (ht_ac (.inr ⟨by decide, _, rfl, k_am⟩) (ht_ac hi_any (ht_ac hi_any (ht_ac hi_any ht_an))))).mono (fun u hu => ls_cbv hu (fun v865 K865 G865 c865 s865 x865 f865 hH hv865 cl865 sl865 => ?_))
  have hyw := hyw.fr k_th hrc.1.1 hrc.1.2.1 hrm.1.1 hrm.1.2 x865 f865 (by decide +kernel)
  have hci := hci.fr x865 f865 (by decide +kernel)
  have h3 := (f865.2 th 12 k_th 3 rfl).trans h3
  have hl := (f865.2 rd 7 k_rd 1 rfl).trans hl
  have hm := (f865.2 am 13 k_am 5 rfl).trans hm
  have hp := (f865.2 th 12 k_th 2 rfl).trans hp
  have hg := (f865.2 am 13 k_am 3 rfl).trans hg
  have htC := htC.fr k_rd x865 f865 (by decide +kernel)
  have htM := htM.fr k_am x865 f865 (by decide +kernel)
  have hrc := hrc.fr k_th x865 f865 (by decide +kernel)
  have hrm := hrm.fr k_am x865 f865 (by decide +kernel)
  have k_th := x865 _ _ k_th
  have k_am := x865 _ _ k_am
  have k_out := x865 _ _ k_out
  have k_rd := x865 _ _ k_rd
  obtain ⟨v865, rfl, -⟩ := hv865
  show et_go _ _ 1000 868 [some (.ref 150), some (.ref th), some (.ref am), some (.ref out), some (.int (Int32.ofNat i)), some (.int v841), x6] [.int v865] _ ((ck + c841) + c865) ((sk + s841) + s865) _
  refine ls_istore (i := 6) (p := 870) (by decide +kernel) (Nat.le_of_ble_eq_true rfl) ?_
  refine ls_goto (p := 1656) (by decide +kernel) ?_
  exact hN _ _ c h _ _ _ _ _ _ ⟨⟨hH, hci, k_th, k_am, k_out, h3, k_rd, hl, hm, hc⟩, ⟨hh1, hp, hg⟩, hrc, hrm, hbc, hbi, hyw, _, htC, htM, htb⟩ (by omega) (by omega)
set_option maxHeartbeats 2000000 in
theorem lw_c17 (hI : lw_I K G th am out rd s0 s1 aw ai tp ba na tm c h cn im) (hi : i + 6 ≤ n) (hn : n ≤ 3072) (hN : ∀ (K' : et_K) (G' : eg_G) (c' h' : Nat) (cn' im' : Nat → Nat) (ck' sk' : Nat) (y5 y6 : Option Value), lw_I K' G' th am out rd s0 s1 aw ai tp ba na tm c' h' cn' im' → ck' ≤ ck + 841 → sk' ≤ sk + 7168 → et_go (some (n, f)) (d + 41) 1000 1656 [some (.ref 150), some (.ref th), some (.ref am), some (.ref out), some (.int (Int32.ofNat i)), y5, y6] [] G' ck' sk' Z) : et_go (some (n, f)) (d + 41) 1000 873 [some (.ref 150), some (.ref th), some (.ref am), some (.ref out), some (.int (Int32.ofNat i)), x5, x6] [] G ck sk Z := by
  obtain ⟨⟨hH, hci, k_th, k_am, k_out, h3, k_rd, hl, hm, hc⟩, ⟨hh1, hp, hg⟩, hrc, hrm, hbc, hbi, hyw, tb, htC, htM, htb⟩ := hI
  refine ls_aload (i := 1) (p := 874) (by decide +kernel) rfl ?_
  refine ls_arg (j := 1) (by decide +kernel) (by omega) hn ?_
  refine ls_arg (j := 2) (by decide +kernel) (by omega) hn ?_
  refine ls_arg (j := 3) (by decide +kernel) (by omega) hn ?_
  refine ls_aload (i := 3) (p := 893) (by decide +kernel) rfl ?_
  refine ls_calls (mi := 13) (na := 5) (lk := 7) (lm := 6) (L0 := eg_en (eg_mL 13) [.ref th, .int (f (i + 1)), .int (f (i + 2)), .int (f (i + 3)), .ref out]) (by decide +kernel) rfl rfl rfl rfl rfl rfl (by rw [show eg_mL 13 = 6 from by decide +kernel]; first | done | rfl) ?_
  refine (hh_c13 (K, [], G) [.ref th, .int (f (i + 1)), .int (f (i + 2)), .int (f (i + 3)), .ref out] _ hH (by omega) rfl (ht_ac (.inr ⟨by decide, _, rfl, k_th⟩) (ht_ac hi_any (ht_ac hi_any (ht_ac hi_any (ht_ac (.inr ⟨by decide, _, rfl, k_out⟩) ht_an)))))).mono (fun u hu => ls_cbv hu (fun v893 K893 G893 c893 s893 x893 f893 hH hv893 cl893 sl893 => ?_))
  have hyw := hyw.fr k_th hrc.1.1 hrc.1.2.1 hrm.1.1 hrm.1.2 x893 f893 (by decide +kernel)
  have hci := hci.fr x893 f893 (by decide +kernel)
  have h3 := (f893.2 th 12 k_th 3 rfl).trans h3
  have hl := (f893.2 rd 7 k_rd 1 rfl).trans hl
  have hm := (f893.2 am 13 k_am 5 rfl).trans hm
  have hp := (f893.2 th 12 k_th 2 rfl).trans hp
  have hg := (f893.2 am 13 k_am 3 rfl).trans hg
  have htC := htC.fr k_rd x893 f893 (by decide +kernel)
  have htM := htM.fr k_am x893 f893 (by decide +kernel)
  have hrc := hrc.fr k_th x893 f893 (by decide +kernel)
  have hrm := hrm.fr k_am x893 f893 (by decide +kernel)
  have k_th := x893 _ _ k_th
  have k_am := x893 _ _ k_am
  have k_out := x893 _ _ k_out
  have k_rd := x893 _ _ k_rd
  obtain ⟨v893, rfl, -⟩ := hv893
  show et_go _ _ 1000 896 [some (.ref 150), some (.ref th), some (.ref am), some (.ref out), some (.int (Int32.ofNat i)), x5, x6] [.int v893] _ (ck + c893) (sk + s893) _
  refine ls_istore (i := 5) (p := 898) (by decide +kernel) (Nat.le_of_ble_eq_true rfl) ?_
  refine ls_aload (i := 2) (p := 899) (by decide +kernel) rfl ?_
  refine ls_arg (j := 1) (by decide +kernel) (by omega) hn ?_
  refine ls_arg (j := 2) (by decide +kernel) (by omega) hn ?_
  refine ls_arg (j := 3) (by decide +kernel) (by omega) hn ?_
  refine lt_callv (T := et_TT) (t := 13) (mi := 252) (na := 3) (ci := 11) (lk := 7) (lm := 7) (L0 := eg_en (eg_mL 252) [.ref am, .int (f (i + 1)), .int (f (i + 2)), .int (f (i + 3))]) (by decide +kernel) rfl hH k_am rfl rfl rfl rfl rfl (by rw [show eg_mL 252 = 7 from by decide +kernel]; first | done | rfl) ?_
  refine (er_p252_ok (K893, [], G893) [.ref am, .int (f (i + 1)), .int (f (i + 2)), .int (f (i + 3))] _ hH (by omega) rfl (ht_ac (.inr ⟨by decide, _, rfl, k_am⟩) (ht_ac hi_any (ht_ac hi_any (ht_ac hi_any ht_an))))).mono (fun u hu => ls_cbv hu (fun v917 K917 G917 c917 s917 x917 f917 hH hv917 cl917 sl917 => ?_))
  have hyw := hyw.fr k_th hrc.1.1 hrc.1.2.1 hrm.1.1 hrm.1.2 x917 f917 (by decide +kernel)
  have hci := hci.fr x917 f917 (by decide +kernel)
  have h3 := (f917.2 th 12 k_th 3 rfl).trans h3
  have hl := (f917.2 rd 7 k_rd 1 rfl).trans hl
  have hm := (f917.2 am 13 k_am 5 rfl).trans hm
  have hp := (f917.2 th 12 k_th 2 rfl).trans hp
  have hg := (f917.2 am 13 k_am 3 rfl).trans hg
  have htC := htC.fr k_rd x917 f917 (by decide +kernel)
  have htM := htM.fr k_am x917 f917 (by decide +kernel)
  have hrc := hrc.fr k_th x917 f917 (by decide +kernel)
  have hrm := hrm.fr k_am x917 f917 (by decide +kernel)
  have k_th := x917 _ _ k_th
  have k_am := x917 _ _ k_am
  have k_out := x917 _ _ k_out
  have k_rd := x917 _ _ k_rd
  obtain ⟨v917, rfl, -⟩ := hv917
  show et_go _ _ 1000 920 [some (.ref 150), some (.ref th), some (.ref am), some (.ref out), some (.int (Int32.ofNat i)), some (.int v893), x6] [.int v917] _ ((ck + c893) + c917) ((sk + s893) + s917) _
  refine ls_istore (i := 6) (p := 922) (by decide +kernel) (Nat.le_of_ble_eq_true rfl) ?_
  refine ls_goto (p := 1656) (by decide +kernel) ?_
  exact hN _ _ c h _ _ _ _ _ _ ⟨⟨hH, hci, k_th, k_am, k_out, h3, k_rd, hl, hm, hc⟩, ⟨hh1, hp, hg⟩, hrc, hrm, hbc, hbi, hyw, _, htC, htM, htb⟩ (by omega) (by omega)
set_option maxHeartbeats 2000000 in
theorem lw_c18 (hI : lw_I K G th am out rd s0 s1 aw ai tp ba na tm c h cn im) (hi : i + 6 ≤ n) (hn : n ≤ 3072) (hN : ∀ (K' : et_K) (G' : eg_G) (c' h' : Nat) (cn' im' : Nat → Nat) (ck' sk' : Nat) (y5 y6 : Option Value), lw_I K' G' th am out rd s0 s1 aw ai tp ba na tm c' h' cn' im' → ck' ≤ ck + 841 → sk' ≤ sk + 7168 → et_go (some (n, f)) (d + 41) 1000 1656 [some (.ref 150), some (.ref th), some (.ref am), some (.ref out), some (.int (Int32.ofNat i)), y5, y6] [] G' ck' sk' Z) : et_go (some (n, f)) (d + 41) 1000 925 [some (.ref 150), some (.ref th), some (.ref am), some (.ref out), some (.int (Int32.ofNat i)), x5, x6] [] G ck sk Z := by
  obtain ⟨⟨hH, hci, k_th, k_am, k_out, h3, k_rd, hl, hm, hc⟩, ⟨hh1, hp, hg⟩, hrc, hrm, hbc, hbi, hyw, tb, htC, htM, htb⟩ := hI
  refine ls_aload (i := 1) (p := 926) (by decide +kernel) rfl ?_
  refine ls_arg (j := 1) (by decide +kernel) (by omega) hn ?_
  refine ls_arg (j := 2) (by decide +kernel) (by omega) hn ?_
  refine ls_aload (i := 3) (p := 939) (by decide +kernel) rfl ?_
  refine ls_calls (mi := 14) (na := 4) (lk := 7) (lm := 5) (L0 := eg_en (eg_mL 14) [.ref th, .int (f (i + 1)), .int (f (i + 2)), .ref out]) (by decide +kernel) rfl rfl rfl rfl rfl rfl (by rw [show eg_mL 14 = 5 from by decide +kernel]; first | done | rfl) ?_
  refine (hh_c14 (K, [], G) [.ref th, .int (f (i + 1)), .int (f (i + 2)), .ref out] _ hH (by omega) rfl (ht_ac (.inr ⟨by decide, _, rfl, k_th⟩) (ht_ac hi_any (ht_ac hi_any (ht_ac (.inr ⟨by decide, _, rfl, k_out⟩) ht_an))))).mono (fun u hu => ls_cbv hu (fun v939 K939 G939 c939 s939 x939 f939 hH hv939 cl939 sl939 => ?_))
  have hyw := hyw.fr k_th hrc.1.1 hrc.1.2.1 hrm.1.1 hrm.1.2 x939 f939 (by decide +kernel)
  have hci := hci.fr x939 f939 (by decide +kernel)
  have h3 := (f939.2 th 12 k_th 3 rfl).trans h3
  have hl := (f939.2 rd 7 k_rd 1 rfl).trans hl
  have hm := (f939.2 am 13 k_am 5 rfl).trans hm
  have hp := (f939.2 th 12 k_th 2 rfl).trans hp
  have hg := (f939.2 am 13 k_am 3 rfl).trans hg
  have htC := htC.fr k_rd x939 f939 (by decide +kernel)
  have htM := htM.fr k_am x939 f939 (by decide +kernel)
  have hrc := hrc.fr k_th x939 f939 (by decide +kernel)
  have hrm := hrm.fr k_am x939 f939 (by decide +kernel)
  have k_th := x939 _ _ k_th
  have k_am := x939 _ _ k_am
  have k_out := x939 _ _ k_out
  have k_rd := x939 _ _ k_rd
  obtain ⟨v939, rfl, -⟩ := hv939
  show et_go _ _ 1000 942 [some (.ref 150), some (.ref th), some (.ref am), some (.ref out), some (.int (Int32.ofNat i)), x5, x6] [.int v939] _ (ck + c939) (sk + s939) _
  refine ls_istore (i := 5) (p := 944) (by decide +kernel) (Nat.le_of_ble_eq_true rfl) ?_
  refine ls_aload (i := 2) (p := 945) (by decide +kernel) rfl ?_
  refine ls_arg (j := 1) (by decide +kernel) (by omega) hn ?_
  refine ls_arg (j := 2) (by decide +kernel) (by omega) hn ?_
  refine lt_callv (T := et_TT) (t := 13) (mi := 253) (na := 2) (ci := 11) (lk := 7) (lm := 3) (L0 := eg_en (eg_mL 253) [.ref am, .int (f (i + 1)), .int (f (i + 2))]) (by decide +kernel) rfl hH k_am rfl rfl rfl rfl rfl (by rw [show eg_mL 253 = 3 from by decide +kernel]; first | done | rfl) ?_
  refine (er_p253_ok (K939, [], G939) [.ref am, .int (f (i + 1)), .int (f (i + 2))] _ hH (by omega) rfl (ht_ac (.inr ⟨by decide, _, rfl, k_am⟩) (ht_ac hi_any (ht_ac hi_any ht_an)))).mono (fun u hu => ls_cbv hu (fun v957 K957 G957 c957 s957 x957 f957 hH hv957 cl957 sl957 => ?_))
  have hyw := hyw.fr k_th hrc.1.1 hrc.1.2.1 hrm.1.1 hrm.1.2 x957 f957 (by decide +kernel)
  have hci := hci.fr x957 f957 (by decide +kernel)
  have h3 := (f957.2 th 12 k_th 3 rfl).trans h3
  have hl := (f957.2 rd 7 k_rd 1 rfl).trans hl
  have hm := (f957.2 am 13 k_am 5 rfl).trans hm
  have hp := (f957.2 th 12 k_th 2 rfl).trans hp
  have hg := (f957.2 am 13 k_am 3 rfl).trans hg
  have htC := htC.fr k_rd x957 f957 (by decide +kernel)
  have htM := htM.fr k_am x957 f957 (by decide +kernel)
  have hrc := hrc.fr k_th x957 f957 (by decide +kernel)
  have hrm := hrm.fr k_am x957 f957 (by decide +kernel)
  have k_th := x957 _ _ k_th
  have k_am := x957 _ _ k_am
  have k_out := x957 _ _ k_out
  have k_rd := x957 _ _ k_rd
  obtain ⟨v957, rfl, -⟩ := hv957
  show et_go _ _ 1000 960 [some (.ref 150), some (.ref th), some (.ref am), some (.ref out), some (.int (Int32.ofNat i)), some (.int v939), x6] [.int v957] _ ((ck + c939) + c957) ((sk + s939) + s957) _
  refine ls_istore (i := 6) (p := 962) (by decide +kernel) (Nat.le_of_ble_eq_true rfl) ?_
  refine ls_goto (p := 1656) (by decide +kernel) ?_
  exact hN _ _ c h _ _ _ _ _ _ ⟨⟨hH, hci, k_th, k_am, k_out, h3, k_rd, hl, hm, hc⟩, ⟨hh1, hp, hg⟩, hrc, hrm, hbc, hbi, hyw, _, htC, htM, htb⟩ (by omega) (by omega)
set_option maxHeartbeats 2000000 in
theorem lw_c19 (hI : lw_I K G th am out rd s0 s1 aw ai tp ba na tm c h cn im) (hi : i + 6 ≤ n) (hn : n ≤ 3072) (hN : ∀ (K' : et_K) (G' : eg_G) (c' h' : Nat) (cn' im' : Nat → Nat) (ck' sk' : Nat) (y5 y6 : Option Value), lw_I K' G' th am out rd s0 s1 aw ai tp ba na tm c' h' cn' im' → ck' ≤ ck + 841 → sk' ≤ sk + 7168 → et_go (some (n, f)) (d + 41) 1000 1656 [some (.ref 150), some (.ref th), some (.ref am), some (.ref out), some (.int (Int32.ofNat i)), y5, y6] [] G' ck' sk' Z) : et_go (some (n, f)) (d + 41) 1000 965 [some (.ref 150), some (.ref th), some (.ref am), some (.ref out), some (.int (Int32.ofNat i)), x5, x6] [] G ck sk Z := by
  obtain ⟨⟨hH, hci, k_th, k_am, k_out, h3, k_rd, hl, hm, hc⟩, ⟨hh1, hp, hg⟩, hrc, hrm, hbc, hbi, hyw, tb, htC, htM, htb⟩ := hI
  refine ls_aload (i := 1) (p := 966) (by decide +kernel) rfl ?_
  refine ls_arg (j := 1) (by decide +kernel) (by omega) hn ?_
  refine ls_arg (j := 2) (by decide +kernel) (by omega) hn ?_
  refine ls_arg (j := 3) (by decide +kernel) (by omega) hn ?_
  refine ls_aload (i := 3) (p := 985) (by decide +kernel) rfl ?_
  refine ls_calls (mi := 15) (na := 5) (lk := 7) (lm := 6) (L0 := eg_en (eg_mL 15) [.ref th, .int (f (i + 1)), .int (f (i + 2)), .int (f (i + 3)), .ref out]) (by decide +kernel) rfl rfl rfl rfl rfl rfl (by rw [show eg_mL 15 = 6 from by decide +kernel]; first | done | rfl) ?_
  refine (hh_c15 (K, [], G) [.ref th, .int (f (i + 1)), .int (f (i + 2)), .int (f (i + 3)), .ref out] _ hH (by omega) rfl (ht_ac (.inr ⟨by decide, _, rfl, k_th⟩) (ht_ac hi_any (ht_ac hi_any (ht_ac hi_any (ht_ac (.inr ⟨by decide, _, rfl, k_out⟩) ht_an)))))).mono (fun u hu => ls_cbv hu (fun v985 K985 G985 c985 s985 x985 f985 hH hv985 cl985 sl985 => ?_))
  have hyw := hyw.fr k_th hrc.1.1 hrc.1.2.1 hrm.1.1 hrm.1.2 x985 f985 (by decide +kernel)
  have hci := hci.fr x985 f985 (by decide +kernel)
  have h3 := (f985.2 th 12 k_th 3 rfl).trans h3
  have hl := (f985.2 rd 7 k_rd 1 rfl).trans hl
  have hm := (f985.2 am 13 k_am 5 rfl).trans hm
  have hp := (f985.2 th 12 k_th 2 rfl).trans hp
  have hg := (f985.2 am 13 k_am 3 rfl).trans hg
  have htC := htC.fr k_rd x985 f985 (by decide +kernel)
  have htM := htM.fr k_am x985 f985 (by decide +kernel)
  have hrc := hrc.fr k_th x985 f985 (by decide +kernel)
  have hrm := hrm.fr k_am x985 f985 (by decide +kernel)
  have k_th := x985 _ _ k_th
  have k_am := x985 _ _ k_am
  have k_out := x985 _ _ k_out
  have k_rd := x985 _ _ k_rd
  obtain ⟨v985, rfl, -⟩ := hv985
  show et_go _ _ 1000 988 [some (.ref 150), some (.ref th), some (.ref am), some (.ref out), some (.int (Int32.ofNat i)), x5, x6] [.int v985] _ (ck + c985) (sk + s985) _
  refine ls_istore (i := 5) (p := 990) (by decide +kernel) (Nat.le_of_ble_eq_true rfl) ?_
  refine ls_aload (i := 2) (p := 991) (by decide +kernel) rfl ?_
  refine ls_arg (j := 1) (by decide +kernel) (by omega) hn ?_
  refine ls_arg (j := 2) (by decide +kernel) (by omega) hn ?_
  refine ls_arg (j := 3) (by decide +kernel) (by omega) hn ?_
  refine lt_callv (T := et_TT) (t := 13) (mi := 259) (na := 3) (ci := 11) (lk := 7) (lm := 4) (L0 := eg_en (eg_mL 259) [.ref am, .int (f (i + 1)), .int (f (i + 2)), .int (f (i + 3))]) (by decide +kernel) rfl hH k_am rfl rfl rfl rfl rfl (by rw [show eg_mL 259 = 4 from by decide +kernel]; first | done | rfl) ?_
  refine (er_p259_ok (K985, [], G985) [.ref am, .int (f (i + 1)), .int (f (i + 2)), .int (f (i + 3))] _ hH (by omega) rfl (ht_ac (.inr ⟨by decide, _, rfl, k_am⟩) (ht_ac hi_any (ht_ac hi_any (ht_ac hi_any ht_an))))).mono (fun u hu => ls_cbv hu (fun v1009 K1009 G1009 c1009 s1009 x1009 f1009 hH hv1009 cl1009 sl1009 => ?_))
  have hyw := hyw.fr k_th hrc.1.1 hrc.1.2.1 hrm.1.1 hrm.1.2 x1009 f1009 (by decide +kernel)
  have hci := hci.fr x1009 f1009 (by decide +kernel)
  have h3 := (f1009.2 th 12 k_th 3 rfl).trans h3
  have hl := (f1009.2 rd 7 k_rd 1 rfl).trans hl
  have hm := (f1009.2 am 13 k_am 5 rfl).trans hm
  have hp := (f1009.2 th 12 k_th 2 rfl).trans hp
  have hg := (f1009.2 am 13 k_am 3 rfl).trans hg
  have htC := htC.fr k_rd x1009 f1009 (by decide +kernel)
  have htM := htM.fr k_am x1009 f1009 (by decide +kernel)
  have hrc := hrc.fr k_th x1009 f1009 (by decide +kernel)
  have hrm := hrm.fr k_am x1009 f1009 (by decide +kernel)
  have k_th := x1009 _ _ k_th
  have k_am := x1009 _ _ k_am
  have k_out := x1009 _ _ k_out
  have k_rd := x1009 _ _ k_rd
  obtain ⟨v1009, rfl, -⟩ := hv1009
  show et_go _ _ 1000 1012 [some (.ref 150), some (.ref th), some (.ref am), some (.ref out), some (.int (Int32.ofNat i)), some (.int v985), x6] [.int v1009] _ ((ck + c985) + c1009) ((sk + s985) + s1009) _
  refine ls_istore (i := 6) (p := 1014) (by decide +kernel) (Nat.le_of_ble_eq_true rfl) ?_
  refine ls_goto (p := 1656) (by decide +kernel) ?_
  exact hN _ _ c h _ _ _ _ _ _ ⟨⟨hH, hci, k_th, k_am, k_out, h3, k_rd, hl, hm, hc⟩, ⟨hh1, hp, hg⟩, hrc, hrm, hbc, hbi, hyw, _, htC, htM, htb⟩ (by omega) (by omega)
set_option maxHeartbeats 2000000 in
theorem lw_c20 (hI : lw_I K G th am out rd s0 s1 aw ai tp ba na tm c h cn im) (hi : i + 6 ≤ n) (hn : n ≤ 3072) (hN : ∀ (K' : et_K) (G' : eg_G) (c' h' : Nat) (cn' im' : Nat → Nat) (ck' sk' : Nat) (y5 y6 : Option Value), lw_I K' G' th am out rd s0 s1 aw ai tp ba na tm c' h' cn' im' → ck' ≤ ck + 841 → sk' ≤ sk + 7168 → et_go (some (n, f)) (d + 41) 1000 1656 [some (.ref 150), some (.ref th), some (.ref am), some (.ref out), some (.int (Int32.ofNat i)), y5, y6] [] G' ck' sk' Z) : et_go (some (n, f)) (d + 41) 1000 1017 [some (.ref 150), some (.ref th), some (.ref am), some (.ref out), some (.int (Int32.ofNat i)), x5, x6] [] G ck sk Z := by
  obtain ⟨⟨hH, hci, k_th, k_am, k_out, h3, k_rd, hl, hm, hc⟩, ⟨hh1, hp, hg⟩, hrc, hrm, hbc, hbi, hyw, tb, htC, htM, htb⟩ := hI
  refine ls_aload (i := 1) (p := 1018) (by decide +kernel) rfl ?_
  refine ls_arg (j := 1) (by decide +kernel) (by omega) hn ?_
  refine ls_arg (j := 2) (by decide +kernel) (by omega) hn ?_
  refine ls_aload (i := 3) (p := 1031) (by decide +kernel) rfl ?_
  refine ls_calls (mi := 16) (na := 4) (lk := 7) (lm := 5) (L0 := eg_en (eg_mL 16) [.ref th, .int (f (i + 1)), .int (f (i + 2)), .ref out]) (by decide +kernel) rfl rfl rfl rfl rfl rfl (by rw [show eg_mL 16 = 5 from by decide +kernel]; first | done | rfl) ?_
  refine (hh_c16 (K, [], G) [.ref th, .int (f (i + 1)), .int (f (i + 2)), .ref out] _ hH (by omega) rfl (ht_ac (.inr ⟨by decide, _, rfl, k_th⟩) (ht_ac hi_any (ht_ac hi_any (ht_ac (.inr ⟨by decide, _, rfl, k_out⟩) ht_an))))).mono (fun u hu => ls_cbv hu (fun v1031 K1031 G1031 c1031 s1031 x1031 f1031 hH hv1031 cl1031 sl1031 => ?_))
  have hyw := hyw.fr k_th hrc.1.1 hrc.1.2.1 hrm.1.1 hrm.1.2 x1031 f1031 (by decide +kernel)
  have hci := hci.fr x1031 f1031 (by decide +kernel)
  have h3 := (f1031.2 th 12 k_th 3 rfl).trans h3
  have hl := (f1031.2 rd 7 k_rd 1 rfl).trans hl
  have hm := (f1031.2 am 13 k_am 5 rfl).trans hm
  have hp := (f1031.2 th 12 k_th 2 rfl).trans hp
  have hg := (f1031.2 am 13 k_am 3 rfl).trans hg
  have htC := htC.fr k_rd x1031 f1031 (by decide +kernel)
  have htM := htM.fr k_am x1031 f1031 (by decide +kernel)
  have hrc := hrc.fr k_th x1031 f1031 (by decide +kernel)
  have hrm := hrm.fr k_am x1031 f1031 (by decide +kernel)
  have k_th := x1031 _ _ k_th
  have k_am := x1031 _ _ k_am
  have k_out := x1031 _ _ k_out
  have k_rd := x1031 _ _ k_rd
  obtain ⟨v1031, rfl, -⟩ := hv1031
  show et_go _ _ 1000 1034 [some (.ref 150), some (.ref th), some (.ref am), some (.ref out), some (.int (Int32.ofNat i)), x5, x6] [.int v1031] _ (ck + c1031) (sk + s1031) _
  refine ls_istore (i := 5) (p := 1036) (by decide +kernel) (Nat.le_of_ble_eq_true rfl) ?_
  refine ls_aload (i := 2) (p := 1037) (by decide +kernel) rfl ?_
  refine ls_arg (j := 1) (by decide +kernel) (by omega) hn ?_
  refine ls_arg (j := 2) (by decide +kernel) (by omega) hn ?_
  refine lt_callv (T := et_TT) (t := 13) (mi := 260) (na := 2) (ci := 11) (lk := 7) (lm := 3) (L0 := eg_en (eg_mL 260) [.ref am, .int (f (i + 1)), .int (f (i + 2))]) (by decide +kernel) rfl hH k_am rfl rfl rfl rfl rfl (by rw [show eg_mL 260 = 3 from by decide +kernel]; first | done | rfl) ?_
  refine (er_p260_ok (K1031, [], G1031) [.ref am, .int (f (i + 1)), .int (f (i + 2))] _ hH (by omega) rfl (ht_ac (.inr ⟨by decide, _, rfl, k_am⟩) (ht_ac hi_any (ht_ac hi_any ht_an)))).mono (fun u hu => ls_cbv hu (fun v1049 K1049 G1049 c1049 s1049 x1049 f1049 hH hv1049 cl1049 sl1049 => ?_))
  have hyw := hyw.fr k_th hrc.1.1 hrc.1.2.1 hrm.1.1 hrm.1.2 x1049 f1049 (by decide +kernel)
  have hci := hci.fr x1049 f1049 (by decide +kernel)
  have h3 := (f1049.2 th 12 k_th 3 rfl).trans h3
  have hl := (f1049.2 rd 7 k_rd 1 rfl).trans hl
  have hm := (f1049.2 am 13 k_am 5 rfl).trans hm
  have hp := (f1049.2 th 12 k_th 2 rfl).trans hp
  have hg := (f1049.2 am 13 k_am 3 rfl).trans hg
  have htC := htC.fr k_rd x1049 f1049 (by decide +kernel)
  have htM := htM.fr k_am x1049 f1049 (by decide +kernel)
  have hrc := hrc.fr k_th x1049 f1049 (by decide +kernel)
  have hrm := hrm.fr k_am x1049 f1049 (by decide +kernel)
  have k_th := x1049 _ _ k_th
  have k_am := x1049 _ _ k_am
  have k_out := x1049 _ _ k_out
  have k_rd := x1049 _ _ k_rd
  obtain ⟨v1049, rfl, -⟩ := hv1049
  show et_go _ _ 1000 1052 [some (.ref 150), some (.ref th), some (.ref am), some (.ref out), some (.int (Int32.ofNat i)), some (.int v1031), x6] [.int v1049] _ ((ck + c1031) + c1049) ((sk + s1031) + s1049) _
  refine ls_istore (i := 6) (p := 1054) (by decide +kernel) (Nat.le_of_ble_eq_true rfl) ?_
  refine ls_goto (p := 1656) (by decide +kernel) ?_
  exact hN _ _ c h _ _ _ _ _ _ ⟨⟨hH, hci, k_th, k_am, k_out, h3, k_rd, hl, hm, hc⟩, ⟨hh1, hp, hg⟩, hrc, hrm, hbc, hbi, hyw, _, htC, htM, htb⟩ (by omega) (by omega)
set_option maxHeartbeats 2000000 in
theorem lw_c21 (hI : lw_I K G th am out rd s0 s1 aw ai tp ba na tm c h cn im) (hi : i + 6 ≤ n) (hn : n ≤ 3072) (hN : ∀ (K' : et_K) (G' : eg_G) (c' h' : Nat) (cn' im' : Nat → Nat) (ck' sk' : Nat) (y5 y6 : Option Value), lw_I K' G' th am out rd s0 s1 aw ai tp ba na tm c' h' cn' im' → ck' ≤ ck + 841 → sk' ≤ sk + 7168 → et_go (some (n, f)) (d + 41) 1000 1656 [some (.ref 150), some (.ref th), some (.ref am), some (.ref out), some (.int (Int32.ofNat i)), y5, y6] [] G' ck' sk' Z) : et_go (some (n, f)) (d + 41) 1000 1057 [some (.ref 150), some (.ref th), some (.ref am), some (.ref out), some (.int (Int32.ofNat i)), x5, x6] [] G ck sk Z := by
  obtain ⟨⟨hH, hci, k_th, k_am, k_out, h3, k_rd, hl, hm, hc⟩, ⟨hh1, hp, hg⟩, hrc, hrm, hbc, hbi, hyw, tb, htC, htM, htb⟩ := hI
  refine ls_aload (i := 1) (p := 1058) (by decide +kernel) rfl ?_
  refine ls_arg (j := 1) (by decide +kernel) (by omega) hn ?_
  refine ls_arg (j := 2) (by decide +kernel) (by omega) hn ?_
  refine ls_aload (i := 3) (p := 1071) (by decide +kernel) rfl ?_
  refine ls_calls (mi := 17) (na := 4) (lk := 7) (lm := 5) (L0 := eg_en (eg_mL 17) [.ref th, .int (f (i + 1)), .int (f (i + 2)), .ref out]) (by decide +kernel) rfl rfl rfl rfl rfl rfl (by rw [show eg_mL 17 = 5 from by decide +kernel]; first | done | rfl) ?_
  refine (hh_c17 (K, [], G) [.ref th, .int (f (i + 1)), .int (f (i + 2)), .ref out] _ hH (by omega) rfl (ht_ac (.inr ⟨by decide, _, rfl, k_th⟩) (ht_ac hi_any (ht_ac hi_any (ht_ac (.inr ⟨by decide, _, rfl, k_out⟩) ht_an))))).mono (fun u hu => ls_cbv hu (fun v1071 K1071 G1071 c1071 s1071 x1071 f1071 hH hv1071 cl1071 sl1071 => ?_))
  have hyw := hyw.fr k_th hrc.1.1 hrc.1.2.1 hrm.1.1 hrm.1.2 x1071 f1071 (by decide +kernel)
  have hci := hci.fr x1071 f1071 (by decide +kernel)
  have h3 := (f1071.2 th 12 k_th 3 rfl).trans h3
  have hl := (f1071.2 rd 7 k_rd 1 rfl).trans hl
  have hm := (f1071.2 am 13 k_am 5 rfl).trans hm
  have hp := (f1071.2 th 12 k_th 2 rfl).trans hp
  have hg := (f1071.2 am 13 k_am 3 rfl).trans hg
  have htC := htC.fr k_rd x1071 f1071 (by decide +kernel)
  have htM := htM.fr k_am x1071 f1071 (by decide +kernel)
  have hrc := hrc.fr k_th x1071 f1071 (by decide +kernel)
  have hrm := hrm.fr k_am x1071 f1071 (by decide +kernel)
  have k_th := x1071 _ _ k_th
  have k_am := x1071 _ _ k_am
  have k_out := x1071 _ _ k_out
  have k_rd := x1071 _ _ k_rd
  obtain ⟨v1071, rfl, -⟩ := hv1071
  show et_go _ _ 1000 1074 [some (.ref 150), some (.ref th), some (.ref am), some (.ref out), some (.int (Int32.ofNat i)), x5, x6] [.int v1071] _ (ck + c1071) (sk + s1071) _
  refine ls_istore (i := 5) (p := 1076) (by decide +kernel) (Nat.le_of_ble_eq_true rfl) ?_
  refine ls_aload (i := 2) (p := 1077) (by decide +kernel) rfl ?_
  refine ls_arg (j := 1) (by decide +kernel) (by omega) hn ?_
  refine ls_arg (j := 2) (by decide +kernel) (by omega) hn ?_
  refine lt_callv (T := et_TT) (t := 13) (mi := 261) (na := 2) (ci := 11) (lk := 7) (lm := 15) (L0 := eg_en (eg_mL 261) [.ref am, .int (f (i + 1)), .int (f (i + 2))]) (by decide +kernel) rfl hH k_am rfl rfl rfl rfl rfl (by rw [show eg_mL 261 = 15 from by decide +kernel]; first | done | rfl) ?_
  refine (hc_bd (K1071, [], G1071) [.ref am, .int (f (i + 1)), .int (f (i + 2))] _ hH (by omega) rfl (ht_ac (.inr ⟨by decide, _, rfl, k_am⟩) (ht_ac hi_any (ht_ac hi_any ht_an)))).mono (fun u hu => ls_cbv hu (fun v1089 K1089 G1089 c1089 s1089 x1089 f1089 hH hv1089 cl1089 sl1089 => ?_))
  have hyw := hyw.fr k_th hrc.1.1 hrc.1.2.1 hrm.1.1 hrm.1.2 x1089 f1089 (by decide +kernel)
  have hci := hci.fr x1089 f1089 (by decide +kernel)
  have h3 := (f1089.2 th 12 k_th 3 rfl).trans h3
  have hl := (f1089.2 rd 7 k_rd 1 rfl).trans hl
  have hm := (f1089.2 am 13 k_am 5 rfl).trans hm
  have hp := (f1089.2 th 12 k_th 2 rfl).trans hp
  have hg := (f1089.2 am 13 k_am 3 rfl).trans hg
  have htC := htC.fr k_rd x1089 f1089 (by decide +kernel)
  have htM := htM.fr k_am x1089 f1089 (by decide +kernel)
  have hrc := hrc.fr k_th x1089 f1089 (by decide +kernel)
  have hrm := hrm.fr k_am x1089 f1089 (by decide +kernel)
  have k_th := x1089 _ _ k_th
  have k_am := x1089 _ _ k_am
  have k_out := x1089 _ _ k_out
  have k_rd := x1089 _ _ k_rd
  obtain ⟨v1089, rfl, -⟩ := hv1089
  show et_go _ _ 1000 1092 [some (.ref 150), some (.ref th), some (.ref am), some (.ref out), some (.int (Int32.ofNat i)), some (.int v1071), x6] [.int v1089] _ ((ck + c1071) + c1089) ((sk + s1071) + s1089) _
  refine ls_istore (i := 6) (p := 1094) (by decide +kernel) (Nat.le_of_ble_eq_true rfl) ?_
  refine ls_goto (p := 1656) (by decide +kernel) ?_
  exact hN _ _ c h _ _ _ _ _ _ ⟨⟨hH, hci, k_th, k_am, k_out, h3, k_rd, hl, hm, hc⟩, ⟨hh1, hp, hg⟩, hrc, hrm, hbc, hbi, hyw, _, htC, htM, htb⟩ (by omega) (by omega)
set_option maxHeartbeats 2000000 in
theorem lw_c22 (hI : lw_I K G th am out rd s0 s1 aw ai tp ba na tm c h cn im) (hi : i + 6 ≤ n) (hn : n ≤ 3072) (hN : ∀ (K' : et_K) (G' : eg_G) (c' h' : Nat) (cn' im' : Nat → Nat) (ck' sk' : Nat) (y5 y6 : Option Value), lw_I K' G' th am out rd s0 s1 aw ai tp ba na tm c' h' cn' im' → ck' ≤ ck + 841 → sk' ≤ sk + 7168 → et_go (some (n, f)) (d + 41) 1000 1656 [some (.ref 150), some (.ref th), some (.ref am), some (.ref out), some (.int (Int32.ofNat i)), y5, y6] [] G' ck' sk' Z) : et_go (some (n, f)) (d + 41) 1000 1097 [some (.ref 150), some (.ref th), some (.ref am), some (.ref out), some (.int (Int32.ofNat i)), x5, x6] [] G ck sk Z := by
  obtain ⟨⟨hH, hci, k_th, k_am, k_out, h3, k_rd, hl, hm, hc⟩, ⟨hh1, hp, hg⟩, hrc, hrm, hbc, hbi, hyw, tb, htC, htM, htb⟩ := hI
  refine ls_aload (i := 1) (p := 1098) (by decide +kernel) rfl ?_
  refine ls_arg (j := 1) (by decide +kernel) (by omega) hn ?_
  refine ls_arg (j := 2) (by decide +kernel) (by omega) hn ?_
  refine ls_aload (i := 3) (p := 1111) (by decide +kernel) rfl ?_
  refine ls_calls (mi := 18) (na := 4) (lk := 7) (lm := 5) (L0 := eg_en (eg_mL 18) [.ref th, .int (f (i + 1)), .int (f (i + 2)), .ref out]) (by decide +kernel) rfl rfl rfl rfl rfl rfl (by rw [show eg_mL 18 = 5 from by decide +kernel]; first | done | rfl) ?_
  refine (hh_c18 (K, [], G) [.ref th, .int (f (i + 1)), .int (f (i + 2)), .ref out] _ hH (by omega) rfl (ht_ac (.inr ⟨by decide, _, rfl, k_th⟩) (ht_ac hi_any (ht_ac hi_any (ht_ac (.inr ⟨by decide, _, rfl, k_out⟩) ht_an))))).mono (fun u hu => ls_cbv hu (fun v1111 K1111 G1111 c1111 s1111 x1111 f1111 hH hv1111 cl1111 sl1111 => ?_))
  have hyw := hyw.fr k_th hrc.1.1 hrc.1.2.1 hrm.1.1 hrm.1.2 x1111 f1111 (by decide +kernel)
  have hci := hci.fr x1111 f1111 (by decide +kernel)
  have h3 := (f1111.2 th 12 k_th 3 rfl).trans h3
  have hl := (f1111.2 rd 7 k_rd 1 rfl).trans hl
  have hm := (f1111.2 am 13 k_am 5 rfl).trans hm
  have hp := (f1111.2 th 12 k_th 2 rfl).trans hp
  have hg := (f1111.2 am 13 k_am 3 rfl).trans hg
  have htC := htC.fr k_rd x1111 f1111 (by decide +kernel)
  have htM := htM.fr k_am x1111 f1111 (by decide +kernel)
  have hrc := hrc.fr k_th x1111 f1111 (by decide +kernel)
  have hrm := hrm.fr k_am x1111 f1111 (by decide +kernel)
  have k_th := x1111 _ _ k_th
  have k_am := x1111 _ _ k_am
  have k_out := x1111 _ _ k_out
  have k_rd := x1111 _ _ k_rd
  obtain ⟨v1111, rfl, -⟩ := hv1111
  show et_go _ _ 1000 1114 [some (.ref 150), some (.ref th), some (.ref am), some (.ref out), some (.int (Int32.ofNat i)), x5, x6] [.int v1111] _ (ck + c1111) (sk + s1111) _
  refine ls_istore (i := 5) (p := 1116) (by decide +kernel) (Nat.le_of_ble_eq_true rfl) ?_
  refine ls_aload (i := 2) (p := 1117) (by decide +kernel) rfl ?_
  refine ls_arg (j := 1) (by decide +kernel) (by omega) hn ?_
  refine ls_arg (j := 2) (by decide +kernel) (by omega) hn ?_
  refine lt_callv (T := et_TT) (t := 13) (mi := 262) (na := 2) (ci := 11) (lk := 7) (lm := 3) (L0 := eg_en (eg_mL 262) [.ref am, .int (f (i + 1)), .int (f (i + 2))]) (by decide +kernel) rfl hH k_am rfl rfl rfl rfl rfl (by rw [show eg_mL 262 = 3 from by decide +kernel]; first | done | rfl) ?_
  refine (er_p262_ok (K1111, [], G1111) [.ref am, .int (f (i + 1)), .int (f (i + 2))] _ hH (by omega) rfl (ht_ac (.inr ⟨by decide, _, rfl, k_am⟩) (ht_ac hi_any (ht_ac hi_any ht_an)))).mono (fun u hu => ls_cbv hu (fun v1129 K1129 G1129 c1129 s1129 x1129 f1129 hH hv1129 cl1129 sl1129 => ?_))
  have hyw := hyw.fr k_th hrc.1.1 hrc.1.2.1 hrm.1.1 hrm.1.2 x1129 f1129 (by decide +kernel)
  have hci := hci.fr x1129 f1129 (by decide +kernel)
  have h3 := (f1129.2 th 12 k_th 3 rfl).trans h3
  have hl := (f1129.2 rd 7 k_rd 1 rfl).trans hl
  have hm := (f1129.2 am 13 k_am 5 rfl).trans hm
  have hp := (f1129.2 th 12 k_th 2 rfl).trans hp
  have hg := (f1129.2 am 13 k_am 3 rfl).trans hg
  have htC := htC.fr k_rd x1129 f1129 (by decide +kernel)
  have htM := htM.fr k_am x1129 f1129 (by decide +kernel)
  have hrc := hrc.fr k_th x1129 f1129 (by decide +kernel)
  have hrm := hrm.fr k_am x1129 f1129 (by decide +kernel)
  have k_th := x1129 _ _ k_th
  have k_am := x1129 _ _ k_am
  have k_out := x1129 _ _ k_out
  have k_rd := x1129 _ _ k_rd
  obtain ⟨v1129, rfl, -⟩ := hv1129
  show et_go _ _ 1000 1132 [some (.ref 150), some (.ref th), some (.ref am), some (.ref out), some (.int (Int32.ofNat i)), some (.int v1111), x6] [.int v1129] _ ((ck + c1111) + c1129) ((sk + s1111) + s1129) _
  refine ls_istore (i := 6) (p := 1134) (by decide +kernel) (Nat.le_of_ble_eq_true rfl) ?_
  refine ls_goto (p := 1656) (by decide +kernel) ?_
  exact hN _ _ c h _ _ _ _ _ _ ⟨⟨hH, hci, k_th, k_am, k_out, h3, k_rd, hl, hm, hc⟩, ⟨hh1, hp, hg⟩, hrc, hrm, hbc, hbi, hyw, _, htC, htM, htb⟩ (by omega) (by omega)
set_option maxHeartbeats 2000000 in
theorem lw_c23 (hI : lw_I K G th am out rd s0 s1 aw ai tp ba na tm c h cn im) (hi : i + 6 ≤ n) (hn : n ≤ 3072) (hN : ∀ (K' : et_K) (G' : eg_G) (c' h' : Nat) (cn' im' : Nat → Nat) (ck' sk' : Nat) (y5 y6 : Option Value), lw_I K' G' th am out rd s0 s1 aw ai tp ba na tm c' h' cn' im' → ck' ≤ ck + 841 → sk' ≤ sk + 7168 → et_go (some (n, f)) (d + 41) 1000 1656 [some (.ref 150), some (.ref th), some (.ref am), some (.ref out), some (.int (Int32.ofNat i)), y5, y6] [] G' ck' sk' Z) : et_go (some (n, f)) (d + 41) 1000 1137 [some (.ref 150), some (.ref th), some (.ref am), some (.ref out), some (.int (Int32.ofNat i)), x5, x6] [] G ck sk Z := by
  obtain ⟨⟨hH, hci, k_th, k_am, k_out, h3, k_rd, hl, hm, hc⟩, ⟨hh1, hp, hg⟩, hrc, hrm, hbc, hbi, hyw, tb, htC, htM, htb⟩ := hI
  refine ls_aload (i := 1) (p := 1138) (by decide +kernel) rfl ?_
  refine ls_arg (j := 1) (by decide +kernel) (by omega) hn ?_
  refine ls_arg (j := 2) (by decide +kernel) (by omega) hn ?_
  refine ls_arg (j := 3) (by decide +kernel) (by omega) hn ?_
  refine ls_aload (i := 3) (p := 1157) (by decide +kernel) rfl ?_
  refine ls_calls (mi := 19) (na := 5) (lk := 7) (lm := 6) (L0 := eg_en (eg_mL 19) [.ref th, .int (f (i + 1)), .int (f (i + 2)), .int (f (i + 3)), .ref out]) (by decide +kernel) rfl rfl rfl rfl rfl rfl (by rw [show eg_mL 19 = 6 from by decide +kernel]; first | done | rfl) ?_
  refine (hh_c19 (K, [], G) [.ref th, .int (f (i + 1)), .int (f (i + 2)), .int (f (i + 3)), .ref out] _ hH (by omega) rfl (ht_ac (.inr ⟨by decide, _, rfl, k_th⟩) (ht_ac hi_any (ht_ac hi_any (ht_ac hi_any (ht_ac (.inr ⟨by decide, _, rfl, k_out⟩) ht_an)))))).mono (fun u hu => ls_cbv hu (fun v1157 K1157 G1157 c1157 s1157 x1157 f1157 hH hv1157 cl1157 sl1157 => ?_))
  have hyw := hyw.fr k_th hrc.1.1 hrc.1.2.1 hrm.1.1 hrm.1.2 x1157 f1157 (by decide +kernel)
  have hci := hci.fr x1157 f1157 (by decide +kernel)
  have h3 := (f1157.2 th 12 k_th 3 rfl).trans h3
  have hl := (f1157.2 rd 7 k_rd 1 rfl).trans hl
  have hm := (f1157.2 am 13 k_am 5 rfl).trans hm
  have hp := (f1157.2 th 12 k_th 2 rfl).trans hp
  have hg := (f1157.2 am 13 k_am 3 rfl).trans hg
  have htC := htC.fr k_rd x1157 f1157 (by decide +kernel)
  have htM := htM.fr k_am x1157 f1157 (by decide +kernel)
  have hrc := hrc.fr k_th x1157 f1157 (by decide +kernel)
  have hrm := hrm.fr k_am x1157 f1157 (by decide +kernel)
  have k_th := x1157 _ _ k_th
  have k_am := x1157 _ _ k_am
  have k_out := x1157 _ _ k_out
  have k_rd := x1157 _ _ k_rd
  obtain ⟨v1157, rfl, -⟩ := hv1157
  show et_go _ _ 1000 1160 [some (.ref 150), some (.ref th), some (.ref am), some (.ref out), some (.int (Int32.ofNat i)), x5, x6] [.int v1157] _ (ck + c1157) (sk + s1157) _
  refine ls_istore (i := 5) (p := 1162) (by decide +kernel) (Nat.le_of_ble_eq_true rfl) ?_
  refine ls_aload (i := 2) (p := 1163) (by decide +kernel) rfl ?_
  refine ls_arg (j := 1) (by decide +kernel) (by omega) hn ?_
  refine ls_arg (j := 2) (by decide +kernel) (by omega) hn ?_
  refine ls_arg (j := 3) (by decide +kernel) (by omega) hn ?_
  refine lt_callv (T := et_TT) (t := 13) (mi := 270) (na := 3) (ci := 11) (lk := 7) (lm := 4) (L0 := eg_en (eg_mL 270) [.ref am, .int (f (i + 1)), .int (f (i + 2)), .int (f (i + 3))]) (by decide +kernel) rfl hH k_am rfl rfl rfl rfl rfl (by rw [show eg_mL 270 = 4 from by decide +kernel]; first | done | rfl) ?_
  refine (er_p270_ok (K1157, [], G1157) [.ref am, .int (f (i + 1)), .int (f (i + 2)), .int (f (i + 3))] _ hH (by omega) rfl (ht_ac (.inr ⟨by decide, _, rfl, k_am⟩) (ht_ac hi_any (ht_ac hi_any (ht_ac hi_any ht_an))))).mono (fun u hu => ls_cbv hu (fun v1181 K1181 G1181 c1181 s1181 x1181 f1181 hH hv1181 cl1181 sl1181 => ?_))
  have hyw := hyw.fr k_th hrc.1.1 hrc.1.2.1 hrm.1.1 hrm.1.2 x1181 f1181 (by decide +kernel)
  have hci := hci.fr x1181 f1181 (by decide +kernel)
  have h3 := (f1181.2 th 12 k_th 3 rfl).trans h3
  have hl := (f1181.2 rd 7 k_rd 1 rfl).trans hl
  have hm := (f1181.2 am 13 k_am 5 rfl).trans hm
  have hp := (f1181.2 th 12 k_th 2 rfl).trans hp
  have hg := (f1181.2 am 13 k_am 3 rfl).trans hg
  have htC := htC.fr k_rd x1181 f1181 (by decide +kernel)
  have htM := htM.fr k_am x1181 f1181 (by decide +kernel)
  have hrc := hrc.fr k_th x1181 f1181 (by decide +kernel)
  have hrm := hrm.fr k_am x1181 f1181 (by decide +kernel)
  have k_th := x1181 _ _ k_th
  have k_am := x1181 _ _ k_am
  have k_out := x1181 _ _ k_out
  have k_rd := x1181 _ _ k_rd
  obtain ⟨v1181, rfl, -⟩ := hv1181
  show et_go _ _ 1000 1184 [some (.ref 150), some (.ref th), some (.ref am), some (.ref out), some (.int (Int32.ofNat i)), some (.int v1157), x6] [.int v1181] _ ((ck + c1157) + c1181) ((sk + s1157) + s1181) _
  refine ls_istore (i := 6) (p := 1186) (by decide +kernel) (Nat.le_of_ble_eq_true rfl) ?_
  refine ls_goto (p := 1656) (by decide +kernel) ?_
  exact hN _ _ c h _ _ _ _ _ _ ⟨⟨hH, hci, k_th, k_am, k_out, h3, k_rd, hl, hm, hc⟩, ⟨hh1, hp, hg⟩, hrc, hrm, hbc, hbi, hyw, _, htC, htM, htb⟩ (by omega) (by omega)
set_option maxHeartbeats 2000000 in
theorem lw_c24 (hI : lw_I K G th am out rd s0 s1 aw ai tp ba na tm c h cn im) (hi : i + 6 ≤ n) (hn : n ≤ 3072) (hN : ∀ (K' : et_K) (G' : eg_G) (c' h' : Nat) (cn' im' : Nat → Nat) (ck' sk' : Nat) (y5 y6 : Option Value), lw_I K' G' th am out rd s0 s1 aw ai tp ba na tm c' h' cn' im' → ck' ≤ ck + 841 → sk' ≤ sk + 7168 → et_go (some (n, f)) (d + 41) 1000 1656 [some (.ref 150), some (.ref th), some (.ref am), some (.ref out), some (.int (Int32.ofNat i)), y5, y6] [] G' ck' sk' Z) : et_go (some (n, f)) (d + 41) 1000 1189 [some (.ref 150), some (.ref th), some (.ref am), some (.ref out), some (.int (Int32.ofNat i)), x5, x6] [] G ck sk Z := by
  obtain ⟨⟨hH, hci, k_th, k_am, k_out, h3, k_rd, hl, hm, hc⟩, ⟨hh1, hp, hg⟩, hrc, hrm, hbc, hbi, hyw, tb, htC, htM, htb⟩ := hI
  refine ls_aload (i := 1) (p := 1190) (by decide +kernel) rfl ?_
  refine ls_arg (j := 1) (by decide +kernel) (by omega) hn ?_
  refine ls_arg (j := 2) (by decide +kernel) (by omega) hn ?_
  refine ls_aload (i := 3) (p := 1203) (by decide +kernel) rfl ?_
  refine ls_calls (mi := 20) (na := 4) (lk := 7) (lm := 5) (L0 := eg_en (eg_mL 20) [.ref th, .int (f (i + 1)), .int (f (i + 2)), .ref out]) (by decide +kernel) rfl rfl rfl rfl rfl rfl (by rw [show eg_mL 20 = 5 from by decide +kernel]; first | done | rfl) ?_
  refine (hh_c20 (K, [], G) [.ref th, .int (f (i + 1)), .int (f (i + 2)), .ref out] _ hH (by omega) rfl (ht_ac (.inr ⟨by decide, _, rfl, k_th⟩) (ht_ac hi_any (ht_ac hi_any (ht_ac (.inr ⟨by decide, _, rfl, k_out⟩) ht_an))))).mono (fun u hu => ls_cbv hu (fun v1203 K1203 G1203 c1203 s1203 x1203 f1203 hH hv1203 cl1203 sl1203 => ?_))
  have hyw := hyw.fr k_th hrc.1.1 hrc.1.2.1 hrm.1.1 hrm.1.2 x1203 f1203 (by decide +kernel)
  have hci := hci.fr x1203 f1203 (by decide +kernel)
  have h3 := (f1203.2 th 12 k_th 3 rfl).trans h3
  have hl := (f1203.2 rd 7 k_rd 1 rfl).trans hl
  have hm := (f1203.2 am 13 k_am 5 rfl).trans hm
  have hp := (f1203.2 th 12 k_th 2 rfl).trans hp
  have hg := (f1203.2 am 13 k_am 3 rfl).trans hg
  have htC := htC.fr k_rd x1203 f1203 (by decide +kernel)
  have htM := htM.fr k_am x1203 f1203 (by decide +kernel)
  have hrc := hrc.fr k_th x1203 f1203 (by decide +kernel)
  have hrm := hrm.fr k_am x1203 f1203 (by decide +kernel)
  have k_th := x1203 _ _ k_th
  have k_am := x1203 _ _ k_am
  have k_out := x1203 _ _ k_out
  have k_rd := x1203 _ _ k_rd
  obtain ⟨v1203, rfl, -⟩ := hv1203
  show et_go _ _ 1000 1206 [some (.ref 150), some (.ref th), some (.ref am), some (.ref out), some (.int (Int32.ofNat i)), x5, x6] [.int v1203] _ (ck + c1203) (sk + s1203) _
  refine ls_istore (i := 5) (p := 1208) (by decide +kernel) (Nat.le_of_ble_eq_true rfl) ?_
  refine ls_aload (i := 2) (p := 1209) (by decide +kernel) rfl ?_
  refine ls_arg (j := 1) (by decide +kernel) (by omega) hn ?_
  refine ls_arg (j := 2) (by decide +kernel) (by omega) hn ?_
  refine lt_callv (T := et_TT) (t := 13) (mi := 272) (na := 2) (ci := 11) (lk := 7) (lm := 3) (L0 := eg_en (eg_mL 272) [.ref am, .int (f (i + 1)), .int (f (i + 2))]) (by decide +kernel) rfl hH k_am rfl rfl rfl rfl rfl (by rw [show eg_mL 272 = 3 from by decide +kernel]; first | done | rfl) ?_
  refine (er_p272_ok (K1203, [], G1203) [.ref am, .int (f (i + 1)), .int (f (i + 2))] _ hH (by omega) rfl (ht_ac (.inr ⟨by decide, _, rfl, k_am⟩) (ht_ac hi_any (ht_ac hi_any ht_an)))).mono (fun u hu => ls_cbv hu (fun v1221 K1221 G1221 c1221 s1221 x1221 f1221 hH hv1221 cl1221 sl1221 => ?_))
  have hyw := hyw.fr k_th hrc.1.1 hrc.1.2.1 hrm.1.1 hrm.1.2 x1221 f1221 (by decide +kernel)
  have hci := hci.fr x1221 f1221 (by decide +kernel)
  have h3 := (f1221.2 th 12 k_th 3 rfl).trans h3
  have hl := (f1221.2 rd 7 k_rd 1 rfl).trans hl
  have hm := (f1221.2 am 13 k_am 5 rfl).trans hm
  have hp := (f1221.2 th 12 k_th 2 rfl).trans hp
  have hg := (f1221.2 am 13 k_am 3 rfl).trans hg
  have htC := htC.fr k_rd x1221 f1221 (by decide +kernel)
  have htM := htM.fr k_am x1221 f1221 (by decide +kernel)
  have hrc := hrc.fr k_th x1221 f1221 (by decide +kernel)
  have hrm := hrm.fr k_am x1221 f1221 (by decide +kernel)
  have k_th := x1221 _ _ k_th
  have k_am := x1221 _ _ k_am
  have k_out := x1221 _ _ k_out
  have k_rd := x1221 _ _ k_rd
  obtain ⟨v1221, rfl, -⟩ := hv1221
  show et_go _ _ 1000 1224 [some (.ref 150), some (.ref th), some (.ref am), some (.ref out), some (.int (Int32.ofNat i)), some (.int v1203), x6] [.int v1221] _ ((ck + c1203) + c1221) ((sk + s1203) + s1221) _
  refine ls_istore (i := 6) (p := 1226) (by decide +kernel) (Nat.le_of_ble_eq_true rfl) ?_
  refine ls_goto (p := 1656) (by decide +kernel) ?_
  exact hN _ _ c h _ _ _ _ _ _ ⟨⟨hH, hci, k_th, k_am, k_out, h3, k_rd, hl, hm, hc⟩, ⟨hh1, hp, hg⟩, hrc, hrm, hbc, hbi, hyw, _, htC, htM, htb⟩ (by omega) (by omega)
set_option maxHeartbeats 2000000 in
theorem lw_c25 (hI : lw_I K G th am out rd s0 s1 aw ai tp ba na tm c h cn im) (hi : i + 6 ≤ n) (hn : n ≤ 3072) (hN : ∀ (K' : et_K) (G' : eg_G) (c' h' : Nat) (cn' im' : Nat → Nat) (ck' sk' : Nat) (y5 y6 : Option Value), lw_I K' G' th am out rd s0 s1 aw ai tp ba na tm c' h' cn' im' → ck' ≤ ck + 841 → sk' ≤ sk + 7168 → et_go (some (n, f)) (d + 41) 1000 1656 [some (.ref 150), some (.ref th), some (.ref am), some (.ref out), some (.int (Int32.ofNat i)), y5, y6] [] G' ck' sk' Z) : et_go (some (n, f)) (d + 41) 1000 1229 [some (.ref 150), some (.ref th), some (.ref am), some (.ref out), some (.int (Int32.ofNat i)), x5, x6] [] G ck sk Z := by
  obtain ⟨⟨hH, hci, k_th, k_am, k_out, h3, k_rd, hl, hm, hc⟩, ⟨hh1, hp, hg⟩, hrc, hrm, hbc, hbi, hyw, tb, htC, htM, htb⟩ := hI
  refine ls_aload (i := 1) (p := 1230) (by decide +kernel) rfl ?_
  refine ls_arg (j := 1) (by decide +kernel) (by omega) hn ?_
  refine ls_aload (i := 3) (p := 1237) (by decide +kernel) rfl ?_
  refine ls_calls (mi := 21) (na := 3) (lk := 7) (lm := 4) (L0 := eg_en (eg_mL 21) [.ref th, .int (f (i + 1)), .ref out]) (by decide +kernel) rfl rfl rfl rfl rfl rfl (by rw [show eg_mL 21 = 4 from by decide +kernel]; first | done | rfl) ?_
  refine (hh_c21 (K, [], G) [.ref th, .int (f (i + 1)), .ref out] _ hH (by omega) rfl (ht_ac (.inr ⟨by decide, _, rfl, k_th⟩) (ht_ac hi_any (ht_ac (.inr ⟨by decide, _, rfl, k_out⟩) ht_an)))).mono (fun u hu => ls_cbv hu (fun v1237 K1237 G1237 c1237 s1237 x1237 f1237 hH hv1237 cl1237 sl1237 => ?_))
  have hyw := hyw.fr k_th hrc.1.1 hrc.1.2.1 hrm.1.1 hrm.1.2 x1237 f1237 (by decide +kernel)
  have hci := hci.fr x1237 f1237 (by decide +kernel)
  have h3 := (f1237.2 th 12 k_th 3 rfl).trans h3
  have hl := (f1237.2 rd 7 k_rd 1 rfl).trans hl
  have hm := (f1237.2 am 13 k_am 5 rfl).trans hm
  have hp := (f1237.2 th 12 k_th 2 rfl).trans hp
  have hg := (f1237.2 am 13 k_am 3 rfl).trans hg
  have htC := htC.fr k_rd x1237 f1237 (by decide +kernel)
  have htM := htM.fr k_am x1237 f1237 (by decide +kernel)
  have hrc := hrc.fr k_th x1237 f1237 (by decide +kernel)
  have hrm := hrm.fr k_am x1237 f1237 (by decide +kernel)
  have k_th := x1237 _ _ k_th
  have k_am := x1237 _ _ k_am
  have k_out := x1237 _ _ k_out
  have k_rd := x1237 _ _ k_rd
  obtain ⟨v1237, rfl, -⟩ := hv1237
  show et_go _ _ 1000 1240 [some (.ref 150), some (.ref th), some (.ref am), some (.ref out), some (.int (Int32.ofNat i)), x5, x6] [.int v1237] _ (ck + c1237) (sk + s1237) _
  refine ls_istore (i := 5) (p := 1242) (by decide +kernel) (Nat.le_of_ble_eq_true rfl) ?_
  refine ls_aload (i := 2) (p := 1243) (by decide +kernel) rfl ?_
  refine ls_arg (j := 1) (by decide +kernel) (by omega) hn ?_
  refine lt_callv (T := et_TT) (t := 13) (mi := 275) (na := 1) (ci := 11) (lk := 7) (lm := 6) (L0 := eg_en (eg_mL 275) [.ref am, .int (f (i + 1))]) (by decide +kernel) rfl hH k_am rfl rfl rfl rfl rfl (by rw [show eg_mL 275 = 6 from by decide +kernel]; first | done | rfl) ?_
  refine (er_p275_ok (K1237, [], G1237) [.ref am, .int (f (i + 1))] _ hH (by omega) rfl (ht_ac (.inr ⟨by decide, _, rfl, k_am⟩) (ht_ac hi_any ht_an))).mono (fun u hu => ls_cbv hu (fun v1249 K1249 G1249 c1249 s1249 x1249 f1249 hH hv1249 cl1249 sl1249 => ?_))
  have hyw := hyw.fr k_th hrc.1.1 hrc.1.2.1 hrm.1.1 hrm.1.2 x1249 f1249 (by decide +kernel)
  have hci := hci.fr x1249 f1249 (by decide +kernel)
  have h3 := (f1249.2 th 12 k_th 3 rfl).trans h3
  have hl := (f1249.2 rd 7 k_rd 1 rfl).trans hl
  have hm := (f1249.2 am 13 k_am 5 rfl).trans hm
  have hp := (f1249.2 th 12 k_th 2 rfl).trans hp
  have hg := (f1249.2 am 13 k_am 3 rfl).trans hg
  have htC := htC.fr k_rd x1249 f1249 (by decide +kernel)
  have htM := htM.fr k_am x1249 f1249 (by decide +kernel)
  have hrc := hrc.fr k_th x1249 f1249 (by decide +kernel)
  have hrm := hrm.fr k_am x1249 f1249 (by decide +kernel)
  have k_th := x1249 _ _ k_th
  have k_am := x1249 _ _ k_am
  have k_out := x1249 _ _ k_out
  have k_rd := x1249 _ _ k_rd
  obtain ⟨v1249, rfl, -⟩ := hv1249
  show et_go _ _ 1000 1252 [some (.ref 150), some (.ref th), some (.ref am), some (.ref out), some (.int (Int32.ofNat i)), some (.int v1237), x6] [.int v1249] _ ((ck + c1237) + c1249) ((sk + s1237) + s1249) _
  refine ls_istore (i := 6) (p := 1254) (by decide +kernel) (Nat.le_of_ble_eq_true rfl) ?_
  refine ls_goto (p := 1656) (by decide +kernel) ?_
  exact hN _ _ c h _ _ _ _ _ _ ⟨⟨hH, hci, k_th, k_am, k_out, h3, k_rd, hl, hm, hc⟩, ⟨hh1, hp, hg⟩, hrc, hrm, hbc, hbi, hyw, _, htC, htM, htb⟩ (by omega) (by omega)
set_option maxHeartbeats 2000000 in
theorem lw_c26 (hI : lw_I K G th am out rd s0 s1 aw ai tp ba na tm c h cn im) (hi : i + 6 ≤ n) (hn : n ≤ 3072) (hN : ∀ (K' : et_K) (G' : eg_G) (c' h' : Nat) (cn' im' : Nat → Nat) (ck' sk' : Nat) (y5 y6 : Option Value), lw_I K' G' th am out rd s0 s1 aw ai tp ba na tm c' h' cn' im' → ck' ≤ ck + 841 → sk' ≤ sk + 7168 → et_go (some (n, f)) (d + 41) 1000 1656 [some (.ref 150), some (.ref th), some (.ref am), some (.ref out), some (.int (Int32.ofNat i)), y5, y6] [] G' ck' sk' Z) : et_go (some (n, f)) (d + 41) 1000 1257 [some (.ref 150), some (.ref th), some (.ref am), some (.ref out), some (.int (Int32.ofNat i)), x5, x6] [] G ck sk Z := by
  obtain ⟨⟨hH, hci, k_th, k_am, k_out, h3, k_rd, hl, hm, hc⟩, ⟨hh1, hp, hg⟩, hrc, hrm, hbc, hbi, hyw, tb, htC, htM, htb⟩ := hI
  refine ls_aload (i := 1) (p := 1258) (by decide +kernel) rfl ?_
  refine ls_arg (j := 1) (by decide +kernel) (by omega) hn ?_
  refine ls_aload (i := 3) (p := 1265) (by decide +kernel) rfl ?_
  refine ls_calls (mi := 22) (na := 3) (lk := 7) (lm := 4) (L0 := eg_en (eg_mL 22) [.ref th, .int (f (i + 1)), .ref out]) (by decide +kernel) rfl rfl rfl rfl rfl rfl (by rw [show eg_mL 22 = 4 from by decide +kernel]; first | done | rfl) ?_
  refine (hh_c22 (K, [], G) [.ref th, .int (f (i + 1)), .ref out] _ hH (by omega) rfl (ht_ac (.inr ⟨by decide, _, rfl, k_th⟩) (ht_ac hi_any (ht_ac (.inr ⟨by decide, _, rfl, k_out⟩) ht_an)))).mono (fun u hu => ls_cbv hu (fun v1265 K1265 G1265 c1265 s1265 x1265 f1265 hH hv1265 cl1265 sl1265 => ?_))
  have hyw := hyw.fr k_th hrc.1.1 hrc.1.2.1 hrm.1.1 hrm.1.2 x1265 f1265 (by decide +kernel)
  have hci := hci.fr x1265 f1265 (by decide +kernel)
  have h3 := (f1265.2 th 12 k_th 3 rfl).trans h3
  have hl := (f1265.2 rd 7 k_rd 1 rfl).trans hl
  have hm := (f1265.2 am 13 k_am 5 rfl).trans hm
  have hp := (f1265.2 th 12 k_th 2 rfl).trans hp
  have hg := (f1265.2 am 13 k_am 3 rfl).trans hg
  have htC := htC.fr k_rd x1265 f1265 (by decide +kernel)
  have htM := htM.fr k_am x1265 f1265 (by decide +kernel)
  have hrc := hrc.fr k_th x1265 f1265 (by decide +kernel)
  have hrm := hrm.fr k_am x1265 f1265 (by decide +kernel)
  have k_th := x1265 _ _ k_th
  have k_am := x1265 _ _ k_am
  have k_out := x1265 _ _ k_out
  have k_rd := x1265 _ _ k_rd
  obtain ⟨v1265, rfl, -⟩ := hv1265
  show et_go _ _ 1000 1268 [some (.ref 150), some (.ref th), some (.ref am), some (.ref out), some (.int (Int32.ofNat i)), x5, x6] [.int v1265] _ (ck + c1265) (sk + s1265) _
  refine ls_istore (i := 5) (p := 1270) (by decide +kernel) (Nat.le_of_ble_eq_true rfl) ?_
  refine ls_aload (i := 2) (p := 1271) (by decide +kernel) rfl ?_
  refine ls_arg (j := 1) (by decide +kernel) (by omega) hn ?_
  refine lt_callv (T := et_TT) (t := 13) (mi := 276) (na := 1) (ci := 11) (lk := 7) (lm := 2) (L0 := eg_en (eg_mL 276) [.ref am, .int (f (i + 1))]) (by decide +kernel) rfl hH k_am rfl rfl rfl rfl rfl (by rw [show eg_mL 276 = 2 from by decide +kernel]; first | done | rfl) ?_
  refine (er_p276_ok (K1265, [], G1265) [.ref am, .int (f (i + 1))] _ hH (by omega) rfl (ht_ac (.inr ⟨by decide, _, rfl, k_am⟩) (ht_ac hi_any ht_an))).mono (fun u hu => ls_cbv hu (fun v1277 K1277 G1277 c1277 s1277 x1277 f1277 hH hv1277 cl1277 sl1277 => ?_))
  have hyw := hyw.fr k_th hrc.1.1 hrc.1.2.1 hrm.1.1 hrm.1.2 x1277 f1277 (by decide +kernel)
  have hci := hci.fr x1277 f1277 (by decide +kernel)
  have h3 := (f1277.2 th 12 k_th 3 rfl).trans h3
  have hl := (f1277.2 rd 7 k_rd 1 rfl).trans hl
  have hm := (f1277.2 am 13 k_am 5 rfl).trans hm
  have hp := (f1277.2 th 12 k_th 2 rfl).trans hp
  have hg := (f1277.2 am 13 k_am 3 rfl).trans hg
  have htC := htC.fr k_rd x1277 f1277 (by decide +kernel)
  have htM := htM.fr k_am x1277 f1277 (by decide +kernel)
  have hrc := hrc.fr k_th x1277 f1277 (by decide +kernel)
  have hrm := hrm.fr k_am x1277 f1277 (by decide +kernel)
  have k_th := x1277 _ _ k_th
  have k_am := x1277 _ _ k_am
  have k_out := x1277 _ _ k_out
  have k_rd := x1277 _ _ k_rd
  obtain ⟨v1277, rfl, -⟩ := hv1277
  show et_go _ _ 1000 1280 [some (.ref 150), some (.ref th), some (.ref am), some (.ref out), some (.int (Int32.ofNat i)), some (.int v1265), x6] [.int v1277] _ ((ck + c1265) + c1277) ((sk + s1265) + s1277) _
  refine ls_istore (i := 6) (p := 1282) (by decide +kernel) (Nat.le_of_ble_eq_true rfl) ?_
  refine ls_goto (p := 1656) (by decide +kernel) ?_
  exact hN _ _ c h _ _ _ _ _ _ ⟨⟨hH, hci, k_th, k_am, k_out, h3, k_rd, hl, hm, hc⟩, ⟨hh1, hp, hg⟩, hrc, hrm, hbc, hbi, hyw, _, htC, htM, htb⟩ (by omega) (by omega)
set_option maxHeartbeats 2000000 in
theorem lw_c27 (hI : lw_I K G th am out rd s0 s1 aw ai tp ba na tm c h cn im) (hi : i + 6 ≤ n) (hn : n ≤ 3072) (hN : ∀ (K' : et_K) (G' : eg_G) (c' h' : Nat) (cn' im' : Nat → Nat) (ck' sk' : Nat) (y5 y6 : Option Value), lw_I K' G' th am out rd s0 s1 aw ai tp ba na tm c' h' cn' im' → ck' ≤ ck + 841 → sk' ≤ sk + 7168 → et_go (some (n, f)) (d + 41) 1000 1656 [some (.ref 150), some (.ref th), some (.ref am), some (.ref out), some (.int (Int32.ofNat i)), y5, y6] [] G' ck' sk' Z) : et_go (some (n, f)) (d + 41) 1000 1285 [some (.ref 150), some (.ref th), some (.ref am), some (.ref out), some (.int (Int32.ofNat i)), x5, x6] [] G ck sk Z := by
  obtain ⟨⟨hH, hci, k_th, k_am, k_out, h3, k_rd, hl, hm, hc⟩, ⟨hh1, hp, hg⟩, hrc, hrm, hbc, hbi, hyw, tb, htC, htM, htb⟩ := hI
  refine ls_aload (i := 1) (p := 1286) (by decide +kernel) rfl ?_
  refine lt_callv (T := et_TT) (t := 12) (mi := 121) (na := 0) (ci := 10) (lk := 7) (lm := 3) (L0 := eg_en (eg_mL 121) [.ref th]) (by decide +kernel) rfl hH k_th rfl rfl rfl rfl rfl (by rw [show eg_mL 121 = 3 from by decide +kernel]; first | done | rfl) ?_
  refine (ek_p121_ok (K, [], G) [.ref th] _ hH (by omega) rfl (ht_ac (.inr ⟨by decide, _, rfl, k_th⟩) ht_an)).mono (fun u hu => ls_cbv hu (fun v1286 K1286 G1286 c1286 s1286 x1286 f1286 hH hv1286 cl1286 sl1286 => ?_))
  have hyw := hyw.fr k_th hrc.1.1 hrc.1.2.1 hrm.1.1 hrm.1.2 x1286 f1286 (by decide +kernel)
  have hci := hci.fr x1286 f1286 (by decide +kernel)
  have h3 := (f1286.2 th 12 k_th 3 rfl).trans h3
  have hl := (f1286.2 rd 7 k_rd 1 rfl).trans hl
  have hm := (f1286.2 am 13 k_am 5 rfl).trans hm
  have hp := (f1286.2 th 12 k_th 2 rfl).trans hp
  have hg := (f1286.2 am 13 k_am 3 rfl).trans hg
  have htC := htC.fr k_rd x1286 f1286 (by decide +kernel)
  have htM := htM.fr k_am x1286 f1286 (by decide +kernel)
  have hrc := hrc.fr k_th x1286 f1286 (by decide +kernel)
  have hrm := hrm.fr k_am x1286 f1286 (by decide +kernel)
  have k_th := x1286 _ _ k_th
  have k_am := x1286 _ _ k_am
  have k_out := x1286 _ _ k_out
  have k_rd := x1286 _ _ k_rd
  obtain ⟨v1286, rfl, -⟩ := hv1286
  show et_go _ _ 1000 1289 [some (.ref 150), some (.ref th), some (.ref am), some (.ref out), some (.int (Int32.ofNat i)), x5, x6] [.int v1286] _ (ck + c1286) (sk + s1286) _
  refine ls_pop (p := 1290) (by decide +kernel) ?_
  refine ls_aload (i := 2) (p := 1291) (by decide +kernel) rfl ?_
  refine lt_callv (T := et_TT) (t := 13) (mi := 278) (na := 0) (ci := 11) (lk := 7) (lm := 3) (L0 := eg_en (eg_mL 278) [.ref am]) (by decide +kernel) rfl hH k_am rfl rfl rfl rfl rfl (by rw [show eg_mL 278 = 3 from by decide +kernel]; first | done | rfl) ?_
  refine (er_p278_ok (K1286, [], G1286) [.ref am] _ hH (by omega) rfl (ht_ac (.inr ⟨by decide, _, rfl, k_am⟩) ht_an)).mono (fun u hu => ls_cbv hu (fun v1291 K1291 G1291 c1291 s1291 x1291 f1291 hH hv1291 cl1291 sl1291 => ?_))
  have hyw := hyw.fr k_th hrc.1.1 hrc.1.2.1 hrm.1.1 hrm.1.2 x1291 f1291 (by decide +kernel)
  have hci := hci.fr x1291 f1291 (by decide +kernel)
  have h3 := (f1291.2 th 12 k_th 3 rfl).trans h3
  have hl := (f1291.2 rd 7 k_rd 1 rfl).trans hl
  have hm := (f1291.2 am 13 k_am 5 rfl).trans hm
  have hp := (f1291.2 th 12 k_th 2 rfl).trans hp
  have hg := (f1291.2 am 13 k_am 3 rfl).trans hg
  have htC := htC.fr k_rd x1291 f1291 (by decide +kernel)
  have htM := htM.fr k_am x1291 f1291 (by decide +kernel)
  have hrc := hrc.fr k_th x1291 f1291 (by decide +kernel)
  have hrm := hrm.fr k_am x1291 f1291 (by decide +kernel)
  have k_th := x1291 _ _ k_th
  have k_am := x1291 _ _ k_am
  have k_out := x1291 _ _ k_out
  have k_rd := x1291 _ _ k_rd
  obtain ⟨v1291, rfl, -⟩ := hv1291
  show et_go _ _ 1000 1294 [some (.ref 150), some (.ref th), some (.ref am), some (.ref out), some (.int (Int32.ofNat i)), x5, x6] [.int v1291] _ ((ck + c1286) + c1291) ((sk + s1286) + s1291) _
  refine ls_pop (p := 1295) (by decide +kernel) ?_
  refine ls_goto (p := 1656) (by decide +kernel) ?_
  exact hN _ _ c h _ _ _ _ _ _ ⟨⟨hH, hci, k_th, k_am, k_out, h3, k_rd, hl, hm, hc⟩, ⟨hh1, hp, hg⟩, hrc, hrm, hbc, hbi, hyw, _, htC, htM, htb⟩ (by omega) (by omega)
set_option maxHeartbeats 2000000 in
theorem lw_c28 (hI : lw_I K G th am out rd s0 s1 aw ai tp ba na tm c h cn im) (hi : i + 6 ≤ n) (hn : n ≤ 3072) (hN : ∀ (K' : et_K) (G' : eg_G) (c' h' : Nat) (cn' im' : Nat → Nat) (ck' sk' : Nat) (y5 y6 : Option Value), lw_I K' G' th am out rd s0 s1 aw ai tp ba na tm c' h' cn' im' → ck' ≤ ck + 841 → sk' ≤ sk + 7168 → et_go (some (n, f)) (d + 41) 1000 1656 [some (.ref 150), some (.ref th), some (.ref am), some (.ref out), some (.int (Int32.ofNat i)), y5, y6] [] G' ck' sk' Z) : et_go (some (n, f)) (d + 41) 1000 1298 [some (.ref 150), some (.ref th), some (.ref am), some (.ref out), some (.int (Int32.ofNat i)), x5, x6] [] G ck sk Z := by
  obtain ⟨⟨hH, hci, k_th, k_am, k_out, h3, k_rd, hl, hm, hc⟩, ⟨hh1, hp, hg⟩, hrc, hrm, hbc, hbi, hyw, tb, htC, htM, htb⟩ := hI
  refine ls_aload (i := 1) (p := 1299) (by decide +kernel) rfl ?_
  refine ls_arg (j := 1) (by decide +kernel) (by omega) hn ?_
  refine ls_arg (j := 2) (by decide +kernel) (by omega) hn ?_
  refine ls_aload (i := 3) (p := 1312) (by decide +kernel) rfl ?_
  refine ls_calls (mi := 23) (na := 4) (lk := 7) (lm := 5) (L0 := eg_en (eg_mL 23) [.ref th, .int (f (i + 1)), .int (f (i + 2)), .ref out]) (by decide +kernel) rfl rfl rfl rfl rfl rfl (by rw [show eg_mL 23 = 5 from by decide +kernel]; first | done | rfl) ?_
  refine (hh_c23 (K, [], G) [.ref th, .int (f (i + 1)), .int (f (i + 2)), .ref out] _ hH (by omega) rfl (ht_ac (.inr ⟨by decide, _, rfl, k_th⟩) (ht_ac hi_any (ht_ac hi_any (ht_ac (.inr ⟨by decide, _, rfl, k_out⟩) ht_an))))).mono (fun u hu => ls_cbv hu (fun v1312 K1312 G1312 c1312 s1312 x1312 f1312 hH hv1312 cl1312 sl1312 => ?_))
  have hyw := hyw.fr k_th hrc.1.1 hrc.1.2.1 hrm.1.1 hrm.1.2 x1312 f1312 (by decide +kernel)
  have hci := hci.fr x1312 f1312 (by decide +kernel)
  have h3 := (f1312.2 th 12 k_th 3 rfl).trans h3
  have hl := (f1312.2 rd 7 k_rd 1 rfl).trans hl
  have hm := (f1312.2 am 13 k_am 5 rfl).trans hm
  have hp := (f1312.2 th 12 k_th 2 rfl).trans hp
  have hg := (f1312.2 am 13 k_am 3 rfl).trans hg
  have htC := htC.fr k_rd x1312 f1312 (by decide +kernel)
  have htM := htM.fr k_am x1312 f1312 (by decide +kernel)
  have hrc := hrc.fr k_th x1312 f1312 (by decide +kernel)
  have hrm := hrm.fr k_am x1312 f1312 (by decide +kernel)
  have k_th := x1312 _ _ k_th
  have k_am := x1312 _ _ k_am
  have k_out := x1312 _ _ k_out
  have k_rd := x1312 _ _ k_rd
  obtain ⟨v1312, rfl, -⟩ := hv1312
  show et_go _ _ 1000 1315 [some (.ref 150), some (.ref th), some (.ref am), some (.ref out), some (.int (Int32.ofNat i)), x5, x6] [.int v1312] _ (ck + c1312) (sk + s1312) _
  refine ls_istore (i := 5) (p := 1317) (by decide +kernel) (Nat.le_of_ble_eq_true rfl) ?_
  refine ls_aload (i := 2) (p := 1318) (by decide +kernel) rfl ?_
  refine ls_arg (j := 1) (by decide +kernel) (by omega) hn ?_
  refine ls_arg (j := 2) (by decide +kernel) (by omega) hn ?_
  refine lt_callv (T := et_TT) (t := 13) (mi := 279) (na := 2) (ci := 11) (lk := 7) (lm := 6) (L0 := eg_en (eg_mL 279) [.ref am, .int (f (i + 1)), .int (f (i + 2))]) (by decide +kernel) rfl hH k_am rfl rfl rfl rfl rfl (by rw [show eg_mL 279 = 6 from by decide +kernel]; first | done | rfl) ?_
  refine (er_p279_ok (K1312, [], G1312) [.ref am, .int (f (i + 1)), .int (f (i + 2))] _ hH (by omega) rfl (ht_ac (.inr ⟨by decide, _, rfl, k_am⟩) (ht_ac hi_any (ht_ac hi_any ht_an)))).mono (fun u hu => ls_cbv hu (fun v1330 K1330 G1330 c1330 s1330 x1330 f1330 hH hv1330 cl1330 sl1330 => ?_))
  have hyw := hyw.fr k_th hrc.1.1 hrc.1.2.1 hrm.1.1 hrm.1.2 x1330 f1330 (by decide +kernel)
  have hci := hci.fr x1330 f1330 (by decide +kernel)
  have h3 := (f1330.2 th 12 k_th 3 rfl).trans h3
  have hl := (f1330.2 rd 7 k_rd 1 rfl).trans hl
  have hm := (f1330.2 am 13 k_am 5 rfl).trans hm
  have hp := (f1330.2 th 12 k_th 2 rfl).trans hp
  have hg := (f1330.2 am 13 k_am 3 rfl).trans hg
  have htC := htC.fr k_rd x1330 f1330 (by decide +kernel)
  have htM := htM.fr k_am x1330 f1330 (by decide +kernel)
  have hrc := hrc.fr k_th x1330 f1330 (by decide +kernel)
  have hrm := hrm.fr k_am x1330 f1330 (by decide +kernel)
  have k_th := x1330 _ _ k_th
  have k_am := x1330 _ _ k_am
  have k_out := x1330 _ _ k_out
  have k_rd := x1330 _ _ k_rd
  obtain ⟨v1330, rfl, -⟩ := hv1330
  show et_go _ _ 1000 1333 [some (.ref 150), some (.ref th), some (.ref am), some (.ref out), some (.int (Int32.ofNat i)), some (.int v1312), x6] [.int v1330] _ ((ck + c1312) + c1330) ((sk + s1312) + s1330) _
  refine ls_istore (i := 6) (p := 1335) (by decide +kernel) (Nat.le_of_ble_eq_true rfl) ?_
  refine ls_goto (p := 1656) (by decide +kernel) ?_
  exact hN _ _ c h _ _ _ _ _ _ ⟨⟨hH, hci, k_th, k_am, k_out, h3, k_rd, hl, hm, hc⟩, ⟨hh1, hp, hg⟩, hrc, hrm, hbc, hbi, hyw, _, htC, htM, htb⟩ (by omega) (by omega)
set_option maxHeartbeats 2000000 in
theorem lw_c29 (hI : lw_I K G th am out rd s0 s1 aw ai tp ba na tm c h cn im) (hi : i + 6 ≤ n) (hn : n ≤ 3072) (hN : ∀ (K' : et_K) (G' : eg_G) (c' h' : Nat) (cn' im' : Nat → Nat) (ck' sk' : Nat) (y5 y6 : Option Value), lw_I K' G' th am out rd s0 s1 aw ai tp ba na tm c' h' cn' im' → ck' ≤ ck + 841 → sk' ≤ sk + 7168 → et_go (some (n, f)) (d + 41) 1000 1656 [some (.ref 150), some (.ref th), some (.ref am), some (.ref out), some (.int (Int32.ofNat i)), y5, y6] [] G' ck' sk' Z) : et_go (some (n, f)) (d + 41) 1000 1338 [some (.ref 150), some (.ref th), some (.ref am), some (.ref out), some (.int (Int32.ofNat i)), x5, x6] [] G ck sk Z := by
  obtain ⟨⟨hH, hci, k_th, k_am, k_out, h3, k_rd, hl, hm, hc⟩, ⟨hh1, hp, hg⟩, hrc, hrm, hbc, hbi, hyw, tb, htC, htM, htb⟩ := hI
  refine ls_aload (i := 1) (p := 1339) (by decide +kernel) rfl ?_
  refine ls_arg (j := 1) (by decide +kernel) (by omega) hn ?_
  refine ls_aload (i := 3) (p := 1346) (by decide +kernel) rfl ?_
  refine ls_calls (mi := 24) (na := 3) (lk := 7) (lm := 4) (L0 := eg_en (eg_mL 24) [.ref th, .int (f (i + 1)), .ref out]) (by decide +kernel) rfl rfl rfl rfl rfl rfl (by rw [show eg_mL 24 = 4 from by decide +kernel]; first | done | rfl) ?_
  refine (hh_c24 (K, [], G) [.ref th, .int (f (i + 1)), .ref out] _ hH (by omega) rfl (ht_ac (.inr ⟨by decide, _, rfl, k_th⟩) (ht_ac hi_any (ht_ac (.inr ⟨by decide, _, rfl, k_out⟩) ht_an)))).mono (fun u hu => ls_cbv hu (fun v1346 K1346 G1346 c1346 s1346 x1346 f1346 hH hv1346 cl1346 sl1346 => ?_))
  have hyw := hyw.fr k_th hrc.1.1 hrc.1.2.1 hrm.1.1 hrm.1.2 x1346 f1346 (by decide +kernel)
  have hci := hci.fr x1346 f1346 (by decide +kernel)
  have h3 := (f1346.2 th 12 k_th 3 rfl).trans h3
  have hl := (f1346.2 rd 7 k_rd 1 rfl).trans hl
  have hm := (f1346.2 am 13 k_am 5 rfl).trans hm
  have hp := (f1346.2 th 12 k_th 2 rfl).trans hp
  have hg := (f1346.2 am 13 k_am 3 rfl).trans hg
  have htC := htC.fr k_rd x1346 f1346 (by decide +kernel)
  have htM := htM.fr k_am x1346 f1346 (by decide +kernel)
  have hrc := hrc.fr k_th x1346 f1346 (by decide +kernel)
  have hrm := hrm.fr k_am x1346 f1346 (by decide +kernel)
  have k_th := x1346 _ _ k_th
  have k_am := x1346 _ _ k_am
  have k_out := x1346 _ _ k_out
  have k_rd := x1346 _ _ k_rd
  obtain ⟨v1346, rfl, -⟩ := hv1346
  show et_go _ _ 1000 1349 [some (.ref 150), some (.ref th), some (.ref am), some (.ref out), some (.int (Int32.ofNat i)), x5, x6] [.int v1346] _ (ck + c1346) (sk + s1346) _
  refine ls_istore (i := 5) (p := 1351) (by decide +kernel) (Nat.le_of_ble_eq_true rfl) ?_
  refine ls_aload (i := 2) (p := 1352) (by decide +kernel) rfl ?_
  refine ls_arg (j := 1) (by decide +kernel) (by omega) hn ?_
  refine lt_callv (T := et_TT) (t := 13) (mi := 280) (na := 1) (ci := 11) (lk := 7) (lm := 5) (L0 := eg_en (eg_mL 280) [.ref am, .int (f (i + 1))]) (by decide +kernel) rfl hH k_am rfl rfl rfl rfl rfl (by rw [show eg_mL 280 = 5 from by decide +kernel]; first | done | rfl) ?_
  refine (er_p280_ok (K1346, [], G1346) [.ref am, .int (f (i + 1))] _ hH (by omega) rfl (ht_ac (.inr ⟨by decide, _, rfl, k_am⟩) (ht_ac hi_any ht_an))).mono (fun u hu => ls_cbv hu (fun v1358 K1358 G1358 c1358 s1358 x1358 f1358 hH hv1358 cl1358 sl1358 => ?_))
  have hyw := hyw.fr k_th hrc.1.1 hrc.1.2.1 hrm.1.1 hrm.1.2 x1358 f1358 (by decide +kernel)
  have hci := hci.fr x1358 f1358 (by decide +kernel)
  have h3 := (f1358.2 th 12 k_th 3 rfl).trans h3
  have hl := (f1358.2 rd 7 k_rd 1 rfl).trans hl
  have hm := (f1358.2 am 13 k_am 5 rfl).trans hm
  have hp := (f1358.2 th 12 k_th 2 rfl).trans hp
  have hg := (f1358.2 am 13 k_am 3 rfl).trans hg
  have htC := htC.fr k_rd x1358 f1358 (by decide +kernel)
  have htM := htM.fr k_am x1358 f1358 (by decide +kernel)
  have hrc := hrc.fr k_th x1358 f1358 (by decide +kernel)
  have hrm := hrm.fr k_am x1358 f1358 (by decide +kernel)
  have k_th := x1358 _ _ k_th
  have k_am := x1358 _ _ k_am
  have k_out := x1358 _ _ k_out
  have k_rd := x1358 _ _ k_rd
  obtain ⟨v1358, rfl, -⟩ := hv1358
  show et_go _ _ 1000 1361 [some (.ref 150), some (.ref th), some (.ref am), some (.ref out), some (.int (Int32.ofNat i)), some (.int v1346), x6] [.int v1358] _ ((ck + c1346) + c1358) ((sk + s1346) + s1358) _
  refine ls_istore (i := 6) (p := 1363) (by decide +kernel) (Nat.le_of_ble_eq_true rfl) ?_
  refine ls_goto (p := 1656) (by decide +kernel) ?_
  exact hN _ _ c h _ _ _ _ _ _ ⟨⟨hH, hci, k_th, k_am, k_out, h3, k_rd, hl, hm, hc⟩, ⟨hh1, hp, hg⟩, hrc, hrm, hbc, hbi, hyw, _, htC, htM, htb⟩ (by omega) (by omega)
set_option maxHeartbeats 2000000 in
theorem lw_c30 (hI : lw_I K G th am out rd s0 s1 aw ai tp ba na tm c h cn im) (hi : i + 6 ≤ n) (hn : n ≤ 3072) (hN : ∀ (K' : et_K) (G' : eg_G) (c' h' : Nat) (cn' im' : Nat → Nat) (ck' sk' : Nat) (y5 y6 : Option Value), lw_I K' G' th am out rd s0 s1 aw ai tp ba na tm c' h' cn' im' → ck' ≤ ck + 841 → sk' ≤ sk + 7168 → et_go (some (n, f)) (d + 41) 1000 1656 [some (.ref 150), some (.ref th), some (.ref am), some (.ref out), some (.int (Int32.ofNat i)), y5, y6] [] G' ck' sk' Z) : et_go (some (n, f)) (d + 41) 1000 1366 [some (.ref 150), some (.ref th), some (.ref am), some (.ref out), some (.int (Int32.ofNat i)), x5, x6] [] G ck sk Z := by
  obtain ⟨⟨hH, hci, k_th, k_am, k_out, h3, k_rd, hl, hm, hc⟩, ⟨hh1, hp, hg⟩, hrc, hrm, hbc, hbi, hyw, tb, htC, htM, htb⟩ := hI
  refine ls_aload (i := 1) (p := 1367) (by decide +kernel) rfl ?_
  refine ls_arg (j := 1) (by decide +kernel) (by omega) hn ?_
  refine ls_arg (j := 2) (by decide +kernel) (by omega) hn ?_
  refine ls_arg (j := 3) (by decide +kernel) (by omega) hn ?_
  refine ls_aload (i := 3) (p := 1386) (by decide +kernel) rfl ?_
  refine ls_calls (mi := 25) (na := 5) (lk := 7) (lm := 6) (L0 := eg_en (eg_mL 25) [.ref th, .int (f (i + 1)), .int (f (i + 2)), .int (f (i + 3)), .ref out]) (by decide +kernel) rfl rfl rfl rfl rfl rfl (by rw [show eg_mL 25 = 6 from by decide +kernel]; first | done | rfl) ?_
  obtain ⟨sp_, ya_, yb_, E_, F_, cw, iw, y1, y2, y3, ⟨y4, y5⟩, ⟨y6, y7⟩, y8, y9⟩ := hyw
  refine ((hh_c25 (K, [], G) [.ref th, .int (f (i + 1)), .int (f (i + 2)), .int (f (i + 3)), .ref out] _ hH (by omega) rfl (ht_ac (.inr ⟨by decide, _, rfl, k_th⟩) (ht_ac hi_any (ht_ac hi_any (ht_ac hi_any (ht_ac (.inr ⟨by decide, _, rfl, k_out⟩) ht_an)))))).and (fh_25 hH k_th k_out y2.1.2.2 y1.1.2.2 (by omega))).mono (fun u hu => ls_cbvQ (Q := fun u => hole K sp_ G u.2.1) hu (fun v1386 K1386 G1386 c1386 s1386 x1386 f1386 hH hv1386 cl1386 sl1386 hQ => ?_))
  have y3 := y3.ho y1 hQ
  have y2 := y2.fr y1 k_th hrc.1.1 hrc.1.2.1 f1386 (by decide +kernel)
  have y4 := y4.fr hrm.1.1 f1386 (by decide +kernel)
  have y5 := y5.fr hrm.1.2 f1386 (by decide +kernel)
  have y1 := y1.ex x1386
  have hyw : yw K1386 G1386 th s0 s1 aw ai (cn 4) (im 4) := ⟨sp_, ya_, yb_, E_, F_, cw, iw, y1, y2, y3, ⟨y4, y5⟩, ⟨y6, y7⟩, y8, y9⟩
  have hci := hci.fr x1386 f1386 (by decide +kernel)
  have h3 := (f1386.2 th 12 k_th 3 rfl).trans h3
  have hl := (f1386.2 rd 7 k_rd 1 rfl).trans hl
  have hm := (f1386.2 am 13 k_am 5 rfl).trans hm
  have hp := (f1386.2 th 12 k_th 2 rfl).trans hp
  have hg := (f1386.2 am 13 k_am 3 rfl).trans hg
  have htC := htC.fr k_rd x1386 f1386 (by decide +kernel)
  have htM := htM.fr k_am x1386 f1386 (by decide +kernel)
  have hrc := hrc.fr k_th x1386 f1386 (by decide +kernel)
  have hrm := hrm.fr k_am x1386 f1386 (by decide +kernel)
  have k_th := x1386 _ _ k_th
  have k_am := x1386 _ _ k_am
  have k_out := x1386 _ _ k_out
  have k_rd := x1386 _ _ k_rd
  obtain ⟨v1386, rfl, -⟩ := hv1386
  show et_go _ _ 1000 1389 [some (.ref 150), some (.ref th), some (.ref am), some (.ref out), some (.int (Int32.ofNat i)), x5, x6] [.int v1386] _ (ck + c1386) (sk + s1386) _
  refine ls_istore (i := 5) (p := 1391) (by decide +kernel) (Nat.le_of_ble_eq_true rfl) ?_
  refine ls_aload (i := 2) (p := 1392) (by decide +kernel) rfl ?_
  refine ls_arg (j := 1) (by decide +kernel) (by omega) hn ?_
  refine ls_arg (j := 2) (by decide +kernel) (by omega) hn ?_
  refine ls_arg (j := 3) (by decide +kernel) (by omega) hn ?_
  refine lt_callv (T := et_TT) (t := 13) (mi := 281) (na := 3) (ci := 11) (lk := 7) (lm := 8) (L0 := eg_en (eg_mL 281) [.ref am, .int (f (i + 1)), .int (f (i + 2)), .int (f (i + 3))]) (by decide +kernel) rfl hH k_am rfl rfl rfl rfl rfl (by rw [show eg_mL 281 = 8 from by decide +kernel]; first | done | rfl) ?_
  refine (er_p281_ok (K1386, [], G1386) [.ref am, .int (f (i + 1)), .int (f (i + 2)), .int (f (i + 3))] _ hH (by omega) rfl (ht_ac (.inr ⟨by decide, _, rfl, k_am⟩) (ht_ac hi_any (ht_ac hi_any (ht_ac hi_any ht_an))))).mono (fun u hu => ls_cbv hu (fun v1410 K1410 G1410 c1410 s1410 x1410 f1410 hH hv1410 cl1410 sl1410 => ?_))
  have hyw := hyw.fr k_th hrc.1.1 hrc.1.2.1 hrm.1.1 hrm.1.2 x1410 f1410 (by decide +kernel)
  have hci := hci.fr x1410 f1410 (by decide +kernel)
  have h3 := (f1410.2 th 12 k_th 3 rfl).trans h3
  have hl := (f1410.2 rd 7 k_rd 1 rfl).trans hl
  have hm := (f1410.2 am 13 k_am 5 rfl).trans hm
  have hp := (f1410.2 th 12 k_th 2 rfl).trans hp
  have hg := (f1410.2 am 13 k_am 3 rfl).trans hg
  have htC := htC.fr k_rd x1410 f1410 (by decide +kernel)
  have htM := htM.fr k_am x1410 f1410 (by decide +kernel)
  have hrc := hrc.fr k_th x1410 f1410 (by decide +kernel)
  have hrm := hrm.fr k_am x1410 f1410 (by decide +kernel)
  have k_th := x1410 _ _ k_th
  have k_am := x1410 _ _ k_am
  have k_out := x1410 _ _ k_out
  have k_rd := x1410 _ _ k_rd
  obtain ⟨v1410, rfl, -⟩ := hv1410
  show et_go _ _ 1000 1413 [some (.ref 150), some (.ref th), some (.ref am), some (.ref out), some (.int (Int32.ofNat i)), some (.int v1386), x6] [.int v1410] _ ((ck + c1386) + c1410) ((sk + s1386) + s1410) _
  refine ls_istore (i := 6) (p := 1415) (by decide +kernel) (Nat.le_of_ble_eq_true rfl) ?_
  refine ls_goto (p := 1656) (by decide +kernel) ?_
  exact hN _ _ c h _ _ _ _ _ _ ⟨⟨hH, hci, k_th, k_am, k_out, h3, k_rd, hl, hm, hc⟩, ⟨hh1, hp, hg⟩, hrc, hrm, hbc, hbi, hyw, _, htC, htM, htb⟩ (by omega) (by omega)
set_option maxHeartbeats 2000000 in
theorem lw_c31 (hI : lw_I K G th am out rd s0 s1 aw ai tp ba na tm c h cn im) (hi : i + 6 ≤ n) (hn : n ≤ 3072) (hN : ∀ (K' : et_K) (G' : eg_G) (c' h' : Nat) (cn' im' : Nat → Nat) (ck' sk' : Nat) (y5 y6 : Option Value), lw_I K' G' th am out rd s0 s1 aw ai tp ba na tm c' h' cn' im' → ck' ≤ ck + 841 → sk' ≤ sk + 7168 → et_go (some (n, f)) (d + 41) 1000 1656 [some (.ref 150), some (.ref th), some (.ref am), some (.ref out), some (.int (Int32.ofNat i)), y5, y6] [] G' ck' sk' Z) : et_go (some (n, f)) (d + 41) 1000 1418 [some (.ref 150), some (.ref th), some (.ref am), some (.ref out), some (.int (Int32.ofNat i)), x5, x6] [] G ck sk Z := by
  obtain ⟨⟨hH, hci, k_th, k_am, k_out, h3, k_rd, hl, hm, hc⟩, ⟨hh1, hp, hg⟩, hrc, hrm, hbc, hbi, hyw, tb, htC, htM, htb⟩ := hI
  refine ls_aload (i := 1) (p := 1419) (by decide +kernel) rfl ?_
  refine ls_arg (j := 1) (by decide +kernel) (by omega) hn ?_
  refine ls_arg (j := 2) (by decide +kernel) (by omega) hn ?_
  refine ls_aload (i := 3) (p := 1432) (by decide +kernel) rfl ?_
  refine ls_calls (mi := 26) (na := 4) (lk := 7) (lm := 5) (L0 := eg_en (eg_mL 26) [.ref th, .int (f (i + 1)), .int (f (i + 2)), .ref out]) (by decide +kernel) rfl rfl rfl rfl rfl rfl (by rw [show eg_mL 26 = 5 from by decide +kernel]; first | done | rfl) ?_
  obtain ⟨sp_, ya_, yb_, E_, F_, cw, iw, y1, y2, y3, ⟨y4, y5⟩, ⟨y6, y7⟩, y8, y9⟩ := hyw
  refine ((hh_c26 (K, [], G) [.ref th, .int (f (i + 1)), .int (f (i + 2)), .ref out] _ hH (by omega) rfl (ht_ac (.inr ⟨by decide, _, rfl, k_th⟩) (ht_ac hi_any (ht_ac hi_any (ht_ac (.inr ⟨by decide, _, rfl, k_out⟩) ht_an))))).and (fh_26 hH k_th k_out y2.1.2.2 y1.1.2.2 (by omega))).mono (fun u hu => ls_cbvQ (Q := fun u => hole K sp_ G u.2.1) hu (fun v1432 K1432 G1432 c1432 s1432 x1432 f1432 hH hv1432 cl1432 sl1432 hQ => ?_))
  have y3 := y3.ho y1 hQ
  have y2 := y2.fr y1 k_th hrc.1.1 hrc.1.2.1 f1432 (by decide +kernel)
  have y4 := y4.fr hrm.1.1 f1432 (by decide +kernel)
  have y5 := y5.fr hrm.1.2 f1432 (by decide +kernel)
  have y1 := y1.ex x1432
  have hyw : yw K1432 G1432 th s0 s1 aw ai (cn 4) (im 4) := ⟨sp_, ya_, yb_, E_, F_, cw, iw, y1, y2, y3, ⟨y4, y5⟩, ⟨y6, y7⟩, y8, y9⟩
  have hci := hci.fr x1432 f1432 (by decide +kernel)
  have h3 := (f1432.2 th 12 k_th 3 rfl).trans h3
  have hl := (f1432.2 rd 7 k_rd 1 rfl).trans hl
  have hm := (f1432.2 am 13 k_am 5 rfl).trans hm
  have hp := (f1432.2 th 12 k_th 2 rfl).trans hp
  have hg := (f1432.2 am 13 k_am 3 rfl).trans hg
  have htC := htC.fr k_rd x1432 f1432 (by decide +kernel)
  have htM := htM.fr k_am x1432 f1432 (by decide +kernel)
  have hrc := hrc.fr k_th x1432 f1432 (by decide +kernel)
  have hrm := hrm.fr k_am x1432 f1432 (by decide +kernel)
  have k_th := x1432 _ _ k_th
  have k_am := x1432 _ _ k_am
  have k_out := x1432 _ _ k_out
  have k_rd := x1432 _ _ k_rd
  obtain ⟨v1432, rfl, -⟩ := hv1432
  show et_go _ _ 1000 1435 [some (.ref 150), some (.ref th), some (.ref am), some (.ref out), some (.int (Int32.ofNat i)), x5, x6] [.int v1432] _ (ck + c1432) (sk + s1432) _
  refine ls_istore (i := 5) (p := 1437) (by decide +kernel) (Nat.le_of_ble_eq_true rfl) ?_
  refine ls_aload (i := 2) (p := 1438) (by decide +kernel) rfl ?_
  refine ls_arg (j := 1) (by decide +kernel) (by omega) hn ?_
  refine ls_arg (j := 2) (by decide +kernel) (by omega) hn ?_
  refine lt_callv (T := et_TT) (t := 13) (mi := 282) (na := 2) (ci := 11) (lk := 7) (lm := 13) (L0 := eg_en (eg_mL 282) [.ref am, .int (f (i + 1)), .int (f (i + 2))]) (by decide +kernel) rfl hH k_am rfl rfl rfl rfl rfl (by rw [show eg_mL 282 = 13 from by decide +kernel]; first | done | rfl) ?_
  refine (hc_sp (K1432, [], G1432) [.ref am, .int (f (i + 1)), .int (f (i + 2))] _ hH (by omega) rfl (ht_ac (.inr ⟨by decide, _, rfl, k_am⟩) (ht_ac hi_any (ht_ac hi_any ht_an)))).mono (fun u hu => ls_cbv hu (fun v1450 K1450 G1450 c1450 s1450 x1450 f1450 hH hv1450 cl1450 sl1450 => ?_))
  have hyw := hyw.fr k_th hrc.1.1 hrc.1.2.1 hrm.1.1 hrm.1.2 x1450 f1450 (by decide +kernel)
  have hci := hci.fr x1450 f1450 (by decide +kernel)
  have h3 := (f1450.2 th 12 k_th 3 rfl).trans h3
  have hl := (f1450.2 rd 7 k_rd 1 rfl).trans hl
  have hm := (f1450.2 am 13 k_am 5 rfl).trans hm
  have hp := (f1450.2 th 12 k_th 2 rfl).trans hp
  have hg := (f1450.2 am 13 k_am 3 rfl).trans hg
  have htC := htC.fr k_rd x1450 f1450 (by decide +kernel)
  have htM := htM.fr k_am x1450 f1450 (by decide +kernel)
  have hrc := hrc.fr k_th x1450 f1450 (by decide +kernel)
  have hrm := hrm.fr k_am x1450 f1450 (by decide +kernel)
  have k_th := x1450 _ _ k_th
  have k_am := x1450 _ _ k_am
  have k_out := x1450 _ _ k_out
  have k_rd := x1450 _ _ k_rd
  obtain ⟨v1450, rfl, -⟩ := hv1450
  show et_go _ _ 1000 1453 [some (.ref 150), some (.ref th), some (.ref am), some (.ref out), some (.int (Int32.ofNat i)), some (.int v1432), x6] [.int v1450] _ ((ck + c1432) + c1450) ((sk + s1432) + s1450) _
  refine ls_istore (i := 6) (p := 1455) (by decide +kernel) (Nat.le_of_ble_eq_true rfl) ?_
  refine ls_goto (p := 1656) (by decide +kernel) ?_
  exact hN _ _ c h _ _ _ _ _ _ ⟨⟨hH, hci, k_th, k_am, k_out, h3, k_rd, hl, hm, hc⟩, ⟨hh1, hp, hg⟩, hrc, hrm, hbc, hbi, hyw, _, htC, htM, htb⟩ (by omega) (by omega)
set_option maxHeartbeats 2000000 in
theorem lw_c32 (hI : lw_I K G th am out rd s0 s1 aw ai tp ba na tm c h cn im) (hi : i + 6 ≤ n) (hn : n ≤ 3072) (hN : ∀ (K' : et_K) (G' : eg_G) (c' h' : Nat) (cn' im' : Nat → Nat) (ck' sk' : Nat) (y5 y6 : Option Value), lw_I K' G' th am out rd s0 s1 aw ai tp ba na tm c' h' cn' im' → ck' ≤ ck + 841 → sk' ≤ sk + 7168 → et_go (some (n, f)) (d + 41) 1000 1656 [some (.ref 150), some (.ref th), some (.ref am), some (.ref out), some (.int (Int32.ofNat i)), y5, y6] [] G' ck' sk' Z) : et_go (some (n, f)) (d + 41) 1000 1458 [some (.ref 150), some (.ref th), some (.ref am), some (.ref out), some (.int (Int32.ofNat i)), x5, x6] [] G ck sk Z := by
  obtain ⟨⟨hH, hci, k_th, k_am, k_out, h3, k_rd, hl, hm, hc⟩, ⟨hh1, hp, hg⟩, hrc, hrm, hbc, hbi, hyw, tb, htC, htM, htb⟩ := hI
  refine ls_aload (i := 1) (p := 1459) (by decide +kernel) rfl ?_
  refine ls_arg (j := 1) (by decide +kernel) (by omega) hn ?_
  refine ls_arg (j := 2) (by decide +kernel) (by omega) hn ?_
  refine ls_aload (i := 3) (p := 1472) (by decide +kernel) rfl ?_
  refine ls_calls (mi := 27) (na := 4) (lk := 7) (lm := 5) (L0 := eg_en (eg_mL 27) [.ref th, .int (f (i + 1)), .int (f (i + 2)), .ref out]) (by decide +kernel) rfl rfl rfl rfl rfl rfl (by rw [show eg_mL 27 = 5 from by decide +kernel]; first | done | rfl) ?_
  refine (hh_c27 (K, [], G) [.ref th, .int (f (i + 1)), .int (f (i + 2)), .ref out] _ hH (by omega) rfl (ht_ac (.inr ⟨by decide, _, rfl, k_th⟩) (ht_ac hi_any (ht_ac hi_any (ht_ac (.inr ⟨by decide, _, rfl, k_out⟩) ht_an))))).mono (fun u hu => ls_cbv hu (fun v1472 K1472 G1472 c1472 s1472 x1472 f1472 hH hv1472 cl1472 sl1472 => ?_))
  have hyw := hyw.fr k_th hrc.1.1 hrc.1.2.1 hrm.1.1 hrm.1.2 x1472 f1472 (by decide +kernel)
  have hci := hci.fr x1472 f1472 (by decide +kernel)
  have h3 := (f1472.2 th 12 k_th 3 rfl).trans h3
  have hl := (f1472.2 rd 7 k_rd 1 rfl).trans hl
  have hm := (f1472.2 am 13 k_am 5 rfl).trans hm
  have hp := (f1472.2 th 12 k_th 2 rfl).trans hp
  have hg := (f1472.2 am 13 k_am 3 rfl).trans hg
  have htC := htC.fr k_rd x1472 f1472 (by decide +kernel)
  have htM := htM.fr k_am x1472 f1472 (by decide +kernel)
  have hrc := hrc.fr k_th x1472 f1472 (by decide +kernel)
  have hrm := hrm.fr k_am x1472 f1472 (by decide +kernel)
  have k_th := x1472 _ _ k_th
  have k_am := x1472 _ _ k_am
  have k_out := x1472 _ _ k_out
  have k_rd := x1472 _ _ k_rd
  obtain ⟨v1472, rfl, -⟩ := hv1472
  show et_go _ _ 1000 1475 [some (.ref 150), some (.ref th), some (.ref am), some (.ref out), some (.int (Int32.ofNat i)), x5, x6] [.int v1472] _ (ck + c1472) (sk + s1472) _
  refine ls_istore (i := 5) (p := 1477) (by decide +kernel) (Nat.le_of_ble_eq_true rfl) ?_
  refine ls_aload (i := 2) (p := 1478) (by decide +kernel) rfl ?_
  refine ls_arg (j := 1) (by decide +kernel) (by omega) hn ?_
  refine ls_arg (j := 2) (by decide +kernel) (by omega) hn ?_
  refine lt_callv (T := et_TT) (t := 13) (mi := 285) (na := 2) (ci := 11) (lk := 7) (lm := 3) (L0 := eg_en (eg_mL 285) [.ref am, .int (f (i + 1)), .int (f (i + 2))]) (by decide +kernel) rfl hH k_am rfl rfl rfl rfl rfl (by rw [show eg_mL 285 = 3 from by decide +kernel]; first | done | rfl) ?_
  refine (er_p285_ok (K1472, [], G1472) [.ref am, .int (f (i + 1)), .int (f (i + 2))] _ hH (by omega) rfl (ht_ac (.inr ⟨by decide, _, rfl, k_am⟩) (ht_ac hi_any (ht_ac hi_any ht_an)))).mono (fun u hu => ls_cbv hu (fun v1490 K1490 G1490 c1490 s1490 x1490 f1490 hH hv1490 cl1490 sl1490 => ?_))
  have hyw := hyw.fr k_th hrc.1.1 hrc.1.2.1 hrm.1.1 hrm.1.2 x1490 f1490 (by decide +kernel)
  have hci := hci.fr x1490 f1490 (by decide +kernel)
  have h3 := (f1490.2 th 12 k_th 3 rfl).trans h3
  have hl := (f1490.2 rd 7 k_rd 1 rfl).trans hl
  have hm := (f1490.2 am 13 k_am 5 rfl).trans hm
  have hp := (f1490.2 th 12 k_th 2 rfl).trans hp
  have hg := (f1490.2 am 13 k_am 3 rfl).trans hg
  have htC := htC.fr k_rd x1490 f1490 (by decide +kernel)
  have htM := htM.fr k_am x1490 f1490 (by decide +kernel)
  have hrc := hrc.fr k_th x1490 f1490 (by decide +kernel)
  have hrm := hrm.fr k_am x1490 f1490 (by decide +kernel)
  have k_th := x1490 _ _ k_th
  have k_am := x1490 _ _ k_am
  have k_out := x1490 _ _ k_out
  have k_rd := x1490 _ _ k_rd
  obtain ⟨v1490, rfl, -⟩ := hv1490
  show et_go _ _ 1000 1493 [some (.ref 150), some (.ref th), some (.ref am), some (.ref out), some (.int (Int32.ofNat i)), some (.int v1472), x6] [.int v1490] _ ((ck + c1472) + c1490) ((sk + s1472) + s1490) _
  refine ls_istore (i := 6) (p := 1495) (by decide +kernel) (Nat.le_of_ble_eq_true rfl) ?_
  refine ls_goto (p := 1656) (by decide +kernel) ?_
  exact hN _ _ c h _ _ _ _ _ _ ⟨⟨hH, hci, k_th, k_am, k_out, h3, k_rd, hl, hm, hc⟩, ⟨hh1, hp, hg⟩, hrc, hrm, hbc, hbi, hyw, _, htC, htM, htb⟩ (by omega) (by omega)
set_option maxHeartbeats 2000000 in
theorem lw_c33 (hI : lw_I K G th am out rd s0 s1 aw ai tp ba na tm c h cn im) (hi : i + 6 ≤ n) (hn : n ≤ 3072) (hN : ∀ (K' : et_K) (G' : eg_G) (c' h' : Nat) (cn' im' : Nat → Nat) (ck' sk' : Nat) (y5 y6 : Option Value), lw_I K' G' th am out rd s0 s1 aw ai tp ba na tm c' h' cn' im' → ck' ≤ ck + 841 → sk' ≤ sk + 7168 → et_go (some (n, f)) (d + 41) 1000 1656 [some (.ref 150), some (.ref th), some (.ref am), some (.ref out), some (.int (Int32.ofNat i)), y5, y6] [] G' ck' sk' Z) : et_go (some (n, f)) (d + 41) 1000 1498 [some (.ref 150), some (.ref th), some (.ref am), some (.ref out), some (.int (Int32.ofNat i)), x5, x6] [] G ck sk Z := by
  obtain ⟨⟨hH, hci, k_th, k_am, k_out, h3, k_rd, hl, hm, hc⟩, ⟨hh1, hp, hg⟩, hrc, hrm, hbc, hbi, hyw, tb, htC, htM, htb⟩ := hI
  refine ls_aload (i := 1) (p := 1499) (by decide +kernel) rfl ?_
  refine lt_callv (T := et_TT) (t := 12) (mi := 123) (na := 0) (ci := 10) (lk := 7) (lm := 4) (L0 := eg_en (eg_mL 123) [.ref th]) (by decide +kernel) rfl hH k_th rfl rfl rfl rfl rfl (by rw [show eg_mL 123 = 4 from by decide +kernel]; first | done | rfl) ?_
  refine (ek_p123_ok (K, [], G) [.ref th] _ hH (by omega) rfl (ht_ac (.inr ⟨by decide, _, rfl, k_th⟩) ht_an)).mono (fun u hu => ls_cbv hu (fun v1499 K1499 G1499 c1499 s1499 x1499 f1499 hH hv1499 cl1499 sl1499 => ?_))
  have hyw := hyw.fr k_th hrc.1.1 hrc.1.2.1 hrm.1.1 hrm.1.2 x1499 f1499 (by decide +kernel)
  have hci := hci.fr x1499 f1499 (by decide +kernel)
  have h3 := (f1499.2 th 12 k_th 3 rfl).trans h3
  have hl := (f1499.2 rd 7 k_rd 1 rfl).trans hl
  have hm := (f1499.2 am 13 k_am 5 rfl).trans hm
  have hp := (f1499.2 th 12 k_th 2 rfl).trans hp
  have hg := (f1499.2 am 13 k_am 3 rfl).trans hg
  have htC := htC.fr k_rd x1499 f1499 (by decide +kernel)
  have htM := htM.fr k_am x1499 f1499 (by decide +kernel)
  have hrc := hrc.fr k_th x1499 f1499 (by decide +kernel)
  have hrm := hrm.fr k_am x1499 f1499 (by decide +kernel)
  have k_th := x1499 _ _ k_th
  have k_am := x1499 _ _ k_am
  have k_out := x1499 _ _ k_out
  have k_rd := x1499 _ _ k_rd
  obtain ⟨v1499, rfl, -⟩ := hv1499
  show et_go _ _ 1000 1502 [some (.ref 150), some (.ref th), some (.ref am), some (.ref out), some (.int (Int32.ofNat i)), x5, x6] [.int v1499] _ (ck + c1499) (sk + s1499) _
  refine ls_pop (p := 1503) (by decide +kernel) ?_
  refine ls_aload (i := 2) (p := 1504) (by decide +kernel) rfl ?_
  refine lt_callv (T := et_TT) (t := 13) (mi := 287) (na := 0) (ci := 11) (lk := 7) (lm := 4) (L0 := eg_en (eg_mL 287) [.ref am]) (by decide +kernel) rfl hH k_am rfl rfl rfl rfl rfl (by rw [show eg_mL 287 = 4 from by decide +kernel]; first | done | rfl) ?_
  refine (er_p287_ok (K1499, [], G1499) [.ref am] _ hH (by omega) rfl (ht_ac (.inr ⟨by decide, _, rfl, k_am⟩) ht_an)).mono (fun u hu => ls_cbv hu (fun v1504 K1504 G1504 c1504 s1504 x1504 f1504 hH hv1504 cl1504 sl1504 => ?_))
  have hyw := hyw.fr k_th hrc.1.1 hrc.1.2.1 hrm.1.1 hrm.1.2 x1504 f1504 (by decide +kernel)
  have hci := hci.fr x1504 f1504 (by decide +kernel)
  have h3 := (f1504.2 th 12 k_th 3 rfl).trans h3
  have hl := (f1504.2 rd 7 k_rd 1 rfl).trans hl
  have hm := (f1504.2 am 13 k_am 5 rfl).trans hm
  have hp := (f1504.2 th 12 k_th 2 rfl).trans hp
  have hg := (f1504.2 am 13 k_am 3 rfl).trans hg
  have htC := htC.fr k_rd x1504 f1504 (by decide +kernel)
  have htM := htM.fr k_am x1504 f1504 (by decide +kernel)
  have hrc := hrc.fr k_th x1504 f1504 (by decide +kernel)
  have hrm := hrm.fr k_am x1504 f1504 (by decide +kernel)
  have k_th := x1504 _ _ k_th
  have k_am := x1504 _ _ k_am
  have k_out := x1504 _ _ k_out
  have k_rd := x1504 _ _ k_rd
  obtain ⟨v1504, rfl, -⟩ := hv1504
  show et_go _ _ 1000 1507 [some (.ref 150), some (.ref th), some (.ref am), some (.ref out), some (.int (Int32.ofNat i)), x5, x6] [.int v1504] _ ((ck + c1499) + c1504) ((sk + s1499) + s1504) _
  refine ls_pop (p := 1508) (by decide +kernel) ?_
  refine ls_goto (p := 1656) (by decide +kernel) ?_
  exact hN _ _ c h _ _ _ _ _ _ ⟨⟨hH, hci, k_th, k_am, k_out, h3, k_rd, hl, hm, hc⟩, ⟨hh1, hp, hg⟩, hrc, hrm, hbc, hbi, hyw, _, htC, htM, htb⟩ (by omega) (by omega)
set_option maxHeartbeats 2000000 in
theorem lw_c34 (hI : lw_I K G th am out rd s0 s1 aw ai tp ba na tm c h cn im) (hi : i + 6 ≤ n) (hn : n ≤ 3072) (hN : ∀ (K' : et_K) (G' : eg_G) (c' h' : Nat) (cn' im' : Nat → Nat) (ck' sk' : Nat) (y5 y6 : Option Value), lw_I K' G' th am out rd s0 s1 aw ai tp ba na tm c' h' cn' im' → ck' ≤ ck + 841 → sk' ≤ sk + 7168 → et_go (some (n, f)) (d + 41) 1000 1656 [some (.ref 150), some (.ref th), some (.ref am), some (.ref out), some (.int (Int32.ofNat i)), y5, y6] [] G' ck' sk' Z) : et_go (some (n, f)) (d + 41) 1000 1511 [some (.ref 150), some (.ref th), some (.ref am), some (.ref out), some (.int (Int32.ofNat i)), x5, x6] [] G ck sk Z := by
  obtain ⟨⟨hH, hci, k_th, k_am, k_out, h3, k_rd, hl, hm, hc⟩, ⟨hh1, hp, hg⟩, hrc, hrm, hbc, hbi, hyw, tb, htC, htM, htb⟩ := hI
  refine ls_aload (i := 1) (p := 1512) (by decide +kernel) rfl ?_
  refine ls_arg (j := 1) (by decide +kernel) (by omega) hn ?_
  refine ls_arg (j := 2) (by decide +kernel) (by omega) hn ?_
  refine ls_arg (j := 3) (by decide +kernel) (by omega) hn ?_
  refine ls_bool (by decide +kernel) (fun b1530 hb1530 hbe1530 => ?_)
  refine ls_aload (i := 3) (p := 1539) (by decide +kernel) rfl ?_
  refine ls_calls (mi := 28) (na := 5) (lk := 7) (lm := 6) (L0 := eg_en (eg_mL 28) [.ref th, .int (f (i + 1)), .int (f (i + 2)), .int (Int32.ofNat b1530), .ref out]) (by decide +kernel) rfl rfl rfl rfl rfl rfl (by rw [show eg_mL 28 = 6 from by decide +kernel]; first | done | rfl) ?_
  refine (hh_c28 (K, [], G) [.ref th, .int (f (i + 1)), .int (f (i + 2)), .int (Int32.ofNat b1530), .ref out] _ hH (by omega) rfl (ht_ac (.inr ⟨by decide, _, rfl, k_th⟩) (ht_ac hi_any (ht_ac hi_any (ht_ac (hi_nv (by omega) (by omega)) (ht_ac (.inr ⟨by decide, _, rfl, k_out⟩) ht_an)))))).mono (fun u hu => ls_cbv hu (fun v1539 K1539 G1539 c1539 s1539 x1539 f1539 hH hv1539 cl1539 sl1539 => ?_))
  have hyw := hyw.fr k_th hrc.1.1 hrc.1.2.1 hrm.1.1 hrm.1.2 x1539 f1539 (by decide +kernel)
  have hci := hci.fr x1539 f1539 (by decide +kernel)
  have h3 := (f1539.2 th 12 k_th 3 rfl).trans h3
  have hl := (f1539.2 rd 7 k_rd 1 rfl).trans hl
  have hm := (f1539.2 am 13 k_am 5 rfl).trans hm
  have hp := (f1539.2 th 12 k_th 2 rfl).trans hp
  have hg := (f1539.2 am 13 k_am 3 rfl).trans hg
  have htC := htC.fr k_rd x1539 f1539 (by decide +kernel)
  have htM := htM.fr k_am x1539 f1539 (by decide +kernel)
  have hrc := hrc.fr k_th x1539 f1539 (by decide +kernel)
  have hrm := hrm.fr k_am x1539 f1539 (by decide +kernel)
  have k_th := x1539 _ _ k_th
  have k_am := x1539 _ _ k_am
  have k_out := x1539 _ _ k_out
  have k_rd := x1539 _ _ k_rd
  obtain ⟨v1539, rfl, -⟩ := hv1539
  show et_go _ _ 1000 1542 [some (.ref 150), some (.ref th), some (.ref am), some (.ref out), some (.int (Int32.ofNat i)), x5, x6] [.int v1539] _ (ck + c1539) (sk + s1539) _
  refine ls_istore (i := 5) (p := 1544) (by decide +kernel) (Nat.le_of_ble_eq_true rfl) ?_
  refine ls_aload (i := 2) (p := 1545) (by decide +kernel) rfl ?_
  refine ls_arg (j := 1) (by decide +kernel) (by omega) hn ?_
  refine ls_arg (j := 2) (by decide +kernel) (by omega) hn ?_
  refine ls_arg (j := 3) (by decide +kernel) (by omega) hn ?_
  refine ls_bool (by decide +kernel) (fun b1563 hb1563 hbe1563 => ?_)
  refine lt_callv (T := et_TT) (t := 13) (mi := 288) (na := 3) (ci := 11) (lk := 7) (lm := 8) (L0 := eg_en (eg_mL 288) [.ref am, .int (f (i + 1)), .int (f (i + 2)), .int (Int32.ofNat b1563)]) (by decide +kernel) rfl hH k_am rfl rfl rfl rfl rfl (by rw [show eg_mL 288 = 8 from by decide +kernel]; first | done | rfl) ?_
  refine (er_p288_ok (K1539, [], G1539) [.ref am, .int (f (i + 1)), .int (f (i + 2)), .int (Int32.ofNat b1563)] _ hH (by omega) rfl (ht_ac (.inr ⟨by decide, _, rfl, k_am⟩) (ht_ac hi_any (ht_ac hi_any (ht_ac (hi_nv (by omega) (by omega)) ht_an))))).mono (fun u hu => ls_cbv hu (fun v1571 K1571 G1571 c1571 s1571 x1571 f1571 hH hv1571 cl1571 sl1571 => ?_))
  have hyw := hyw.fr k_th hrc.1.1 hrc.1.2.1 hrm.1.1 hrm.1.2 x1571 f1571 (by decide +kernel)
  have hci := hci.fr x1571 f1571 (by decide +kernel)
  have h3 := (f1571.2 th 12 k_th 3 rfl).trans h3
  have hl := (f1571.2 rd 7 k_rd 1 rfl).trans hl
  have hm := (f1571.2 am 13 k_am 5 rfl).trans hm
  have hp := (f1571.2 th 12 k_th 2 rfl).trans hp
  have hg := (f1571.2 am 13 k_am 3 rfl).trans hg
  have htC := htC.fr k_rd x1571 f1571 (by decide +kernel)
  have htM := htM.fr k_am x1571 f1571 (by decide +kernel)
  have hrc := hrc.fr k_th x1571 f1571 (by decide +kernel)
  have hrm := hrm.fr k_am x1571 f1571 (by decide +kernel)
  have k_th := x1571 _ _ k_th
  have k_am := x1571 _ _ k_am
  have k_out := x1571 _ _ k_out
  have k_rd := x1571 _ _ k_rd
  obtain ⟨v1571, rfl, -⟩ := hv1571
  show et_go _ _ 1000 1574 [some (.ref 150), some (.ref th), some (.ref am), some (.ref out), some (.int (Int32.ofNat i)), some (.int v1539), x6] [.int v1571] _ ((ck + c1539) + c1571) ((sk + s1539) + s1571) _
  refine ls_istore (i := 6) (p := 1576) (by decide +kernel) (Nat.le_of_ble_eq_true rfl) ?_
  refine ls_goto (p := 1656) (by decide +kernel) ?_
  exact hN _ _ c h _ _ _ _ _ _ ⟨⟨hH, hci, k_th, k_am, k_out, h3, k_rd, hl, hm, hc⟩, ⟨hh1, hp, hg⟩, hrc, hrm, hbc, hbi, hyw, _, htC, htM, htb⟩ (by omega) (by omega)
set_option maxHeartbeats 2000000 in
theorem lw_c35 (hI : lw_I K G th am out rd s0 s1 aw ai tp ba na tm c h cn im) (hi : i + 6 ≤ n) (hn : n ≤ 3072) (hN : ∀ (K' : et_K) (G' : eg_G) (c' h' : Nat) (cn' im' : Nat → Nat) (ck' sk' : Nat) (y5 y6 : Option Value), lw_I K' G' th am out rd s0 s1 aw ai tp ba na tm c' h' cn' im' → ck' ≤ ck + 841 → sk' ≤ sk + 7168 → et_go (some (n, f)) (d + 41) 1000 1656 [some (.ref 150), some (.ref th), some (.ref am), some (.ref out), some (.int (Int32.ofNat i)), y5, y6] [] G' ck' sk' Z) : et_go (some (n, f)) (d + 41) 1000 1579 [some (.ref 150), some (.ref th), some (.ref am), some (.ref out), some (.int (Int32.ofNat i)), x5, x6] [] G ck sk Z := by
  obtain ⟨⟨hH, hci, k_th, k_am, k_out, h3, k_rd, hl, hm, hc⟩, ⟨hh1, hp, hg⟩, hrc, hrm, hbc, hbi, hyw, tb, htC, htM, htb⟩ := hI
  refine ls_aload (i := 1) (p := 1580) (by decide +kernel) rfl ?_
  refine ls_arg (j := 1) (by decide +kernel) (by omega) hn ?_
  refine ls_aload (i := 3) (p := 1587) (by decide +kernel) rfl ?_
  refine ls_calls (mi := 29) (na := 3) (lk := 7) (lm := 4) (L0 := eg_en (eg_mL 29) [.ref th, .int (f (i + 1)), .ref out]) (by decide +kernel) rfl rfl rfl rfl rfl rfl (by rw [show eg_mL 29 = 4 from by decide +kernel]; first | done | rfl) ?_
  refine (hh_c29 (K, [], G) [.ref th, .int (f (i + 1)), .ref out] _ hH (by omega) rfl (ht_ac (.inr ⟨by decide, _, rfl, k_th⟩) (ht_ac hi_any (ht_ac (.inr ⟨by decide, _, rfl, k_out⟩) ht_an)))).mono (fun u hu => ls_cbv hu (fun v1587 K1587 G1587 c1587 s1587 x1587 f1587 hH hv1587 cl1587 sl1587 => ?_))
  have hyw := hyw.fr k_th hrc.1.1 hrc.1.2.1 hrm.1.1 hrm.1.2 x1587 f1587 (by decide +kernel)
  have hci := hci.fr x1587 f1587 (by decide +kernel)
  have h3 := (f1587.2 th 12 k_th 3 rfl).trans h3
  have hl := (f1587.2 rd 7 k_rd 1 rfl).trans hl
  have hm := (f1587.2 am 13 k_am 5 rfl).trans hm
  have hp := (f1587.2 th 12 k_th 2 rfl).trans hp
  have hg := (f1587.2 am 13 k_am 3 rfl).trans hg
  have htC := htC.fr k_rd x1587 f1587 (by decide +kernel)
  have htM := htM.fr k_am x1587 f1587 (by decide +kernel)
  have hrc := hrc.fr k_th x1587 f1587 (by decide +kernel)
  have hrm := hrm.fr k_am x1587 f1587 (by decide +kernel)
  have k_th := x1587 _ _ k_th
  have k_am := x1587 _ _ k_am
  have k_out := x1587 _ _ k_out
  have k_rd := x1587 _ _ k_rd
  obtain ⟨v1587, rfl, -⟩ := hv1587
  show et_go _ _ 1000 1590 [some (.ref 150), some (.ref th), some (.ref am), some (.ref out), some (.int (Int32.ofNat i)), x5, x6] [.int v1587] _ (ck + c1587) (sk + s1587) _
  refine ls_istore (i := 5) (p := 1592) (by decide +kernel) (Nat.le_of_ble_eq_true rfl) ?_
  refine ls_aload (i := 2) (p := 1593) (by decide +kernel) rfl ?_
  refine ls_arg (j := 1) (by decide +kernel) (by omega) hn ?_
  refine lt_callv (T := et_TT) (t := 13) (mi := 291) (na := 1) (ci := 11) (lk := 7) (lm := 2) (L0 := eg_en (eg_mL 291) [.ref am, .int (f (i + 1))]) (by decide +kernel) rfl hH k_am rfl rfl rfl rfl rfl (by rw [show eg_mL 291 = 2 from by decide +kernel]; first | done | rfl) ?_
  refine (er_p291_ok (K1587, [], G1587) [.ref am, .int (f (i + 1))] _ hH (by omega) rfl (ht_ac (.inr ⟨by decide, _, rfl, k_am⟩) (ht_ac hi_any ht_an))).mono (fun u hu => ls_cbv hu (fun v1599 K1599 G1599 c1599 s1599 x1599 f1599 hH hv1599 cl1599 sl1599 => ?_))
  have hyw := hyw.fr k_th hrc.1.1 hrc.1.2.1 hrm.1.1 hrm.1.2 x1599 f1599 (by decide +kernel)
  have hci := hci.fr x1599 f1599 (by decide +kernel)
  have h3 := (f1599.2 th 12 k_th 3 rfl).trans h3
  have hl := (f1599.2 rd 7 k_rd 1 rfl).trans hl
  have hm := (f1599.2 am 13 k_am 5 rfl).trans hm
  have hp := (f1599.2 th 12 k_th 2 rfl).trans hp
  have hg := (f1599.2 am 13 k_am 3 rfl).trans hg
  have htC := htC.fr k_rd x1599 f1599 (by decide +kernel)
  have htM := htM.fr k_am x1599 f1599 (by decide +kernel)
  have hrc := hrc.fr k_th x1599 f1599 (by decide +kernel)
  have hrm := hrm.fr k_am x1599 f1599 (by decide +kernel)
  have k_th := x1599 _ _ k_th
  have k_am := x1599 _ _ k_am
  have k_out := x1599 _ _ k_out
  have k_rd := x1599 _ _ k_rd
  obtain ⟨v1599, rfl, -⟩ := hv1599
  show et_go _ _ 1000 1602 [some (.ref 150), some (.ref th), some (.ref am), some (.ref out), some (.int (Int32.ofNat i)), some (.int v1587), x6] [.int v1599] _ ((ck + c1587) + c1599) ((sk + s1587) + s1599) _
  refine ls_istore (i := 6) (p := 1604) (by decide +kernel) (Nat.le_of_ble_eq_true rfl) ?_
  refine ls_goto (p := 1656) (by decide +kernel) ?_
  exact hN _ _ c h _ _ _ _ _ _ ⟨⟨hH, hci, k_th, k_am, k_out, h3, k_rd, hl, hm, hc⟩, ⟨hh1, hp, hg⟩, hrc, hrm, hbc, hbi, hyw, _, htC, htM, htb⟩ (by omega) (by omega)
set_option maxHeartbeats 2000000 in
theorem lw_c36 (hI : lw_I K G th am out rd s0 s1 aw ai tp ba na tm c h cn im) (hi : i + 6 ≤ n) (hn : n ≤ 3072) (hN : ∀ (K' : et_K) (G' : eg_G) (c' h' : Nat) (cn' im' : Nat → Nat) (ck' sk' : Nat) (y5 y6 : Option Value), lw_I K' G' th am out rd s0 s1 aw ai tp ba na tm c' h' cn' im' → ck' ≤ ck + 841 → sk' ≤ sk + 7168 → et_go (some (n, f)) (d + 41) 1000 1656 [some (.ref 150), some (.ref th), some (.ref am), some (.ref out), some (.int (Int32.ofNat i)), y5, y6] [] G' ck' sk' Z) : et_go (some (n, f)) (d + 41) 1000 1607 [some (.ref 150), some (.ref th), some (.ref am), some (.ref out), some (.int (Int32.ofNat i)), x5, x6] [] G ck sk Z := by
  obtain ⟨⟨hH, hci, k_th, k_am, k_out, h3, k_rd, hl, hm, hc⟩, ⟨hh1, hp, hg⟩, hrc, hrm, hbc, hbi, hyw, tb, htC, htM, htb⟩ := hI
  refine ls_aload (i := 1) (p := 1608) (by decide +kernel) rfl ?_
  refine lt_callv (T := et_TT) (t := 12) (mi := 124) (na := 0) (ci := 10) (lk := 7) (lm := 1) (L0 := eg_en (eg_mL 124) [.ref th]) (by decide +kernel) rfl hH k_th rfl rfl rfl rfl rfl (by rw [show eg_mL 124 = 1 from by decide +kernel]; first | done | rfl) ?_
  obtain ⟨t0, t1, ra0, ca0, rc0, ec0, cc0, ra1, ca1, rc1, ec1, cc1, hC⟩ := id hci
  obtain rfl : s0 = t0 := Value.ref.inj (Option.some.inj (hrc.2.1.1.symm.trans hC.2.1.1))
  obtain rfl : s1 = t1 := Value.ref.inj (Option.some.inj (hrc.2.1.2.symm.trans hC.2.1.2))
  have ee0 : ec0 = cn 4 := xi_inj (by have := hC.2.2.2.1.2.2.2.1.2.1; omega) (by have := hbc 4; omega) (hC.2.2.2.1.2.2.1.2.1.symm.trans (hrc.2.2 (5, 4) (by decide)).1)
  have ee1 : ec1 = im 4 := xi_inj (by have := hC.2.2.2.2.2.2.2.1.2.1; omega) (by have := hbi 4; omega) (hC.2.2.2.2.2.2.1.2.1.symm.trans (hrc.2.2 (5, 4) (by decide)).2)
  obtain ⟨sp_, ya_, yb_, E_, F_, cw, iw, y1, y2, y3, ⟨y4, y5⟩, ⟨y6, y7⟩, y8, y9⟩ := hyw
  have b0 : cn 0 ≤ 4 := Int.ofNat_le.mp (hf_bd (t := 10) hH hrc.1.1 rfl rfl (hrc.2.2 (0, 0) (by decide)).1 (hbc 0))
  have b1 : cn 1 ≤ 4 := Int.ofNat_le.mp (hf_bd (t := 10) hH hrc.1.1 rfl rfl (hrc.2.2 (7, 1) (by decide)).1 (hbc 1))
  have b2 : cn 2 ≤ 6 := Int.ofNat_le.mp (hf_bd (t := 10) hH hrc.1.1 rfl rfl (hrc.2.2 (9, 2) (by decide)).1 (hbc 2))
  have b3 : cn 3 ≤ 20 := Int.ofNat_le.mp (hf_bd (t := 10) hH hrc.1.1 rfl rfl (hrc.2.2 (2, 3) (by decide)).1 (hbc 3))
  have b4 : cn 4 ≤ 3 := Int.ofNat_le.mp (hf_bd (t := 10) hH hrc.1.1 rfl rfl (hrc.2.2 (5, 4) (by decide)).1 (hbc 4))
  refine ((hc_imageX hH hci (by omega)).and ((fc_imageN hH hC ⟨b0, b3, b4, b1, b2⟩ (hrc.2.2 (0, 0) (by decide)).1 (hrc.2.2 (2, 3) (by decide)).1 (hrc.2.2 (5, 4) (by decide)).1 (hrc.2.2 (7, 1) (by decide)).1 (hrc.2.2 (9, 2) (by decide)).1 (by omega)).and (fc_imageE hH hC y1 y2 y3 (by omega)))).mono (fun u hu => ls_cbwQ (Q := fun u => ph_at u.2.1 th 1 ∧ tnP s1 s0 (cn 0) (cn 3) (cn 4) (cn 1) (cn 2) u.2.1 ∧ ev u.2.1 E_ F_ cw cw) ⟨hu.1.1, hu.1.2, hu.2⟩ (fun K1608 G1608 x1608 f1608 hH hci hQ => ?_))
  obtain ⟨hP, ⟨⟨pa0, pb0⟩, ⟨pa2, pb2⟩, ⟨pa5, pb5⟩, ⟨pa7, pb7⟩, ⟨pa9, pb9⟩⟩, y3⟩ := hQ
  have y2 := y2.fr y1 k_th hrc.1.1 hrc.1.2.1 f1608 (by decide +kernel)
  have y4 := y4.fr hrm.1.1 f1608 (by decide +kernel)
  have y5 := y5.fr hrm.1.2 f1608 (by decide +kernel)
  have y1 := y1.ex x1608
  have hrc : rc lw_ks K1608 G1608 th s0 s1 cn cn := ⟨⟨x1608 _ _ hrc.1.1, x1608 _ _ hrc.1.2.1, hrc.1.2.2⟩, ⟨(f1608.2 th 12 k_th 0 rfl).trans hrc.2.1.1, (f1608.2 th 12 k_th 1 rfl).trans hrc.2.1.2⟩, fun q hq => by simp only [lw_ks, List.mem_cons, List.not_mem_nil, or_false] at hq; rcases hq with rfl | rfl | rfl | rfl | rfl <;> first | exact ⟨pb0, pa0⟩ | exact ⟨pb7, pa7⟩ | exact ⟨pb9, pa9⟩ | exact ⟨pb2, pa2⟩ | exact ⟨pb5, pa5⟩⟩
  have h3 := (f1608.2 th 12 k_th 3 rfl).trans h3
  have hl := (f1608.2 rd 7 k_rd 1 rfl).trans hl
  have hm := (f1608.2 am 13 k_am 5 rfl).trans hm
  have hp := hP
  have hg := (f1608.2 am 13 k_am 3 rfl).trans hg
  have htC := htC.fr k_rd x1608 f1608 (by decide +kernel)
  have htM := htM.fr k_am x1608 f1608 (by decide +kernel)
  have hrm := hrm.fr k_am x1608 f1608 (by decide +kernel)
  have k_th := x1608 _ _ k_th
  have k_am := x1608 _ _ k_am
  have k_out := x1608 _ _ k_out
  have k_rd := x1608 _ _ k_rd
  show et_go _ _ 1000 1611 [some (.ref 150), some (.ref th), some (.ref am), some (.ref out), some (.int (Int32.ofNat i)), x5, x6] [] _ ck sk _
  refine ls_aload (i := 2) (p := 1612) (by decide +kernel) rfl ?_
  refine lt_callv (T := et_TT) (t := 13) (mi := 175) (na := 0) (ci := 11) (lk := 7) (lm := 2) (L0 := eg_en (eg_mL 175) [.ref am]) (by decide +kernel) rfl hH k_am rfl rfl rfl rfl rfl (by rw [show eg_mL 175 = 2 from by decide +kernel]; first | done | rfl) ?_
  refine ((hc_imageM (w := (K1608, [], G1608)) hH k_am).and (fm_image hH k_am hrm.2.1.1 hrm.2.1.2)).mono (fun u hu => ls_cbnQ (Q := fun u => pg_at u.2.1 am 1 ∧ ∀ k, k < 11900 → et_pl (eg_at u.2.1 aw) k = et_pl (eg_at G1608 aw) k ∧ et_pl (eg_at u.2.1 ai) k = et_pl (eg_at G1608 aw) k) ⟨hu.1.1, hu.1.2, hu.2⟩ (fun K1612 G1612 c1612 s1612 x1612 f1612 hH cl1612 sl1612 hQ => ?_))
  obtain ⟨hP, hQ⟩ := hQ
  have y2 := y2.fr y1 k_th hrc.1.1 hrc.1.2.1 f1612 (by decide +kernel)
  have y3 := y3.fr y1 f1612 (by decide +kernel)
  have y1 := y1.ex x1612
  have hyw : yw K1612 G1612 th s0 s1 aw ai (cn 4) (cn 4) := ⟨sp_, ya_, yb_, E_, F_, cw, cw, y1, y2, y3, ⟨fun k hk => (hQ _ (by omega)).1.trans (y4 k hk), fun k hk => (hQ _ (by omega)).2.trans (y4 k hk)⟩, ⟨y6, y6⟩, y8, y8⟩
  have hrm : rm lw_ks K1612 G1612 am aw ai cn cn := ⟨⟨x1612 _ _ hrm.1.1, x1612 _ _ hrm.1.2⟩, ⟨(f1612.2 am 13 k_am 1 rfl).trans hrm.2.1.1, (f1612.2 am 13 k_am 2 rfl).trans hrm.2.1.2⟩, fun q hq => ⟨(hQ q.2 (lw_kl q hq)).1.trans (hrm.2.2 q hq).1, (hQ q.2 (lw_kl q hq)).2.trans (hrm.2.2 q hq).1⟩⟩
  have hbi := hbc
  have hci := hci.fr x1612 f1612 (by decide +kernel)
  have h3 := (f1612.2 th 12 k_th 3 rfl).trans h3
  have hl := (f1612.2 rd 7 k_rd 1 rfl).trans hl
  have hm := (f1612.2 am 13 k_am 5 rfl).trans hm
  have hp := (f1612.2 th 12 k_th 2 rfl).trans hp
  have hg := hP
  have htC := htC.fr k_rd x1612 f1612 (by decide +kernel)
  have htM := htM.fr k_am x1612 f1612 (by decide +kernel)
  have hrc := hrc.fr k_th x1612 f1612 (by decide +kernel)
  have k_th := x1612 _ _ k_th
  have k_am := x1612 _ _ k_am
  have k_out := x1612 _ _ k_out
  have k_rd := x1612 _ _ k_rd
  show et_go _ _ 1000 1615 [some (.ref 150), some (.ref th), some (.ref am), some (.ref out), some (.int (Int32.ofNat i)), x5, x6] [] _ (ck + c1612) (sk + s1612) _
  refine ls_goto (p := 1656) (by decide +kernel) ?_
  exact hN _ _ c 1 _ _ _ _ _ _ ⟨⟨hH, hci, k_th, k_am, k_out, h3, k_rd, hl, hm, hc⟩, ⟨(by decide), hp, hg⟩, hrc, hrm, hbc, hbi, hyw, _, htC, htM, htb⟩ (by omega) (by omega)
set_option maxHeartbeats 2000000 in
theorem lw_c37 (hI : lw_I K G th am out rd s0 s1 aw ai tp ba na tm c h cn im) (hi : i + 6 ≤ n) (hn : n ≤ 3072) (hN : ∀ (K' : et_K) (G' : eg_G) (c' h' : Nat) (cn' im' : Nat → Nat) (ck' sk' : Nat) (y5 y6 : Option Value), lw_I K' G' th am out rd s0 s1 aw ai tp ba na tm c' h' cn' im' → ck' ≤ ck + 841 → sk' ≤ sk + 7168 → et_go (some (n, f)) (d + 41) 1000 1656 [some (.ref 150), some (.ref th), some (.ref am), some (.ref out), some (.int (Int32.ofNat i)), y5, y6] [] G' ck' sk' Z) : et_go (some (n, f)) (d + 41) 1000 1618 [some (.ref 150), some (.ref th), some (.ref am), some (.ref out), some (.int (Int32.ofNat i)), x5, x6] [] G ck sk Z := by
  obtain ⟨⟨hH, hci, k_th, k_am, k_out, h3, k_rd, hl, hm, hc⟩, ⟨hh1, hp, hg⟩, hrc, hrm, hbc, hbi, hyw, tb, htC, htM, htb⟩ := hI
  refine ls_aload (i := 1) (p := 1619) (by decide +kernel) rfl ?_
  refine lt_callv (T := et_TT) (t := 12) (mi := 125) (na := 0) (ci := 10) (lk := 7) (lm := 1) (L0 := eg_en (eg_mL 125) [.ref th]) (by decide +kernel) rfl hH k_th rfl rfl rfl rfl rfl (by rw [show eg_mL 125 = 1 from by decide +kernel]; first | done | rfl) ?_
  obtain ⟨t0, t1, ra0, ca0, rc0, ec0, cc0, ra1, ca1, rc1, ec1, cc1, hC⟩ := id hci
  obtain rfl : s0 = t0 := Value.ref.inj (Option.some.inj (hrc.2.1.1.symm.trans hC.2.1.1))
  obtain rfl : s1 = t1 := Value.ref.inj (Option.some.inj (hrc.2.1.2.symm.trans hC.2.1.2))
  have ee0 : ec0 = cn 4 := xi_inj (by have := hC.2.2.2.1.2.2.2.1.2.1; omega) (by have := hbc 4; omega) (hC.2.2.2.1.2.2.1.2.1.symm.trans (hrc.2.2 (5, 4) (by decide)).1)
  have ee1 : ec1 = im 4 := xi_inj (by have := hC.2.2.2.2.2.2.2.1.2.1; omega) (by have := hbi 4; omega) (hC.2.2.2.2.2.2.1.2.1.symm.trans (hrc.2.2 (5, 4) (by decide)).2)
  obtain ⟨sp_, ya_, yb_, E_, F_, cw, iw, y1, y2, y3, ⟨y4, y5⟩, ⟨y6, y7⟩, y8, y9⟩ := hyw
  have b0 : cn 0 ≤ 4 := Int.ofNat_le.mp (hf_bd (t := 10) hH hrc.1.1 rfl rfl (hrc.2.2 (0, 0) (by decide)).1 (hbc 0))
  have bm0 : im 0 ≤ 4 := Int.ofNat_le.mp (hf_bd (t := 10) hH hrc.1.2.1 rfl rfl (hrc.2.2 (0, 0) (by decide)).2 (hbi 0))
  have b1 : cn 1 ≤ 4 := Int.ofNat_le.mp (hf_bd (t := 10) hH hrc.1.1 rfl rfl (hrc.2.2 (7, 1) (by decide)).1 (hbc 1))
  have bm1 : im 1 ≤ 4 := Int.ofNat_le.mp (hf_bd (t := 10) hH hrc.1.2.1 rfl rfl (hrc.2.2 (7, 1) (by decide)).2 (hbi 1))
  have b2 : cn 2 ≤ 6 := Int.ofNat_le.mp (hf_bd (t := 10) hH hrc.1.1 rfl rfl (hrc.2.2 (9, 2) (by decide)).1 (hbc 2))
  have bm2 : im 2 ≤ 6 := Int.ofNat_le.mp (hf_bd (t := 10) hH hrc.1.2.1 rfl rfl (hrc.2.2 (9, 2) (by decide)).2 (hbi 2))
  have b3 : cn 3 ≤ 20 := Int.ofNat_le.mp (hf_bd (t := 10) hH hrc.1.1 rfl rfl (hrc.2.2 (2, 3) (by decide)).1 (hbc 3))
  have bm3 : im 3 ≤ 20 := Int.ofNat_le.mp (hf_bd (t := 10) hH hrc.1.2.1 rfl rfl (hrc.2.2 (2, 3) (by decide)).2 (hbi 3))
  have b4 : cn 4 ≤ 3 := Int.ofNat_le.mp (hf_bd (t := 10) hH hrc.1.1 rfl rfl (hrc.2.2 (5, 4) (by decide)).1 (hbc 4))
  have bm4 : im 4 ≤ 3 := Int.ofNat_le.mp (hf_bd (t := 10) hH hrc.1.2.1 rfl rfl (hrc.2.2 (5, 4) (by decide)).2 (hbi 4))
  refine ((hc_backX hH hci hp hh1 (by omega)).and ((fc_backN hH hC ⟨b0, b3, b4, b1, b2⟩ (hrc.2.2 (0, 0) (by decide)).1 (hrc.2.2 (2, 3) (by decide)).1 (hrc.2.2 (5, 4) (by decide)).1 (hrc.2.2 (7, 1) (by decide)).1 (hrc.2.2 (9, 2) (by decide)).1 ⟨bm0, bm3, bm4, bm1, bm2⟩ (hrc.2.2 (0, 0) (by decide)).2 (hrc.2.2 (2, 3) (by decide)).2 (hrc.2.2 (5, 4) (by decide)).2 (hrc.2.2 (7, 1) (by decide)).2 (hrc.2.2 (9, 2) (by decide)).2 hp hh1 (by omega)).and (fc_backE hH hC y1 y2 y3 hp hh1 (by omega)))).mono (fun u hu => ls_cbrQ (Q := fun u => (u.1 = .inl (some (.int (Int32.ofNat h))) ∧ ph_at u.2.1 th h) ∧ bkP s0 s1 (cn 0) (cn 3) (cn 4) (cn 1) (cn 2) (im 0) (im 3) (im 4) (im 1) (im 2) h u.2.1 ∧ ev u.2.1 E_ F_ (fun k => if h = 0 then cw k else iw k) iw) ⟨hu.1.1, hu.1.2, hu.2⟩ (fun v1619 K1619 G1619 c1619 s1619 x1619 f1619 hH hci _ cl1619 sl1619 hQ => ?_))
  obtain ⟨⟨ev, hP⟩, hQ, y3⟩ := hQ
  cases ev
  have y2 := y2.fr y1 k_th hrc.1.1 hrc.1.2.1 f1619 (by decide +kernel)
  have y4 := y4.fr hrm.1.1 f1619 (by decide +kernel)
  have y5 := y5.fr hrm.1.2 f1619 (by decide +kernel)
  have y1 := y1.ex x1619
  have hQ2 : ∀ q ∈ lw_ks, et_pl (eg_at G1619 s0) q.1 = some (.int (Int32.ofNat (if h = 0 then cn q.2 else im q.2))) ∧ et_pl (eg_at G1619 s1) q.1 = some (.int (Int32.ofNat (im q.2))) := fun q hq => by
    unfold bkP at hQ
    by_cases h0 : h = 0
    · rw [if_pos h0] at hQ ⊢
      obtain ⟨⟨pa0, pa2, pa5, pa7, pa9⟩, pb0, pb2, pb5, pb7, pb9⟩ := hQ
      simp only [lw_ks, List.mem_cons, List.not_mem_nil, or_false] at hq; rcases hq with rfl | rfl | rfl | rfl | rfl <;> first | exact ⟨pa0, pb0⟩ | exact ⟨pa7, pb7⟩ | exact ⟨pa9, pb9⟩ | exact ⟨pa2, pb2⟩ | exact ⟨pa5, pb5⟩
    · rw [if_neg h0] at hQ ⊢
      obtain ⟨⟨pa0, pb0⟩, ⟨pa2, pb2⟩, ⟨pa5, pb5⟩, ⟨pa7, pb7⟩, ⟨pa9, pb9⟩⟩ := hQ
      simp only [lw_ks, List.mem_cons, List.not_mem_nil, or_false] at hq; rcases hq with rfl | rfl | rfl | rfl | rfl <;> first | exact ⟨pa0, pb0⟩ | exact ⟨pa7, pb7⟩ | exact ⟨pa9, pb9⟩ | exact ⟨pa2, pb2⟩ | exact ⟨pa5, pb5⟩
  have hrc : rc lw_ks K1619 G1619 th s0 s1 (fun k => if h = 0 then cn k else im k) im := ⟨⟨x1619 _ _ hrc.1.1, x1619 _ _ hrc.1.2.1, hrc.1.2.2⟩, ⟨(f1619.2 th 12 k_th 0 rfl).trans hrc.2.1.1, (f1619.2 th 12 k_th 1 rfl).trans hrc.2.1.2⟩, hQ2⟩
  have h3 := (f1619.2 th 12 k_th 3 rfl).trans h3
  have hl := (f1619.2 rd 7 k_rd 1 rfl).trans hl
  have hm := (f1619.2 am 13 k_am 5 rfl).trans hm
  have hp := hP
  have hg := (f1619.2 am 13 k_am 3 rfl).trans hg
  have htC := htC.fr k_rd x1619 f1619 (by decide +kernel)
  have htM := htM.fr k_am x1619 f1619 (by decide +kernel)
  have hrm := hrm.fr k_am x1619 f1619 (by decide +kernel)
  have k_th := x1619 _ _ k_th
  have k_am := x1619 _ _ k_am
  have k_out := x1619 _ _ k_out
  have k_rd := x1619 _ _ k_rd
  show et_go _ _ 1000 1622 [some (.ref 150), some (.ref th), some (.ref am), some (.ref out), some (.int (Int32.ofNat i)), x5, x6] [.int (Int32.ofNat h)] _ (ck + c1619) (sk + s1619) _
  refine ls_pop (p := 1623) (by decide +kernel) ?_
  refine ls_aload (i := 2) (p := 1624) (by decide +kernel) rfl ?_
  refine lt_callv (T := et_TT) (t := 13) (mi := 176) (na := 0) (ci := 11) (lk := 7) (lm := 2) (L0 := eg_en (eg_mL 176) [.ref am]) (by decide +kernel) rfl hH k_am rfl rfl rfl rfl rfl (by rw [show eg_mL 176 = 2 from by decide +kernel]; first | done | rfl) ?_
  refine ((hc_backM (w := (K1619, [], G1619)) hH k_am hg hh1).and (fm_back hH k_am hrm.2.1.1 hrm.2.1.2 hg hh1)).mono (fun u hu => ls_cbvQ (Q := fun u => u.1 = .inl (some (.int (Int32.ofNat h))) ∧ ∀ k, k < 11900 → et_pl (eg_at u.2.1 aw) k = (if h = 0 then et_pl (eg_at G1619 aw) k else et_pl (eg_at G1619 ai) k) ∧ et_pl (eg_at u.2.1 ai) k = et_pl (eg_at G1619 ai) k) ⟨hu.1.1, hu.1.2, hu.2⟩ (fun v1624 K1624 G1624 c1624 s1624 x1624 f1624 hH hv1624 cl1624 sl1624 hQ => ?_))
  obtain ⟨ev, hQ⟩ := hQ
  cases ev
  have y2 := y2.fr y1 k_th hrc.1.1 hrc.1.2.1 f1624 (by decide +kernel)
  have y3 := y3.fr y1 f1624 (by decide +kernel)
  have y1 := y1.ex x1624
  have hyw : yw K1624 G1624 th s0 s1 aw ai (if h = 0 then cn 4 else im 4) (im 4) := yw.mkb y1 y2 y3 (vz.bk y4 y5 hQ) y6 y7 y8 y9
  have hrm : rm lw_ks K1624 G1624 am aw ai (fun k => if h = 0 then cn k else im k) im := ⟨⟨x1624 _ _ hrm.1.1, x1624 _ _ hrm.1.2⟩, ⟨(f1624.2 am 13 k_am 1 rfl).trans hrm.2.1.1, (f1624.2 am 13 k_am 2 rfl).trans hrm.2.1.2⟩, fun q hq => ⟨(hQ q.2 (lw_kl q hq)).1.trans (by split; exact (hrm.2.2 q hq).1; exact (hrm.2.2 q hq).2), (hQ q.2 (lw_kl q hq)).2.trans (hrm.2.2 q hq).2⟩⟩
  have hbc : ∀ k, (if h = 0 then cn k else im k) ≤ 400 := fun k => by split; exact hbc k; exact hbi k
  have hci := hci.fr x1624 f1624 (by decide +kernel)
  have h3 := (f1624.2 th 12 k_th 3 rfl).trans h3
  have hl := (f1624.2 rd 7 k_rd 1 rfl).trans hl
  have hm := (f1624.2 am 13 k_am 5 rfl).trans hm
  have hp := (f1624.2 th 12 k_th 2 rfl).trans hp
  have hg := (f1624.2 am 13 k_am 3 rfl).trans hg
  have htC := htC.fr k_rd x1624 f1624 (by decide +kernel)
  have htM := htM.fr k_am x1624 f1624 (by decide +kernel)
  have hrc := hrc.fr k_th x1624 f1624 (by decide +kernel)
  have k_th := x1624 _ _ k_th
  have k_am := x1624 _ _ k_am
  have k_out := x1624 _ _ k_out
  have k_rd := x1624 _ _ k_rd
  show et_go _ _ 1000 1627 [some (.ref 150), some (.ref th), some (.ref am), some (.ref out), some (.int (Int32.ofNat i)), x5, x6] [.int (Int32.ofNat h)] _ ((ck + c1619) + c1624) ((sk + s1619) + s1624) _
  refine ls_pop (p := 1628) (by decide +kernel) ?_
  refine ls_goto (p := 1656) (by decide +kernel) ?_
  exact hN _ _ c h _ _ _ _ _ _ ⟨⟨hH, hci, k_th, k_am, k_out, h3, k_rd, hl, hm, hc⟩, ⟨hh1, hp, hg⟩, hrc, hrm, hbc, hbi, hyw, _, htC, htM, htb⟩ (by omega) (by omega)
set_option maxHeartbeats 2000000 in
theorem lw_c38 (hI : lw_I K G th am out rd s0 s1 aw ai tp ba na tm c h cn im) (hi : i + 6 ≤ n) (hn : n ≤ 3072) (hN : ∀ (K' : et_K) (G' : eg_G) (c' h' : Nat) (cn' im' : Nat → Nat) (ck' sk' : Nat) (y5 y6 : Option Value), lw_I K' G' th am out rd s0 s1 aw ai tp ba na tm c' h' cn' im' → ck' ≤ ck + 841 → sk' ≤ sk + 7168 → et_go (some (n, f)) (d + 41) 1000 1656 [some (.ref 150), some (.ref th), some (.ref am), some (.ref out), some (.int (Int32.ofNat i)), y5, y6] [] G' ck' sk' Z) : et_go (some (n, f)) (d + 41) 1000 1631 [some (.ref 150), some (.ref th), some (.ref am), some (.ref out), some (.int (Int32.ofNat i)), x5, x6] [] G ck sk Z := by
  obtain ⟨⟨hH, hci, k_th, k_am, k_out, h3, k_rd, hl, hm, hc⟩, ⟨hh1, hp, hg⟩, hrc, hrm, hbc, hbi, hyw, tb, htC, htM, htb⟩ := hI
  refine ls_aload (i := 1) (p := 1632) (by decide +kernel) rfl ?_
  refine ls_arg (j := 1) (by decide +kernel) (by omega) hn ?_
  refine lt_callv (T := et_TT) (t := 12) (mi := 126) (na := 1) (ci := 10) (lk := 7) (lm := 4) (L0 := eg_en (eg_mL 126) [.ref th, .int (f (i + 1))]) (by decide +kernel) rfl hH k_th rfl rfl rfl rfl rfl (by rw [show eg_mL 126 = 4 from by decide +kernel]; first | done | rfl) ?_
  refine (hc_countI hH hci (by omega)).mono (fun u hu => ls_cbr hu (fun v1638 K1638 G1638 c1638 s1638 x1638 f1638 hH hci hP cl1638 sl1638 => ?_))
  have hyw := hyw.fr k_th hrc.1.1 hrc.1.2.1 hrm.1.1 hrm.1.2 x1638 f1638 (by decide +kernel)
  have h3 := (f1638.2 th 12 k_th 3 rfl).trans h3
  have hl := (f1638.2 rd 7 k_rd 1 rfl).trans hl
  have hm := (f1638.2 am 13 k_am 5 rfl).trans hm
  have hp := (f1638.2 th 12 k_th 2 rfl).trans hp
  have hg := (f1638.2 am 13 k_am 3 rfl).trans hg
  have htC := htC.fr k_rd x1638 f1638 (by decide +kernel)
  have htM := htM.fr k_am x1638 f1638 (by decide +kernel)
  have hrc := hrc.fr k_th x1638 f1638 (by decide +kernel)
  have hrm := hrm.fr k_am x1638 f1638 (by decide +kernel)
  have k_th := x1638 _ _ k_th
  have k_am := x1638 _ _ k_am
  have k_out := x1638 _ _ k_out
  have k_rd := x1638 _ _ k_rd
  show et_go _ _ 1000 1641 [some (.ref 150), some (.ref th), some (.ref am), some (.ref out), some (.int (Int32.ofNat i)), x5, x6] [.int v1638] _ (ck + c1638) (sk + s1638) _
  refine ls_pop (p := 1642) (by decide +kernel) ?_
  refine ls_aload (i := 2) (p := 1643) (by decide +kernel) rfl ?_
  refine ls_arg (j := 1) (by decide +kernel) (by omega) hn ?_
  refine lt_callv (T := et_TT) (t := 13) (mi := 293) (na := 1) (ci := 11) (lk := 7) (lm := 4) (L0 := eg_en (eg_mL 293) [.ref am, .int (f (i + 1))]) (by decide +kernel) rfl hH k_am rfl rfl rfl rfl rfl (by rw [show eg_mL 293 = 4 from by decide +kernel]; first | done | rfl) ?_
  refine (er_p293_ok (K1638, [], G1638) [.ref am, .int (f (i + 1))] _ hH (by omega) rfl (ht_ac (.inr ⟨by decide, _, rfl, k_am⟩) (ht_ac hi_any ht_an))).mono (fun u hu => ls_cbv hu (fun v1649 K1649 G1649 c1649 s1649 x1649 f1649 hH hv1649 cl1649 sl1649 => ?_))
  have hyw := hyw.fr k_th hrc.1.1 hrc.1.2.1 hrm.1.1 hrm.1.2 x1649 f1649 (by decide +kernel)
  have hci := hci.fr x1649 f1649 (by decide +kernel)
  have h3 := (f1649.2 th 12 k_th 3 rfl).trans h3
  have hl := (f1649.2 rd 7 k_rd 1 rfl).trans hl
  have hm := (f1649.2 am 13 k_am 5 rfl).trans hm
  have hp := (f1649.2 th 12 k_th 2 rfl).trans hp
  have hg := (f1649.2 am 13 k_am 3 rfl).trans hg
  have htC := htC.fr k_rd x1649 f1649 (by decide +kernel)
  have htM := htM.fr k_am x1649 f1649 (by decide +kernel)
  have hrc := hrc.fr k_th x1649 f1649 (by decide +kernel)
  have hrm := hrm.fr k_am x1649 f1649 (by decide +kernel)
  have k_th := x1649 _ _ k_th
  have k_am := x1649 _ _ k_am
  have k_out := x1649 _ _ k_out
  have k_rd := x1649 _ _ k_rd
  obtain ⟨v1649, rfl, -⟩ := hv1649
  show et_go _ _ 1000 1652 [some (.ref 150), some (.ref th), some (.ref am), some (.ref out), some (.int (Int32.ofNat i)), x5, x6] [.int v1649] _ ((ck + c1638) + c1649) ((sk + s1638) + s1649) _
  refine ls_pop (p := 1653) (by decide +kernel) ?_
  refine ls_goto (p := 1656) (by decide +kernel) ?_
  exact hN _ _ c h _ _ _ _ _ _ ⟨⟨hH, hci, k_th, k_am, k_out, h3, k_rd, hl, hm, hc⟩, ⟨hh1, hp, hg⟩, hrc, hrm, hbc, hbi, hyw, _, htC, htM, htb⟩ (by omega) (by omega)
end LWA
