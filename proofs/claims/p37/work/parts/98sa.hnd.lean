/-! THE LAW'S CASES, both sides -/
def lw_ks : List (Nat × Nat) := [(0, 0), (7, 1), (9, 2), (2, 3), (5, 4)]
def lw_I (K : et_K) (G : eg_G) (th am out rd s0 s1 aw ai tp ba na tm c h : Nat) (cn im : Nat → Nat) : Prop := (et_H et_TT K G ∧ ci K G th ∧ K th = some 12 ∧ K am = some 13 ∧ K out = some 31 ∧ et_pl (eg_at G th) 3 = some (.ref rd) ∧ K rd = some 7 ∧ pl_at G rd c ∧ pm_at G am c ∧ c ≤ 400) ∧ (h ≤ 1 ∧ ph_at G th h ∧ pg_at G am h) ∧ rc lw_ks K G th s0 s1 cn im ∧ rm lw_ks K G am aw ai cn im ∧ (∀ k, cn k ≤ 400) ∧ (∀ k, im k ≤ 400) ∧ (ry K G th s0 s1 aw ai (cn 0) (im 0) ∧ cy K G s0 s1 aw ai (cn 3) (im 3) ∧ ty K G s0 s1 aw ai (cn 1) (im 1) ∧ zy K G th s0 s1 aw ai (cn 4) (im 4) ∧ kyA G am aw (cn 0) ∧ cq K G s0 s1 aw ai (cn 2) (im 2) (cn 4) (cn 0) (im 4) (im 0)) ∧ ∃ tb : Nat → Nat, tC K G rd tp ba na c tb ∧ tM K G am tm c tb ∧ ∀ i, i < c → tb i < 256
theorem lw_kl : ∀ q ∈ lw_ks, q.2 < 11900 := by decide
theorem ff_le {c : Nat} (h : c ≤ 400) : ff c ≤ 400 := by
  unfold ff
  split <;> omega
def ls_ab (pc j : Nat) : Bool := decide (hs_al 1000 pc = some (0, pc + 1)) && (decide (hs_il 1000 (pc + 1) = some (4, pc + 3)) && (decide (hs_kc 1000 (pc + 3) = some (Int32.ofNat j, pc + 4)) && (decide (hs_o 1000 (pc + 4) = some (.iadd, pc + 5)) && decide (hs_o 1000 (pc + 5) = some (.iaload, pc + 6)))))
section LWA
variable {n : Nat} {f : Nat → Int32} {d pc p ck sk i j th am out rd s0 s1 aw ai tp ba na tm c h : Nat} {cn im : Nat → Nat} {x5 x6 x1 x2 x3 : Option Value} {st : List Value} {K : et_K} {G : eg_G} {Z : eg_O → Prop}
theorem ls_arg (hc : ls_ab pc j = true) (hi : i + j < n) (hn : n ≤ 3072) (h : et_go (some (n, f)) d 1000 (pc + 6) [some (.ref 150), x1, x2, x3, some (.int (Int32.ofNat i)), x5, x6] (.int (f (i + j)) :: st) G ck sk Z) : et_go (some (n, f)) d 1000 pc [some (.ref 150), x1, x2, x3, some (.int (Int32.ofNat i)), x5, x6] st G ck sk Z := by
  unfold ls_ab at hc
  rw [Bool.and_eq_true, Bool.and_eq_true, Bool.and_eq_true, Bool.and_eq_true] at hc
  obtain ⟨h1, h2, h3, h4, h5⟩ := hc
  refine ls_aload (of_decide_eq_true h1) rfl ?_
  refine ls_iload (of_decide_eq_true h2) rfl ?_
  refine ls_k (of_decide_eq_true h3) ?_
  refine ls_iaddn (of_decide_eq_true h4) ?_
  exact ls_scr (of_decide_eq_true h5) hi hn h
def ls_bb (pc : Nat) : Bool := decide (hs_if 1000 pc = some (.eq, pc + 7, pc + 3)) && (decide (hs_kc 1000 (pc + 3) = some (Int32.ofNat 1, pc + 4)) && (decide (hs_gt 1000 (pc + 4) = some (pc + 8)) && decide (hs_kc 1000 (pc + 7) = some (Int32.ofNat 0, pc + 8))))
theorem ls_bool {sc : eg_Sc} {L : eg_Ls} {x : Int32} (hc : ls_bb pc = true) (h : ∀ b : Nat, b ≤ 1 → b = (if x = 0 then 0 else 1) → et_go sc d 1000 (pc + 8) L (.int (Int32.ofNat b) :: st) G ck sk Z) : et_go sc d 1000 pc L (.int x :: st) G ck sk Z := by
  unfold ls_bb at hc
  rw [Bool.and_eq_true, Bool.and_eq_true, Bool.and_eq_true] at hc
  obtain ⟨h1, h2, h3, h4⟩ := hc
  refine ls_br1 (of_decide_eq_true h1) (fun (hx : x = 0) => ?_) (fun (hx : ¬ x = 0) => ?_)
  · exact ls_k (of_decide_eq_true h4) (h 0 (by decide) (by rw [if_pos hx]))
  · refine ls_k (of_decide_eq_true h2) ?_
    exact ls_goto (of_decide_eq_true h3) (h 1 (by decide) (by rw [if_neg hx]))
theorem ls_cbvQ2 {sc : eg_Sc} {d k pc ck sk c s : Nat} {L : eg_Ls} {r : List Value} {Z Q1 Q2 : eg_O → Prop} {T : List et_D} {w : et_Wd} {M : et_M} {u : eg_O} {q : et_P} (hu : hi_Z T w M [(.inl (some q), c, s)] u ∧ Q1 u) (hu2 : Q2 u) (h : ∀ (v : Value) (K' : et_K) (G' : eg_G) (c' s' : Nat), et_ex w.1 K' → et_fr M w.1 w.2.2 G' → et_H T K' G' → et_v K' q v → c' ≤ c → s' ≤ s → Q1 (.inl (some v), G', c', s') → Q2 (.inl (some v), G', c', s') → et_go sc d k (pc + 3) L (v :: r) G' (ck + c') (sk + s') Z) : ls_cont sc d k pc L r ck sk Z u := ls_cbvQ (Q := fun u => Q1 u ∧ Q2 u) ⟨hu.1, hu.2, hu2⟩ (fun v K' G' c' s' h1 h2 h3 h4 h5 h6 h7 => h v K' G' c' s' h1 h2 h3 h4 h5 h6 h7.1 h7.2)
def pmu (am c : Nat) (u : eg_O) : Prop := pm_at u.2.1 am c
def plu (rd c : Nat) (u : eg_O) : Prop := pl_at u.2.1 rd c
theorem fm_thrown {d2 : Nat} {x : Int32} (hH : et_H et_TT K G) (k_am : K am = some 13) (ht : et_pl (eg_at G am) 0 = some (.int x)) : et_go none d2 315 0 (eg_en (eg_mL 315) [.ref am]) [] G 0 0 (xp_Z G (some (.int x))) := by
  rw [show eg_mL 315 = 1 from by decide +kernel]
  show et_go none d2 315 0 [some (.ref am)] [] G 0 0 _
  refine hs_aload (i := 0) (p := 1) (by decide +kernel) rfl ?_
  refine hf_get (T := et_TT) (t := 13) (ci := 11) (f := 0) (p := 4) (by decide +kernel) rfl hH k_am ht ?_
  refine hs_iret (by decide +kernel) ?_
  rfl
set_option maxHeartbeats 2000000 in
theorem lw_c0 (hI : lw_I K G th am out rd s0 s1 aw ai tp ba na tm c h cn im) (hi : i + 6 ≤ n) (hn : n ≤ 3072) (hN : ∀ (K' : et_K) (G' : eg_G) (c' h' : Nat) (cn' im' : Nat → Nat) (ck' sk' : Nat) (y5 y6 : Option Value), lw_I K' G' th am out rd s0 s1 aw ai tp ba na tm c' h' cn' im' → ck' ≤ ck + 841 → sk' ≤ sk + 7168 → et_go (some (n, f)) (d + 41) 1000 1663 [some (.ref 150), some (.ref th), some (.ref am), some (.ref out), some (.int (Int32.ofNat i)), y5, y6] [] G' ck' sk' Z) : et_go (some (n, f)) (d + 41) 1000 212 [some (.ref 150), some (.ref th), some (.ref am), some (.ref out), some (.int (Int32.ofNat i)), x5, x6] [] G ck sk Z := by
  obtain ⟨⟨hH, hci, k_th, k_am, k_out, h3, k_rd, hl, hm, hc⟩, ⟨hh1, hp, hg⟩, hrc, hrm, hbc, hbi, ⟨hry, hcy, hty, hzy, hky, hcq⟩, tb, htC, htM, htb⟩ := hI
  refine ls_aload (i := 1) (p := 213) (by decide +kernel) rfl ?_
  refine ls_arg (j := 1) (by decide +kernel) (by omega) hn ?_
  refine ls_arg (j := 2) (by decide +kernel) (by omega) hn ?_
  refine ls_arg (j := 3) (by decide +kernel) (by omega) hn ?_
  refine ls_arg (j := 4) (by decide +kernel) (by omega) hn ?_
  refine ls_arg (j := 5) (by decide +kernel) (by omega) hn ?_
  refine lt_callv (T := et_TT) (t := 12) (mi := 116) (na := 5) (ci := 10) (lk := 7) (lm := 6) (L0 := eg_en (eg_mL 116) [.ref th, .int (f (i + 1)), .int (f (i + 2)), .int (f (i + 3)), .int (f (i + 4)), .int (f (i + 5))]) (by decide +kernel) rfl hH k_th rfl rfl rfl rfl rfl (by rw [show eg_mL 116 = 6 from by decide +kernel]; first | done | rfl) ?_
  have hHo := hH
  refine ((hc_feedC (w := (K, [], G)) hH k_th h3 k_rd hl hc (by omega)).and (fc_feed hH k_rd htC.2.1.1 htC.1.1 hl htC.2.2 k_th h3 hc (by omega))).mono (fun u hu => ls_cbvQ2 ⟨hu.1.1, (show plu rd (ff c) u from hu.1.2)⟩ hu.2 (fun v243 K243 G243 c243 s243 x243 f243 hH hv243 cl243 sl243 hP hQ => ?_))
  obtain ⟨_, _, eu, -, -, hQ⟩ := hQ
  cases eu
  have hcq := hcq.fr x243 hHo f243 (by decide +kernel)
  have hky := hky.fr hHo k_am hrm.1.1 f243 (by decide +kernel)
  have hzy := hzy.fr k_th hrc.1.1 hrc.1.2.1 x243 f243 (by decide +kernel)
  have hty := hty.fr x243 hHo f243 (by decide +kernel)
  have hcy := hcy.fr x243 f243 (by decide +kernel)
  have hry := hry.fr hHo x243 f243 (by decide +kernel)
  have hci := hci.fr x243 f243 (by decide +kernel)
  have h3 := (f243.2 th 12 k_th 3 rfl).trans h3
  have hl := hP
  have hm := (f243.2 am 13 k_am 5 rfl).trans hm
  have hp := (f243.2 th 12 k_th 2 rfl).trans hp
  have hg := (f243.2 am 13 k_am 3 rfl).trans hg
  have htC := htC.mk' k_rd x243 f243 (by decide +kernel) (fd_c hQ)
  have htM := htM.fr k_am x243 f243 (by decide +kernel)
  have hrc := hrc.fr k_th x243 f243 (by decide +kernel)
  have hrm := hrm.fr k_am x243 f243 (by decide +kernel)
  have k_th := x243 _ _ k_th
  have k_am := x243 _ _ k_am
  have k_out := x243 _ _ k_out
  have k_rd := x243 _ _ k_rd
  obtain ⟨v243, rfl, -⟩ := hv243
  show et_go _ _ 1000 246 [some (.ref 150), some (.ref th), some (.ref am), some (.ref out), some (.int (Int32.ofNat i)), x5, x6] [.int v243] _ ck sk _
  refine ls_pop (p := 247) (by decide +kernel) ?_
  refine ls_aload (i := 2) (p := 248) (by decide +kernel) rfl ?_
  refine ls_arg (j := 1) (by decide +kernel) (by omega) hn ?_
  refine ls_arg (j := 2) (by decide +kernel) (by omega) hn ?_
  refine ls_arg (j := 3) (by decide +kernel) (by omega) hn ?_
  refine ls_arg (j := 4) (by decide +kernel) (by omega) hn ?_
  refine ls_arg (j := 5) (by decide +kernel) (by omega) hn ?_
  refine lt_callv (T := et_TT) (t := 13) (mi := 177) (na := 5) (ci := 11) (lk := 7) (lm := 7) (L0 := eg_en (eg_mL 177) [.ref am, .int (f (i + 1)), .int (f (i + 2)), .int (f (i + 3)), .int (f (i + 4)), .int (f (i + 5))]) (by decide +kernel) rfl hH k_am rfl rfl rfl rfl rfl (by rw [show eg_mL 177 = 7 from by decide +kernel]; first | done | rfl) ?_
  have hHo := hH
  obtain ⟨fv, m11, k_fv⟩ := hf_ref (t := 13) (f := 11) (u := 14) hH k_am rfl rfl (.inr trivial)
  refine ((hc_feedM (w := (K243, [], G243)) hH k_am hm hc (by omega)).and (fm_feed hH k_am htM.2.1 htM.1 m11 k_fv hm hc htM.2.2)).mono (fun u hu => ls_cbvQ2 ⟨hu.1.1, (show pmu am (ff c) u from hu.1.2)⟩ hu.2 (fun v278 K278 G278 c278 s278 x278 f278 hH hv278 cl278 sl278 hP hQ => ?_))
  obtain ⟨_, _, eu, -, -, hQ⟩ := hQ
  cases eu
  have hcq := hcq.fr x278 hHo f278 (by decide +kernel)
  have hky := hky.fr hHo k_am hrm.1.1 f278 (by decide +kernel)
  have hzy := hzy.fr k_th hrc.1.1 hrc.1.2.1 x278 f278 (by decide +kernel)
  have hty := hty.fr x278 hHo f278 (by decide +kernel)
  have hcy := hcy.fr x278 f278 (by decide +kernel)
  have hry := hry.fr hHo x278 f278 (by decide +kernel)
  have hci := hci.fr x278 f278 (by decide +kernel)
  have h3 := (f278.2 th 12 k_th 3 rfl).trans h3
  have hl := (f278.2 rd 7 k_rd 1 rfl).trans hl
  have hm := hP
  have hp := (f278.2 th 12 k_th 2 rfl).trans hp
  have hg := (f278.2 am 13 k_am 3 rfl).trans hg
  have htC := htC.fr k_rd x278 f278 (by decide +kernel)
  have htM := htM.mk' k_am x278 f278 (by decide +kernel) (fd_m hQ)
  have hrc := hrc.fr k_th x278 f278 (by decide +kernel)
  have hrm := hrm.fr k_am x278 f278 (by decide +kernel)
  have k_th := x278 _ _ k_th
  have k_am := x278 _ _ k_am
  have k_out := x278 _ _ k_out
  have k_rd := x278 _ _ k_rd
  obtain ⟨v278, rfl, -⟩ := hv278
  show et_go _ _ 1000 281 [some (.ref 150), some (.ref th), some (.ref am), some (.ref out), some (.int (Int32.ofNat i)), x5, x6] [.int v278] _ ck sk _
  refine ls_pop (p := 282) (by decide +kernel) ?_
  refine ls_goto (p := 1663) (by decide +kernel) ?_
  exact hN _ _ (ff c) h _ _ _ _ _ _ ⟨⟨hH, hci, k_th, k_am, k_out, h3, k_rd, hl, hm, (ff_le hc)⟩, ⟨hh1, hp, hg⟩, hrc, hrm, hbc, hbi, ⟨hry, hcy, hty, hzy, hky, hcq.le (by first | exact Nat.le_refl _ | exact Nat.le_succ _) (by first | exact Nat.le_refl _ | exact Nat.le_succ _)⟩, _, htC, htM, fun i hi => tbf_lt htb hi⟩ (by omega) (by omega)
set_option maxHeartbeats 2000000 in
theorem lw_c1 (hI : lw_I K G th am out rd s0 s1 aw ai tp ba na tm c h cn im) (hi : i + 6 ≤ n) (hn : n ≤ 3072) (hN : ∀ (K' : et_K) (G' : eg_G) (c' h' : Nat) (cn' im' : Nat → Nat) (ck' sk' : Nat) (y5 y6 : Option Value), lw_I K' G' th am out rd s0 s1 aw ai tp ba na tm c' h' cn' im' → ck' ≤ ck + 841 → sk' ≤ sk + 7168 → et_go (some (n, f)) (d + 41) 1000 1663 [some (.ref 150), some (.ref th), some (.ref am), some (.ref out), some (.int (Int32.ofNat i)), y5, y6] [] G' ck' sk' Z) : et_go (some (n, f)) (d + 41) 1000 285 [some (.ref 150), some (.ref th), some (.ref am), some (.ref out), some (.int (Int32.ofNat i)), x5, x6] [] G ck sk Z := by
  obtain ⟨⟨hH, hci, k_th, k_am, k_out, h3, k_rd, hl, hm, hc⟩, ⟨hh1, hp, hg⟩, hrc, hrm, hbc, hbi, ⟨hry, hcy, hty, hzy, hky, hcq⟩, tb, htC, htM, htb⟩ := hI
  refine ls_aload (i := 1) (p := 286) (by decide +kernel) rfl ?_
  refine ls_arg (j := 1) (by decide +kernel) (by omega) hn ?_
  refine lt_callv (T := et_TT) (t := 12) (mi := 117) (na := 1) (ci := 10) (lk := 7) (lm := 2) (L0 := eg_en (eg_mL 117) [.ref th, .int (f (i + 1))]) (by decide +kernel) rfl hH k_th rfl rfl rfl rfl rfl (by rw [show eg_mL 117 = 2 from by decide +kernel]; first | done | rfl) ?_
  have hHo := hH
  refine (hc_endC (w := (K, [], G)) hH k_th h3 k_rd hl hc (by omega)).mono (fun u hu => ls_cbz hu (fun K292 G292 v292 x292 f292 hH hP => ?_))
  obtain ⟨rfl, hP⟩ := hP
  have hcq := hcq.fr x292 hHo f292 (by decide +kernel)
  have hky := hky.fr hHo k_am hrm.1.1 f292 (by decide +kernel)
  have hzy := hzy.fr k_th hrc.1.1 hrc.1.2.1 x292 f292 (by decide +kernel)
  have hty := hty.fr x292 hHo f292 (by decide +kernel)
  have hcy := hcy.fr x292 f292 (by decide +kernel)
  have hry := hry.fr hHo x292 f292 (by decide +kernel)
  have hci := hci.fr x292 f292 (by decide +kernel)
  have h3 := (f292.2 th 12 k_th 3 rfl).trans h3
  have hl := hP
  have hm := (f292.2 am 13 k_am 5 rfl).trans hm
  have hp := (f292.2 th 12 k_th 2 rfl).trans hp
  have hg := (f292.2 am 13 k_am 3 rfl).trans hg
  have htC := (htC.fr k_rd x292 f292 (by decide +kernel)).le (fe_le2 (n := f (i + 1)) hc)
  have htM := htM.fr k_am x292 f292 (by decide +kernel)
  have hrc := hrc.fr k_th x292 f292 (by decide +kernel)
  have hrm := hrm.fr k_am x292 f292 (by decide +kernel)
  have k_th := x292 _ _ k_th
  have k_am := x292 _ _ k_am
  have k_out := x292 _ _ k_out
  have k_rd := x292 _ _ k_rd
  show et_go _ _ 1000 295 [some (.ref 150), some (.ref th), some (.ref am), some (.ref out), some (.int (Int32.ofNat i)), x5, x6] [.int (Int32.ofNat (fe (f (i + 1)) c).1)] _ ck sk _
  refine ls_pop (p := 296) (by decide +kernel) ?_
  refine ls_aload (i := 2) (p := 297) (by decide +kernel) rfl ?_
  refine ls_arg (j := 1) (by decide +kernel) (by omega) hn ?_
  refine lt_callv (T := et_TT) (t := 13) (mi := 178) (na := 1) (ci := 11) (lk := 7) (lm := 2) (L0 := eg_en (eg_mL 178) [.ref am, .int (f (i + 1))]) (by decide +kernel) rfl hH k_am rfl rfl rfl rfl rfl (by rw [show eg_mL 178 = 2 from by decide +kernel]; first | done | rfl) ?_
  have hHo := hH
  refine (hc_endM (w := (K292, [], G292)) hH k_am hm hc).mono (fun u hu => ls_cbz hu (fun K303 G303 v303 x303 f303 hH hP => ?_))
  obtain ⟨rfl, hP⟩ := hP
  have hcq := hcq.fr x303 hHo f303 (by decide +kernel)
  have hky := hky.fr hHo k_am hrm.1.1 f303 (by decide +kernel)
  have hzy := hzy.fr k_th hrc.1.1 hrc.1.2.1 x303 f303 (by decide +kernel)
  have hty := hty.fr x303 hHo f303 (by decide +kernel)
  have hcy := hcy.fr x303 f303 (by decide +kernel)
  have hry := hry.fr hHo x303 f303 (by decide +kernel)
  have hci := hci.fr x303 f303 (by decide +kernel)
  have h3 := (f303.2 th 12 k_th 3 rfl).trans h3
  have hl := (f303.2 rd 7 k_rd 1 rfl).trans hl
  have hm := hP
  have hp := (f303.2 th 12 k_th 2 rfl).trans hp
  have hg := (f303.2 am 13 k_am 3 rfl).trans hg
  have htC := htC.fr k_rd x303 f303 (by decide +kernel)
  have htM := (htM.fr k_am x303 f303 (by decide +kernel)).le (fe_le2 (n := f (i + 1)) hc)
  have hrc := hrc.fr k_th x303 f303 (by decide +kernel)
  have hrm := hrm.fr k_am x303 f303 (by decide +kernel)
  have k_th := x303 _ _ k_th
  have k_am := x303 _ _ k_am
  have k_out := x303 _ _ k_out
  have k_rd := x303 _ _ k_rd
  show et_go _ _ 1000 306 [some (.ref 150), some (.ref th), some (.ref am), some (.ref out), some (.int (Int32.ofNat i)), x5, x6] [.int (Int32.ofNat (fe (f (i + 1)) c).1)] _ ck sk _
  refine ls_pop (p := 307) (by decide +kernel) ?_
  refine ls_goto (p := 1663) (by decide +kernel) ?_
  exact hN _ _ (fe (f (i + 1)) c).2 h _ _ _ _ _ _ ⟨⟨hH, hci, k_th, k_am, k_out, h3, k_rd, hl, hm, (fe_le hc).1⟩, ⟨hh1, hp, hg⟩, hrc, hrm, hbc, hbi, ⟨hry, hcy, hty, hzy, hky, hcq.le (by first | exact Nat.le_refl _ | exact Nat.le_succ _) (by first | exact Nat.le_refl _ | exact Nat.le_succ _)⟩, _, htC, htM, fun z hz => htb z (Nat.lt_of_lt_of_le hz (fe_le2 (n := f (i + 1)) hc))⟩ (by omega) (by omega)
set_option maxHeartbeats 2000000 in
theorem lw_c2 (hI : lw_I K G th am out rd s0 s1 aw ai tp ba na tm c h cn im) (hi : i + 6 ≤ n) (hn : n ≤ 3072) (hN : ∀ (K' : et_K) (G' : eg_G) (c' h' : Nat) (cn' im' : Nat → Nat) (ck' sk' : Nat) (y5 y6 : Option Value), lw_I K' G' th am out rd s0 s1 aw ai tp ba na tm c' h' cn' im' → ck' ≤ ck + 841 → sk' ≤ sk + 7168 → et_go (some (n, f)) (d + 41) 1000 1663 [some (.ref 150), some (.ref th), some (.ref am), some (.ref out), some (.int (Int32.ofNat i)), y5, y6] [] G' ck' sk' Z) : et_go (some (n, f)) (d + 41) 1000 310 [some (.ref 150), some (.ref th), some (.ref am), some (.ref out), some (.int (Int32.ofNat i)), x5, x6] [] G ck sk Z := by
  obtain ⟨⟨hH, hci, k_th, k_am, k_out, h3, k_rd, hl, hm, hc⟩, ⟨hh1, hp, hg⟩, hrc, hrm, hbc, hbi, ⟨hry, hcy, hty, hzy, hky, hcq⟩, tb, htC, htM, htb⟩ := hI
  refine ls_aload (i := 1) (p := 311) (by decide +kernel) rfl ?_
  refine ls_aload (i := 3) (p := 312) (by decide +kernel) rfl ?_
  refine ls_calls (mi := 0) (na := 2) (lk := 7) (lm := 3) (L0 := eg_en (eg_mL 0) [.ref th, .ref out]) (by decide +kernel) rfl rfl rfl rfl rfl rfl (by rw [show eg_mL 0 = 3 from by decide +kernel]; first | done | rfl) ?_
  have hHo := hH
  have hcq0 := hcq
  have b2 : cn 2 ≤ 6 := Int.ofNat_le.mp (hf_bd (t := 10) hH hrc.1.1 rfl rfl (hrc.2.2 (9, 2) (by decide)).1 (hbc 2))
  obtain ⟨t0, t1, ra0, ca0, rc0, ec0, cc0, ra1, ca1, rc1, ec1, cc1, hC⟩ := id hci
  obtain rfl : s0 = t0 := Value.ref.inj (Option.some.inj (hrc.2.1.1.symm.trans hC.2.1.1))
  obtain rfl : s1 = t1 := Value.ref.inj (Option.some.inj (hrc.2.1.2.symm.trans hC.2.1.2))
  have ee0 : ec0 = cn 4 := xi_inj (by have := hC.2.2.2.1.2.2.2.1.2.1; omega) (by have := hbc 4; omega) (hC.2.2.2.1.2.2.1.2.1.symm.trans (hrc.2.2 (5, 4) (by decide)).1)
  have ee1 : ec1 = im 4 := xi_inj (by have := hC.2.2.2.2.2.2.2.1.2.1; omega) (by have := hbi 4; omega) (hC.2.2.2.2.2.2.1.2.1.symm.trans (hrc.2.2 (5, 4) (by decide)).2)
  have b0 : cn 0 ≤ 4 := Int.ofNat_le.mp (hf_bd (t := 10) hH hrc.1.1 rfl rfl (hrc.2.2 (0, 0) (by decide)).1 (hbc 0))
  have hH0 := hH
  have k_th0 := k_th
  have k_out0 := k_out
  have k_rd0 := k_rd
  have k_am0 := k_am
  have hrc0 := hrc
  have hrm0 := hrm
  obtain ⟨ta, r4, k_ta⟩ := hf_ref (t := 7) (f := 4) (u := 41) hH k_rd rfl rfl (.inr trivial)
  have htC0 := htC
  have k_ra := hC.2.2.2.1.1.2.1
  have g1_ := hC.2.2.2.1.2.1.1
  have hry0 := hry
  have hty0 := hty
  have b1 : cn 1 ≤ 4 := Int.ofNat_le.mp (hf_bd (t := 10) hH hrc.1.1 rfl rfl (hrc.2.2 (7, 1) (by decide)).1 (hbc 1))
  refine ((hh_i0 hH hci k_th k_out h3 k_rd (by omega)).and (fh_rule (ea := 0) hH k_rd htC.2.1.1 htC.1.1 hl hc htC.2.2 htb k_ta htC.1.2.1 htC.1.2.2 htC.2.1.2.2.2 r4 htC.2.1.2.1 htC.2.1.2.2.1 k_th h3 hrc.2.1.1 hrc.1.1 (hrc.2.2 (0, 0) (by decide)).1 b0 hC.2.2.2.1.2.1.1 k_ra k_out (by omega))).mono (fun u hu => ls_cbrQ hu (fun v312 K312 G312 c312 s312 x312 f312 hH hci hP cl312 sl312 hQ => ?_))
  obtain ⟨_, _, _, _, _, eu, -, -, hxf, hQ⟩ := hQ
  cases eu
  have hky := hky.fr hHo k_am hrm.1.1 f312 (by decide +kernel)
  have hzy := hzy.fr k_th hrc.1.1 hrc.1.2.1 x312 f312 (by decide +kernel)
  have hcy := hcy.fr x312 f312 (by decide +kernel)
  have h3 := (f312.2 th 12 k_th 3 rfl).trans h3
  have hl := hP
  have hm := (f312.2 am 13 k_am 5 rfl).trans hm
  have hp := (f312.2 th 12 k_th 2 rfl).trans hp
  have hg := (f312.2 am 13 k_am 3 rfl).trans hg
  have htC := (htC.fr k_rd x312 f312 (by decide +kernel)).le (Nat.zero_le _)
  have htM := htM.fr k_am x312 f312 (by decide +kernel)
  have hrm := hrm.fr k_am x312 f312 (by decide +kernel)
  have k_th := x312 _ _ k_th
  have k_am := x312 _ _ k_am
  have k_out := x312 _ _ k_out
  have k_rd := x312 _ _ k_rd
  have k_z := hrc0.1.2.1
  have w1 : et_pl (eg_at G312 s1) 0 = some (.int (Int32.ofNat (im 0))) := (hxf.2 s1 0 (hH0.2.2 _ _ hrc0.1.2.1).1 (fun h => by rcases h with h | h | h | h | h | h | h <;> first | exact hrc0.1.2.2 h.1.symm | (have h := h.1; rw [h] at k_z; first | (rw [k_rd0] at k_z; cases k_z) | (rw [k_ta] at k_z; cases k_z) | (rw [htC0.1.2.1] at k_z; cases k_z) | (rw [htC0.1.2.2] at k_z; cases k_z) | (rw [k_ra] at k_z; cases k_z) | (rw [k_out0] at k_z; cases k_z)))).trans (hrc0.2.2 (0, 0) (by decide)).2
  have hty := hty0.xs hHo x312 hxf (fun b j t kb hs => by rcases hs with h | h | h | h | h | h | h <;> obtain ⟨h1, h2⟩ := h <;> subst h1 <;> first | (rw [k_rd0] at kb; cases kb; exact tyS.r _ (by decide) (by decide)) | (rw [k_ta] at kb; cases kb; exact tyS.r _ (by decide) (by decide)) | (rw [htC0.1.2.1] at kb; cases kb; exact tyS.r _ (by decide) (by decide)) | (rw [htC0.1.2.2] at kb; cases kb; exact tyS.r _ (by decide) (by decide)) | (rw [k_ra] at kb; cases kb; exact tyS.r _ (by decide) (by decide)) | (rw [k_out0] at kb; cases kb; exact tyS.r _ (by decide) (by decide)) | (rw [hrc0.1.1] at kb; cases kb; exact ⟨by decide, fun _ => by omega, fun h => absurd h (by decide), fun h => absurd h (by decide), fun h => absurd h (by decide)⟩))
  rcases hQ with ⟨sq, ev, q0⟩ | ⟨c4, sq, ev, q0⟩ | ⟨c4, ev, ho, q0, f_, q_, bb_, sq, qr_, -, qa_, qb_, -, -, lq_, hi_, -, qd_⟩
  · cases ev
    have hrc := hrc0.upf k_th0 x312 f312 q0 w1 (by decide +kernel)
    have hry := hry0.xs hHo x312 hxf q0 (fun b j t kb hs => by rcases hs with h | h | h | h | h | h | h <;> obtain ⟨h1, h2⟩ := h <;> subst h1 <;> first | (rw [k_rd0] at kb; cases kb; exact ryS.r _ (by decide) (by decide)) | (rw [k_ta] at kb; cases kb; exact ryS.r _ (by decide) (by decide)) | (rw [htC0.1.2.1] at kb; cases kb; exact ryS.r _ (by decide) (by decide)) | (rw [htC0.1.2.2] at kb; cases kb; exact ryS.r _ (by decide) (by decide)) | (rw [k_out0] at kb; cases kb; exact ryS.r _ (by decide) (by decide)) | (rw [hrc0.1.1] at kb; cases kb; exact ⟨by decide, fun _ => .inl ⟨rfl, h2⟩, fun h => absurd h (by decide), fun h => absurd h (by decide), fun h => absurd h (by decide)⟩) | (rw [k_ra] at kb; cases kb; exact ⟨by decide, fun h => absurd h (by decide), fun _ => ⟨g1_, by have z0_ : cn (0, 0).2 = cn 0 := rfl; have z1_ : cn (7, 1).2 = cn 1 := rfl; have z2_ : cn (9, 2).2 = cn 2 := rfl; omega⟩, fun h => absurd h (by decide), fun h => absurd h (by decide)⟩))
    have hcq := hcq0.xs hHo x312 hxf (fun b j t kb hs => by rcases hs with h | h | h | h | h | h | h <;> obtain ⟨h1, h2⟩ := h <;> subst h1 <;> first | (rw [k_rd0] at kb; cases kb; exact cqS.r _ (by decide) (by decide)) | (rw [k_ta] at kb; cases kb; exact cqS.r _ (by decide) (by decide)) | (rw [htC0.1.2.1] at kb; cases kb; exact cqS.r _ (by decide) (by decide)) | (rw [htC0.1.2.2] at kb; cases kb; exact cqS.r _ (by decide) (by decide)) | (rw [k_ra] at kb; cases kb; exact cqS.r _ (by decide) (by decide)) | (rw [k_out0] at kb; cases kb; exact cqS.r _ (by decide) (by decide)) | (rw [hrc0.1.1] at kb; cases kb; exact ⟨by decide, fun _ => by omega, fun h => absurd h (by decide), fun h => absurd h (by decide), fun h => absurd h (by decide)⟩))
    show et_go _ _ 1000 315 [some (.ref 150), some (.ref th), some (.ref am), some (.ref out), some (.int (Int32.ofNat i)), x5, x6] [.int (Int32.ofNat 1)] _ (ck + c312) (sk + s312) _
    refine ls_istore (i := 5) (p := 317) (by decide +kernel) (Nat.le_of_ble_eq_true rfl) ?_
    refine ls_aload (i := 2) (p := 318) (by decide +kernel) rfl ?_
    refine lt_callv (T := et_TT) (t := 13) (mi := 180) (na := 0) (ci := 11) (lk := 7) (lm := 2) (L0 := eg_en (eg_mL 180) [.ref am]) (by decide +kernel) rfl hH k_am rfl rfl rfl rfl rfl (by rw [show eg_mL 180 = 2 from by decide +kernel]; first | done | rfl) ?_
    have hHo := hH
    have hky0 := hky
    have hH1 := hH
    have k_am1 := k_am
    have hrm0 := hrm
    have htM0 := htM
    have hrc0 := hrc
    have hty0 := hty
    have hcq0 := hcq
    have b2 : cn 2 ≤ 6 := by first | exact Int.ofNat_le.mp (hf_bd (t := 10) hH hrc.1.1 rfl rfl (hrc.2.2 (9, 2) (by decide)).1 (hbc 2)) | omega
    obtain ⟨aj, m18, k_aj⟩ := hf_ref (t := 13) (f := 18) (u := 25) hH k_am rfl rfl (.inr trivial)
    refine ((hc_ruleT (w := (K312, [], G312)) hH k_am (by omega)).and ((fm_rule hH k_am htM.2.1 htM.1 hm hc htM.2.2 htb hrm.1.1 hrm.2.1.1 m18 (hrm.2.2 (0, 0) (by decide)).1 b0 (by omega)).and (fm_ruleI hH k_am htM.2.1 htM.1 hm hc htM.2.2 htb hrm.1.1 hrm.2.1.1 m18 (hrm.2.2 (0, 0) (by decide)).1 b0 (by omega)))).mono (fun u hu => ls_cbvQ2 (Q2 := fun u => xn_Z _ _ _ u ∧ ((∃ f, sp_one _ = some f) → (_ : Nat) < 4 → et_pl (eg_at u.2.1 aj) _ = some (.int (Int32.ofNat 0)))) ⟨hu.1.1, (show pmu am 0 u from hu.1.2)⟩ hu.2 (fun v318 K318 G318 c318 s318 x318 f318 hH hv318 cl318 sl318 hP hQ => ?_))
    obtain ⟨⟨_, _, eu, hxf, hQ⟩, hQI⟩ := hQ
    cases eu
    have hzy := hzy.fr k_th hrc.1.1 hrc.1.2.1 x318 f318 (by decide +kernel)
    have hcy := hcy.fr x318 f318 (by decide +kernel)
    have hci := hci.fr x318 f318 (by decide +kernel)
    have h3 := (f318.2 th 12 k_th 3 rfl).trans h3
    have hl := (f318.2 rd 7 k_rd 1 rfl).trans hl
    have hm := hP
    have hp := (f318.2 th 12 k_th 2 rfl).trans hp
    have hg := (f318.2 am 13 k_am 3 rfl).trans hg
    have htC := htC.fr k_rd x318 f318 (by decide +kernel)
    have htM := (htM.fr k_am x318 f318 (by decide +kernel)).le (Nat.zero_le _)
    have hrc := hrc.fr k_th x318 f318 (by decide +kernel)
    have k_th := x318 _ _ k_th
    have k_am := x318 _ _ k_am
    have k_out := x318 _ _ k_out
    have k_rd := x318 _ _ k_rd
    have hty := hty0.xs hHo x318 hxf (fun b j t kb hs => by rcases hs with ⟨ea, ej⟩ | ⟨ea, ej⟩ | ⟨ea, ej⟩ <;> subst ea <;> first | (rw [k_am1] at kb; cases kb; exact tyS.r _ (by decide) (by decide)) | (rw [hrm0.1.1] at kb; cases kb; exact ⟨by decide, fun h => absurd h (by decide), fun h => absurd h (by decide), fun _ => by have z0_ : cn (0, 0).2 = cn 0 := rfl; have z1_ : cn (7, 1).2 = cn 1 := rfl; have z2_ : cn (9, 2).2 = cn 2 := rfl; omega, fun h => absurd h (by decide)⟩) | (rw [k_aj] at kb; cases kb; exact tyS.r _ (by decide) (by decide)))
    have hcq := hcq0.xs hHo x318 hxf (fun b j t kb hs => by rcases hs with ⟨ea, ej⟩ | ⟨ea, ej⟩ | ⟨ea, ej⟩ <;> subst ea <;> first | (rw [k_am1] at kb; cases kb; exact cqS.r _ (by decide) (by decide)) | (rw [hrm0.1.1] at kb; cases kb; exact ⟨by decide, fun h => absurd h (by decide), fun h => absurd h (by decide), fun _ => by have z0_ : cn (0, 0).2 = cn 0 := rfl; have z1_ : cn (7, 1).2 = cn 1 := rfl; have z2_ : cn (9, 2).2 = cn 2 := rfl; omega, fun h => absurd h (by decide)⟩) | (rw [k_aj] at kb; cases kb; exact cqS.r _ (by decide) (by decide)))
    have hky9 := hky0.rule (v := none) hHo k_am1 hrm0.1.1 k_aj m18 hxf hQI
    rcases hQ with ⟨sq2, ev2, ht, z0⟩ | ⟨r4, sq2, ev2, ht, z0⟩ | ⟨f2, sq2, r4, ev2, ht, z0, tx_⟩
    · cases ev2
      have hrm := hrm0.up hH1 k_am1 x318 hxf (fun a j t ha hs => by rcases hs with ⟨ea, ej⟩ | ⟨ea, ej⟩ | ⟨ea, ej⟩ <;> rw [ea] at ha <;> first | (rw [k_am1] at ha; cases ha; exact ⟨fun _ => by omega, fun h => absurd h (by decide), by decide⟩) | (rw [hrm0.1.1] at ha; cases ha; exact ⟨fun h => absurd h (by decide), fun _ => by omega, by decide⟩) | (rw [k_aj] at ha; cases ha; exact ⟨fun h => absurd h (by decide), fun h => absurd h (by decide), by decide⟩)) z0 (by decide)
      have hbc := rc_upb (k := 0) (v := cn 0) hbc (by omega)
      have hky := hky9.1
      have hry := hry.xs hHo x318 hxf (hrc.2.2 (0, 0) (by decide)).1 (fun b j t kb hs => by rcases hs with ⟨ea, ej⟩ | ⟨ea, ej⟩ | ⟨ea, ej⟩ <;> subst ea <;> first | (rw [k_am1] at kb; cases kb; exact ryS.r _ (by decide) (by decide)) | (rw [hrm0.1.1] at kb; cases kb; exact ⟨by decide, fun h => absurd h (by decide), fun h => absurd h (by decide), fun _ => by have z0_ : cn (0, 0).2 = cn 0 := rfl; have z1_ : cn (7, 1).2 = cn 1 := rfl; have z2_ : cn (9, 2).2 = cn 2 := rfl; omega, fun h => absurd h (by decide)⟩) | (rw [k_aj] at kb; cases kb; exact ryS.r _ (by decide) (by decide)))
      show et_go _ _ 1000 321 [some (.ref 150), some (.ref th), some (.ref am), some (.ref out), some (.int (Int32.ofNat i)), some (.int (Int32.ofNat 1)), x6] [.int (Int32.ofNat 0)] _ (ck + c312) (sk + s312) _
      refine ls_istore (i := 6) (p := 323) (by decide +kernel) (Nat.le_of_ble_eq_true rfl) ?_
      refine ls_goto (p := 1663) (by decide +kernel) ?_
      exact hN _ _ 0 h _ _ _ _ _ _ ⟨⟨hH, hci, k_th, k_am, k_out, h3, k_rd, hl, hm, (by decide)⟩, ⟨hh1, hp, hg⟩, hrc, hrm, hbc, hbi, ⟨hry, hcy, hty, hzy, hky, hcq.le (by first | exact Nat.le_refl _ | exact Nat.le_succ _) (by first | exact Nat.le_refl _ | exact Nat.le_succ _)⟩, _, htC, htM, fun i hi => absurd hi (Nat.not_lt_zero i)⟩ (by omega) (by omega)
    · exact absurd sq sq2
    · (rw [sq] at sq2; cases sq2)
  · cases ev
    have hrc := hrc0.upf k_th0 x312 f312 q0 w1 (by decide +kernel)
    have hry := hry0.xs hHo x312 hxf q0 (fun b j t kb hs => by rcases hs with h | h | h | h | h | h | h <;> obtain ⟨h1, h2⟩ := h <;> subst h1 <;> first | (rw [k_rd0] at kb; cases kb; exact ryS.r _ (by decide) (by decide)) | (rw [k_ta] at kb; cases kb; exact ryS.r _ (by decide) (by decide)) | (rw [htC0.1.2.1] at kb; cases kb; exact ryS.r _ (by decide) (by decide)) | (rw [htC0.1.2.2] at kb; cases kb; exact ryS.r _ (by decide) (by decide)) | (rw [k_out0] at kb; cases kb; exact ryS.r _ (by decide) (by decide)) | (rw [hrc0.1.1] at kb; cases kb; exact ⟨by decide, fun _ => .inl ⟨rfl, h2⟩, fun h => absurd h (by decide), fun h => absurd h (by decide), fun h => absurd h (by decide)⟩) | (rw [k_ra] at kb; cases kb; exact ⟨by decide, fun h => absurd h (by decide), fun _ => ⟨g1_, by have z0_ : cn (0, 0).2 = cn 0 := rfl; have z1_ : cn (7, 1).2 = cn 1 := rfl; have z2_ : cn (9, 2).2 = cn 2 := rfl; omega⟩, fun h => absurd h (by decide), fun h => absurd h (by decide)⟩))
    have hcq := hcq0.xs hHo x312 hxf (fun b j t kb hs => by rcases hs with h | h | h | h | h | h | h <;> obtain ⟨h1, h2⟩ := h <;> subst h1 <;> first | (rw [k_rd0] at kb; cases kb; exact cqS.r _ (by decide) (by decide)) | (rw [k_ta] at kb; cases kb; exact cqS.r _ (by decide) (by decide)) | (rw [htC0.1.2.1] at kb; cases kb; exact cqS.r _ (by decide) (by decide)) | (rw [htC0.1.2.2] at kb; cases kb; exact cqS.r _ (by decide) (by decide)) | (rw [k_ra] at kb; cases kb; exact cqS.r _ (by decide) (by decide)) | (rw [k_out0] at kb; cases kb; exact cqS.r _ (by decide) (by decide)) | (rw [hrc0.1.1] at kb; cases kb; exact ⟨by decide, fun _ => by omega, fun h => absurd h (by decide), fun h => absurd h (by decide), fun h => absurd h (by decide)⟩))
    show et_go _ _ 1000 315 [some (.ref 150), some (.ref th), some (.ref am), some (.ref out), some (.int (Int32.ofNat i)), x5, x6] [.int (Int32.ofNat 2)] _ (ck + c312) (sk + s312) _
    refine ls_istore (i := 5) (p := 317) (by decide +kernel) (Nat.le_of_ble_eq_true rfl) ?_
    refine ls_aload (i := 2) (p := 318) (by decide +kernel) rfl ?_
    refine lt_callv (T := et_TT) (t := 13) (mi := 180) (na := 0) (ci := 11) (lk := 7) (lm := 2) (L0 := eg_en (eg_mL 180) [.ref am]) (by decide +kernel) rfl hH k_am rfl rfl rfl rfl rfl (by rw [show eg_mL 180 = 2 from by decide +kernel]; first | done | rfl) ?_
    have hHo := hH
    have hky0 := hky
    have hH1 := hH
    have k_am1 := k_am
    have hrm0 := hrm
    have htM0 := htM
    have hrc0 := hrc
    have hty0 := hty
    have hcq0 := hcq
    have b2 : cn 2 ≤ 6 := by first | exact Int.ofNat_le.mp (hf_bd (t := 10) hH hrc.1.1 rfl rfl (hrc.2.2 (9, 2) (by decide)).1 (hbc 2)) | omega
    obtain ⟨aj, m18, k_aj⟩ := hf_ref (t := 13) (f := 18) (u := 25) hH k_am rfl rfl (.inr trivial)
    refine ((hc_ruleT (w := (K312, [], G312)) hH k_am (by omega)).and ((fm_rule hH k_am htM.2.1 htM.1 hm hc htM.2.2 htb hrm.1.1 hrm.2.1.1 m18 (hrm.2.2 (0, 0) (by decide)).1 b0 (by omega)).and (fm_ruleI hH k_am htM.2.1 htM.1 hm hc htM.2.2 htb hrm.1.1 hrm.2.1.1 m18 (hrm.2.2 (0, 0) (by decide)).1 b0 (by omega)))).mono (fun u hu => ls_cbvQ2 (Q2 := fun u => xn_Z _ _ _ u ∧ ((∃ f, sp_one _ = some f) → (_ : Nat) < 4 → et_pl (eg_at u.2.1 aj) _ = some (.int (Int32.ofNat 0)))) ⟨hu.1.1, (show pmu am 0 u from hu.1.2)⟩ hu.2 (fun v318 K318 G318 c318 s318 x318 f318 hH hv318 cl318 sl318 hP hQ => ?_))
    obtain ⟨⟨_, _, eu, hxf, hQ⟩, hQI⟩ := hQ
    cases eu
    have hzy := hzy.fr k_th hrc.1.1 hrc.1.2.1 x318 f318 (by decide +kernel)
    have hcy := hcy.fr x318 f318 (by decide +kernel)
    have hci := hci.fr x318 f318 (by decide +kernel)
    have h3 := (f318.2 th 12 k_th 3 rfl).trans h3
    have hl := (f318.2 rd 7 k_rd 1 rfl).trans hl
    have hm := hP
    have hp := (f318.2 th 12 k_th 2 rfl).trans hp
    have hg := (f318.2 am 13 k_am 3 rfl).trans hg
    have htC := htC.fr k_rd x318 f318 (by decide +kernel)
    have htM := (htM.fr k_am x318 f318 (by decide +kernel)).le (Nat.zero_le _)
    have hrc := hrc.fr k_th x318 f318 (by decide +kernel)
    have k_th := x318 _ _ k_th
    have k_am := x318 _ _ k_am
    have k_out := x318 _ _ k_out
    have k_rd := x318 _ _ k_rd
    have hty := hty0.xs hHo x318 hxf (fun b j t kb hs => by rcases hs with ⟨ea, ej⟩ | ⟨ea, ej⟩ | ⟨ea, ej⟩ <;> subst ea <;> first | (rw [k_am1] at kb; cases kb; exact tyS.r _ (by decide) (by decide)) | (rw [hrm0.1.1] at kb; cases kb; exact ⟨by decide, fun h => absurd h (by decide), fun h => absurd h (by decide), fun _ => by have z0_ : cn (0, 0).2 = cn 0 := rfl; have z1_ : cn (7, 1).2 = cn 1 := rfl; have z2_ : cn (9, 2).2 = cn 2 := rfl; omega, fun h => absurd h (by decide)⟩) | (rw [k_aj] at kb; cases kb; exact tyS.r _ (by decide) (by decide)))
    have hcq := hcq0.xs hHo x318 hxf (fun b j t kb hs => by rcases hs with ⟨ea, ej⟩ | ⟨ea, ej⟩ | ⟨ea, ej⟩ <;> subst ea <;> first | (rw [k_am1] at kb; cases kb; exact cqS.r _ (by decide) (by decide)) | (rw [hrm0.1.1] at kb; cases kb; exact ⟨by decide, fun h => absurd h (by decide), fun h => absurd h (by decide), fun _ => by have z0_ : cn (0, 0).2 = cn 0 := rfl; have z1_ : cn (7, 1).2 = cn 1 := rfl; have z2_ : cn (9, 2).2 = cn 2 := rfl; omega, fun h => absurd h (by decide)⟩) | (rw [k_aj] at kb; cases kb; exact cqS.r _ (by decide) (by decide)))
    have hky9 := hky0.rule (v := none) hHo k_am1 hrm0.1.1 k_aj m18 hxf hQI
    rcases hQ with ⟨sq2, ev2, ht, z0⟩ | ⟨r4, sq2, ev2, ht, z0⟩ | ⟨f2, sq2, r4, ev2, ht, z0, tx_⟩
    · exact absurd sq2 sq
    · cases ev2
      have hrm := hrm0.up hH1 k_am1 x318 hxf (fun a j t ha hs => by rcases hs with ⟨ea, ej⟩ | ⟨ea, ej⟩ | ⟨ea, ej⟩ <;> rw [ea] at ha <;> first | (rw [k_am1] at ha; cases ha; exact ⟨fun _ => by omega, fun h => absurd h (by decide), by decide⟩) | (rw [hrm0.1.1] at ha; cases ha; exact ⟨fun h => absurd h (by decide), fun _ => by omega, by decide⟩) | (rw [k_aj] at ha; cases ha; exact ⟨fun h => absurd h (by decide), fun h => absurd h (by decide), by decide⟩)) z0 (by decide)
      have hbc := rc_upb (k := 0) (v := cn 0) hbc (by omega)
      have hky := hky9.1
      have hry := hry.xs hHo x318 hxf (hrc.2.2 (0, 0) (by decide)).1 (fun b j t kb hs => by rcases hs with ⟨ea, ej⟩ | ⟨ea, ej⟩ | ⟨ea, ej⟩ <;> subst ea <;> first | (rw [k_am1] at kb; cases kb; exact ryS.r _ (by decide) (by decide)) | (rw [hrm0.1.1] at kb; cases kb; exact ⟨by decide, fun h => absurd h (by decide), fun h => absurd h (by decide), fun _ => by have z0_ : cn (0, 0).2 = cn 0 := rfl; have z1_ : cn (7, 1).2 = cn 1 := rfl; have z2_ : cn (9, 2).2 = cn 2 := rfl; omega, fun h => absurd h (by decide)⟩) | (rw [k_aj] at kb; cases kb; exact ryS.r _ (by decide) (by decide)))
      show et_go _ _ 1000 321 [some (.ref 150), some (.ref th), some (.ref am), some (.ref out), some (.int (Int32.ofNat i)), some (.int (Int32.ofNat 2)), x6] [.int (Int32.ofNat 0)] _ (ck + c312) (sk + s312) _
      refine ls_istore (i := 6) (p := 323) (by decide +kernel) (Nat.le_of_ble_eq_true rfl) ?_
      refine ls_goto (p := 1663) (by decide +kernel) ?_
      exact hN _ _ 0 h _ _ _ _ _ _ ⟨⟨hH, hci, k_th, k_am, k_out, h3, k_rd, hl, hm, (by decide)⟩, ⟨hh1, hp, hg⟩, hrc, hrm, hbc, hbi, ⟨hry, hcy, hty, hzy, hky, hcq.le (by first | exact Nat.le_refl _ | exact Nat.le_succ _) (by first | exact Nat.le_refl _ | exact Nat.le_succ _)⟩, _, htC, htM, fun i hi => absurd hi (Nat.not_lt_zero i)⟩ (by omega) (by omega)
    · exact absurd c4 (by omega)
  · cases ev
    have hrc := hrc0.upf k_th0 x312 f312 q0 w1 (by decide +kernel)
    have hryA := hry0.ru1 (f := f_) hHo x312 hxf (fun b j t kb hs => by rcases hs with h | h | h | h | h | h | h <;> obtain ⟨h1, h2⟩ := h <;> subst h1 <;> first | (rw [k_rd0] at kb; cases kb; exact ryS.r _ (by decide) (by decide)) | (rw [k_ta] at kb; cases kb; exact ryS.r _ (by decide) (by decide)) | (rw [htC0.1.2.1] at kb; cases kb; exact ryS.r _ (by decide) (by decide)) | (rw [htC0.1.2.2] at kb; cases kb; exact ryS.r _ (by decide) (by decide)) | (rw [k_out0] at kb; cases kb; exact ryS.r _ (by decide) (by decide)) | (rw [hrc0.1.1] at kb; cases kb; exact ⟨by decide, fun _ => .inl ⟨rfl, h2⟩, fun h => absurd h (by decide), fun h => absurd h (by decide), fun h => absurd h (by decide)⟩) | (rw [k_ra] at kb; cases kb; exact ⟨by decide, fun h => absurd h (by decide), fun _ => ⟨g1_, by have z0_ : cn (0, 0).2 = cn 0 := rfl; have z1_ : cn (7, 1).2 = cn 1 := rfl; have z2_ : cn (9, 2).2 = cn 2 := rfl; omega⟩, fun h => absurd h (by decide), fun h => absurd h (by decide)⟩)) c4 g1_ (one_fcl sq) q0 qr_ (hi_el37 hH (x312 _ _ k_ra) c4 qr_) qa_ qb_ lq_ qd_
    have hcq := hcq0.xs hHo x312 hxf (fun b j t kb hs => by rcases hs with h | h | h | h | h | h | h <;> obtain ⟨h1, h2⟩ := h <;> subst h1 <;> first | (rw [k_rd0] at kb; cases kb; exact cqS.r _ (by decide) (by decide)) | (rw [k_ta] at kb; cases kb; exact cqS.r _ (by decide) (by decide)) | (rw [htC0.1.2.1] at kb; cases kb; exact cqS.r _ (by decide) (by decide)) | (rw [htC0.1.2.2] at kb; cases kb; exact cqS.r _ (by decide) (by decide)) | (rw [k_ra] at kb; cases kb; exact cqS.r _ (by decide) (by decide)) | (rw [k_out0] at kb; cases kb; exact cqS.r _ (by decide) (by decide)) | (rw [hrc0.1.1] at kb; cases kb; exact ⟨by decide, fun _ => by omega, fun h => absurd h (by decide), fun h => absurd h (by decide), fun h => absurd h (by decide)⟩))
    show et_go _ _ 1000 315 [some (.ref 150), some (.ref th), some (.ref am), some (.ref out), some (.int (Int32.ofNat i)), x5, x6] [.int (Int32.ofNat 0)] _ (ck + c312) (sk + s312) _
    refine ls_istore (i := 5) (p := 317) (by decide +kernel) (Nat.le_of_ble_eq_true rfl) ?_
    refine ls_aload (i := 2) (p := 318) (by decide +kernel) rfl ?_
    refine lt_callv (T := et_TT) (t := 13) (mi := 180) (na := 0) (ci := 11) (lk := 7) (lm := 2) (L0 := eg_en (eg_mL 180) [.ref am]) (by decide +kernel) rfl hH k_am rfl rfl rfl rfl rfl (by rw [show eg_mL 180 = 2 from by decide +kernel]; first | done | rfl) ?_
    have hHo := hH
    have hky0 := hky
    have hH1 := hH
    have k_am1 := k_am
    have hrm0 := hrm
    have htM0 := htM
    have hrc0 := hrc
    have hty0 := hty
    have hcq0 := hcq
    have b2 : cn 2 ≤ 6 := by first | exact Int.ofNat_le.mp (hf_bd (t := 10) hH hrc.1.1 rfl rfl (hrc.2.2 (9, 2) (by decide)).1 (hbc 2)) | omega
    obtain ⟨aj, m18, k_aj⟩ := hf_ref (t := 13) (f := 18) (u := 25) hH k_am rfl rfl (.inr trivial)
    refine ((hc_ruleT (w := (K312, [], G312)) hH k_am (by omega)).and ((fm_rule hH k_am htM.2.1 htM.1 hm hc htM.2.2 htb hrm.1.1 hrm.2.1.1 m18 (hrm.2.2 (0, 0) (by decide)).1 b0 (by omega)).and (fm_ruleI hH k_am htM.2.1 htM.1 hm hc htM.2.2 htb hrm.1.1 hrm.2.1.1 m18 (hrm.2.2 (0, 0) (by decide)).1 b0 (by omega)))).mono (fun u hu => ls_cbvQ2 (Q2 := fun u => xn_Z _ _ _ u ∧ ((∃ f, sp_one _ = some f) → (_ : Nat) < 4 → et_pl (eg_at u.2.1 aj) _ = some (.int (Int32.ofNat 0)))) ⟨hu.1.1, (show pmu am 0 u from hu.1.2)⟩ hu.2 (fun v318 K318 G318 c318 s318 x318 f318 hH hv318 cl318 sl318 hP hQ => ?_))
    obtain ⟨⟨_, _, eu, hxf, hQ⟩, hQI⟩ := hQ
    cases eu
    have hzy := hzy.fr k_th hrc.1.1 hrc.1.2.1 x318 f318 (by decide +kernel)
    have hcy := hcy.fr x318 f318 (by decide +kernel)
    have hci := hci.fr x318 f318 (by decide +kernel)
    have h3 := (f318.2 th 12 k_th 3 rfl).trans h3
    have hl := (f318.2 rd 7 k_rd 1 rfl).trans hl
    have hm := hP
    have hp := (f318.2 th 12 k_th 2 rfl).trans hp
    have hg := (f318.2 am 13 k_am 3 rfl).trans hg
    have htC := htC.fr k_rd x318 f318 (by decide +kernel)
    have htM := (htM.fr k_am x318 f318 (by decide +kernel)).le (Nat.zero_le _)
    have hrc := hrc.fr k_th x318 f318 (by decide +kernel)
    have ho := (f318.2 out 31 k_out 0 rfl).trans ho
    have k_th := x318 _ _ k_th
    have k_am := x318 _ _ k_am
    have k_out := x318 _ _ k_out
    have k_rd := x318 _ _ k_rd
    have hty := hty0.xs hHo x318 hxf (fun b j t kb hs => by rcases hs with ⟨ea, ej⟩ | ⟨ea, ej⟩ | ⟨ea, ej⟩ <;> subst ea <;> first | (rw [k_am1] at kb; cases kb; exact tyS.r _ (by decide) (by decide)) | (rw [hrm0.1.1] at kb; cases kb; exact ⟨by decide, fun h => absurd h (by decide), fun h => absurd h (by decide), fun _ => by have z0_ : cn (0, 0).2 = cn 0 := rfl; have z1_ : cn (7, 1).2 = cn 1 := rfl; have z2_ : cn (9, 2).2 = cn 2 := rfl; omega, fun h => absurd h (by decide)⟩) | (rw [k_aj] at kb; cases kb; exact tyS.r _ (by decide) (by decide)))
    have hcq := hcq0.xs hHo x318 hxf (fun b j t kb hs => by rcases hs with ⟨ea, ej⟩ | ⟨ea, ej⟩ | ⟨ea, ej⟩ <;> subst ea <;> first | (rw [k_am1] at kb; cases kb; exact cqS.r _ (by decide) (by decide)) | (rw [hrm0.1.1] at kb; cases kb; exact ⟨by decide, fun h => absurd h (by decide), fun h => absurd h (by decide), fun _ => by have z0_ : cn (0, 0).2 = cn 0 := rfl; have z1_ : cn (7, 1).2 = cn 1 := rfl; have z2_ : cn (9, 2).2 = cn 2 := rfl; omega, fun h => absurd h (by decide)⟩) | (rw [k_aj] at kb; cases kb; exact cqS.r _ (by decide) (by decide)))
    have hky9 := hky0.rule (v := none) hHo k_am1 hrm0.1.1 k_aj m18 hxf hQI
    rcases hQ with ⟨sq2, ev2, ht, z0⟩ | ⟨r4, sq2, ev2, ht, z0⟩ | ⟨f2, sq2, r4, ev2, ht, z0, tx_⟩
    · (rw [sq2] at sq; cases sq)
    · exact absurd c4 (by omega)
    · cases ev2
      have hrm := hrm0.up hH1 k_am1 x318 hxf (fun a j t ha hs => by rcases hs with ⟨ea, ej⟩ | ⟨ea, ej⟩ | ⟨ea, ej⟩ <;> rw [ea] at ha <;> first | (rw [k_am1] at ha; cases ha; exact ⟨fun _ => by omega, fun h => absurd h (by decide), by decide⟩) | (rw [hrm0.1.1] at ha; cases ha; exact ⟨fun h => absurd h (by decide), fun _ => by omega, by decide⟩) | (rw [k_aj] at ha; cases ha; exact ⟨fun h => absurd h (by decide), fun h => absurd h (by decide), by decide⟩)) z0 (by decide)
      have hbc := rc_upb (k := 0) (v := cn 0 + 1) hbc (by omega)
      have hky := hky9.2 ⟨_, sq2⟩ r4
      obtain rfl : f_ = f2 := Option.some.inj (sq.symm.trans sq2)
      have hry := hryA.ru2 hHo x318 hxf (fun b j t kb hs => by rcases hs with ⟨ea, ej⟩ | ⟨ea, ej⟩ | ⟨ea, ej⟩ <;> subst ea <;> first | (rw [k_am1] at kb; cases kb; exact ryS.r _ (by decide) (by decide)) | (rw [hrm0.1.1] at kb; cases kb; exact ⟨by decide, fun h => absurd h (by decide), fun h => absurd h (by decide), fun _ => by have z0_ : cn (0, 0).2 = cn 0 := rfl; have z1_ : cn (7, 1).2 = cn 1 := rfl; have z2_ : cn (9, 2).2 = cn 2 := rfl; omega, fun h => absurd h (by decide)⟩) | (rw [k_aj] at kb; cases kb; exact ryS.r _ (by decide) (by decide))) (fun j hs => by rcases hs with ⟨ea, ej⟩ | ⟨ea, ej⟩ | ⟨ea, ej⟩ <;> (have k_z := hrc0.1.1; rw [ea] at k_z; first | (rw [k_am1] at k_z; cases k_z) | (rw [hrm0.1.1] at k_z; cases k_z) | (rw [k_aj] at k_z; cases k_z))) tx_ (fun b j hs k_z => by rcases hs with ⟨ea, ej⟩ | ⟨ea, ej⟩ | ⟨ea, ej⟩ <;> (rw [ea] at k_z; first | (rw [k_am1] at k_z; cases k_z) | (rw [hrm0.1.1] at k_z; cases k_z) | (rw [k_aj] at k_z; cases k_z)))
      show et_go _ _ 1000 321 [some (.ref 150), some (.ref th), some (.ref am), some (.ref out), some (.int (Int32.ofNat i)), some (.int (Int32.ofNat 0)), x6] [.int (Int32.ofNat (cn 0))] _ (ck + c312) (sk + s312) _
      refine ls_istore (i := 6) (p := 323) (by decide +kernel) (Nat.le_of_ble_eq_true rfl) ?_
      refine ls_goto (p := 1663) (by decide +kernel) ?_
      exact hN _ _ 0 h _ _ _ _ _ _ ⟨⟨hH, hci, k_th, k_am, k_out, h3, k_rd, hl, hm, (by decide)⟩, ⟨hh1, hp, hg⟩, hrc, hrm, hbc, hbi, ⟨hry, hcy, hty, hzy, hky, hcq.le (by first | exact Nat.le_refl _ | exact Nat.le_succ _) (by first | exact Nat.le_refl _ | exact Nat.le_succ _)⟩, _, htC, htM, fun i hi => absurd hi (Nat.not_lt_zero i)⟩ (by omega) (by omega)
set_option maxHeartbeats 2000000 in
theorem lw_c3 (hI : lw_I K G th am out rd s0 s1 aw ai tp ba na tm c h cn im) (hi : i + 6 ≤ n) (hn : n ≤ 3072) (hN : ∀ (K' : et_K) (G' : eg_G) (c' h' : Nat) (cn' im' : Nat → Nat) (ck' sk' : Nat) (y5 y6 : Option Value), lw_I K' G' th am out rd s0 s1 aw ai tp ba na tm c' h' cn' im' → ck' ≤ ck + 841 → sk' ≤ sk + 7168 → et_go (some (n, f)) (d + 41) 1000 1663 [some (.ref 150), some (.ref th), some (.ref am), some (.ref out), some (.int (Int32.ofNat i)), y5, y6] [] G' ck' sk' Z) : et_go (some (n, f)) (d + 41) 1000 326 [some (.ref 150), some (.ref th), some (.ref am), some (.ref out), some (.int (Int32.ofNat i)), x5, x6] [] G ck sk Z := by
  obtain ⟨⟨hH, hci, k_th, k_am, k_out, h3, k_rd, hl, hm, hc⟩, ⟨hh1, hp, hg⟩, hrc, hrm, hbc, hbi, ⟨hry, hcy, hty, hzy, hky, hcq⟩, tb, htC, htM, htb⟩ := hI
  refine ls_aload (i := 1) (p := 327) (by decide +kernel) rfl ?_
  refine ls_aload (i := 3) (p := 328) (by decide +kernel) rfl ?_
  refine ls_calls (mi := 1) (na := 2) (lk := 7) (lm := 3) (L0 := eg_en (eg_mL 1) [.ref th, .ref out]) (by decide +kernel) rfl rfl rfl rfl rfl rfl (by rw [show eg_mL 1 = 3 from by decide +kernel]; first | done | rfl) ?_
  have hHo := hH
  have hcq0 := hcq
  have b2 : cn 2 ≤ 6 := Int.ofNat_le.mp (hf_bd (t := 10) hH hrc.1.1 rfl rfl (hrc.2.2 (9, 2) (by decide)).1 (hbc 2))
  have hty0 := hty
  have hry0 := hry
  obtain ⟨t0, t1, ra0, ca0, rc0, ec0, cc0, ra1, ca1, rc1, ec1, cc1, hC⟩ := id hci
  obtain rfl : s0 = t0 := Value.ref.inj (Option.some.inj (hrc.2.1.1.symm.trans hC.2.1.1))
  obtain rfl : s1 = t1 := Value.ref.inj (Option.some.inj (hrc.2.1.2.symm.trans hC.2.1.2))
  have ee0 : ec0 = cn 4 := xi_inj (by have := hC.2.2.2.1.2.2.2.1.2.1; omega) (by have := hbc 4; omega) (hC.2.2.2.1.2.2.1.2.1.symm.trans (hrc.2.2 (5, 4) (by decide)).1)
  have ee1 : ec1 = im 4 := xi_inj (by have := hC.2.2.2.2.2.2.2.1.2.1; omega) (by have := hbi 4; omega) (hC.2.2.2.2.2.2.1.2.1.symm.trans (hrc.2.2 (5, 4) (by decide)).2)
  have b1 : cn 1 ≤ 4 := Int.ofNat_le.mp (hf_bd (t := 10) hH hrc.1.1 rfl rfl (hrc.2.2 (7, 1) (by decide)).1 (hbc 1))
  have hH0 := hH
  have k_th0 := k_th
  have k_out0 := k_out
  have k_rd0 := k_rd
  have k_am0 := k_am
  have hrc0 := hrc
  have hrm0 := hrm
  obtain ⟨ta, r4, k_ta⟩ := hf_ref (t := 7) (f := 4) (u := 41) hH k_rd rfl rfl (.inr trivial)
  obtain ⟨tu, g8, k_ra⟩ := hf_ref (t := 10) (f := 8) (u := 38) hH hrc.1.1 rfl rfl (.inr trivial)
  have htC0 := htC
  refine ((hh_i1 hH hci k_th k_out h3 k_rd (by omega)).and (fh_turner hH k_rd htC.2.1.1 htC.1.1 hl hc htC.2.2 htb k_ta htC.1.2.1 htC.1.2.2 htC.2.1.2.2.2 r4 htC.2.1.2.1 htC.2.1.2.2.1 k_th h3 hrc.2.1.1 hrc.1.1 (hrc.2.2 (7, 1) (by decide)).1 b1 g8 k_ra k_out (by omega))).mono (fun u hu => ls_cbrQ hu (fun v328 K328 G328 c328 s328 x328 f328 hH hci hP cl328 sl328 hQ => ?_))
  obtain ⟨_, _, _, _, _, eu, -, -, hxf, hQ⟩ := hQ
  cases eu
  have hky := hky.fr hHo k_am hrm.1.1 f328 (by decide +kernel)
  have hzy := hzy.fr k_th hrc.1.1 hrc.1.2.1 x328 f328 (by decide +kernel)
  have hcy := hcy.fr x328 f328 (by decide +kernel)
  have h3 := (f328.2 th 12 k_th 3 rfl).trans h3
  have hl := hP
  have hm := (f328.2 am 13 k_am 5 rfl).trans hm
  have hp := (f328.2 th 12 k_th 2 rfl).trans hp
  have hg := (f328.2 am 13 k_am 3 rfl).trans hg
  have htC := (htC.fr k_rd x328 f328 (by decide +kernel)).le (Nat.zero_le _)
  have htM := htM.fr k_am x328 f328 (by decide +kernel)
  have hrm := hrm.fr k_am x328 f328 (by decide +kernel)
  have k_th := x328 _ _ k_th
  have k_am := x328 _ _ k_am
  have k_out := x328 _ _ k_out
  have k_rd := x328 _ _ k_rd
  have hry := hry0.xs hHo x328 hxf ((f328.2 s0 10 hrc0.1.1 0 rfl).trans (hrc0.2.2 (0, 0) (by decide)).1) (fun b j t kb hs => by rcases hs with h | h | h | h | h | h | h <;> obtain ⟨h1, h2⟩ := h <;> subst h1 <;> first | (rw [k_rd0] at kb; cases kb; exact ryS.r _ (by decide) (by decide)) | (rw [k_ta] at kb; cases kb; exact ryS.r _ (by decide) (by decide)) | (rw [htC0.1.2.1] at kb; cases kb; exact ryS.r _ (by decide) (by decide)) | (rw [htC0.1.2.2] at kb; cases kb; exact ryS.r _ (by decide) (by decide)) | (rw [k_ra] at kb; cases kb; exact ryS.r _ (by decide) (by decide)) | (rw [k_out0] at kb; cases kb; exact ryS.r _ (by decide) (by decide)) | (rw [hrc0.1.1] at kb; cases kb; exact ⟨by decide, fun _ => .inr (by have z0_ : cn (0, 0).2 = cn 0 := rfl; have z1_ : cn (7, 1).2 = cn 1 := rfl; have z2_ : cn (9, 2).2 = cn 2 := rfl; omega), fun h => absurd h (by decide), fun h => absurd h (by decide), fun h => absurd h (by decide)⟩))
  have k_z := hrc0.1.2.1
  have w1 : et_pl (eg_at G328 s1) 7 = some (.int (Int32.ofNat (im 1))) := (hxf.2 s1 7 (hH0.2.2 _ _ hrc0.1.2.1).1 (fun h => by rcases h with h | h | h | h | h | h | h <;> first | exact hrc0.1.2.2 h.1.symm | (have h := h.1; rw [h] at k_z; first | (rw [k_rd0] at k_z; cases k_z) | (rw [k_ta] at k_z; cases k_z) | (rw [htC0.1.2.1] at k_z; cases k_z) | (rw [htC0.1.2.2] at k_z; cases k_z) | (rw [k_ra] at k_z; cases k_z) | (rw [k_out0] at k_z; cases k_z)))).trans (hrc0.2.2 (7, 1) (by decide)).2
  rcases hQ with ⟨sq, ev, q0⟩ | ⟨c4, sq, ev, q0⟩ | ⟨c4, ev, ho, q0, ls_, tn_, A_, B_, C_, mid_, hi_, sq, qr_, -, -, -, -, -, qp_, -, -, -, -, qT_⟩
  · cases ev
    have hrc := hrc0.upf k_th0 x328 f328 q0 w1 (by decide +kernel)
    have hty := hty0.xs hHo x328 hxf (fun b j t kb hs => by rcases hs with h | h | h | h | h | h | h <;> obtain ⟨h1, h2⟩ := h <;> subst h1 <;> first | (rw [k_rd0] at kb; cases kb; exact tyS.r _ (by decide) (by decide)) | (rw [k_ta] at kb; cases kb; exact tyS.r _ (by decide) (by decide)) | (rw [htC0.1.2.1] at kb; cases kb; exact tyS.r _ (by decide) (by decide)) | (rw [htC0.1.2.2] at kb; cases kb; exact tyS.r _ (by decide) (by decide)) | (rw [k_out0] at kb; cases kb; exact tyS.r _ (by decide) (by decide)) | (rw [hrc0.1.1] at kb; cases kb; exact ⟨by decide, fun _ => by omega, fun h => absurd h (by decide), fun h => absurd h (by decide), fun h => absurd h (by decide)⟩) | (rw [k_ra] at kb; cases kb; exact ⟨by decide, fun h => absurd h (by decide), fun _ => ⟨g8, by have z1_ : cn (7, 1).2 = cn 1 := rfl; omega⟩, fun h => absurd h (by decide), fun h => absurd h (by decide)⟩))
    have hcq := hcq0.xs hHo x328 hxf (fun b j t kb hs => by rcases hs with h | h | h | h | h | h | h <;> obtain ⟨h1, h2⟩ := h <;> subst h1 <;> first | (rw [k_rd0] at kb; cases kb; exact cqS.r _ (by decide) (by decide)) | (rw [k_ta] at kb; cases kb; exact cqS.r _ (by decide) (by decide)) | (rw [htC0.1.2.1] at kb; cases kb; exact cqS.r _ (by decide) (by decide)) | (rw [htC0.1.2.2] at kb; cases kb; exact cqS.r _ (by decide) (by decide)) | (rw [k_ra] at kb; cases kb; exact cqS.r _ (by decide) (by decide)) | (rw [k_out0] at kb; cases kb; exact cqS.r _ (by decide) (by decide)) | (rw [hrc0.1.1] at kb; cases kb; exact ⟨by decide, fun _ => by omega, fun h => absurd h (by decide), fun h => absurd h (by decide), fun h => absurd h (by decide)⟩))
    show et_go _ _ 1000 331 [some (.ref 150), some (.ref th), some (.ref am), some (.ref out), some (.int (Int32.ofNat i)), x5, x6] [.int (Int32.ofNat 1)] _ (ck + c328) (sk + s328) _
    refine ls_istore (i := 5) (p := 333) (by decide +kernel) (Nat.le_of_ble_eq_true rfl) ?_
    refine ls_aload (i := 2) (p := 334) (by decide +kernel) rfl ?_
    refine lt_callv (T := et_TT) (t := 13) (mi := 206) (na := 0) (ci := 11) (lk := 7) (lm := 1) (L0 := eg_en (eg_mL 206) [.ref am]) (by decide +kernel) rfl hH k_am rfl rfl rfl rfl rfl (by rw [show eg_mL 206 = 1 from by decide +kernel]; first | done | rfl) ?_
    have hHo := hH
    have b0 : cn 0 ≤ 4 := Int.ofNat_le.mp (hf_bd (t := 10) hH hrc.1.1 rfl rfl (hrc.2.2 (0, 0) (by decide)).1 (hbc 0))
    have hky0 := hky
    have hH1 := hH
    have k_am1 := k_am
    have hrm0 := hrm
    have htM0 := htM
    have hrc0 := hrc
    have hty0 := hty
    have hcq0 := hcq
    have b2 : cn 2 ≤ 6 := by first | exact Int.ofNat_le.mp (hf_bd (t := 10) hH hrc.1.1 rfl rfl (hrc.2.2 (9, 2) (by decide)).1 (hbc 2)) | omega
    refine ((hc_turnerT (w := (K328, [], G328)) hH k_am (by omega)).and (fm_turnerG hH k_am htM.2.1 htM.1 hm hc htM.2.2 htb hrm.1.1 hrm.2.1.1 (hrm.2.2 (7, 1) (by decide)).1 b1 (by omega))).mono (fun u hu => ls_cbvQ2 ⟨hu.1.1, (show pmu am 0 u from hu.1.2)⟩ hu.2 (fun v334 K334 G334 c334 s334 x334 f334 hH hv334 cl334 sl334 hP hQ => ?_))
    obtain ⟨_, _, eu, hxf, hQ⟩ := hQ
    cases eu
    have hry0 := hry
    have hzy := hzy.fr k_th hrc.1.1 hrc.1.2.1 x334 f334 (by decide +kernel)
    have hcy := hcy.fr x334 f334 (by decide +kernel)
    have hci := hci.fr x334 f334 (by decide +kernel)
    have h3 := (f334.2 th 12 k_th 3 rfl).trans h3
    have hl := (f334.2 rd 7 k_rd 1 rfl).trans hl
    have hm := hP
    have hp := (f334.2 th 12 k_th 2 rfl).trans hp
    have hg := (f334.2 am 13 k_am 3 rfl).trans hg
    have htC := htC.fr k_rd x334 f334 (by decide +kernel)
    have htM := (htM.fr k_am x334 f334 (by decide +kernel)).le (Nat.zero_le _)
    have hrc := hrc.fr k_th x334 f334 (by decide +kernel)
    have k_th := x334 _ _ k_th
    have k_am := x334 _ _ k_am
    have k_out := x334 _ _ k_out
    have k_rd := x334 _ _ k_rd
    have hry := hry0.xs hHo x334 hxf (hrc.2.2 (0, 0) (by decide)).1 (fun b j t kb hs => by rcases hs with ⟨ea, ej⟩ | ⟨ea, ej⟩ <;> subst ea <;> first | (rw [k_am1] at kb; cases kb; exact ryS.r _ (by decide) (by decide)) | (rw [hrm0.1.1] at kb; cases kb; exact ⟨by decide, fun h => absurd h (by decide), fun h => absurd h (by decide), fun _ => by have z0_ : cn (0, 0).2 = cn 0 := rfl; have z1_ : cn (7, 1).2 = cn 1 := rfl; have z2_ : cn (9, 2).2 = cn 2 := rfl; omega, fun h => absurd h (by decide)⟩))
    have hcq := hcq0.xs hHo x334 hxf (fun b j t kb hs => by rcases hs with ⟨ea, ej⟩ | ⟨ea, ej⟩ <;> subst ea <;> first | (rw [k_am1] at kb; cases kb; exact cqS.r _ (by decide) (by decide)) | (rw [hrm0.1.1] at kb; cases kb; exact ⟨by decide, fun h => absurd h (by decide), fun h => absurd h (by decide), fun _ => by have z0_ : cn (0, 0).2 = cn 0 := rfl; have z1_ : cn (7, 1).2 = cn 1 := rfl; have z2_ : cn (9, 2).2 = cn 2 := rfl; omega, fun h => absurd h (by decide)⟩))
    have hky := hky0.xt hHo k_am1 hrm0.1.1 hxf (fun b j hs => by rcases hs with ⟨ea, ej⟩ | ⟨ea, ej⟩; exact .inl ⟨ea, by omega⟩; exact .inr ⟨ea, by have z1_ : cn (7, 1).2 = cn 1 := rfl; have z2_ : cn (9, 2).2 = cn 2 := rfl; omega⟩)
    rcases hQ with ⟨sq2, ev2, ht, z0⟩ | ⟨r4, sq2, ev2, ht, z0⟩ | ⟨f2, sq2, r4, ev2, ht, z0, tx_⟩
    · cases ev2
      have hrm := hrm0.up hH1 k_am1 x334 hxf (fun a j t ha hs => by rcases hs with ⟨ea, ej⟩ | ⟨ea, ej⟩ <;> rw [ea] at ha <;> first | (rw [k_am1] at ha; cases ha; exact ⟨fun _ => by omega, fun h => absurd h (by decide), by decide⟩) | (rw [hrm0.1.1] at ha; cases ha; exact ⟨fun h => absurd h (by decide), fun _ => by omega, by decide⟩)) z0 (by decide)
      have hbc := rc_upb (k := 1) (v := cn 1) hbc (by omega)
      have hty := hty.xs hHo x334 hxf (fun b j t kb hs => by rcases hs with ⟨ea, ej⟩ | ⟨ea, ej⟩ <;> subst ea <;> first | (rw [k_am1] at kb; cases kb; exact tyS.r _ (by decide) (by decide)) | (rw [hrm0.1.1] at kb; cases kb; exact ⟨by decide, fun h => absurd h (by decide), fun h => absurd h (by decide), fun _ => by have z0_ : cn (0, 0).2 = cn 0 := rfl; have z1_ : cn (7, 1).2 = cn 1 := rfl; have z2_ : cn (9, 2).2 = cn 2 := rfl; omega, fun h => absurd h (by decide)⟩))
      show et_go _ _ 1000 337 [some (.ref 150), some (.ref th), some (.ref am), some (.ref out), some (.int (Int32.ofNat i)), some (.int (Int32.ofNat 1)), x6] [.int (Int32.ofNat 0)] _ (ck + c328) (sk + s328) _
      refine ls_istore (i := 6) (p := 339) (by decide +kernel) (Nat.le_of_ble_eq_true rfl) ?_
      refine ls_goto (p := 1663) (by decide +kernel) ?_
      exact hN _ _ 0 h _ _ _ _ _ _ ⟨⟨hH, hci, k_th, k_am, k_out, h3, k_rd, hl, hm, (by decide)⟩, ⟨hh1, hp, hg⟩, hrc, hrm, hbc, hbi, ⟨hry, hcy, hty, hzy, hky, hcq.le (by first | exact Nat.le_refl _ | exact Nat.le_succ _) (by first | exact Nat.le_refl _ | exact Nat.le_succ _)⟩, _, htC, htM, fun i hi => absurd hi (Nat.not_lt_zero i)⟩ (by omega) (by omega)
    · exact absurd sq sq2
    · (rw [sq] at sq2; cases sq2)
  · cases ev
    have hrc := hrc0.upf k_th0 x328 f328 q0 w1 (by decide +kernel)
    have hty := hty0.xs hHo x328 hxf (fun b j t kb hs => by rcases hs with h | h | h | h | h | h | h <;> obtain ⟨h1, h2⟩ := h <;> subst h1 <;> first | (rw [k_rd0] at kb; cases kb; exact tyS.r _ (by decide) (by decide)) | (rw [k_ta] at kb; cases kb; exact tyS.r _ (by decide) (by decide)) | (rw [htC0.1.2.1] at kb; cases kb; exact tyS.r _ (by decide) (by decide)) | (rw [htC0.1.2.2] at kb; cases kb; exact tyS.r _ (by decide) (by decide)) | (rw [k_out0] at kb; cases kb; exact tyS.r _ (by decide) (by decide)) | (rw [hrc0.1.1] at kb; cases kb; exact ⟨by decide, fun _ => by omega, fun h => absurd h (by decide), fun h => absurd h (by decide), fun h => absurd h (by decide)⟩) | (rw [k_ra] at kb; cases kb; exact ⟨by decide, fun h => absurd h (by decide), fun _ => ⟨g8, by have z1_ : cn (7, 1).2 = cn 1 := rfl; omega⟩, fun h => absurd h (by decide), fun h => absurd h (by decide)⟩))
    have hcq := hcq0.xs hHo x328 hxf (fun b j t kb hs => by rcases hs with h | h | h | h | h | h | h <;> obtain ⟨h1, h2⟩ := h <;> subst h1 <;> first | (rw [k_rd0] at kb; cases kb; exact cqS.r _ (by decide) (by decide)) | (rw [k_ta] at kb; cases kb; exact cqS.r _ (by decide) (by decide)) | (rw [htC0.1.2.1] at kb; cases kb; exact cqS.r _ (by decide) (by decide)) | (rw [htC0.1.2.2] at kb; cases kb; exact cqS.r _ (by decide) (by decide)) | (rw [k_ra] at kb; cases kb; exact cqS.r _ (by decide) (by decide)) | (rw [k_out0] at kb; cases kb; exact cqS.r _ (by decide) (by decide)) | (rw [hrc0.1.1] at kb; cases kb; exact ⟨by decide, fun _ => by omega, fun h => absurd h (by decide), fun h => absurd h (by decide), fun h => absurd h (by decide)⟩))
    show et_go _ _ 1000 331 [some (.ref 150), some (.ref th), some (.ref am), some (.ref out), some (.int (Int32.ofNat i)), x5, x6] [.int (Int32.ofNat 2)] _ (ck + c328) (sk + s328) _
    refine ls_istore (i := 5) (p := 333) (by decide +kernel) (Nat.le_of_ble_eq_true rfl) ?_
    refine ls_aload (i := 2) (p := 334) (by decide +kernel) rfl ?_
    refine lt_callv (T := et_TT) (t := 13) (mi := 206) (na := 0) (ci := 11) (lk := 7) (lm := 1) (L0 := eg_en (eg_mL 206) [.ref am]) (by decide +kernel) rfl hH k_am rfl rfl rfl rfl rfl (by rw [show eg_mL 206 = 1 from by decide +kernel]; first | done | rfl) ?_
    have hHo := hH
    have b0 : cn 0 ≤ 4 := Int.ofNat_le.mp (hf_bd (t := 10) hH hrc.1.1 rfl rfl (hrc.2.2 (0, 0) (by decide)).1 (hbc 0))
    have hky0 := hky
    have hH1 := hH
    have k_am1 := k_am
    have hrm0 := hrm
    have htM0 := htM
    have hrc0 := hrc
    have hty0 := hty
    have hcq0 := hcq
    have b2 : cn 2 ≤ 6 := by first | exact Int.ofNat_le.mp (hf_bd (t := 10) hH hrc.1.1 rfl rfl (hrc.2.2 (9, 2) (by decide)).1 (hbc 2)) | omega
    refine ((hc_turnerT (w := (K328, [], G328)) hH k_am (by omega)).and (fm_turnerG hH k_am htM.2.1 htM.1 hm hc htM.2.2 htb hrm.1.1 hrm.2.1.1 (hrm.2.2 (7, 1) (by decide)).1 b1 (by omega))).mono (fun u hu => ls_cbvQ2 ⟨hu.1.1, (show pmu am 0 u from hu.1.2)⟩ hu.2 (fun v334 K334 G334 c334 s334 x334 f334 hH hv334 cl334 sl334 hP hQ => ?_))
    obtain ⟨_, _, eu, hxf, hQ⟩ := hQ
    cases eu
    have hry0 := hry
    have hzy := hzy.fr k_th hrc.1.1 hrc.1.2.1 x334 f334 (by decide +kernel)
    have hcy := hcy.fr x334 f334 (by decide +kernel)
    have hci := hci.fr x334 f334 (by decide +kernel)
    have h3 := (f334.2 th 12 k_th 3 rfl).trans h3
    have hl := (f334.2 rd 7 k_rd 1 rfl).trans hl
    have hm := hP
    have hp := (f334.2 th 12 k_th 2 rfl).trans hp
    have hg := (f334.2 am 13 k_am 3 rfl).trans hg
    have htC := htC.fr k_rd x334 f334 (by decide +kernel)
    have htM := (htM.fr k_am x334 f334 (by decide +kernel)).le (Nat.zero_le _)
    have hrc := hrc.fr k_th x334 f334 (by decide +kernel)
    have k_th := x334 _ _ k_th
    have k_am := x334 _ _ k_am
    have k_out := x334 _ _ k_out
    have k_rd := x334 _ _ k_rd
    have hry := hry0.xs hHo x334 hxf (hrc.2.2 (0, 0) (by decide)).1 (fun b j t kb hs => by rcases hs with ⟨ea, ej⟩ | ⟨ea, ej⟩ <;> subst ea <;> first | (rw [k_am1] at kb; cases kb; exact ryS.r _ (by decide) (by decide)) | (rw [hrm0.1.1] at kb; cases kb; exact ⟨by decide, fun h => absurd h (by decide), fun h => absurd h (by decide), fun _ => by have z0_ : cn (0, 0).2 = cn 0 := rfl; have z1_ : cn (7, 1).2 = cn 1 := rfl; have z2_ : cn (9, 2).2 = cn 2 := rfl; omega, fun h => absurd h (by decide)⟩))
    have hcq := hcq0.xs hHo x334 hxf (fun b j t kb hs => by rcases hs with ⟨ea, ej⟩ | ⟨ea, ej⟩ <;> subst ea <;> first | (rw [k_am1] at kb; cases kb; exact cqS.r _ (by decide) (by decide)) | (rw [hrm0.1.1] at kb; cases kb; exact ⟨by decide, fun h => absurd h (by decide), fun h => absurd h (by decide), fun _ => by have z0_ : cn (0, 0).2 = cn 0 := rfl; have z1_ : cn (7, 1).2 = cn 1 := rfl; have z2_ : cn (9, 2).2 = cn 2 := rfl; omega, fun h => absurd h (by decide)⟩))
    have hky := hky0.xt hHo k_am1 hrm0.1.1 hxf (fun b j hs => by rcases hs with ⟨ea, ej⟩ | ⟨ea, ej⟩; exact .inl ⟨ea, by omega⟩; exact .inr ⟨ea, by have z1_ : cn (7, 1).2 = cn 1 := rfl; have z2_ : cn (9, 2).2 = cn 2 := rfl; omega⟩)
    rcases hQ with ⟨sq2, ev2, ht, z0⟩ | ⟨r4, sq2, ev2, ht, z0⟩ | ⟨f2, sq2, r4, ev2, ht, z0, tx_⟩
    · exact absurd sq2 sq
    · cases ev2
      have hrm := hrm0.up hH1 k_am1 x334 hxf (fun a j t ha hs => by rcases hs with ⟨ea, ej⟩ | ⟨ea, ej⟩ <;> rw [ea] at ha <;> first | (rw [k_am1] at ha; cases ha; exact ⟨fun _ => by omega, fun h => absurd h (by decide), by decide⟩) | (rw [hrm0.1.1] at ha; cases ha; exact ⟨fun h => absurd h (by decide), fun _ => by omega, by decide⟩)) z0 (by decide)
      have hbc := rc_upb (k := 1) (v := cn 1) hbc (by omega)
      have hty := hty.xs hHo x334 hxf (fun b j t kb hs => by rcases hs with ⟨ea, ej⟩ | ⟨ea, ej⟩ <;> subst ea <;> first | (rw [k_am1] at kb; cases kb; exact tyS.r _ (by decide) (by decide)) | (rw [hrm0.1.1] at kb; cases kb; exact ⟨by decide, fun h => absurd h (by decide), fun h => absurd h (by decide), fun _ => by have z0_ : cn (0, 0).2 = cn 0 := rfl; have z1_ : cn (7, 1).2 = cn 1 := rfl; have z2_ : cn (9, 2).2 = cn 2 := rfl; omega, fun h => absurd h (by decide)⟩))
      show et_go _ _ 1000 337 [some (.ref 150), some (.ref th), some (.ref am), some (.ref out), some (.int (Int32.ofNat i)), some (.int (Int32.ofNat 2)), x6] [.int (Int32.ofNat 0)] _ (ck + c328) (sk + s328) _
      refine ls_istore (i := 6) (p := 339) (by decide +kernel) (Nat.le_of_ble_eq_true rfl) ?_
      refine ls_goto (p := 1663) (by decide +kernel) ?_
      exact hN _ _ 0 h _ _ _ _ _ _ ⟨⟨hH, hci, k_th, k_am, k_out, h3, k_rd, hl, hm, (by decide)⟩, ⟨hh1, hp, hg⟩, hrc, hrm, hbc, hbi, ⟨hry, hcy, hty, hzy, hky, hcq.le (by first | exact Nat.le_refl _ | exact Nat.le_succ _) (by first | exact Nat.le_refl _ | exact Nat.le_succ _)⟩, _, htC, htM, fun i hi => absurd hi (Nat.not_lt_zero i)⟩ (by omega) (by omega)
    · exact absurd c4 (by omega)
  · cases ev
    have hrc := hrc0.upf k_th0 x328 f328 q0 w1 (by decide +kernel)
    have htyA := hty0.tu1 (ls := ls_) hHo x328 hxf (fun b j t kb hs => by rcases hs with h | h | h | h | h | h | h <;> obtain ⟨h1, h2⟩ := h <;> subst h1 <;> first | (rw [k_rd0] at kb; cases kb; exact tyS.r _ (by decide) (by decide)) | (rw [k_ta] at kb; cases kb; exact tyS.r _ (by decide) (by decide)) | (rw [htC0.1.2.1] at kb; cases kb; exact tyS.r _ (by decide) (by decide)) | (rw [htC0.1.2.2] at kb; cases kb; exact tyS.r _ (by decide) (by decide)) | (rw [k_out0] at kb; cases kb; exact tyS.r _ (by decide) (by decide)) | (rw [hrc0.1.1] at kb; cases kb; exact ⟨by decide, fun _ => by omega, fun h => absurd h (by decide), fun h => absurd h (by decide), fun h => absurd h (by decide)⟩) | (rw [k_ra] at kb; cases kb; exact ⟨by decide, fun h => absurd h (by decide), fun _ => ⟨g8, by have z1_ : cn (7, 1).2 = cn 1 := rfl; omega⟩, fun h => absurd h (by decide), fun h => absurd h (by decide)⟩)) c4 g8 qr_ (tuC.mk hH (x328 _ _ k_ra) c4 qr_ qp_ qT_ (turner_len sq)) (turner_cl1 sq)
    have hcq := hcq0.xs hHo x328 hxf (fun b j t kb hs => by rcases hs with h | h | h | h | h | h | h <;> obtain ⟨h1, h2⟩ := h <;> subst h1 <;> first | (rw [k_rd0] at kb; cases kb; exact cqS.r _ (by decide) (by decide)) | (rw [k_ta] at kb; cases kb; exact cqS.r _ (by decide) (by decide)) | (rw [htC0.1.2.1] at kb; cases kb; exact cqS.r _ (by decide) (by decide)) | (rw [htC0.1.2.2] at kb; cases kb; exact cqS.r _ (by decide) (by decide)) | (rw [k_ra] at kb; cases kb; exact cqS.r _ (by decide) (by decide)) | (rw [k_out0] at kb; cases kb; exact cqS.r _ (by decide) (by decide)) | (rw [hrc0.1.1] at kb; cases kb; exact ⟨by decide, fun _ => by omega, fun h => absurd h (by decide), fun h => absurd h (by decide), fun h => absurd h (by decide)⟩))
    show et_go _ _ 1000 331 [some (.ref 150), some (.ref th), some (.ref am), some (.ref out), some (.int (Int32.ofNat i)), x5, x6] [.int (Int32.ofNat 0)] _ (ck + c328) (sk + s328) _
    refine ls_istore (i := 5) (p := 333) (by decide +kernel) (Nat.le_of_ble_eq_true rfl) ?_
    refine ls_aload (i := 2) (p := 334) (by decide +kernel) rfl ?_
    refine lt_callv (T := et_TT) (t := 13) (mi := 206) (na := 0) (ci := 11) (lk := 7) (lm := 1) (L0 := eg_en (eg_mL 206) [.ref am]) (by decide +kernel) rfl hH k_am rfl rfl rfl rfl rfl (by rw [show eg_mL 206 = 1 from by decide +kernel]; first | done | rfl) ?_
    have hHo := hH
    have b0 : cn 0 ≤ 4 := Int.ofNat_le.mp (hf_bd (t := 10) hH hrc.1.1 rfl rfl (hrc.2.2 (0, 0) (by decide)).1 (hbc 0))
    have hky0 := hky
    have hH1 := hH
    have k_am1 := k_am
    have hrm0 := hrm
    have htM0 := htM
    have hrc0 := hrc
    have hty0 := hty
    have hcq0 := hcq
    have b2 : cn 2 ≤ 6 := by first | exact Int.ofNat_le.mp (hf_bd (t := 10) hH hrc.1.1 rfl rfl (hrc.2.2 (9, 2) (by decide)).1 (hbc 2)) | omega
    refine ((hc_turnerT (w := (K328, [], G328)) hH k_am (by omega)).and (fm_turnerG hH k_am htM.2.1 htM.1 hm hc htM.2.2 htb hrm.1.1 hrm.2.1.1 (hrm.2.2 (7, 1) (by decide)).1 b1 (by omega))).mono (fun u hu => ls_cbvQ2 ⟨hu.1.1, (show pmu am 0 u from hu.1.2)⟩ hu.2 (fun v334 K334 G334 c334 s334 x334 f334 hH hv334 cl334 sl334 hP hQ => ?_))
    obtain ⟨_, _, eu, hxf, hQ⟩ := hQ
    cases eu
    have hry0 := hry
    have hzy := hzy.fr k_th hrc.1.1 hrc.1.2.1 x334 f334 (by decide +kernel)
    have hcy := hcy.fr x334 f334 (by decide +kernel)
    have hci := hci.fr x334 f334 (by decide +kernel)
    have h3 := (f334.2 th 12 k_th 3 rfl).trans h3
    have hl := (f334.2 rd 7 k_rd 1 rfl).trans hl
    have hm := hP
    have hp := (f334.2 th 12 k_th 2 rfl).trans hp
    have hg := (f334.2 am 13 k_am 3 rfl).trans hg
    have htC := htC.fr k_rd x334 f334 (by decide +kernel)
    have htM := (htM.fr k_am x334 f334 (by decide +kernel)).le (Nat.zero_le _)
    have hrc := hrc.fr k_th x334 f334 (by decide +kernel)
    have ho := (f334.2 out 31 k_out 0 rfl).trans ho
    have k_th := x334 _ _ k_th
    have k_am := x334 _ _ k_am
    have k_out := x334 _ _ k_out
    have k_rd := x334 _ _ k_rd
    have hry := hry0.xs hHo x334 hxf (hrc.2.2 (0, 0) (by decide)).1 (fun b j t kb hs => by rcases hs with ⟨ea, ej⟩ | ⟨ea, ej⟩ <;> subst ea <;> first | (rw [k_am1] at kb; cases kb; exact ryS.r _ (by decide) (by decide)) | (rw [hrm0.1.1] at kb; cases kb; exact ⟨by decide, fun h => absurd h (by decide), fun h => absurd h (by decide), fun _ => by have z0_ : cn (0, 0).2 = cn 0 := rfl; have z1_ : cn (7, 1).2 = cn 1 := rfl; have z2_ : cn (9, 2).2 = cn 2 := rfl; omega, fun h => absurd h (by decide)⟩))
    have hcq := hcq0.xs hHo x334 hxf (fun b j t kb hs => by rcases hs with ⟨ea, ej⟩ | ⟨ea, ej⟩ <;> subst ea <;> first | (rw [k_am1] at kb; cases kb; exact cqS.r _ (by decide) (by decide)) | (rw [hrm0.1.1] at kb; cases kb; exact ⟨by decide, fun h => absurd h (by decide), fun h => absurd h (by decide), fun _ => by have z0_ : cn (0, 0).2 = cn 0 := rfl; have z1_ : cn (7, 1).2 = cn 1 := rfl; have z2_ : cn (9, 2).2 = cn 2 := rfl; omega, fun h => absurd h (by decide)⟩))
    have hky := hky0.xt hHo k_am1 hrm0.1.1 hxf (fun b j hs => by rcases hs with ⟨ea, ej⟩ | ⟨ea, ej⟩; exact .inl ⟨ea, by omega⟩; exact .inr ⟨ea, by have z1_ : cn (7, 1).2 = cn 1 := rfl; have z2_ : cn (9, 2).2 = cn 2 := rfl; omega⟩)
    rcases hQ with ⟨sq2, ev2, ht, z0⟩ | ⟨r4, sq2, ev2, ht, z0⟩ | ⟨f2, sq2, r4, ev2, ht, z0, tx_⟩
    · (rw [sq2] at sq; cases sq)
    · exact absurd c4 (by omega)
    · cases ev2
      have hrm := hrm0.up hH1 k_am1 x334 hxf (fun a j t ha hs => by rcases hs with ⟨ea, ej⟩ | ⟨ea, ej⟩ <;> rw [ea] at ha <;> first | (rw [k_am1] at ha; cases ha; exact ⟨fun _ => by omega, fun h => absurd h (by decide), by decide⟩) | (rw [hrm0.1.1] at ha; cases ha; exact ⟨fun h => absurd h (by decide), fun _ => by omega, by decide⟩)) z0 (by decide)
      have hbc := rc_upb (k := 1) (v := cn 1 + 1) hbc (by omega)
      obtain rfl : ls_ = f2 := Option.some.inj (sq.symm.trans sq2)
      have hty := htyA.tu2 hHo x334 hxf (fun b j t kb hs => by rcases hs with ⟨ea, ej⟩ | ⟨ea, ej⟩ <;> subst ea <;> first | (rw [k_am1] at kb; cases kb; exact tyS.r _ (by decide) (by decide)) | (rw [hrm0.1.1] at kb; cases kb; exact ⟨by decide, fun h => absurd h (by decide), fun h => absurd h (by decide), fun _ => by have z0_ : cn (0, 0).2 = cn 0 := rfl; have z1_ : cn (7, 1).2 = cn 1 := rfl; have z2_ : cn (9, 2).2 = cn 2 := rfl; omega, fun h => absurd h (by decide)⟩)) (fun b j hs k_z => by rcases hs with ⟨ea, ej⟩ | ⟨ea, ej⟩ <;> (rw [ea] at k_z; first | (rw [k_am1] at k_z; cases k_z) | (rw [hrm0.1.1] at k_z; cases k_z))) tx_
      show et_go _ _ 1000 337 [some (.ref 150), some (.ref th), some (.ref am), some (.ref out), some (.int (Int32.ofNat i)), some (.int (Int32.ofNat 0)), x6] [.int (Int32.ofNat (cn 1))] _ (ck + c328) (sk + s328) _
      refine ls_istore (i := 6) (p := 339) (by decide +kernel) (Nat.le_of_ble_eq_true rfl) ?_
      refine ls_goto (p := 1663) (by decide +kernel) ?_
      exact hN _ _ 0 h _ _ _ _ _ _ ⟨⟨hH, hci, k_th, k_am, k_out, h3, k_rd, hl, hm, (by decide)⟩, ⟨hh1, hp, hg⟩, hrc, hrm, hbc, hbi, ⟨hry, hcy, hty, hzy, hky, hcq.le (by first | exact Nat.le_refl _ | exact Nat.le_succ _) (by first | exact Nat.le_refl _ | exact Nat.le_succ _)⟩, _, htC, htM, fun i hi => absurd hi (Nat.not_lt_zero i)⟩ (by omega) (by omega)
set_option maxHeartbeats 2000000 in
theorem lw_c4 (hI : lw_I K G th am out rd s0 s1 aw ai tp ba na tm c h cn im) (hi : i + 6 ≤ n) (hn : n ≤ 3072) (hN : ∀ (K' : et_K) (G' : eg_G) (c' h' : Nat) (cn' im' : Nat → Nat) (ck' sk' : Nat) (y5 y6 : Option Value), lw_I K' G' th am out rd s0 s1 aw ai tp ba na tm c' h' cn' im' → ck' ≤ ck + 841 → sk' ≤ sk + 7168 → et_go (some (n, f)) (d + 41) 1000 1663 [some (.ref 150), some (.ref th), some (.ref am), some (.ref out), some (.int (Int32.ofNat i)), y5, y6] [] G' ck' sk' Z) : et_go (some (n, f)) (d + 41) 1000 342 [some (.ref 150), some (.ref th), some (.ref am), some (.ref out), some (.int (Int32.ofNat i)), x5, x6] [] G ck sk Z := by
  obtain ⟨⟨hH, hci, k_th, k_am, k_out, h3, k_rd, hl, hm, hc⟩, ⟨hh1, hp, hg⟩, hrc, hrm, hbc, hbi, ⟨hry, hcy, hty, hzy, hky, hcq⟩, tb, htC, htM, htb⟩ := hI
  refine ls_aload (i := 1) (p := 343) (by decide +kernel) rfl ?_
  refine ls_arg (j := 1) (by decide +kernel) (by omega) hn ?_
  refine ls_arg (j := 2) (by decide +kernel) (by omega) hn ?_
  refine ls_aload (i := 3) (p := 356) (by decide +kernel) rfl ?_
  refine ls_calls (mi := 2) (na := 4) (lk := 7) (lm := 5) (L0 := eg_en (eg_mL 2) [.ref th, .int (f (i + 1)), .int (f (i + 2)), .ref out]) (by decide +kernel) rfl rfl rfl rfl rfl rfl (by rw [show eg_mL 2 = 5 from by decide +kernel]; first | done | rfl) ?_
  have hHo := hH
  have hcq0 := hcq
  have hty0 := hty
  have b1 : cn 1 ≤ 4 := Int.ofNat_le.mp (hf_bd (t := 10) hH hrc.1.1 rfl rfl (hrc.2.2 (7, 1) (by decide)).1 (hbc 1))
  have hry0 := hry
  obtain ⟨t0, t1, ra0, ca0, rc0, ec0, cc0, ra1, ca1, rc1, ec1, cc1, hC⟩ := id hci
  obtain rfl : s0 = t0 := Value.ref.inj (Option.some.inj (hrc.2.1.1.symm.trans hC.2.1.1))
  obtain rfl : s1 = t1 := Value.ref.inj (Option.some.inj (hrc.2.1.2.symm.trans hC.2.1.2))
  have ee0 : ec0 = cn 4 := xi_inj (by have := hC.2.2.2.1.2.2.2.1.2.1; omega) (by have := hbc 4; omega) (hC.2.2.2.1.2.2.1.2.1.symm.trans (hrc.2.2 (5, 4) (by decide)).1)
  have ee1 : ec1 = im 4 := xi_inj (by have := hC.2.2.2.2.2.2.2.1.2.1; omega) (by have := hbi 4; omega) (hC.2.2.2.2.2.2.1.2.1.symm.trans (hrc.2.2 (5, 4) (by decide)).2)
  have er0 : rc0 = cn 0 := xi_inj (by have := hC.2.2.2.1.2.2.2.1.1; omega) (by have := hbc 0; omega) (hC.2.2.2.1.2.2.1.1.symm.trans (hrc.2.2 (0, 0) (by decide)).1)
  have b0 : cn 0 ≤ 4 := Int.ofNat_le.mp (hf_bd (t := 10) hH hrc.1.1 rfl rfl (hrc.2.2 (0, 0) (by decide)).1 (hbc 0))
  have b2 : cn 2 ≤ 6 := Int.ofNat_le.mp (hf_bd (t := 10) hH hrc.1.1 rfl rfl (hrc.2.2 (9, 2) (by decide)).1 (hbc 2))
  have b4 : cn 4 ≤ 3 := Int.ofNat_le.mp (hf_bd (t := 10) hH hrc.1.1 rfl rfl (hrc.2.2 (5, 4) (by decide)).1 (hbc 4))
  have hH0 := hH
  have k_th0 := k_th
  have k_out0 := k_out
  have k_rd0 := k_rd
  have k_am0 := k_am
  have hrc0 := hrc
  have hrm0 := hrm
  obtain ⟨ta, r4, k_ta⟩ := hf_ref (t := 7) (f := 4) (u := 41) hH k_rd rfl rfl (.inr trivial)
  obtain ⟨ea, g6, k_ea⟩ := hf_ref (t := 10) (f := 6) (u := 40) hH hrc.1.1 rfl rfl (.inr trivial)
  have htC0 := htC
  have k_ra := hC.2.2.2.1.1.2.2
  have hru : ∀ i, i < cn 0 → ∃ q, et_pl (eg_at G ra0) i = some (.ref q) := fun i hi => hC.2.2.2.1.2.2.2.2.1 i (by rw [er0]; exact hi)
  have g10_ := hC.2.2.2.1.2.1.2
  refine ((hh_i2 hH hci k_th k_out h3 k_rd (by omega)).and (fj_hclaim hH k_rd htC.2.1.1 htC.1.1 hl hc htC.2.2 htb k_ta htC.1.2.1 htC.1.2.2 htC.2.1.2.2.2 r4 htC.2.1.2.1 htC.2.1.2.2.1 k_th h3 hrc.2.1.1 hrc.1.1 (hrc.2.2 (0, 0) (by decide)).1 b0 hC.2.2.2.1.2.1.1 hC.2.2.2.1.1.2.1 hru (hrc.2.2 (5, 4) (by decide)).1 b4 g6 k_ea (hrc.2.2 (9, 2) (by decide)).1 b2 hC.2.2.2.1.2.1.2 k_ra k_out (by omega))).mono (fun u hu => ls_cbrQ hu (fun v356 K356 G356 c356 s356 x356 f356 hH hci hP cl356 sl356 hQ => ?_))
  obtain ⟨_, _, _, _, _, eu, -, -, hxf, hQ⟩ := hQ
  cases eu
  have hky := hky.fr hHo k_am hrm.1.1 f356 (by decide +kernel)
  have hzy := hzy.fr k_th hrc.1.1 hrc.1.2.1 x356 f356 (by decide +kernel)
  have hcy := hcy.fr x356 f356 (by decide +kernel)
  have h3 := (f356.2 th 12 k_th 3 rfl).trans h3
  have hl := hP
  have hm := (f356.2 am 13 k_am 5 rfl).trans hm
  have hp := (f356.2 th 12 k_th 2 rfl).trans hp
  have hg := (f356.2 am 13 k_am 3 rfl).trans hg
  have htC := (htC.fr k_rd x356 f356 (by decide +kernel)).le (Nat.zero_le _)
  have htM := htM.fr k_am x356 f356 (by decide +kernel)
  have hrm := hrm.fr k_am x356 f356 (by decide +kernel)
  have k_th := x356 _ _ k_th
  have k_am := x356 _ _ k_am
  have k_out := x356 _ _ k_out
  have k_rd := x356 _ _ k_rd
  have hty := hty0.xs hHo x356 hxf (fun b j t kb hs => by rcases hs with h | h | h | h | h | h | h <;> obtain ⟨h1, h2⟩ := h <;> subst h1 <;> first | (rw [k_rd0] at kb; cases kb; exact tyS.r _ (by decide) (by decide)) | (rw [k_ta] at kb; cases kb; exact tyS.r _ (by decide) (by decide)) | (rw [htC0.1.2.1] at kb; cases kb; exact tyS.r _ (by decide) (by decide)) | (rw [htC0.1.2.2] at kb; cases kb; exact tyS.r _ (by decide) (by decide)) | (rw [k_ra] at kb; cases kb; exact tyS.r _ (by decide) (by decide)) | (rw [k_out0] at kb; cases kb; exact tyS.r _ (by decide) (by decide)) | (rw [hrc0.1.1] at kb; cases kb; exact ⟨by decide, fun _ => by omega, fun h => absurd h (by decide), fun h => absurd h (by decide), fun h => absurd h (by decide)⟩))
  have hry := hry0.xs hHo x356 hxf ((f356.2 s0 10 hrc0.1.1 0 rfl).trans (hrc0.2.2 (0, 0) (by decide)).1) (fun b j t kb hs => by rcases hs with h | h | h | h | h | h | h <;> obtain ⟨h1, h2⟩ := h <;> subst h1 <;> first | (rw [k_rd0] at kb; cases kb; exact ryS.r _ (by decide) (by decide)) | (rw [k_ta] at kb; cases kb; exact ryS.r _ (by decide) (by decide)) | (rw [htC0.1.2.1] at kb; cases kb; exact ryS.r _ (by decide) (by decide)) | (rw [htC0.1.2.2] at kb; cases kb; exact ryS.r _ (by decide) (by decide)) | (rw [k_ra] at kb; cases kb; exact ryS.r _ (by decide) (by decide)) | (rw [k_out0] at kb; cases kb; exact ryS.r _ (by decide) (by decide)) | (rw [hrc0.1.1] at kb; cases kb; exact ⟨by decide, fun _ => .inr (by have z0_ : cn (0, 0).2 = cn 0 := rfl; have z1_ : cn (7, 1).2 = cn 1 := rfl; have z2_ : cn (9, 2).2 = cn 2 := rfl; omega), fun h => absurd h (by decide), fun h => absurd h (by decide), fun h => absurd h (by decide)⟩))
  have k_z := hrc0.1.2.1
  have w1 : et_pl (eg_at G356 s1) 9 = some (.int (Int32.ofNat (im 2))) := (hxf.2 s1 9 (hH0.2.2 _ _ hrc0.1.2.1).1 (fun h => by rcases h with h | h | h | h | h | h | h <;> first | exact hrc0.1.2.2 h.1.symm | (have h := h.1; rw [h] at k_z; first | (rw [k_rd0] at k_z; cases k_z) | (rw [k_ta] at k_z; cases k_z) | (rw [htC0.1.2.1] at k_z; cases k_z) | (rw [htC0.1.2.2] at k_z; cases k_z) | (rw [k_ra] at k_z; cases k_z) | (rw [k_out0] at k_z; cases k_z)))).trans (hrc0.2.2 (9, 2) (by decide)).2
  rcases hQ with ⟨cx, ev, q0⟩ | ⟨cx, sq, ev, q0⟩ | ⟨cx, c4, sq, ev, q0⟩ | ⟨cx, c4, ev, ho, q0, f_, q_, bb_, sq, qr_, kq_, qa_, qb_, qc_, kb_, -, -, ⟨fl_, q3_, hfl_, hnu_⟩, hi_, -, qd_⟩
  · cases ev
    have hrc := hrc0.upf k_th0 x356 f356 q0 w1 (by decide +kernel)
    have hcq := hcq0.xs hHo x356 hxf (fun b j t kb hs => by rcases hs with h | h | h | h | h | h | h <;> obtain ⟨h1, h2⟩ := h <;> subst h1 <;> first | (rw [k_rd0] at kb; cases kb; exact cqS.r _ (by decide) (by decide)) | (rw [k_ta] at kb; cases kb; exact cqS.r _ (by decide) (by decide)) | (rw [htC0.1.2.1] at kb; cases kb; exact cqS.r _ (by decide) (by decide)) | (rw [htC0.1.2.2] at kb; cases kb; exact cqS.r _ (by decide) (by decide)) | (rw [k_out0] at kb; cases kb; exact cqS.r _ (by decide) (by decide)) | (rw [hrc0.1.1] at kb; cases kb; exact ⟨by decide, fun _ => by omega, fun h => absurd h (by decide), fun h => absurd h (by decide), fun h => absurd h (by decide)⟩) | (rw [k_ra] at kb; cases kb; exact ⟨by decide, fun h => absurd h (by decide), fun _ => ⟨g10_, by have z2_ : cn (9, 2).2 = cn 2 := rfl; omega⟩, fun h => absurd h (by decide), fun h => absurd h (by decide)⟩))
    show et_go _ _ 1000 359 [some (.ref 150), some (.ref th), some (.ref am), some (.ref out), some (.int (Int32.ofNat i)), x5, x6] [.int (Int32.ofNat 1)] _ (ck + c356) (sk + s356) _
    refine ls_istore (i := 5) (p := 361) (by decide +kernel) (Nat.le_of_ble_eq_true rfl) ?_
    refine ls_aload (i := 2) (p := 362) (by decide +kernel) rfl ?_
    refine ls_arg (j := 1) (by decide +kernel) (by omega) hn ?_
    refine ls_arg (j := 2) (by decide +kernel) (by omega) hn ?_
    refine lt_callv (T := et_TT) (t := 13) (mi := 207) (na := 2) (ci := 11) (lk := 7) (lm := 4) (L0 := eg_en (eg_mL 207) [.ref am, .int (f (i + 1)), .int (f (i + 2))]) (by decide +kernel) rfl hH k_am rfl rfl rfl rfl rfl (by rw [show eg_mL 207 = 4 from by decide +kernel]; first | done | rfl) ?_
    have hHo := hH
    have hky0 := hky
    have hH1 := hH
    have k_am1 := k_am
    have hrm0 := hrm
    have htM0 := htM
    have hrc0 := hrc
    have hty0 := hty
    have hcq0 := hcq
    have b2 : cn 2 ≤ 6 := by first | exact Int.ofNat_le.mp (hf_bd (t := 10) hH hrc.1.1 rfl rfl (hrc.2.2 (9, 2) (by decide)).1 (hbc 2)) | omega
    refine ((hc_claimT (w := (K356, [], G356)) hH k_am (by omega)).and (fm_claim hH k_am htM.2.1 htM.1 hm hc htM.2.2 htb hrm.1.1 hrm.2.1.1 (hrm.2.2 (9, 2) (by decide)).1 b2 (hrm.2.2 (0, 0) (by decide)).1 b0 (hrm.2.2 (5, 4) (by decide)).1 b4 (by omega))).mono (fun u hu => ls_cbvQ2 ⟨hu.1.1, (show pmu am 0 u from hu.1.2)⟩ hu.2 (fun v374 K374 G374 c374 s374 x374 f374 hH hv374 cl374 sl374 hP hQ => ?_))
    obtain ⟨_, _, eu, hxf, hQ⟩ := hQ
    cases eu
    have hry0 := hry
    have hzy := hzy.fr k_th hrc.1.1 hrc.1.2.1 x374 f374 (by decide +kernel)
    have hcy := hcy.fr x374 f374 (by decide +kernel)
    have hci := hci.fr x374 f374 (by decide +kernel)
    have h3 := (f374.2 th 12 k_th 3 rfl).trans h3
    have hl := (f374.2 rd 7 k_rd 1 rfl).trans hl
    have hm := hP
    have hp := (f374.2 th 12 k_th 2 rfl).trans hp
    have hg := (f374.2 am 13 k_am 3 rfl).trans hg
    have htC := htC.fr k_rd x374 f374 (by decide +kernel)
    have htM := (htM.fr k_am x374 f374 (by decide +kernel)).le (Nat.zero_le _)
    have hrc := hrc.fr k_th x374 f374 (by decide +kernel)
    have k_th := x374 _ _ k_th
    have k_am := x374 _ _ k_am
    have k_out := x374 _ _ k_out
    have k_rd := x374 _ _ k_rd
    have hry := hry0.xs hHo x374 hxf (hrc.2.2 (0, 0) (by decide)).1 (fun b j t kb hs => by rcases hs with ⟨ea, ej⟩ | ⟨ea, ej⟩ <;> subst ea <;> first | (rw [k_am1] at kb; cases kb; exact ryS.r _ (by decide) (by decide)) | (rw [hrm0.1.1] at kb; cases kb; exact ⟨by decide, fun h => absurd h (by decide), fun h => absurd h (by decide), fun _ => by have z0_ : cn (0, 0).2 = cn 0 := rfl; have z1_ : cn (7, 1).2 = cn 1 := rfl; have z2_ : cn (9, 2).2 = cn 2 := rfl; omega, fun h => absurd h (by decide)⟩))
    have hty := hty0.xs hHo x374 hxf (fun b j t kb hs => by rcases hs with ⟨ea, ej⟩ | ⟨ea, ej⟩ <;> subst ea <;> first | (rw [k_am1] at kb; cases kb; exact tyS.r _ (by decide) (by decide)) | (rw [hrm0.1.1] at kb; cases kb; exact ⟨by decide, fun h => absurd h (by decide), fun h => absurd h (by decide), fun _ => by have z0_ : cn (0, 0).2 = cn 0 := rfl; have z1_ : cn (7, 1).2 = cn 1 := rfl; have z2_ : cn (9, 2).2 = cn 2 := rfl; omega, fun h => absurd h (by decide)⟩))
    have hky := hky0.xt hHo k_am1 hrm0.1.1 hxf (fun b j hs => by rcases hs with ⟨ea, ej⟩ | ⟨ea, ej⟩; exact .inl ⟨ea, by omega⟩; exact .inr ⟨ea, by have z1_ : cn (7, 1).2 = cn 1 := rfl; have z2_ : cn (9, 2).2 = cn 2 := rfl; omega⟩)
    rcases hQ with ⟨cx2, ev2, ht, z0⟩ | ⟨cx2, sq2, ev2, ht, z0⟩ | ⟨cx2, r4, sq2, ev2, ht, z0⟩ | ⟨cx2, f2, sq2, r4, ev2, ht, z0, w1_, w2_, tx_⟩
    · cases ev2
      have hrm := hrm0.up hH1 k_am1 x374 hxf (fun a j t ha hs => by rcases hs with ⟨ea, ej⟩ | ⟨ea, ej⟩ <;> rw [ea] at ha <;> first | (rw [k_am1] at ha; cases ha; exact ⟨fun _ => by omega, fun h => absurd h (by decide), by decide⟩) | (rw [hrm0.1.1] at ha; cases ha; exact ⟨fun h => absurd h (by decide), fun _ => by omega, by decide⟩)) z0 (by decide)
      have hbc := rc_upb (k := 2) (v := cn 2) hbc (by omega)
      have hcq := hcq.xs hHo x374 hxf (fun b j t kb hs => by rcases hs with ⟨ea, ej⟩ | ⟨ea, ej⟩ <;> subst ea <;> first | (rw [k_am1] at kb; cases kb; exact cqS.r _ (by decide) (by decide)) | (rw [hrm0.1.1] at kb; cases kb; exact ⟨by decide, fun h => absurd h (by decide), fun h => absurd h (by decide), fun _ => by have z0_ : cn (0, 0).2 = cn 0 := rfl; have z1_ : cn (7, 1).2 = cn 1 := rfl; have z2_ : cn (9, 2).2 = cn 2 := rfl; omega, fun h => absurd h (by decide)⟩))
      show et_go _ _ 1000 377 [some (.ref 150), some (.ref th), some (.ref am), some (.ref out), some (.int (Int32.ofNat i)), some (.int (Int32.ofNat 1)), x6] [.int (Int32.ofNat 0)] _ (ck + c356) (sk + s356) _
      refine ls_istore (i := 6) (p := 379) (by decide +kernel) (Nat.le_of_ble_eq_true rfl) ?_
      refine ls_goto (p := 1663) (by decide +kernel) ?_
      exact hN _ _ 0 h _ _ _ _ _ _ ⟨⟨hH, hci, k_th, k_am, k_out, h3, k_rd, hl, hm, (by decide)⟩, ⟨hh1, hp, hg⟩, hrc, hrm, hbc, hbi, ⟨hry, hcy, hty, hzy, hky, hcq.le (by first | exact Nat.le_refl _ | exact Nat.le_succ _) (by first | exact Nat.le_refl _ | exact Nat.le_succ _)⟩, _, htC, htM, fun i hi => absurd hi (Nat.not_lt_zero i)⟩ (by omega) (by omega)
    · exact absurd cx2 cx
    · exact absurd cx2 cx
    · exact absurd cx2 cx
  · cases ev
    have hrc := hrc0.upf k_th0 x356 f356 q0 w1 (by decide +kernel)
    have hcq := hcq0.xs hHo x356 hxf (fun b j t kb hs => by rcases hs with h | h | h | h | h | h | h <;> obtain ⟨h1, h2⟩ := h <;> subst h1 <;> first | (rw [k_rd0] at kb; cases kb; exact cqS.r _ (by decide) (by decide)) | (rw [k_ta] at kb; cases kb; exact cqS.r _ (by decide) (by decide)) | (rw [htC0.1.2.1] at kb; cases kb; exact cqS.r _ (by decide) (by decide)) | (rw [htC0.1.2.2] at kb; cases kb; exact cqS.r _ (by decide) (by decide)) | (rw [k_out0] at kb; cases kb; exact cqS.r _ (by decide) (by decide)) | (rw [hrc0.1.1] at kb; cases kb; exact ⟨by decide, fun _ => by omega, fun h => absurd h (by decide), fun h => absurd h (by decide), fun h => absurd h (by decide)⟩) | (rw [k_ra] at kb; cases kb; exact ⟨by decide, fun h => absurd h (by decide), fun _ => ⟨g10_, by have z2_ : cn (9, 2).2 = cn 2 := rfl; omega⟩, fun h => absurd h (by decide), fun h => absurd h (by decide)⟩))
    show et_go _ _ 1000 359 [some (.ref 150), some (.ref th), some (.ref am), some (.ref out), some (.int (Int32.ofNat i)), x5, x6] [.int (Int32.ofNat 2)] _ (ck + c356) (sk + s356) _
    refine ls_istore (i := 5) (p := 361) (by decide +kernel) (Nat.le_of_ble_eq_true rfl) ?_
    refine ls_aload (i := 2) (p := 362) (by decide +kernel) rfl ?_
    refine ls_arg (j := 1) (by decide +kernel) (by omega) hn ?_
    refine ls_arg (j := 2) (by decide +kernel) (by omega) hn ?_
    refine lt_callv (T := et_TT) (t := 13) (mi := 207) (na := 2) (ci := 11) (lk := 7) (lm := 4) (L0 := eg_en (eg_mL 207) [.ref am, .int (f (i + 1)), .int (f (i + 2))]) (by decide +kernel) rfl hH k_am rfl rfl rfl rfl rfl (by rw [show eg_mL 207 = 4 from by decide +kernel]; first | done | rfl) ?_
    have hHo := hH
    have hky0 := hky
    have hH1 := hH
    have k_am1 := k_am
    have hrm0 := hrm
    have htM0 := htM
    have hrc0 := hrc
    have hty0 := hty
    have hcq0 := hcq
    have b2 : cn 2 ≤ 6 := by first | exact Int.ofNat_le.mp (hf_bd (t := 10) hH hrc.1.1 rfl rfl (hrc.2.2 (9, 2) (by decide)).1 (hbc 2)) | omega
    refine ((hc_claimT (w := (K356, [], G356)) hH k_am (by omega)).and (fm_claim hH k_am htM.2.1 htM.1 hm hc htM.2.2 htb hrm.1.1 hrm.2.1.1 (hrm.2.2 (9, 2) (by decide)).1 b2 (hrm.2.2 (0, 0) (by decide)).1 b0 (hrm.2.2 (5, 4) (by decide)).1 b4 (by omega))).mono (fun u hu => ls_cbvQ2 ⟨hu.1.1, (show pmu am 0 u from hu.1.2)⟩ hu.2 (fun v374 K374 G374 c374 s374 x374 f374 hH hv374 cl374 sl374 hP hQ => ?_))
    obtain ⟨_, _, eu, hxf, hQ⟩ := hQ
    cases eu
    have hry0 := hry
    have hzy := hzy.fr k_th hrc.1.1 hrc.1.2.1 x374 f374 (by decide +kernel)
    have hcy := hcy.fr x374 f374 (by decide +kernel)
    have hci := hci.fr x374 f374 (by decide +kernel)
    have h3 := (f374.2 th 12 k_th 3 rfl).trans h3
    have hl := (f374.2 rd 7 k_rd 1 rfl).trans hl
    have hm := hP
    have hp := (f374.2 th 12 k_th 2 rfl).trans hp
    have hg := (f374.2 am 13 k_am 3 rfl).trans hg
    have htC := htC.fr k_rd x374 f374 (by decide +kernel)
    have htM := (htM.fr k_am x374 f374 (by decide +kernel)).le (Nat.zero_le _)
    have hrc := hrc.fr k_th x374 f374 (by decide +kernel)
    have k_th := x374 _ _ k_th
    have k_am := x374 _ _ k_am
    have k_out := x374 _ _ k_out
    have k_rd := x374 _ _ k_rd
    have hry := hry0.xs hHo x374 hxf (hrc.2.2 (0, 0) (by decide)).1 (fun b j t kb hs => by rcases hs with ⟨ea, ej⟩ | ⟨ea, ej⟩ <;> subst ea <;> first | (rw [k_am1] at kb; cases kb; exact ryS.r _ (by decide) (by decide)) | (rw [hrm0.1.1] at kb; cases kb; exact ⟨by decide, fun h => absurd h (by decide), fun h => absurd h (by decide), fun _ => by have z0_ : cn (0, 0).2 = cn 0 := rfl; have z1_ : cn (7, 1).2 = cn 1 := rfl; have z2_ : cn (9, 2).2 = cn 2 := rfl; omega, fun h => absurd h (by decide)⟩))
    have hty := hty0.xs hHo x374 hxf (fun b j t kb hs => by rcases hs with ⟨ea, ej⟩ | ⟨ea, ej⟩ <;> subst ea <;> first | (rw [k_am1] at kb; cases kb; exact tyS.r _ (by decide) (by decide)) | (rw [hrm0.1.1] at kb; cases kb; exact ⟨by decide, fun h => absurd h (by decide), fun h => absurd h (by decide), fun _ => by have z0_ : cn (0, 0).2 = cn 0 := rfl; have z1_ : cn (7, 1).2 = cn 1 := rfl; have z2_ : cn (9, 2).2 = cn 2 := rfl; omega, fun h => absurd h (by decide)⟩))
    have hky := hky0.xt hHo k_am1 hrm0.1.1 hxf (fun b j hs => by rcases hs with ⟨ea, ej⟩ | ⟨ea, ej⟩; exact .inl ⟨ea, by omega⟩; exact .inr ⟨ea, by have z1_ : cn (7, 1).2 = cn 1 := rfl; have z2_ : cn (9, 2).2 = cn 2 := rfl; omega⟩)
    rcases hQ with ⟨cx2, ev2, ht, z0⟩ | ⟨cx2, sq2, ev2, ht, z0⟩ | ⟨cx2, r4, sq2, ev2, ht, z0⟩ | ⟨cx2, f2, sq2, r4, ev2, ht, z0, w1_, w2_, tx_⟩
    · exact absurd cx cx2
    · cases ev2
      have hrm := hrm0.up hH1 k_am1 x374 hxf (fun a j t ha hs => by rcases hs with ⟨ea, ej⟩ | ⟨ea, ej⟩ <;> rw [ea] at ha <;> first | (rw [k_am1] at ha; cases ha; exact ⟨fun _ => by omega, fun h => absurd h (by decide), by decide⟩) | (rw [hrm0.1.1] at ha; cases ha; exact ⟨fun h => absurd h (by decide), fun _ => by omega, by decide⟩)) z0 (by decide)
      have hbc := rc_upb (k := 2) (v := cn 2) hbc (by omega)
      have hcq := hcq.xs hHo x374 hxf (fun b j t kb hs => by rcases hs with ⟨ea, ej⟩ | ⟨ea, ej⟩ <;> subst ea <;> first | (rw [k_am1] at kb; cases kb; exact cqS.r _ (by decide) (by decide)) | (rw [hrm0.1.1] at kb; cases kb; exact ⟨by decide, fun h => absurd h (by decide), fun h => absurd h (by decide), fun _ => by have z0_ : cn (0, 0).2 = cn 0 := rfl; have z1_ : cn (7, 1).2 = cn 1 := rfl; have z2_ : cn (9, 2).2 = cn 2 := rfl; omega, fun h => absurd h (by decide)⟩))
      show et_go _ _ 1000 377 [some (.ref 150), some (.ref th), some (.ref am), some (.ref out), some (.int (Int32.ofNat i)), some (.int (Int32.ofNat 2)), x6] [.int (Int32.ofNat 0)] _ (ck + c356) (sk + s356) _
      refine ls_istore (i := 6) (p := 379) (by decide +kernel) (Nat.le_of_ble_eq_true rfl) ?_
      refine ls_goto (p := 1663) (by decide +kernel) ?_
      exact hN _ _ 0 h _ _ _ _ _ _ ⟨⟨hH, hci, k_th, k_am, k_out, h3, k_rd, hl, hm, (by decide)⟩, ⟨hh1, hp, hg⟩, hrc, hrm, hbc, hbi, ⟨hry, hcy, hty, hzy, hky, hcq.le (by first | exact Nat.le_refl _ | exact Nat.le_succ _) (by first | exact Nat.le_refl _ | exact Nat.le_succ _)⟩, _, htC, htM, fun i hi => absurd hi (Nat.not_lt_zero i)⟩ (by omega) (by omega)
    · exact absurd sq sq2
    · (rw [sq] at sq2; cases sq2)
  · cases ev
    have hrc := hrc0.upf k_th0 x356 f356 q0 w1 (by decide +kernel)
    have hcq := hcq0.xs hHo x356 hxf (fun b j t kb hs => by rcases hs with h | h | h | h | h | h | h <;> obtain ⟨h1, h2⟩ := h <;> subst h1 <;> first | (rw [k_rd0] at kb; cases kb; exact cqS.r _ (by decide) (by decide)) | (rw [k_ta] at kb; cases kb; exact cqS.r _ (by decide) (by decide)) | (rw [htC0.1.2.1] at kb; cases kb; exact cqS.r _ (by decide) (by decide)) | (rw [htC0.1.2.2] at kb; cases kb; exact cqS.r _ (by decide) (by decide)) | (rw [k_out0] at kb; cases kb; exact cqS.r _ (by decide) (by decide)) | (rw [hrc0.1.1] at kb; cases kb; exact ⟨by decide, fun _ => by omega, fun h => absurd h (by decide), fun h => absurd h (by decide), fun h => absurd h (by decide)⟩) | (rw [k_ra] at kb; cases kb; exact ⟨by decide, fun h => absurd h (by decide), fun _ => ⟨g10_, by have z2_ : cn (9, 2).2 = cn 2 := rfl; omega⟩, fun h => absurd h (by decide), fun h => absurd h (by decide)⟩))
    show et_go _ _ 1000 359 [some (.ref 150), some (.ref th), some (.ref am), some (.ref out), some (.int (Int32.ofNat i)), x5, x6] [.int (Int32.ofNat 3)] _ (ck + c356) (sk + s356) _
    refine ls_istore (i := 5) (p := 361) (by decide +kernel) (Nat.le_of_ble_eq_true rfl) ?_
    refine ls_aload (i := 2) (p := 362) (by decide +kernel) rfl ?_
    refine ls_arg (j := 1) (by decide +kernel) (by omega) hn ?_
    refine ls_arg (j := 2) (by decide +kernel) (by omega) hn ?_
    refine lt_callv (T := et_TT) (t := 13) (mi := 207) (na := 2) (ci := 11) (lk := 7) (lm := 4) (L0 := eg_en (eg_mL 207) [.ref am, .int (f (i + 1)), .int (f (i + 2))]) (by decide +kernel) rfl hH k_am rfl rfl rfl rfl rfl (by rw [show eg_mL 207 = 4 from by decide +kernel]; first | done | rfl) ?_
    have hHo := hH
    have hky0 := hky
    have hH1 := hH
    have k_am1 := k_am
    have hrm0 := hrm
    have htM0 := htM
    have hrc0 := hrc
    have hty0 := hty
    have hcq0 := hcq
    have b2 : cn 2 ≤ 6 := by first | exact Int.ofNat_le.mp (hf_bd (t := 10) hH hrc.1.1 rfl rfl (hrc.2.2 (9, 2) (by decide)).1 (hbc 2)) | omega
    refine ((hc_claimT (w := (K356, [], G356)) hH k_am (by omega)).and (fm_claim hH k_am htM.2.1 htM.1 hm hc htM.2.2 htb hrm.1.1 hrm.2.1.1 (hrm.2.2 (9, 2) (by decide)).1 b2 (hrm.2.2 (0, 0) (by decide)).1 b0 (hrm.2.2 (5, 4) (by decide)).1 b4 (by omega))).mono (fun u hu => ls_cbvQ2 ⟨hu.1.1, (show pmu am 0 u from hu.1.2)⟩ hu.2 (fun v374 K374 G374 c374 s374 x374 f374 hH hv374 cl374 sl374 hP hQ => ?_))
    obtain ⟨_, _, eu, hxf, hQ⟩ := hQ
    cases eu
    have hry0 := hry
    have hzy := hzy.fr k_th hrc.1.1 hrc.1.2.1 x374 f374 (by decide +kernel)
    have hcy := hcy.fr x374 f374 (by decide +kernel)
    have hci := hci.fr x374 f374 (by decide +kernel)
    have h3 := (f374.2 th 12 k_th 3 rfl).trans h3
    have hl := (f374.2 rd 7 k_rd 1 rfl).trans hl
    have hm := hP
    have hp := (f374.2 th 12 k_th 2 rfl).trans hp
    have hg := (f374.2 am 13 k_am 3 rfl).trans hg
    have htC := htC.fr k_rd x374 f374 (by decide +kernel)
    have htM := (htM.fr k_am x374 f374 (by decide +kernel)).le (Nat.zero_le _)
    have hrc := hrc.fr k_th x374 f374 (by decide +kernel)
    have k_th := x374 _ _ k_th
    have k_am := x374 _ _ k_am
    have k_out := x374 _ _ k_out
    have k_rd := x374 _ _ k_rd
    have hry := hry0.xs hHo x374 hxf (hrc.2.2 (0, 0) (by decide)).1 (fun b j t kb hs => by rcases hs with ⟨ea, ej⟩ | ⟨ea, ej⟩ <;> subst ea <;> first | (rw [k_am1] at kb; cases kb; exact ryS.r _ (by decide) (by decide)) | (rw [hrm0.1.1] at kb; cases kb; exact ⟨by decide, fun h => absurd h (by decide), fun h => absurd h (by decide), fun _ => by have z0_ : cn (0, 0).2 = cn 0 := rfl; have z1_ : cn (7, 1).2 = cn 1 := rfl; have z2_ : cn (9, 2).2 = cn 2 := rfl; omega, fun h => absurd h (by decide)⟩))
    have hty := hty0.xs hHo x374 hxf (fun b j t kb hs => by rcases hs with ⟨ea, ej⟩ | ⟨ea, ej⟩ <;> subst ea <;> first | (rw [k_am1] at kb; cases kb; exact tyS.r _ (by decide) (by decide)) | (rw [hrm0.1.1] at kb; cases kb; exact ⟨by decide, fun h => absurd h (by decide), fun h => absurd h (by decide), fun _ => by have z0_ : cn (0, 0).2 = cn 0 := rfl; have z1_ : cn (7, 1).2 = cn 1 := rfl; have z2_ : cn (9, 2).2 = cn 2 := rfl; omega, fun h => absurd h (by decide)⟩))
    have hky := hky0.xt hHo k_am1 hrm0.1.1 hxf (fun b j hs => by rcases hs with ⟨ea, ej⟩ | ⟨ea, ej⟩; exact .inl ⟨ea, by omega⟩; exact .inr ⟨ea, by have z1_ : cn (7, 1).2 = cn 1 := rfl; have z2_ : cn (9, 2).2 = cn 2 := rfl; omega⟩)
    rcases hQ with ⟨cx2, ev2, ht, z0⟩ | ⟨cx2, sq2, ev2, ht, z0⟩ | ⟨cx2, r4, sq2, ev2, ht, z0⟩ | ⟨cx2, f2, sq2, r4, ev2, ht, z0, w1_, w2_, tx_⟩
    · exact absurd cx cx2
    · exact absurd sq2 sq
    · cases ev2
      have hrm := hrm0.up hH1 k_am1 x374 hxf (fun a j t ha hs => by rcases hs with ⟨ea, ej⟩ | ⟨ea, ej⟩ <;> rw [ea] at ha <;> first | (rw [k_am1] at ha; cases ha; exact ⟨fun _ => by omega, fun h => absurd h (by decide), by decide⟩) | (rw [hrm0.1.1] at ha; cases ha; exact ⟨fun h => absurd h (by decide), fun _ => by omega, by decide⟩)) z0 (by decide)
      have hbc := rc_upb (k := 2) (v := cn 2) hbc (by omega)
      have hcq := hcq.xs hHo x374 hxf (fun b j t kb hs => by rcases hs with ⟨ea, ej⟩ | ⟨ea, ej⟩ <;> subst ea <;> first | (rw [k_am1] at kb; cases kb; exact cqS.r _ (by decide) (by decide)) | (rw [hrm0.1.1] at kb; cases kb; exact ⟨by decide, fun h => absurd h (by decide), fun h => absurd h (by decide), fun _ => by have z0_ : cn (0, 0).2 = cn 0 := rfl; have z1_ : cn (7, 1).2 = cn 1 := rfl; have z2_ : cn (9, 2).2 = cn 2 := rfl; omega, fun h => absurd h (by decide)⟩))
      show et_go _ _ 1000 377 [some (.ref 150), some (.ref th), some (.ref am), some (.ref out), some (.int (Int32.ofNat i)), some (.int (Int32.ofNat 3)), x6] [.int (Int32.ofNat 0)] _ (ck + c356) (sk + s356) _
      refine ls_istore (i := 6) (p := 379) (by decide +kernel) (Nat.le_of_ble_eq_true rfl) ?_
      refine ls_goto (p := 1663) (by decide +kernel) ?_
      exact hN _ _ 0 h _ _ _ _ _ _ ⟨⟨hH, hci, k_th, k_am, k_out, h3, k_rd, hl, hm, (by decide)⟩, ⟨hh1, hp, hg⟩, hrc, hrm, hbc, hbi, ⟨hry, hcy, hty, hzy, hky, hcq.le (by first | exact Nat.le_refl _ | exact Nat.le_succ _) (by first | exact Nat.le_refl _ | exact Nat.le_succ _)⟩, _, htC, htM, fun i hi => absurd hi (Nat.not_lt_zero i)⟩ (by omega) (by omega)
    · exact absurd c4 (by omega)
  · cases ev
    have hrc := hrc0.upf k_th0 x356 f356 q0 w1 (by decide +kernel)
    obtain ⟨n9, en9, hn9⟩ := xr_nat cx.1 (show cn 4 ≤ 400 by omega)
    obtain ⟨r9, er9, hr9⟩ := xr_nat cx.2 (show cn 0 ≤ 400 by omega)
    rw [en9] at qb_
    rw [er9] at qc_
    have kq2_ := hi_el39 hH (x356 _ _ k_ra) c4 qr_
    obtain ⟨bb2_, qa2_, kb2_⟩ := hf_ref (t := 2) (f := 0) (u := 6) hH kq2_ rfl rfl (.inr trivial)
    obtain rfl : bb_ = bb2_ := Value.ref.inj (Option.some.inj (qa_.symm.trans qa2_))
    have hcqA := hcq0.cl1 (ls := (n9, (r9, f_))) hHo x356 hxf (fun b j t kb hs => by rcases hs with h | h | h | h | h | h | h <;> obtain ⟨h1, h2⟩ := h <;> subst h1 <;> first | (rw [k_rd0] at kb; cases kb; exact cqS.r _ (by decide) (by decide)) | (rw [k_ta] at kb; cases kb; exact cqS.r _ (by decide) (by decide)) | (rw [htC0.1.2.1] at kb; cases kb; exact cqS.r _ (by decide) (by decide)) | (rw [htC0.1.2.2] at kb; cases kb; exact cqS.r _ (by decide) (by decide)) | (rw [k_out0] at kb; cases kb; exact cqS.r _ (by decide) (by decide)) | (rw [hrc0.1.1] at kb; cases kb; exact ⟨by decide, fun _ => by omega, fun h => absurd h (by decide), fun h => absurd h (by decide), fun h => absurd h (by decide)⟩) | (rw [k_ra] at kb; cases kb; exact ⟨by decide, fun h => absurd h (by decide), fun _ => ⟨g10_, by have z2_ : cn (9, 2).2 = cn 2 := rfl; omega⟩, fun h => absurd h (by decide), fun h => absurd h (by decide)⟩)) c4 g10_ qr_ ⟨kq2_, bb_, fl_, ⟨qa_, kb2_, _, _, qd_⟩, ⟨qb_, qc_, q3_⟩, hfl_, hnu_⟩ (one_cl2 ts_ok2 sq) hn9 hr9
    show et_go _ _ 1000 359 [some (.ref 150), some (.ref th), some (.ref am), some (.ref out), some (.int (Int32.ofNat i)), x5, x6] [.int (Int32.ofNat 0)] _ (ck + c356) (sk + s356) _
    refine ls_istore (i := 5) (p := 361) (by decide +kernel) (Nat.le_of_ble_eq_true rfl) ?_
    refine ls_aload (i := 2) (p := 362) (by decide +kernel) rfl ?_
    refine ls_arg (j := 1) (by decide +kernel) (by omega) hn ?_
    refine ls_arg (j := 2) (by decide +kernel) (by omega) hn ?_
    refine lt_callv (T := et_TT) (t := 13) (mi := 207) (na := 2) (ci := 11) (lk := 7) (lm := 4) (L0 := eg_en (eg_mL 207) [.ref am, .int (f (i + 1)), .int (f (i + 2))]) (by decide +kernel) rfl hH k_am rfl rfl rfl rfl rfl (by rw [show eg_mL 207 = 4 from by decide +kernel]; first | done | rfl) ?_
    have hHo := hH
    have hky0 := hky
    have hH1 := hH
    have k_am1 := k_am
    have hrm0 := hrm
    have htM0 := htM
    have hrc0 := hrc
    have hty0 := hty
    have hcq0 := hcq
    have b2 : cn 2 ≤ 6 := by first | exact Int.ofNat_le.mp (hf_bd (t := 10) hH hrc.1.1 rfl rfl (hrc.2.2 (9, 2) (by decide)).1 (hbc 2)) | omega
    refine ((hc_claimT (w := (K356, [], G356)) hH k_am (by omega)).and (fm_claim hH k_am htM.2.1 htM.1 hm hc htM.2.2 htb hrm.1.1 hrm.2.1.1 (hrm.2.2 (9, 2) (by decide)).1 b2 (hrm.2.2 (0, 0) (by decide)).1 b0 (hrm.2.2 (5, 4) (by decide)).1 b4 (by omega))).mono (fun u hu => ls_cbvQ2 ⟨hu.1.1, (show pmu am 0 u from hu.1.2)⟩ hu.2 (fun v374 K374 G374 c374 s374 x374 f374 hH hv374 cl374 sl374 hP hQ => ?_))
    obtain ⟨_, _, eu, hxf, hQ⟩ := hQ
    cases eu
    have hry0 := hry
    have hzy := hzy.fr k_th hrc.1.1 hrc.1.2.1 x374 f374 (by decide +kernel)
    have hcy := hcy.fr x374 f374 (by decide +kernel)
    have hci := hci.fr x374 f374 (by decide +kernel)
    have h3 := (f374.2 th 12 k_th 3 rfl).trans h3
    have hl := (f374.2 rd 7 k_rd 1 rfl).trans hl
    have hm := hP
    have hp := (f374.2 th 12 k_th 2 rfl).trans hp
    have hg := (f374.2 am 13 k_am 3 rfl).trans hg
    have htC := htC.fr k_rd x374 f374 (by decide +kernel)
    have htM := (htM.fr k_am x374 f374 (by decide +kernel)).le (Nat.zero_le _)
    have hrc := hrc.fr k_th x374 f374 (by decide +kernel)
    have ho := (f374.2 out 31 k_out 0 rfl).trans ho
    have k_th := x374 _ _ k_th
    have k_am := x374 _ _ k_am
    have k_out := x374 _ _ k_out
    have k_rd := x374 _ _ k_rd
    have hry := hry0.xs hHo x374 hxf (hrc.2.2 (0, 0) (by decide)).1 (fun b j t kb hs => by rcases hs with ⟨ea, ej⟩ | ⟨ea, ej⟩ <;> subst ea <;> first | (rw [k_am1] at kb; cases kb; exact ryS.r _ (by decide) (by decide)) | (rw [hrm0.1.1] at kb; cases kb; exact ⟨by decide, fun h => absurd h (by decide), fun h => absurd h (by decide), fun _ => by have z0_ : cn (0, 0).2 = cn 0 := rfl; have z1_ : cn (7, 1).2 = cn 1 := rfl; have z2_ : cn (9, 2).2 = cn 2 := rfl; omega, fun h => absurd h (by decide)⟩))
    have hty := hty0.xs hHo x374 hxf (fun b j t kb hs => by rcases hs with ⟨ea, ej⟩ | ⟨ea, ej⟩ <;> subst ea <;> first | (rw [k_am1] at kb; cases kb; exact tyS.r _ (by decide) (by decide)) | (rw [hrm0.1.1] at kb; cases kb; exact ⟨by decide, fun h => absurd h (by decide), fun h => absurd h (by decide), fun _ => by have z0_ : cn (0, 0).2 = cn 0 := rfl; have z1_ : cn (7, 1).2 = cn 1 := rfl; have z2_ : cn (9, 2).2 = cn 2 := rfl; omega, fun h => absurd h (by decide)⟩))
    have hky := hky0.xt hHo k_am1 hrm0.1.1 hxf (fun b j hs => by rcases hs with ⟨ea, ej⟩ | ⟨ea, ej⟩; exact .inl ⟨ea, by omega⟩; exact .inr ⟨ea, by have z1_ : cn (7, 1).2 = cn 1 := rfl; have z2_ : cn (9, 2).2 = cn 2 := rfl; omega⟩)
    rcases hQ with ⟨cx2, ev2, ht, z0⟩ | ⟨cx2, sq2, ev2, ht, z0⟩ | ⟨cx2, r4, sq2, ev2, ht, z0⟩ | ⟨cx2, f2, sq2, r4, ev2, ht, z0, w1_, w2_, tx_⟩
    · exact absurd cx cx2
    · (rw [sq2] at sq; cases sq)
    · exact absurd c4 (by omega)
    · cases ev2
      have hrm := hrm0.up hH1 k_am1 x374 hxf (fun a j t ha hs => by rcases hs with ⟨ea, ej⟩ | ⟨ea, ej⟩ <;> rw [ea] at ha <;> first | (rw [k_am1] at ha; cases ha; exact ⟨fun _ => by omega, fun h => absurd h (by decide), by decide⟩) | (rw [hrm0.1.1] at ha; cases ha; exact ⟨fun h => absurd h (by decide), fun _ => by omega, by decide⟩)) z0 (by decide)
      have hbc := rc_upb (k := 2) (v := cn 2 + 1) hbc (by omega)
      obtain rfl : f_ = f2 := Option.some.inj (sq.symm.trans sq2)
      rw [en9] at w1_
      rw [er9] at w2_
      have hcq := hcqA.cl2 hHo x374 hxf (fun b j t kb hs => by rcases hs with ⟨ea, ej⟩ | ⟨ea, ej⟩ <;> subst ea <;> first | (rw [k_am1] at kb; cases kb; exact cqS.r _ (by decide) (by decide)) | (rw [hrm0.1.1] at kb; cases kb; exact ⟨by decide, fun h => absurd h (by decide), fun h => absurd h (by decide), fun _ => by have z0_ : cn (0, 0).2 = cn 0 := rfl; have z1_ : cn (7, 1).2 = cn 1 := rfl; have z2_ : cn (9, 2).2 = cn 2 := rfl; omega, fun h => absurd h (by decide)⟩)) (fun b j hs k_z => by rcases hs with ⟨ea, ej⟩ | ⟨ea, ej⟩ <;> (rw [ea] at k_z; first | (rw [k_am1] at k_z; cases k_z) | (rw [hrm0.1.1] at k_z; cases k_z))) w1_ w2_ tx_
      show et_go _ _ 1000 377 [some (.ref 150), some (.ref th), some (.ref am), some (.ref out), some (.int (Int32.ofNat i)), some (.int (Int32.ofNat 0)), x6] [.int (Int32.ofNat (cn 2))] _ (ck + c356) (sk + s356) _
      refine ls_istore (i := 6) (p := 379) (by decide +kernel) (Nat.le_of_ble_eq_true rfl) ?_
      refine ls_goto (p := 1663) (by decide +kernel) ?_
      exact hN _ _ 0 h _ _ _ _ _ _ ⟨⟨hH, hci, k_th, k_am, k_out, h3, k_rd, hl, hm, (by decide)⟩, ⟨hh1, hp, hg⟩, hrc, hrm, hbc, hbi, ⟨hry, hcy, hty, hzy, hky, hcq.le (by first | exact Nat.le_refl _ | exact Nat.le_succ _) (by first | exact Nat.le_refl _ | exact Nat.le_succ _)⟩, _, htC, htM, fun i hi => absurd hi (Nat.not_lt_zero i)⟩ (by omega) (by omega)
set_option maxHeartbeats 2000000 in
theorem lw_c5 (hI : lw_I K G th am out rd s0 s1 aw ai tp ba na tm c h cn im) (hi : i + 6 ≤ n) (hn : n ≤ 3072) (hN : ∀ (K' : et_K) (G' : eg_G) (c' h' : Nat) (cn' im' : Nat → Nat) (ck' sk' : Nat) (y5 y6 : Option Value), lw_I K' G' th am out rd s0 s1 aw ai tp ba na tm c' h' cn' im' → ck' ≤ ck + 841 → sk' ≤ sk + 7168 → et_go (some (n, f)) (d + 41) 1000 1663 [some (.ref 150), some (.ref th), some (.ref am), some (.ref out), some (.int (Int32.ofNat i)), y5, y6] [] G' ck' sk' Z) : et_go (some (n, f)) (d + 41) 1000 382 [some (.ref 150), some (.ref th), some (.ref am), some (.ref out), some (.int (Int32.ofNat i)), x5, x6] [] G ck sk Z := by
  obtain ⟨⟨hH, hci, k_th, k_am, k_out, h3, k_rd, hl, hm, hc⟩, ⟨hh1, hp, hg⟩, hrc, hrm, hbc, hbi, ⟨hry, hcy, hty, hzy, hky, hcq⟩, tb, htC, htM, htb⟩ := hI
  refine ls_aload (i := 1) (p := 383) (by decide +kernel) rfl ?_
  refine lt_callv (T := et_TT) (t := 12) (mi := 118) (na := 0) (ci := 10) (lk := 7) (lm := 1) (L0 := eg_en (eg_mL 118) [.ref th]) (by decide +kernel) rfl hH k_th rfl rfl rfl rfl rfl (by rw [show eg_mL 118 = 1 from by decide +kernel]; first | done | rfl) ?_
  have hHo := hH
  refine (ek_p118_ok (K, [], G) [.ref th] _ hH (by omega) rfl (ht_ac (.inr ⟨by decide, _, rfl, k_th⟩) ht_an)).mono (fun u hu => ls_cbv hu (fun v383 K383 G383 c383 s383 x383 f383 hH hv383 cl383 sl383 => ?_))
  have hcq := hcq.fr x383 hHo f383 (by decide +kernel)
  have hky := hky.fr hHo k_am hrm.1.1 f383 (by decide +kernel)
  have hzy := hzy.fr k_th hrc.1.1 hrc.1.2.1 x383 f383 (by decide +kernel)
  have hty := hty.fr x383 hHo f383 (by decide +kernel)
  have hcy := hcy.fr x383 f383 (by decide +kernel)
  have hry := hry.fr hHo x383 f383 (by decide +kernel)
  have hci := hci.fr x383 f383 (by decide +kernel)
  have h3 := (f383.2 th 12 k_th 3 rfl).trans h3
  have hl := (f383.2 rd 7 k_rd 1 rfl).trans hl
  have hm := (f383.2 am 13 k_am 5 rfl).trans hm
  have hp := (f383.2 th 12 k_th 2 rfl).trans hp
  have hg := (f383.2 am 13 k_am 3 rfl).trans hg
  have htC := htC.fr k_rd x383 f383 (by decide +kernel)
  have htM := htM.fr k_am x383 f383 (by decide +kernel)
  have hrc := hrc.fr k_th x383 f383 (by decide +kernel)
  have hrm := hrm.fr k_am x383 f383 (by decide +kernel)
  have k_th := x383 _ _ k_th
  have k_am := x383 _ _ k_am
  have k_out := x383 _ _ k_out
  have k_rd := x383 _ _ k_rd
  obtain ⟨v383, rfl, -⟩ := hv383
  show et_go _ _ 1000 386 [some (.ref 150), some (.ref th), some (.ref am), some (.ref out), some (.int (Int32.ofNat i)), x5, x6] [.int v383] _ (ck + c383) (sk + s383) _
  refine ls_pop (p := 387) (by decide +kernel) ?_
  refine ls_aload (i := 2) (p := 388) (by decide +kernel) rfl ?_
  refine lt_callv (T := et_TT) (t := 13) (mi := 179) (na := 0) (ci := 11) (lk := 7) (lm := 1) (L0 := eg_en (eg_mL 179) [.ref am]) (by decide +kernel) rfl hH k_am rfl rfl rfl rfl rfl (by rw [show eg_mL 179 = 1 from by decide +kernel]; first | done | rfl) ?_
  have hHo := hH
  refine (er_p179_ok (K383, [], G383) [.ref am] _ hH (by omega) rfl (ht_ac (.inr ⟨by decide, _, rfl, k_am⟩) ht_an)).mono (fun u hu => ls_cbv hu (fun v388 K388 G388 c388 s388 x388 f388 hH hv388 cl388 sl388 => ?_))
  have hcq := hcq.fr x388 hHo f388 (by decide +kernel)
  have hky := hky.fr hHo k_am hrm.1.1 f388 (by decide +kernel)
  have hzy := hzy.fr k_th hrc.1.1 hrc.1.2.1 x388 f388 (by decide +kernel)
  have hty := hty.fr x388 hHo f388 (by decide +kernel)
  have hcy := hcy.fr x388 f388 (by decide +kernel)
  have hry := hry.fr hHo x388 f388 (by decide +kernel)
  have hci := hci.fr x388 f388 (by decide +kernel)
  have h3 := (f388.2 th 12 k_th 3 rfl).trans h3
  have hl := (f388.2 rd 7 k_rd 1 rfl).trans hl
  have hm := (f388.2 am 13 k_am 5 rfl).trans hm
  have hp := (f388.2 th 12 k_th 2 rfl).trans hp
  have hg := (f388.2 am 13 k_am 3 rfl).trans hg
  have htC := htC.fr k_rd x388 f388 (by decide +kernel)
  have htM := htM.fr k_am x388 f388 (by decide +kernel)
  have hrc := hrc.fr k_th x388 f388 (by decide +kernel)
  have hrm := hrm.fr k_am x388 f388 (by decide +kernel)
  have k_th := x388 _ _ k_th
  have k_am := x388 _ _ k_am
  have k_out := x388 _ _ k_out
  have k_rd := x388 _ _ k_rd
  obtain ⟨v388, rfl, -⟩ := hv388
  show et_go _ _ 1000 391 [some (.ref 150), some (.ref th), some (.ref am), some (.ref out), some (.int (Int32.ofNat i)), x5, x6] [.int v388] _ ((ck + c383) + c388) ((sk + s383) + s388) _
  refine ls_pop (p := 392) (by decide +kernel) ?_
  refine ls_goto (p := 1663) (by decide +kernel) ?_
  exact hN _ _ c h _ _ _ _ _ _ ⟨⟨hH, hci, k_th, k_am, k_out, h3, k_rd, hl, hm, hc⟩, ⟨hh1, hp, hg⟩, hrc, hrm, hbc, hbi, ⟨hry, hcy, hty, hzy, hky, hcq.le (by first | exact Nat.le_refl _ | exact Nat.le_succ _) (by first | exact Nat.le_refl _ | exact Nat.le_succ _)⟩, _, htC, htM, htb⟩ (by omega) (by omega)
set_option maxHeartbeats 2000000 in
theorem lw_c6 (hI : lw_I K G th am out rd s0 s1 aw ai tp ba na tm c h cn im) (hi : i + 6 ≤ n) (hn : n ≤ 3072) (hN : ∀ (K' : et_K) (G' : eg_G) (c' h' : Nat) (cn' im' : Nat → Nat) (ck' sk' : Nat) (y5 y6 : Option Value), lw_I K' G' th am out rd s0 s1 aw ai tp ba na tm c' h' cn' im' → ck' ≤ ck + 841 → sk' ≤ sk + 7168 → et_go (some (n, f)) (d + 41) 1000 1663 [some (.ref 150), some (.ref th), some (.ref am), some (.ref out), some (.int (Int32.ofNat i)), y5, y6] [] G' ck' sk' Z) : et_go (some (n, f)) (d + 41) 1000 395 [some (.ref 150), some (.ref th), some (.ref am), some (.ref out), some (.int (Int32.ofNat i)), x5, x6] [] G ck sk Z := by
  obtain ⟨⟨hH, hci, k_th, k_am, k_out, h3, k_rd, hl, hm, hc⟩, ⟨hh1, hp, hg⟩, hrc, hrm, hbc, hbi, ⟨hry, hcy, hty, hzy, hky, hcq⟩, tb, htC, htM, htb⟩ := hI
  refine ls_aload (i := 1) (p := 396) (by decide +kernel) rfl ?_
  refine ls_arg (j := 1) (by decide +kernel) (by omega) hn ?_
  refine ls_arg (j := 2) (by decide +kernel) (by omega) hn ?_
  refine ls_aload (i := 3) (p := 409) (by decide +kernel) rfl ?_
  refine ls_calls (mi := 3) (na := 4) (lk := 7) (lm := 5) (L0 := eg_en (eg_mL 3) [.ref th, .int (f (i + 1)), .int (f (i + 2)), .ref out]) (by decide +kernel) rfl rfl rfl rfl rfl rfl (by rw [show eg_mL 3 = 5 from by decide +kernel]; first | done | rfl) ?_
  have hHo := hH
  obtain ⟨D_, φ_, R0_, R1_, r0_, r1_, fo_, t_, kk_, hx_, ho_⟩ := hry
  have hR_ := fun (k : Nat) (hk : k < cn 0) => And.intro (ho_.2.1 k hk).1 (ho_.2.1 k hk).2.1
  have hT_ := fun (k : Nat) (hk : k < cn 0) => (ho_.2.1 k hk).2.2
  refine ((hh_c3 (K, [], G) [.ref th, .int (f (i + 1)), .int (f (i + 2)), .ref out] _ hH (by omega) rfl (ht_ac (.inr ⟨by decide, _, rfl, k_th⟩) (ht_ac hi_any (ht_ac hi_any (ht_ac (.inr ⟨by decide, _, rfl, k_out⟩) ht_an))))).and (fh_right (R0 := R0_) t_ hH hx_ hR_ k_out (by omega))).mono (fun u hu => ls_cbvQ (Q := fun u => ((¬ xr (f (i + 1)) (cn 0) ∧ u.1 = .inl (some (.int (Int32.ofNat 1)))) ∨ (xr (f (i + 1)) (cn 0) ∧ ¬ (0 ≤ (f (i + 2)).toInt ∧ (f (i + 2)).toInt < 65536) ∧ u.1 = .inl (some (.int (Int32.ofNat 2)))) ∨ ∃ n, (f (i + 1)) = Int32.ofNat n ∧ n < cn 0 ∧ (0 ≤ (f (i + 2)).toInt ∧ (f (i + 2)).toInt < 65536) ∧ u.1 = .inl (some (.int (Int32.ofNat 0))) ∧ et_pl (eg_at u.2.1 out) 0 = some (.long (Int64.ofNat (if φ_ (R0_ n) (feE (fun _ => (f (i + 2)))) = true then 1 else 0))))) hu (fun v409 K409 G409 c409 s409 x409 f409 hH hv409 cl409 sl409 hQ => ?_))
  have hx2_ := hx_.fr t_ hHo f409 (by decide +kernel)
  have ho2_ := ho_.fr kk_ f409 (by decide +kernel)
  have hry : ry K409 G409 th s0 s1 aw ai (cn 0) (im 0) := ⟨D_, φ_, R0_, R1_, r0_, r1_, fo_, t_.ex x409, kk_.ex x409, hx2_, ho2_⟩
  have hT_ := fun (k : Nat) (hk : k < cn 0) => (ho2_.2.1 k hk).2.2
  have hcq := hcq.fr x409 hHo f409 (by decide +kernel)
  have hky := hky.fr hHo k_am hrm.1.1 f409 (by decide +kernel)
  have hzy := hzy.fr k_th hrc.1.1 hrc.1.2.1 x409 f409 (by decide +kernel)
  have hty := hty.fr x409 hHo f409 (by decide +kernel)
  have hcy := hcy.fr x409 f409 (by decide +kernel)
  have hci := hci.fr x409 f409 (by decide +kernel)
  have h3 := (f409.2 th 12 k_th 3 rfl).trans h3
  have hl := (f409.2 rd 7 k_rd 1 rfl).trans hl
  have hm := (f409.2 am 13 k_am 5 rfl).trans hm
  have hp := (f409.2 th 12 k_th 2 rfl).trans hp
  have hg := (f409.2 am 13 k_am 3 rfl).trans hg
  have htC := htC.fr k_rd x409 f409 (by decide +kernel)
  have htM := htM.fr k_am x409 f409 (by decide +kernel)
  have hrc := hrc.fr k_th x409 f409 (by decide +kernel)
  have hrm := hrm.fr k_am x409 f409 (by decide +kernel)
  have k_th := x409 _ _ k_th
  have k_am := x409 _ _ k_am
  have k_out := x409 _ _ k_out
  have k_rd := x409 _ _ k_rd
  rcases hQ with ⟨cx, ev⟩ | ⟨cx, cy, ev⟩ | ⟨n0, cn0, hn0, cy, ev, ho⟩
  · cases ev
    show et_go _ _ 1000 412 [some (.ref 150), some (.ref th), some (.ref am), some (.ref out), some (.int (Int32.ofNat i)), x5, x6] [.int (Int32.ofNat 1)] _ (ck + c409) (sk + s409) _
    refine ls_istore (i := 5) (p := 414) (by decide +kernel) (Nat.le_of_ble_eq_true rfl) ?_
    refine ls_aload (i := 2) (p := 415) (by decide +kernel) rfl ?_
    refine ls_arg (j := 1) (by decide +kernel) (by omega) hn ?_
    refine ls_arg (j := 2) (by decide +kernel) (by omega) hn ?_
    refine lt_callv (T := et_TT) (t := 13) (mi := 211) (na := 2) (ci := 11) (lk := 7) (lm := 3) (L0 := eg_en (eg_mL 211) [.ref am, .int (f (i + 1)), .int (f (i + 2))]) (by decide +kernel) rfl hH k_am rfl rfl rfl rfl rfl (by rw [show eg_mL 211 = 3 from by decide +kernel]; first | done | rfl) ?_
    have hHo := hH
    have b0 : cn 0 ≤ 4 := Int.ofNat_le.mp (hf_bd (t := 10) hH hrc.1.1 rfl rfl (hrc.2.2 (0, 0) (by decide)).1 (hbc 0))
    refine ((er_p211_ok (K409, [], G409) [.ref am, .int (f (i + 1)), .int (f (i + 2))] _ hH (by omega) rfl (ht_ac (.inr ⟨by decide, _, rfl, k_am⟩) (ht_ac hi_any (ht_ac hi_any ht_an)))).and (fm_right (g := fun n => φ_ (R0_ n)) hH k_am hrm.1.1 hrm.2.1.1 (hrm.2.2 (0, 0) (by decide)).1 b0 hT_ (by omega))).mono (fun u hu => ls_cbvQ (Q := fun u => (¬ xr (f (i + 1)) (cn 0) ∧ u.1 = .inl (some (.int (Int32.ofNat 0))) ∧ et_pl (eg_at u.2.1 am) 0 = some (.int (Int32.ofNat 1))) ∨ (xr (f (i + 1)) (cn 0) ∧ ¬ (0 ≤ (f (i + 2)).toInt ∧ (f (i + 2)).toInt < 65536) ∧ u.1 = .inl (some (.int (Int32.ofNat 0))) ∧ et_pl (eg_at u.2.1 am) 0 = some (.int (Int32.ofNat 2))) ∨ ∃ n, (f (i + 1)) = Int32.ofNat n ∧ n < cn 0 ∧ (0 ≤ (f (i + 2)).toInt ∧ (f (i + 2)).toInt < 65536) ∧ u.1 = .inl (some (.int (Int32.ofNat (if φ_ (R0_ n) (feE (fun _ => (f (i + 2)))) = true then 1 else 0)))) ∧ et_pl (eg_at u.2.1 am) 0 = some (.int (Int32.ofNat 0))) hu (fun v427 K427 G427 c427 s427 x427 f427 hH hv427 cl427 sl427 hQ => ?_))
    have hcq := hcq.fr x427 hHo f427 (by decide +kernel)
    have hky := hky.fr hHo k_am hrm.1.1 f427 (by decide +kernel)
    have hzy := hzy.fr k_th hrc.1.1 hrc.1.2.1 x427 f427 (by decide +kernel)
    have hty := hty.fr x427 hHo f427 (by decide +kernel)
    have hcy := hcy.fr x427 f427 (by decide +kernel)
    have hry := hry.fr hHo x427 f427 (by decide +kernel)
    have hci := hci.fr x427 f427 (by decide +kernel)
    have h3 := (f427.2 th 12 k_th 3 rfl).trans h3
    have hl := (f427.2 rd 7 k_rd 1 rfl).trans hl
    have hm := (f427.2 am 13 k_am 5 rfl).trans hm
    have hp := (f427.2 th 12 k_th 2 rfl).trans hp
    have hg := (f427.2 am 13 k_am 3 rfl).trans hg
    have htC := htC.fr k_rd x427 f427 (by decide +kernel)
    have htM := htM.fr k_am x427 f427 (by decide +kernel)
    have hrc := hrc.fr k_th x427 f427 (by decide +kernel)
    have hrm := hrm.fr k_am x427 f427 (by decide +kernel)
    have k_th := x427 _ _ k_th
    have k_am := x427 _ _ k_am
    have k_out := x427 _ _ k_out
    have k_rd := x427 _ _ k_rd
    rcases hQ with ⟨cx2, ev2, ht⟩ | ⟨cx2, cy2, ev2, ht⟩ | ⟨n1, cn1, hn1, cy2, ev2, ht⟩
    · cases ev2
      show et_go _ _ 1000 430 [some (.ref 150), some (.ref th), some (.ref am), some (.ref out), some (.int (Int32.ofNat i)), some (.int (Int32.ofNat 1)), x6] [.int (Int32.ofNat 0)] _ ((ck + c409) + c427) ((sk + s409) + s427) _
      refine ls_istore (i := 6) (p := 432) (by decide +kernel) (Nat.le_of_ble_eq_true rfl) ?_
      refine ls_goto (p := 1663) (by decide +kernel) ?_
      exact hN _ _ c h _ _ _ _ _ _ ⟨⟨hH, hci, k_th, k_am, k_out, h3, k_rd, hl, hm, hc⟩, ⟨hh1, hp, hg⟩, hrc, hrm, hbc, hbi, ⟨hry, hcy, hty, hzy, hky, hcq.le (by first | exact Nat.le_refl _ | exact Nat.le_succ _) (by first | exact Nat.le_refl _ | exact Nat.le_succ _)⟩, _, htC, htM, htb⟩ (by omega) (by omega)
    · exact absurd cx2 cx
    · exact absurd (by rw [cn1]; unfold xr; rw [hs_nint (by omega)]; omega) cx
  · cases ev
    show et_go _ _ 1000 412 [some (.ref 150), some (.ref th), some (.ref am), some (.ref out), some (.int (Int32.ofNat i)), x5, x6] [.int (Int32.ofNat 2)] _ (ck + c409) (sk + s409) _
    refine ls_istore (i := 5) (p := 414) (by decide +kernel) (Nat.le_of_ble_eq_true rfl) ?_
    refine ls_aload (i := 2) (p := 415) (by decide +kernel) rfl ?_
    refine ls_arg (j := 1) (by decide +kernel) (by omega) hn ?_
    refine ls_arg (j := 2) (by decide +kernel) (by omega) hn ?_
    refine lt_callv (T := et_TT) (t := 13) (mi := 211) (na := 2) (ci := 11) (lk := 7) (lm := 3) (L0 := eg_en (eg_mL 211) [.ref am, .int (f (i + 1)), .int (f (i + 2))]) (by decide +kernel) rfl hH k_am rfl rfl rfl rfl rfl (by rw [show eg_mL 211 = 3 from by decide +kernel]; first | done | rfl) ?_
    have hHo := hH
    have b0 : cn 0 ≤ 4 := Int.ofNat_le.mp (hf_bd (t := 10) hH hrc.1.1 rfl rfl (hrc.2.2 (0, 0) (by decide)).1 (hbc 0))
    refine ((er_p211_ok (K409, [], G409) [.ref am, .int (f (i + 1)), .int (f (i + 2))] _ hH (by omega) rfl (ht_ac (.inr ⟨by decide, _, rfl, k_am⟩) (ht_ac hi_any (ht_ac hi_any ht_an)))).and (fm_right (g := fun n => φ_ (R0_ n)) hH k_am hrm.1.1 hrm.2.1.1 (hrm.2.2 (0, 0) (by decide)).1 b0 hT_ (by omega))).mono (fun u hu => ls_cbvQ (Q := fun u => (¬ xr (f (i + 1)) (cn 0) ∧ u.1 = .inl (some (.int (Int32.ofNat 0))) ∧ et_pl (eg_at u.2.1 am) 0 = some (.int (Int32.ofNat 1))) ∨ (xr (f (i + 1)) (cn 0) ∧ ¬ (0 ≤ (f (i + 2)).toInt ∧ (f (i + 2)).toInt < 65536) ∧ u.1 = .inl (some (.int (Int32.ofNat 0))) ∧ et_pl (eg_at u.2.1 am) 0 = some (.int (Int32.ofNat 2))) ∨ ∃ n, (f (i + 1)) = Int32.ofNat n ∧ n < cn 0 ∧ (0 ≤ (f (i + 2)).toInt ∧ (f (i + 2)).toInt < 65536) ∧ u.1 = .inl (some (.int (Int32.ofNat (if φ_ (R0_ n) (feE (fun _ => (f (i + 2)))) = true then 1 else 0)))) ∧ et_pl (eg_at u.2.1 am) 0 = some (.int (Int32.ofNat 0))) hu (fun v427 K427 G427 c427 s427 x427 f427 hH hv427 cl427 sl427 hQ => ?_))
    have hcq := hcq.fr x427 hHo f427 (by decide +kernel)
    have hky := hky.fr hHo k_am hrm.1.1 f427 (by decide +kernel)
    have hzy := hzy.fr k_th hrc.1.1 hrc.1.2.1 x427 f427 (by decide +kernel)
    have hty := hty.fr x427 hHo f427 (by decide +kernel)
    have hcy := hcy.fr x427 f427 (by decide +kernel)
    have hry := hry.fr hHo x427 f427 (by decide +kernel)
    have hci := hci.fr x427 f427 (by decide +kernel)
    have h3 := (f427.2 th 12 k_th 3 rfl).trans h3
    have hl := (f427.2 rd 7 k_rd 1 rfl).trans hl
    have hm := (f427.2 am 13 k_am 5 rfl).trans hm
    have hp := (f427.2 th 12 k_th 2 rfl).trans hp
    have hg := (f427.2 am 13 k_am 3 rfl).trans hg
    have htC := htC.fr k_rd x427 f427 (by decide +kernel)
    have htM := htM.fr k_am x427 f427 (by decide +kernel)
    have hrc := hrc.fr k_th x427 f427 (by decide +kernel)
    have hrm := hrm.fr k_am x427 f427 (by decide +kernel)
    have k_th := x427 _ _ k_th
    have k_am := x427 _ _ k_am
    have k_out := x427 _ _ k_out
    have k_rd := x427 _ _ k_rd
    rcases hQ with ⟨cx2, ev2, ht⟩ | ⟨cx2, cy2, ev2, ht⟩ | ⟨n1, cn1, hn1, cy2, ev2, ht⟩
    · exact absurd cx cx2
    · cases ev2
      show et_go _ _ 1000 430 [some (.ref 150), some (.ref th), some (.ref am), some (.ref out), some (.int (Int32.ofNat i)), some (.int (Int32.ofNat 2)), x6] [.int (Int32.ofNat 0)] _ ((ck + c409) + c427) ((sk + s409) + s427) _
      refine ls_istore (i := 6) (p := 432) (by decide +kernel) (Nat.le_of_ble_eq_true rfl) ?_
      refine ls_goto (p := 1663) (by decide +kernel) ?_
      exact hN _ _ c h _ _ _ _ _ _ ⟨⟨hH, hci, k_th, k_am, k_out, h3, k_rd, hl, hm, hc⟩, ⟨hh1, hp, hg⟩, hrc, hrm, hbc, hbi, ⟨hry, hcy, hty, hzy, hky, hcq.le (by first | exact Nat.le_refl _ | exact Nat.le_succ _) (by first | exact Nat.le_refl _ | exact Nat.le_succ _)⟩, _, htC, htM, htb⟩ (by omega) (by omega)
    · exact absurd cy2 cy
  · cases ev
    show et_go _ _ 1000 412 [some (.ref 150), some (.ref th), some (.ref am), some (.ref out), some (.int (Int32.ofNat i)), x5, x6] [.int (Int32.ofNat 0)] _ (ck + c409) (sk + s409) _
    refine ls_istore (i := 5) (p := 414) (by decide +kernel) (Nat.le_of_ble_eq_true rfl) ?_
    refine ls_aload (i := 2) (p := 415) (by decide +kernel) rfl ?_
    refine ls_arg (j := 1) (by decide +kernel) (by omega) hn ?_
    refine ls_arg (j := 2) (by decide +kernel) (by omega) hn ?_
    refine lt_callv (T := et_TT) (t := 13) (mi := 211) (na := 2) (ci := 11) (lk := 7) (lm := 3) (L0 := eg_en (eg_mL 211) [.ref am, .int (f (i + 1)), .int (f (i + 2))]) (by decide +kernel) rfl hH k_am rfl rfl rfl rfl rfl (by rw [show eg_mL 211 = 3 from by decide +kernel]; first | done | rfl) ?_
    have hHo := hH
    have b0 : cn 0 ≤ 4 := Int.ofNat_le.mp (hf_bd (t := 10) hH hrc.1.1 rfl rfl (hrc.2.2 (0, 0) (by decide)).1 (hbc 0))
    refine ((er_p211_ok (K409, [], G409) [.ref am, .int (f (i + 1)), .int (f (i + 2))] _ hH (by omega) rfl (ht_ac (.inr ⟨by decide, _, rfl, k_am⟩) (ht_ac hi_any (ht_ac hi_any ht_an)))).and (fm_right (g := fun n => φ_ (R0_ n)) hH k_am hrm.1.1 hrm.2.1.1 (hrm.2.2 (0, 0) (by decide)).1 b0 hT_ (by omega))).mono (fun u hu => ls_cbvQ (Q := fun u => (¬ xr (f (i + 1)) (cn 0) ∧ u.1 = .inl (some (.int (Int32.ofNat 0))) ∧ et_pl (eg_at u.2.1 am) 0 = some (.int (Int32.ofNat 1))) ∨ (xr (f (i + 1)) (cn 0) ∧ ¬ (0 ≤ (f (i + 2)).toInt ∧ (f (i + 2)).toInt < 65536) ∧ u.1 = .inl (some (.int (Int32.ofNat 0))) ∧ et_pl (eg_at u.2.1 am) 0 = some (.int (Int32.ofNat 2))) ∨ ∃ n, (f (i + 1)) = Int32.ofNat n ∧ n < cn 0 ∧ (0 ≤ (f (i + 2)).toInt ∧ (f (i + 2)).toInt < 65536) ∧ u.1 = .inl (some (.int (Int32.ofNat (if φ_ (R0_ n) (feE (fun _ => (f (i + 2)))) = true then 1 else 0)))) ∧ et_pl (eg_at u.2.1 am) 0 = some (.int (Int32.ofNat 0))) hu (fun v427 K427 G427 c427 s427 x427 f427 hH hv427 cl427 sl427 hQ => ?_))
    have hcq := hcq.fr x427 hHo f427 (by decide +kernel)
    have hky := hky.fr hHo k_am hrm.1.1 f427 (by decide +kernel)
    have hzy := hzy.fr k_th hrc.1.1 hrc.1.2.1 x427 f427 (by decide +kernel)
    have hty := hty.fr x427 hHo f427 (by decide +kernel)
    have hcy := hcy.fr x427 f427 (by decide +kernel)
    have hry := hry.fr hHo x427 f427 (by decide +kernel)
    have hci := hci.fr x427 f427 (by decide +kernel)
    have h3 := (f427.2 th 12 k_th 3 rfl).trans h3
    have hl := (f427.2 rd 7 k_rd 1 rfl).trans hl
    have hm := (f427.2 am 13 k_am 5 rfl).trans hm
    have hp := (f427.2 th 12 k_th 2 rfl).trans hp
    have hg := (f427.2 am 13 k_am 3 rfl).trans hg
    have htC := htC.fr k_rd x427 f427 (by decide +kernel)
    have htM := htM.fr k_am x427 f427 (by decide +kernel)
    have hrc := hrc.fr k_th x427 f427 (by decide +kernel)
    have hrm := hrm.fr k_am x427 f427 (by decide +kernel)
    have ho := (f427.2 out 31 k_out 0 rfl).trans ho
    have k_th := x427 _ _ k_th
    have k_am := x427 _ _ k_am
    have k_out := x427 _ _ k_out
    have k_rd := x427 _ _ k_rd
    rcases hQ with ⟨cx2, ev2, ht⟩ | ⟨cx2, cy2, ev2, ht⟩ | ⟨n1, cn1, hn1, cy2, ev2, ht⟩
    · exact absurd (by rw [cn0]; unfold xr; rw [hs_nint (by omega)]; omega) cx2
    · exact absurd cy cy2
    · cases ev2
      obtain rfl : n0 = n1 := (hs_neq (by omega) (by omega)).mp (cn0.symm.trans cn1)
      show et_go _ _ 1000 430 [some (.ref 150), some (.ref th), some (.ref am), some (.ref out), some (.int (Int32.ofNat i)), some (.int (Int32.ofNat 0)), x6] [.int (Int32.ofNat (if φ_ (R0_ n0) (feE (fun _ => (f (i + 2)))) = true then 1 else 0))] _ ((ck + c409) + c427) ((sk + s409) + s427) _
      refine ls_istore (i := 6) (p := 432) (by decide +kernel) (Nat.le_of_ble_eq_true rfl) ?_
      refine ls_goto (p := 1663) (by decide +kernel) ?_
      exact hN _ _ c h _ _ _ _ _ _ ⟨⟨hH, hci, k_th, k_am, k_out, h3, k_rd, hl, hm, hc⟩, ⟨hh1, hp, hg⟩, hrc, hrm, hbc, hbi, ⟨hry, hcy, hty, hzy, hky, hcq.le (by first | exact Nat.le_refl _ | exact Nat.le_succ _) (by first | exact Nat.le_refl _ | exact Nat.le_succ _)⟩, _, htC, htM, htb⟩ (by omega) (by omega)
set_option maxHeartbeats 2000000 in
theorem lw_c7 (hI : lw_I K G th am out rd s0 s1 aw ai tp ba na tm c h cn im) (hi : i + 6 ≤ n) (hn : n ≤ 3072) (hN : ∀ (K' : et_K) (G' : eg_G) (c' h' : Nat) (cn' im' : Nat → Nat) (ck' sk' : Nat) (y5 y6 : Option Value), lw_I K' G' th am out rd s0 s1 aw ai tp ba na tm c' h' cn' im' → ck' ≤ ck + 841 → sk' ≤ sk + 7168 → et_go (some (n, f)) (d + 41) 1000 1663 [some (.ref 150), some (.ref th), some (.ref am), some (.ref out), some (.int (Int32.ofNat i)), y5, y6] [] G' ck' sk' Z) : et_go (some (n, f)) (d + 41) 1000 435 [some (.ref 150), some (.ref th), some (.ref am), some (.ref out), some (.int (Int32.ofNat i)), x5, x6] [] G ck sk Z := by
  obtain ⟨⟨hH, hci, k_th, k_am, k_out, h3, k_rd, hl, hm, hc⟩, ⟨hh1, hp, hg⟩, hrc, hrm, hbc, hbi, ⟨hry, hcy, hty, hzy, hky, hcq⟩, tb, htC, htM, htb⟩ := hI
  refine ls_aload (i := 1) (p := 436) (by decide +kernel) rfl ?_
  refine ls_arg (j := 1) (by decide +kernel) (by omega) hn ?_
  refine ls_arg (j := 2) (by decide +kernel) (by omega) hn ?_
  refine ls_bool (by decide +kernel) (fun b448 hb448 hbe448 => ?_)
  refine ls_aload (i := 3) (p := 457) (by decide +kernel) rfl ?_
  refine ls_calls (mi := 4) (na := 4) (lk := 7) (lm := 5) (L0 := eg_en (eg_mL 4) [.ref th, .int (f (i + 1)), .int (Int32.ofNat b448), .ref out]) (by decide +kernel) rfl rfl rfl rfl rfl rfl (by rw [show eg_mL 4 = 5 from by decide +kernel]; first | done | rfl) ?_
  have hHo := hH
  have b3 : cn 3 ≤ 20 := Int.ofNat_le.mp (hf_bd (t := 10) hH hrc.1.1 rfl rfl (hrc.2.2 (2, 3) (by decide)).1 (hbc 3))
  have hH0 := hH
  have k_th0 := k_th
  have k_out0 := k_out
  have k_rd0 := k_rd
  have k_am0 := k_am
  have hrc0 := hrc
  have hrm0 := hrm
  obtain ⟨la, g3, k_la⟩ := hf_ref (t := 10) (f := 3) (u := 17) hH hrc.1.1 rfl rfl (.inr trivial)
  obtain ⟨ya, g4, k_ya⟩ := hf_ref (t := 10) (f := 4) (u := 27) hH hrc.1.1 rfl rfl (.inr trivial)
  have hcy0 := hcy
  have hyy : (Int32.ofNat b448) = Int32.ofNat 0 ∨ (Int32.ofNat b448) = Int32.ofNat 1 := (show b448 = 0 ∨ b448 = 1 by omega).elim (fun h => .inl (by rw [h])) (fun h => .inr (by rw [h]))
  refine ((hh_c4 (K, [], G) [.ref th, .int (f (i + 1)), .int (Int32.ofNat b448), .ref out] _ hH (by omega) rfl (ht_ac (.inr ⟨by decide, _, rfl, k_th⟩) (ht_ac hi_any (ht_ac (hi_nv (by omega) (by omega)) (ht_ac (.inr ⟨by decide, _, rfl, k_out⟩) ht_an))))).and (fh_card hH k_th hrc.2.1.1 hrc.1.1 (hrc.2.2 (2, 3) (by decide)).1 b3 g3 k_la g4 k_ya hyy k_out (by omega))).mono (fun u hu => ls_cbvQ hu (fun v457 K457 G457 c457 s457 x457 f457 hH hv457 cl457 sl457 hQ => ?_))
  obtain ⟨_, _, _, _, eu, -, hxf, hQ⟩ := hQ
  cases eu
  have hcq := hcq.fr x457 hHo f457 (by decide +kernel)
  have hky := hky.fr hHo k_am hrm.1.1 f457 (by decide +kernel)
  have hzy := hzy.fr k_th hrc.1.1 hrc.1.2.1 x457 f457 (by decide +kernel)
  have hty := hty.fr x457 hHo f457 (by decide +kernel)
  have hry := hry.fr hHo x457 f457 (by decide +kernel)
  have hci := hci.fr x457 f457 (by decide +kernel)
  have h3 := (f457.2 th 12 k_th 3 rfl).trans h3
  have hl := (f457.2 rd 7 k_rd 1 rfl).trans hl
  have hm := (f457.2 am 13 k_am 5 rfl).trans hm
  have hp := (f457.2 th 12 k_th 2 rfl).trans hp
  have hg := (f457.2 am 13 k_am 3 rfl).trans hg
  have htC := htC.fr k_rd x457 f457 (by decide +kernel)
  have htM := htM.fr k_am x457 f457 (by decide +kernel)
  have hrm := hrm.fr k_am x457 f457 (by decide +kernel)
  have k_th := x457 _ _ k_th
  have k_am := x457 _ _ k_am
  have k_out := x457 _ _ k_out
  have k_rd := x457 _ _ k_rd
  have k_z := hrc0.1.2.1
  have w1 : et_pl (eg_at G457 s1) 2 = some (.int (Int32.ofNat (im 3))) := (hxf.2 s1 2 (hH0.2.2 _ _ hrc0.1.2.1).1 (fun h => by rcases h with h | h | h | h | h <;> first | exact hrc0.1.2.2 h.1.symm | (have h := h.1; rw [h] at k_z; first | (rw [k_th0] at k_z; cases k_z) | (rw [k_la] at k_z; cases k_z) | (rw [k_ya] at k_z; cases k_z) | (rw [k_out0] at k_z; cases k_z)))).trans (hrc0.2.2 (2, 3) (by decide)).2
  rcases hQ with ⟨cx, ev, q0⟩ | ⟨cx, c4, ev, q0⟩ | ⟨cx, c4, ev, ho, q0, qa_, qb_⟩
  · cases ev
    have hrc := hrc0.upf k_th0 x457 f457 q0 w1 (by decide +kernel)
    have hcy := hcy0.c0 hrc0.1.2.2 hHo x457 hxf (fun b j t kb hs => by rcases hs with h | h | h | h | h <;> obtain ⟨h1, h2⟩ := h <;> subst h1 <;> first | (rw [k_th0] at kb; cases kb; exact cyS.r _ (by decide)) | (rw [k_out0] at kb; cases kb; exact cyS.r _ (by decide)) | (rw [hrc0.1.1] at kb; cases kb; exact ⟨fun _ => ⟨rfl, h2⟩, fun h => absurd h (by decide), fun h => absurd h (by decide), by decide, by decide⟩) | (rw [k_la] at kb; cases kb; exact ⟨fun h => absurd h (by decide), fun _ => ⟨g3, h2⟩, fun h => absurd h (by decide), by decide, by decide⟩) | (rw [k_ya] at kb; cases kb; exact ⟨fun h => absurd h (by decide), fun h => absurd h (by decide), fun _ => ⟨g4, h2⟩, by decide, by decide⟩))
    show et_go _ _ 1000 460 [some (.ref 150), some (.ref th), some (.ref am), some (.ref out), some (.int (Int32.ofNat i)), x5, x6] [.int (Int32.ofNat 1)] _ (ck + c457) (sk + s457) _
    refine ls_istore (i := 5) (p := 462) (by decide +kernel) (Nat.le_of_ble_eq_true rfl) ?_
    refine ls_aload (i := 2) (p := 463) (by decide +kernel) rfl ?_
    refine ls_arg (j := 1) (by decide +kernel) (by omega) hn ?_
    refine ls_arg (j := 2) (by decide +kernel) (by omega) hn ?_
    refine ls_bool (by decide +kernel) (fun b475 hb475 hbe475 => ?_)
    refine lt_callv (T := et_TT) (t := 13) (mi := 217) (na := 2) (ci := 11) (lk := 7) (lm := 3) (L0 := eg_en (eg_mL 217) [.ref am, .int (f (i + 1)), .int (Int32.ofNat b475)]) (by decide +kernel) rfl hH k_am rfl rfl rfl rfl rfl (by rw [show eg_mL 217 = 3 from by decide +kernel]; first | done | rfl) ?_
    have hHo := hH
    have k_am1 := k_am
    have hrm0 := hrm
    refine ((er_p217_ok (K457, [], G457) [.ref am, .int (f (i + 1)), .int (Int32.ofNat b475)] _ hH (by omega) rfl (ht_ac (.inr ⟨by decide, _, rfl, k_am⟩) (ht_ac hi_any (ht_ac (hi_nv (by omega) (by omega)) ht_an)))).and (fm_card hH k_am hrm.1.1 hrm.2.1.1 (hrm.2.2 (2, 3) (by decide)).1 b3 (by omega))).mono (fun u hu => ls_cbvQ hu (fun v483 K483 G483 c483 s483 x483 f483 hH hv483 cl483 sl483 hQ => ?_))
    obtain ⟨_, _, eu, -, hxf, hQ⟩ := hQ
    cases eu
    have hcq := hcq.fr x483 hHo f483 (by decide +kernel)
    have hky := hky.fr hHo k_am hrm.1.1 f483 (by decide +kernel)
    have hzy := hzy.fr k_th hrc.1.1 hrc.1.2.1 x483 f483 (by decide +kernel)
    have hty := hty.fr x483 hHo f483 (by decide +kernel)
    have hry := hry.fr hHo x483 f483 (by decide +kernel)
    have hci := hci.fr x483 f483 (by decide +kernel)
    have h3 := (f483.2 th 12 k_th 3 rfl).trans h3
    have hl := (f483.2 rd 7 k_rd 1 rfl).trans hl
    have hm := (f483.2 am 13 k_am 5 rfl).trans hm
    have hp := (f483.2 th 12 k_th 2 rfl).trans hp
    have hg := (f483.2 am 13 k_am 3 rfl).trans hg
    have htC := htC.fr k_rd x483 f483 (by decide +kernel)
    have htM := htM.fr k_am x483 f483 (by decide +kernel)
    have hrc := hrc.fr k_th x483 f483 (by decide +kernel)
    have k_th := x483 _ _ k_th
    have k_am := x483 _ _ k_am
    have k_out := x483 _ _ k_out
    have k_rd := x483 _ _ k_rd
    have hmf := (mdF.rf.xs (c := cn 3) hHo et_ex.rf hxf (fun b j t kb hs ht => by rcases hs with ⟨ea, e2⟩ | ⟨ea, e2⟩ | ⟨ea, e2⟩ <;> first | exact ⟨ea, by have z2_ : cn (2, 3).2 = cn 3 := rfl; omega⟩ | (rw [ea, k_am1] at kb; cases kb; rcases ht with ht | ht <;> cases ht)))
    rcases hQ with ⟨cx2, ev2, ht, z0⟩ | ⟨cx2, r4, ev2, ht, z0⟩ | ⟨cx2, r4, ev2, ht, z0, za_, zb_⟩
    · cases ev2
      have hrm := hrm0.upf k_am1 x483 f483 z0 (by decide +kernel)
      have hbc := rc_upb (k := 3) (v := cn 3) hbc (by omega)
      have hcy := hcy.m0 x483 f483 (by decide +kernel) hmf (hi_ne hrm0.1.1 hrm0.1.2 (by decide))
      show et_go _ _ 1000 486 [some (.ref 150), some (.ref th), some (.ref am), some (.ref out), some (.int (Int32.ofNat i)), some (.int (Int32.ofNat 1)), x6] [.int (Int32.ofNat 0)] _ (ck + c457) (sk + s457) _
      refine ls_istore (i := 6) (p := 488) (by decide +kernel) (Nat.le_of_ble_eq_true rfl) ?_
      refine ls_goto (p := 1663) (by decide +kernel) ?_
      exact hN _ _ c h _ _ _ _ _ _ ⟨⟨hH, hci, k_th, k_am, k_out, h3, k_rd, hl, hm, hc⟩, ⟨hh1, hp, hg⟩, hrc, hrm, hbc, hbi, ⟨hry, hcy, hty, hzy, hky, hcq.le (by first | exact Nat.le_refl _ | exact Nat.le_succ _) (by first | exact Nat.le_refl _ | exact Nat.le_succ _)⟩, _, htC, htM, htb⟩ (by omega) (by omega)
    · exact absurd cx2 cx
    · exact absurd cx2 cx
  · cases ev
    have hrc := hrc0.upf k_th0 x457 f457 q0 w1 (by decide +kernel)
    have hcy := hcy0.c0 hrc0.1.2.2 hHo x457 hxf (fun b j t kb hs => by rcases hs with h | h | h | h | h <;> obtain ⟨h1, h2⟩ := h <;> subst h1 <;> first | (rw [k_th0] at kb; cases kb; exact cyS.r _ (by decide)) | (rw [k_out0] at kb; cases kb; exact cyS.r _ (by decide)) | (rw [hrc0.1.1] at kb; cases kb; exact ⟨fun _ => ⟨rfl, h2⟩, fun h => absurd h (by decide), fun h => absurd h (by decide), by decide, by decide⟩) | (rw [k_la] at kb; cases kb; exact ⟨fun h => absurd h (by decide), fun _ => ⟨g3, h2⟩, fun h => absurd h (by decide), by decide, by decide⟩) | (rw [k_ya] at kb; cases kb; exact ⟨fun h => absurd h (by decide), fun h => absurd h (by decide), fun _ => ⟨g4, h2⟩, by decide, by decide⟩))
    show et_go _ _ 1000 460 [some (.ref 150), some (.ref th), some (.ref am), some (.ref out), some (.int (Int32.ofNat i)), x5, x6] [.int (Int32.ofNat 2)] _ (ck + c457) (sk + s457) _
    refine ls_istore (i := 5) (p := 462) (by decide +kernel) (Nat.le_of_ble_eq_true rfl) ?_
    refine ls_aload (i := 2) (p := 463) (by decide +kernel) rfl ?_
    refine ls_arg (j := 1) (by decide +kernel) (by omega) hn ?_
    refine ls_arg (j := 2) (by decide +kernel) (by omega) hn ?_
    refine ls_bool (by decide +kernel) (fun b475 hb475 hbe475 => ?_)
    refine lt_callv (T := et_TT) (t := 13) (mi := 217) (na := 2) (ci := 11) (lk := 7) (lm := 3) (L0 := eg_en (eg_mL 217) [.ref am, .int (f (i + 1)), .int (Int32.ofNat b475)]) (by decide +kernel) rfl hH k_am rfl rfl rfl rfl rfl (by rw [show eg_mL 217 = 3 from by decide +kernel]; first | done | rfl) ?_
    have hHo := hH
    have k_am1 := k_am
    have hrm0 := hrm
    refine ((er_p217_ok (K457, [], G457) [.ref am, .int (f (i + 1)), .int (Int32.ofNat b475)] _ hH (by omega) rfl (ht_ac (.inr ⟨by decide, _, rfl, k_am⟩) (ht_ac hi_any (ht_ac (hi_nv (by omega) (by omega)) ht_an)))).and (fm_card hH k_am hrm.1.1 hrm.2.1.1 (hrm.2.2 (2, 3) (by decide)).1 b3 (by omega))).mono (fun u hu => ls_cbvQ hu (fun v483 K483 G483 c483 s483 x483 f483 hH hv483 cl483 sl483 hQ => ?_))
    obtain ⟨_, _, eu, -, hxf, hQ⟩ := hQ
    cases eu
    have hcq := hcq.fr x483 hHo f483 (by decide +kernel)
    have hky := hky.fr hHo k_am hrm.1.1 f483 (by decide +kernel)
    have hzy := hzy.fr k_th hrc.1.1 hrc.1.2.1 x483 f483 (by decide +kernel)
    have hty := hty.fr x483 hHo f483 (by decide +kernel)
    have hry := hry.fr hHo x483 f483 (by decide +kernel)
    have hci := hci.fr x483 f483 (by decide +kernel)
    have h3 := (f483.2 th 12 k_th 3 rfl).trans h3
    have hl := (f483.2 rd 7 k_rd 1 rfl).trans hl
    have hm := (f483.2 am 13 k_am 5 rfl).trans hm
    have hp := (f483.2 th 12 k_th 2 rfl).trans hp
    have hg := (f483.2 am 13 k_am 3 rfl).trans hg
    have htC := htC.fr k_rd x483 f483 (by decide +kernel)
    have htM := htM.fr k_am x483 f483 (by decide +kernel)
    have hrc := hrc.fr k_th x483 f483 (by decide +kernel)
    have k_th := x483 _ _ k_th
    have k_am := x483 _ _ k_am
    have k_out := x483 _ _ k_out
    have k_rd := x483 _ _ k_rd
    have hmf := (mdF.rf.xs (c := cn 3) hHo et_ex.rf hxf (fun b j t kb hs ht => by rcases hs with ⟨ea, e2⟩ | ⟨ea, e2⟩ | ⟨ea, e2⟩ <;> first | exact ⟨ea, by have z2_ : cn (2, 3).2 = cn 3 := rfl; omega⟩ | (rw [ea, k_am1] at kb; cases kb; rcases ht with ht | ht <;> cases ht)))
    rcases hQ with ⟨cx2, ev2, ht, z0⟩ | ⟨cx2, r4, ev2, ht, z0⟩ | ⟨cx2, r4, ev2, ht, z0, za_, zb_⟩
    · exact absurd cx cx2
    · cases ev2
      have hrm := hrm0.upf k_am1 x483 f483 z0 (by decide +kernel)
      have hbc := rc_upb (k := 3) (v := cn 3) hbc (by omega)
      have hcy := hcy.m0 x483 f483 (by decide +kernel) hmf (hi_ne hrm0.1.1 hrm0.1.2 (by decide))
      show et_go _ _ 1000 486 [some (.ref 150), some (.ref th), some (.ref am), some (.ref out), some (.int (Int32.ofNat i)), some (.int (Int32.ofNat 2)), x6] [.int (Int32.ofNat 0)] _ (ck + c457) (sk + s457) _
      refine ls_istore (i := 6) (p := 488) (by decide +kernel) (Nat.le_of_ble_eq_true rfl) ?_
      refine ls_goto (p := 1663) (by decide +kernel) ?_
      exact hN _ _ c h _ _ _ _ _ _ ⟨⟨hH, hci, k_th, k_am, k_out, h3, k_rd, hl, hm, hc⟩, ⟨hh1, hp, hg⟩, hrc, hrm, hbc, hbi, ⟨hry, hcy, hty, hzy, hky, hcq.le (by first | exact Nat.le_refl _ | exact Nat.le_succ _) (by first | exact Nat.le_refl _ | exact Nat.le_succ _)⟩, _, htC, htM, htb⟩ (by omega) (by omega)
    · exact absurd c4 (by omega)
  · cases ev
    have hrc := hrc0.upf k_th0 x457 f457 q0 w1 (by decide +kernel)
    have hcyA := hcy0.c1 (x := (f (i + 1))) (y := b448) hrc0.1.2.2 hHo x457 hxf (fun b j t kb hs => by rcases hs with h | h | h | h | h <;> obtain ⟨h1, h2⟩ := h <;> subst h1 <;> first | (rw [k_th0] at kb; cases kb; exact cyS.r _ (by decide)) | (rw [k_out0] at kb; cases kb; exact cyS.r _ (by decide)) | (rw [hrc0.1.1] at kb; cases kb; exact ⟨fun _ => ⟨rfl, h2⟩, fun h => absurd h (by decide), fun h => absurd h (by decide), by decide, by decide⟩) | (rw [k_la] at kb; cases kb; exact ⟨fun h => absurd h (by decide), fun _ => ⟨g3, h2⟩, fun h => absurd h (by decide), by decide, by decide⟩) | (rw [k_ya] at kb; cases kb; exact ⟨fun h => absurd h (by decide), fun h => absurd h (by decide), fun _ => ⟨g4, h2⟩, by decide, by decide⟩)) c4 (by omega) g3 g4 qa_ qb_
    show et_go _ _ 1000 460 [some (.ref 150), some (.ref th), some (.ref am), some (.ref out), some (.int (Int32.ofNat i)), x5, x6] [.int (Int32.ofNat 0)] _ (ck + c457) (sk + s457) _
    refine ls_istore (i := 5) (p := 462) (by decide +kernel) (Nat.le_of_ble_eq_true rfl) ?_
    refine ls_aload (i := 2) (p := 463) (by decide +kernel) rfl ?_
    refine ls_arg (j := 1) (by decide +kernel) (by omega) hn ?_
    refine ls_arg (j := 2) (by decide +kernel) (by omega) hn ?_
    refine ls_bool (by decide +kernel) (fun b475 hb475 hbe475 => ?_)
    refine lt_callv (T := et_TT) (t := 13) (mi := 217) (na := 2) (ci := 11) (lk := 7) (lm := 3) (L0 := eg_en (eg_mL 217) [.ref am, .int (f (i + 1)), .int (Int32.ofNat b475)]) (by decide +kernel) rfl hH k_am rfl rfl rfl rfl rfl (by rw [show eg_mL 217 = 3 from by decide +kernel]; first | done | rfl) ?_
    have hHo := hH
    have k_am1 := k_am
    have hrm0 := hrm
    refine ((er_p217_ok (K457, [], G457) [.ref am, .int (f (i + 1)), .int (Int32.ofNat b475)] _ hH (by omega) rfl (ht_ac (.inr ⟨by decide, _, rfl, k_am⟩) (ht_ac hi_any (ht_ac (hi_nv (by omega) (by omega)) ht_an)))).and (fm_card hH k_am hrm.1.1 hrm.2.1.1 (hrm.2.2 (2, 3) (by decide)).1 b3 (by omega))).mono (fun u hu => ls_cbvQ hu (fun v483 K483 G483 c483 s483 x483 f483 hH hv483 cl483 sl483 hQ => ?_))
    obtain ⟨_, _, eu, -, hxf, hQ⟩ := hQ
    cases eu
    have hcq := hcq.fr x483 hHo f483 (by decide +kernel)
    have hky := hky.fr hHo k_am hrm.1.1 f483 (by decide +kernel)
    have hzy := hzy.fr k_th hrc.1.1 hrc.1.2.1 x483 f483 (by decide +kernel)
    have hty := hty.fr x483 hHo f483 (by decide +kernel)
    have hry := hry.fr hHo x483 f483 (by decide +kernel)
    have hci := hci.fr x483 f483 (by decide +kernel)
    have h3 := (f483.2 th 12 k_th 3 rfl).trans h3
    have hl := (f483.2 rd 7 k_rd 1 rfl).trans hl
    have hm := (f483.2 am 13 k_am 5 rfl).trans hm
    have hp := (f483.2 th 12 k_th 2 rfl).trans hp
    have hg := (f483.2 am 13 k_am 3 rfl).trans hg
    have htC := htC.fr k_rd x483 f483 (by decide +kernel)
    have htM := htM.fr k_am x483 f483 (by decide +kernel)
    have hrc := hrc.fr k_th x483 f483 (by decide +kernel)
    have ho := (f483.2 out 31 k_out 0 rfl).trans ho
    have k_th := x483 _ _ k_th
    have k_am := x483 _ _ k_am
    have k_out := x483 _ _ k_out
    have k_rd := x483 _ _ k_rd
    have hmf := (mdF.rf.xs (c := cn 3) hHo et_ex.rf hxf (fun b j t kb hs ht => by rcases hs with ⟨ea, e2⟩ | ⟨ea, e2⟩ | ⟨ea, e2⟩ <;> first | exact ⟨ea, by have z2_ : cn (2, 3).2 = cn 3 := rfl; omega⟩ | (rw [ea, k_am1] at kb; cases kb; rcases ht with ht | ht <;> cases ht)))
    rcases hQ with ⟨cx2, ev2, ht, z0⟩ | ⟨cx2, r4, ev2, ht, z0⟩ | ⟨cx2, r4, ev2, ht, z0, za_, zb_⟩
    · exact absurd cx cx2
    · exact absurd c4 (by omega)
    · cases ev2
      have hrm := hrm0.upf k_am1 x483 f483 z0 (by decide +kernel)
      have hbc := rc_upb (k := 3) (v := cn 3 + 1) hbc (by omega)
      have hcy := hcyA.m1 x483 f483 (by decide +kernel) hmf (hi_ne hrm0.1.1 hrm0.1.2 (by decide)) za_ (pl_eq (zb_.trans (by have e9 : b448 = b475 := hbe448.trans hbe475.symm; rcases (show b475 = 0 ∨ b475 = 1 by omega) with h | h <;> rw [e9, h] <;> rfl)) (by have z2_ : cn (2, 3).2 = cn 3 := rfl; omega))
      show et_go _ _ 1000 486 [some (.ref 150), some (.ref th), some (.ref am), some (.ref out), some (.int (Int32.ofNat i)), some (.int (Int32.ofNat 0)), x6] [.int (Int32.ofNat (cn 3))] _ (ck + c457) (sk + s457) _
      refine ls_istore (i := 6) (p := 488) (by decide +kernel) (Nat.le_of_ble_eq_true rfl) ?_
      refine ls_goto (p := 1663) (by decide +kernel) ?_
      exact hN _ _ c h _ _ _ _ _ _ ⟨⟨hH, hci, k_th, k_am, k_out, h3, k_rd, hl, hm, hc⟩, ⟨hh1, hp, hg⟩, hrc, hrm, hbc, hbi, ⟨hry, hcy, hty, hzy, hky, hcq.le (by first | exact Nat.le_refl _ | exact Nat.le_succ _) (by first | exact Nat.le_refl _ | exact Nat.le_succ _)⟩, _, htC, htM, htb⟩ (by omega) (by omega)
set_option maxHeartbeats 2000000 in
theorem lw_c8 (hI : lw_I K G th am out rd s0 s1 aw ai tp ba na tm c h cn im) (hi : i + 6 ≤ n) (hn : n ≤ 3072) (hN : ∀ (K' : et_K) (G' : eg_G) (c' h' : Nat) (cn' im' : Nat → Nat) (ck' sk' : Nat) (y5 y6 : Option Value), lw_I K' G' th am out rd s0 s1 aw ai tp ba na tm c' h' cn' im' → ck' ≤ ck + 841 → sk' ≤ sk + 7168 → et_go (some (n, f)) (d + 41) 1000 1663 [some (.ref 150), some (.ref th), some (.ref am), some (.ref out), some (.int (Int32.ofNat i)), y5, y6] [] G' ck' sk' Z) : et_go (some (n, f)) (d + 41) 1000 491 [some (.ref 150), some (.ref th), some (.ref am), some (.ref out), some (.int (Int32.ofNat i)), x5, x6] [] G ck sk Z := by
  obtain ⟨⟨hH, hci, k_th, k_am, k_out, h3, k_rd, hl, hm, hc⟩, ⟨hh1, hp, hg⟩, hrc, hrm, hbc, hbi, ⟨hry, hcy, hty, hzy, hky, hcq⟩, tb, htC, htM, htb⟩ := hI
  refine ls_aload (i := 1) (p := 492) (by decide +kernel) rfl ?_
  refine ls_arg (j := 1) (by decide +kernel) (by omega) hn ?_
  refine ls_arg (j := 2) (by decide +kernel) (by omega) hn ?_
  refine ls_aload (i := 3) (p := 505) (by decide +kernel) rfl ?_
  refine ls_calls (mi := 5) (na := 4) (lk := 7) (lm := 5) (L0 := eg_en (eg_mL 5) [.ref th, .int (f (i + 1)), .int (f (i + 2)), .ref out]) (by decide +kernel) rfl rfl rfl rfl rfl rfl (by rw [show eg_mL 5 = 5 from by decide +kernel]; first | done | rfl) ?_
  have hHo := hH
  obtain ⟨t0, t1, ra0, ca0, rc0, ec0, cc0, ra1, ca1, rc1, ec1, cc1, hC⟩ := id hci
  obtain rfl : s0 = t0 := Value.ref.inj (Option.some.inj (hrc.2.1.1.symm.trans hC.2.1.1))
  obtain rfl : s1 = t1 := Value.ref.inj (Option.some.inj (hrc.2.1.2.symm.trans hC.2.1.2))
  have ee0 : ec0 = cn 4 := xi_inj (by have := hC.2.2.2.1.2.2.2.1.2.1; omega) (by have := hbc 4; omega) (hC.2.2.2.1.2.2.1.2.1.symm.trans (hrc.2.2 (5, 4) (by decide)).1)
  have ee1 : ec1 = im 4 := xi_inj (by have := hC.2.2.2.2.2.2.2.1.2.1; omega) (by have := hbi 4; omega) (hC.2.2.2.2.2.2.1.2.1.symm.trans (hrc.2.2 (5, 4) (by decide)).2)
  have er0 : rc0 = cn 0 := xi_inj (by have := hC.2.2.2.1.2.2.2.1.1; omega) (by have := hbc 0; omega) (hC.2.2.2.1.2.2.1.1.symm.trans (hrc.2.2 (0, 0) (by decide)).1)
  have b0 : cn 0 ≤ 4 := Int.ofNat_le.mp (hf_bd (t := 10) hH hrc.1.1 rfl rfl (hrc.2.2 (0, 0) (by decide)).1 (hbc 0))
  have b3 : cn 3 ≤ 20 := Int.ofNat_le.mp (hf_bd (t := 10) hH hrc.1.1 rfl rfl (hrc.2.2 (2, 3) (by decide)).1 (hbc 3))
  have hH0 := hH
  have k_th0 := k_th
  have k_out0 := k_out
  have k_rd0 := k_rd
  have k_am0 := k_am
  have hrc0 := hrc
  have hrm0 := hrm
  obtain ⟨la, g3, k_la⟩ := hf_ref (t := 10) (f := 3) (u := 17) hH hrc.1.1 rfl rfl (.inr trivial)
  obtain ⟨ya, g4, k_ya⟩ := hf_ref (t := 10) (f := 4) (u := 27) hH hrc.1.1 rfl rfl (.inr trivial)
  have hcy0 := hcy
  have hry0 := hry
  have hru : ∀ i, i < cn 0 → ∃ q, et_pl (eg_at G ra0) i = some (.ref q) := fun i hi => hC.2.2.2.1.2.2.2.2.1 i (by rw [er0]; exact hi)
  obtain ⟨D_, φ_, R0_, R1_, r0_, r1_, fo_, t_, kk_, hx_, ho_⟩ := hry
  have k_fo_ := t_.2.2.2.2
  have hR_ := fun (k : Nat) (hk : k < cn 0) => And.intro (ho_.2.1 k hk).1 (ho_.2.1 k hk).2.1
  refine ((hh_c5 (K, [], G) [.ref th, .int (f (i + 1)), .int (f (i + 2)), .ref out] _ hH (by omega) rfl (ht_ac (.inr ⟨by decide, _, rfl, k_th⟩) (ht_ac hi_any (ht_ac hi_any (ht_ac (.inr ⟨by decide, _, rfl, k_out⟩) ht_an))))).and ((fh_made hH k_th hrc.2.1.1 hrc.1.1 hrc.1.2.1 hrc.1.2.2 (hrc.2.2 (0, 0) (by decide)).1 b0 hC.2.2.2.1.2.1.1 hC.2.2.2.1.1.2.1 hru (hrc.2.2 (2, 3) (by decide)).1 b3 g3 k_la g4 k_ya (hrc.2.2 (2, 3) (by decide)).2 k_out (by omega)).and (fh_madeY (R0 := R0_) t_ hH hx_ hR_ (hrc.2.2 (2, 3) (by decide)).1 b3 g3 k_la g4 k_ya k_out (by omega)))).mono (fun u hu => ls_cbvQ (Q := fun u => xh_Z _ _ _ u ∧ (xf _ _ u.2.1 ∧ mdC _ _ _ _ _ _ _ u.2.1)) hu (fun v505 K505 G505 c505 s505 x505 f505 hH hv505 cl505 sl505 hQ => ?_))
  obtain ⟨⟨_, _, _, _, _, eu, -, -, hQ, w1⟩, hxf, hmd⟩ := hQ
  cases eu
  have hry : ry K505 G505 th s0 s1 aw ai (cn 0) (im 0) := ⟨D_, φ_, R0_, R1_, r0_, r1_, fo_, t_.ex x505, kk_.ex x505, hx_.fr t_ hHo f505 (by decide +kernel), ho_.fr kk_ f505 (by decide +kernel)⟩
  have hT_ := fun (k : Nat) (hk : k < cn 0) => ((ho_.fr kk_ f505 (by decide +kernel)).2.1 k hk).2.2
  have hcq := hcq.fr x505 hHo f505 (by decide +kernel)
  have hky := hky.fr hHo k_am hrm.1.1 f505 (by decide +kernel)
  have hzy := hzy.fr k_th hrc.1.1 hrc.1.2.1 x505 f505 (by decide +kernel)
  have hty := hty.fr x505 hHo f505 (by decide +kernel)
  have hci := hci.fr x505 f505 (by decide +kernel)
  have h3 := (f505.2 th 12 k_th 3 rfl).trans h3
  have hl := (f505.2 rd 7 k_rd 1 rfl).trans hl
  have hm := (f505.2 am 13 k_am 5 rfl).trans hm
  have hp := (f505.2 th 12 k_th 2 rfl).trans hp
  have hg := (f505.2 am 13 k_am 3 rfl).trans hg
  have htC := htC.fr k_rd x505 f505 (by decide +kernel)
  have htM := htM.fr k_am x505 f505 (by decide +kernel)
  have hrm := hrm.fr k_am x505 f505 (by decide +kernel)
  have k_th := x505 _ _ k_th
  have k_am := x505 _ _ k_am
  have k_out := x505 _ _ k_out
  have k_rd := x505 _ _ k_rd
  rcases hQ with ⟨cx, ev, q0⟩ | ⟨cx, cy, ev, q0⟩ | ⟨cx, cy, c4, ev, q0⟩ | ⟨cx, cy, c4, ev, ho, q0⟩
  · cases ev
    have hrc := hrc0.upf k_th0 x505 f505 q0 w1 (by decide +kernel)
    have hcy := hcy0.c0 hrc0.1.2.2 hHo x505 hxf (fun b j t kb hs => by rcases hs with h | h | h | h | h | h <;> obtain ⟨h1, h2⟩ := h <;> subst h1 <;> first | (rw [k_th0] at kb; cases kb; exact cyS.r _ (by decide)) | (rw [k_out0] at kb; cases kb; exact cyS.r _ (by decide)) | (rw [k_fo_] at kb; cases kb; exact cyS.r _ (by decide)) | (rw [hrc0.1.1] at kb; cases kb; exact ⟨fun _ => ⟨rfl, h2⟩, fun h => absurd h (by decide), fun h => absurd h (by decide), by decide, by decide⟩) | (rw [k_la] at kb; cases kb; exact ⟨fun h => absurd h (by decide), fun _ => ⟨g3, h2⟩, fun h => absurd h (by decide), by decide, by decide⟩) | (rw [k_ya] at kb; cases kb; exact ⟨fun h => absurd h (by decide), fun h => absurd h (by decide), fun _ => ⟨g4, h2⟩, by decide, by decide⟩))
    show et_go _ _ 1000 508 [some (.ref 150), some (.ref th), some (.ref am), some (.ref out), some (.int (Int32.ofNat i)), x5, x6] [.int (Int32.ofNat 1)] _ (ck + c505) (sk + s505) _
    refine ls_istore (i := 5) (p := 510) (by decide +kernel) (Nat.le_of_ble_eq_true rfl) ?_
    refine ls_aload (i := 2) (p := 511) (by decide +kernel) rfl ?_
    refine ls_arg (j := 1) (by decide +kernel) (by omega) hn ?_
    refine ls_arg (j := 2) (by decide +kernel) (by omega) hn ?_
    refine lt_callv (T := et_TT) (t := 13) (mi := 220) (na := 2) (ci := 11) (lk := 7) (lm := 3) (L0 := eg_en (eg_mL 220) [.ref am, .int (f (i + 1)), .int (f (i + 2))]) (by decide +kernel) rfl hH k_am rfl rfl rfl rfl rfl (by rw [show eg_mL 220 = 3 from by decide +kernel]; first | done | rfl) ?_
    have hHo := hH
    have k_am1 := k_am
    have hrm0 := hrm
    refine ((er_p220_ok (K505, [], G505) [.ref am, .int (f (i + 1)), .int (f (i + 2))] _ hH (by omega) rfl (ht_ac (.inr ⟨by decide, _, rfl, k_am⟩) (ht_ac hi_any (ht_ac hi_any ht_an)))).and ((fm_made hH k_am hrm.1.1 hrm.2.1.1 (hrm.2.2 (2, 3) (by decide)).1 b3 (hrm.2.2 (0, 0) (by decide)).1 b0 (by omega)).and (fm_madeY (g := fun n => φ_ (R0_ n)) hH k_am hrm.1.1 hrm.2.1.1 (hrm.2.2 (2, 3) (by decide)).1 b3 (hrm.2.2 (0, 0) (by decide)).1 b0 hT_ (by omega)))).mono (fun u hu => ls_cbvQ (Q := fun u => mdZ _ _ _ _ _ _ u ∧ (mdF _ _ _ _ u.2.1 ∧ mdM _ _ _ _ _ _ u.2.1)) hu (fun v523 K523 G523 c523 s523 x523 f523 hH hv523 cl523 sl523 hQ => ?_))
    obtain ⟨⟨w_, eu, hQ⟩, hmf, hmd2⟩ := hQ
    cases eu
    have hcq := hcq.fr x523 hHo f523 (by decide +kernel)
    have hky := hky.fr hHo k_am hrm.1.1 f523 (by decide +kernel)
    have hzy := hzy.fr k_th hrc.1.1 hrc.1.2.1 x523 f523 (by decide +kernel)
    have hty := hty.fr x523 hHo f523 (by decide +kernel)
    have hry := hry.fr hHo x523 f523 (by decide +kernel)
    have hci := hci.fr x523 f523 (by decide +kernel)
    have h3 := (f523.2 th 12 k_th 3 rfl).trans h3
    have hl := (f523.2 rd 7 k_rd 1 rfl).trans hl
    have hm := (f523.2 am 13 k_am 5 rfl).trans hm
    have hp := (f523.2 th 12 k_th 2 rfl).trans hp
    have hg := (f523.2 am 13 k_am 3 rfl).trans hg
    have htC := htC.fr k_rd x523 f523 (by decide +kernel)
    have htM := htM.fr k_am x523 f523 (by decide +kernel)
    have hrc := hrc.fr k_th x523 f523 (by decide +kernel)
    have k_th := x523 _ _ k_th
    have k_am := x523 _ _ k_am
    have k_out := x523 _ _ k_out
    have k_rd := x523 _ _ k_rd
    rcases hQ with ⟨cx2, ht, z0⟩ | ⟨cx2, cy2, ht, z0⟩ | ⟨cx2, cy2, r4, ht, z0⟩ | ⟨cx2, cy2, r4, ev2, ht, z0⟩
    · have hrm := hrm0.upf k_am1 x523 f523 z0 (by decide +kernel)
      have hbc := rc_upb (k := 3) (v := cn 3) hbc (by omega)
      have hcy := hcy.m0 x523 f523 (by decide +kernel) hmf (hi_ne hrm0.1.1 hrm0.1.2 (by decide))
      show et_go _ _ 1000 526 [some (.ref 150), some (.ref th), some (.ref am), some (.ref out), some (.int (Int32.ofNat i)), some (.int (Int32.ofNat 1)), x6] [.int w_] _ ((ck + c505) + c523) ((sk + s505) + s523) _
      refine ls_istore (i := 6) (p := 528) (by decide +kernel) (Nat.le_of_ble_eq_true rfl) ?_
      refine ls_goto (p := 1663) (by decide +kernel) ?_
      exact hN _ _ c h _ _ _ _ _ _ ⟨⟨hH, hci, k_th, k_am, k_out, h3, k_rd, hl, hm, hc⟩, ⟨hh1, hp, hg⟩, hrc, hrm, hbc, hbi, ⟨hry, hcy, hty, hzy, hky, hcq.le (by first | exact Nat.le_refl _ | exact Nat.le_succ _) (by first | exact Nat.le_refl _ | exact Nat.le_succ _)⟩, _, htC, htM, htb⟩ (by omega) (by omega)
    · exact absurd cx2 cx
    · exact absurd cx2 cx
    · exact absurd cx2 cx
  · cases ev
    have hrc := hrc0.upf k_th0 x505 f505 q0 w1 (by decide +kernel)
    have hcy := hcy0.c0 hrc0.1.2.2 hHo x505 hxf (fun b j t kb hs => by rcases hs with h | h | h | h | h | h <;> obtain ⟨h1, h2⟩ := h <;> subst h1 <;> first | (rw [k_th0] at kb; cases kb; exact cyS.r _ (by decide)) | (rw [k_out0] at kb; cases kb; exact cyS.r _ (by decide)) | (rw [k_fo_] at kb; cases kb; exact cyS.r _ (by decide)) | (rw [hrc0.1.1] at kb; cases kb; exact ⟨fun _ => ⟨rfl, h2⟩, fun h => absurd h (by decide), fun h => absurd h (by decide), by decide, by decide⟩) | (rw [k_la] at kb; cases kb; exact ⟨fun h => absurd h (by decide), fun _ => ⟨g3, h2⟩, fun h => absurd h (by decide), by decide, by decide⟩) | (rw [k_ya] at kb; cases kb; exact ⟨fun h => absurd h (by decide), fun h => absurd h (by decide), fun _ => ⟨g4, h2⟩, by decide, by decide⟩))
    show et_go _ _ 1000 508 [some (.ref 150), some (.ref th), some (.ref am), some (.ref out), some (.int (Int32.ofNat i)), x5, x6] [.int (Int32.ofNat 2)] _ (ck + c505) (sk + s505) _
    refine ls_istore (i := 5) (p := 510) (by decide +kernel) (Nat.le_of_ble_eq_true rfl) ?_
    refine ls_aload (i := 2) (p := 511) (by decide +kernel) rfl ?_
    refine ls_arg (j := 1) (by decide +kernel) (by omega) hn ?_
    refine ls_arg (j := 2) (by decide +kernel) (by omega) hn ?_
    refine lt_callv (T := et_TT) (t := 13) (mi := 220) (na := 2) (ci := 11) (lk := 7) (lm := 3) (L0 := eg_en (eg_mL 220) [.ref am, .int (f (i + 1)), .int (f (i + 2))]) (by decide +kernel) rfl hH k_am rfl rfl rfl rfl rfl (by rw [show eg_mL 220 = 3 from by decide +kernel]; first | done | rfl) ?_
    have hHo := hH
    have k_am1 := k_am
    have hrm0 := hrm
    refine ((er_p220_ok (K505, [], G505) [.ref am, .int (f (i + 1)), .int (f (i + 2))] _ hH (by omega) rfl (ht_ac (.inr ⟨by decide, _, rfl, k_am⟩) (ht_ac hi_any (ht_ac hi_any ht_an)))).and ((fm_made hH k_am hrm.1.1 hrm.2.1.1 (hrm.2.2 (2, 3) (by decide)).1 b3 (hrm.2.2 (0, 0) (by decide)).1 b0 (by omega)).and (fm_madeY (g := fun n => φ_ (R0_ n)) hH k_am hrm.1.1 hrm.2.1.1 (hrm.2.2 (2, 3) (by decide)).1 b3 (hrm.2.2 (0, 0) (by decide)).1 b0 hT_ (by omega)))).mono (fun u hu => ls_cbvQ (Q := fun u => mdZ _ _ _ _ _ _ u ∧ (mdF _ _ _ _ u.2.1 ∧ mdM _ _ _ _ _ _ u.2.1)) hu (fun v523 K523 G523 c523 s523 x523 f523 hH hv523 cl523 sl523 hQ => ?_))
    obtain ⟨⟨w_, eu, hQ⟩, hmf, hmd2⟩ := hQ
    cases eu
    have hcq := hcq.fr x523 hHo f523 (by decide +kernel)
    have hky := hky.fr hHo k_am hrm.1.1 f523 (by decide +kernel)
    have hzy := hzy.fr k_th hrc.1.1 hrc.1.2.1 x523 f523 (by decide +kernel)
    have hty := hty.fr x523 hHo f523 (by decide +kernel)
    have hry := hry.fr hHo x523 f523 (by decide +kernel)
    have hci := hci.fr x523 f523 (by decide +kernel)
    have h3 := (f523.2 th 12 k_th 3 rfl).trans h3
    have hl := (f523.2 rd 7 k_rd 1 rfl).trans hl
    have hm := (f523.2 am 13 k_am 5 rfl).trans hm
    have hp := (f523.2 th 12 k_th 2 rfl).trans hp
    have hg := (f523.2 am 13 k_am 3 rfl).trans hg
    have htC := htC.fr k_rd x523 f523 (by decide +kernel)
    have htM := htM.fr k_am x523 f523 (by decide +kernel)
    have hrc := hrc.fr k_th x523 f523 (by decide +kernel)
    have k_th := x523 _ _ k_th
    have k_am := x523 _ _ k_am
    have k_out := x523 _ _ k_out
    have k_rd := x523 _ _ k_rd
    rcases hQ with ⟨cx2, ht, z0⟩ | ⟨cx2, cy2, ht, z0⟩ | ⟨cx2, cy2, r4, ht, z0⟩ | ⟨cx2, cy2, r4, ev2, ht, z0⟩
    · exact absurd cx cx2
    · have hrm := hrm0.upf k_am1 x523 f523 z0 (by decide +kernel)
      have hbc := rc_upb (k := 3) (v := cn 3) hbc (by omega)
      have hcy := hcy.m0 x523 f523 (by decide +kernel) hmf (hi_ne hrm0.1.1 hrm0.1.2 (by decide))
      show et_go _ _ 1000 526 [some (.ref 150), some (.ref th), some (.ref am), some (.ref out), some (.int (Int32.ofNat i)), some (.int (Int32.ofNat 2)), x6] [.int w_] _ ((ck + c505) + c523) ((sk + s505) + s523) _
      refine ls_istore (i := 6) (p := 528) (by decide +kernel) (Nat.le_of_ble_eq_true rfl) ?_
      refine ls_goto (p := 1663) (by decide +kernel) ?_
      exact hN _ _ c h _ _ _ _ _ _ ⟨⟨hH, hci, k_th, k_am, k_out, h3, k_rd, hl, hm, hc⟩, ⟨hh1, hp, hg⟩, hrc, hrm, hbc, hbi, ⟨hry, hcy, hty, hzy, hky, hcq.le (by first | exact Nat.le_refl _ | exact Nat.le_succ _) (by first | exact Nat.le_refl _ | exact Nat.le_succ _)⟩, _, htC, htM, htb⟩ (by omega) (by omega)
    · exact absurd cy2 cy
    · exact absurd cy2 cy
  · cases ev
    have hrc := hrc0.upf k_th0 x505 f505 q0 w1 (by decide +kernel)
    have hcy := hcy0.c0 hrc0.1.2.2 hHo x505 hxf (fun b j t kb hs => by rcases hs with h | h | h | h | h | h <;> obtain ⟨h1, h2⟩ := h <;> subst h1 <;> first | (rw [k_th0] at kb; cases kb; exact cyS.r _ (by decide)) | (rw [k_out0] at kb; cases kb; exact cyS.r _ (by decide)) | (rw [k_fo_] at kb; cases kb; exact cyS.r _ (by decide)) | (rw [hrc0.1.1] at kb; cases kb; exact ⟨fun _ => ⟨rfl, h2⟩, fun h => absurd h (by decide), fun h => absurd h (by decide), by decide, by decide⟩) | (rw [k_la] at kb; cases kb; exact ⟨fun h => absurd h (by decide), fun _ => ⟨g3, h2⟩, fun h => absurd h (by decide), by decide, by decide⟩) | (rw [k_ya] at kb; cases kb; exact ⟨fun h => absurd h (by decide), fun h => absurd h (by decide), fun _ => ⟨g4, h2⟩, by decide, by decide⟩))
    show et_go _ _ 1000 508 [some (.ref 150), some (.ref th), some (.ref am), some (.ref out), some (.int (Int32.ofNat i)), x5, x6] [.int (Int32.ofNat 3)] _ (ck + c505) (sk + s505) _
    refine ls_istore (i := 5) (p := 510) (by decide +kernel) (Nat.le_of_ble_eq_true rfl) ?_
    refine ls_aload (i := 2) (p := 511) (by decide +kernel) rfl ?_
    refine ls_arg (j := 1) (by decide +kernel) (by omega) hn ?_
    refine ls_arg (j := 2) (by decide +kernel) (by omega) hn ?_
    refine lt_callv (T := et_TT) (t := 13) (mi := 220) (na := 2) (ci := 11) (lk := 7) (lm := 3) (L0 := eg_en (eg_mL 220) [.ref am, .int (f (i + 1)), .int (f (i + 2))]) (by decide +kernel) rfl hH k_am rfl rfl rfl rfl rfl (by rw [show eg_mL 220 = 3 from by decide +kernel]; first | done | rfl) ?_
    have hHo := hH
    have k_am1 := k_am
    have hrm0 := hrm
    refine ((er_p220_ok (K505, [], G505) [.ref am, .int (f (i + 1)), .int (f (i + 2))] _ hH (by omega) rfl (ht_ac (.inr ⟨by decide, _, rfl, k_am⟩) (ht_ac hi_any (ht_ac hi_any ht_an)))).and ((fm_made hH k_am hrm.1.1 hrm.2.1.1 (hrm.2.2 (2, 3) (by decide)).1 b3 (hrm.2.2 (0, 0) (by decide)).1 b0 (by omega)).and (fm_madeY (g := fun n => φ_ (R0_ n)) hH k_am hrm.1.1 hrm.2.1.1 (hrm.2.2 (2, 3) (by decide)).1 b3 (hrm.2.2 (0, 0) (by decide)).1 b0 hT_ (by omega)))).mono (fun u hu => ls_cbvQ (Q := fun u => mdZ _ _ _ _ _ _ u ∧ (mdF _ _ _ _ u.2.1 ∧ mdM _ _ _ _ _ _ u.2.1)) hu (fun v523 K523 G523 c523 s523 x523 f523 hH hv523 cl523 sl523 hQ => ?_))
    obtain ⟨⟨w_, eu, hQ⟩, hmf, hmd2⟩ := hQ
    cases eu
    have hcq := hcq.fr x523 hHo f523 (by decide +kernel)
    have hky := hky.fr hHo k_am hrm.1.1 f523 (by decide +kernel)
    have hzy := hzy.fr k_th hrc.1.1 hrc.1.2.1 x523 f523 (by decide +kernel)
    have hty := hty.fr x523 hHo f523 (by decide +kernel)
    have hry := hry.fr hHo x523 f523 (by decide +kernel)
    have hci := hci.fr x523 f523 (by decide +kernel)
    have h3 := (f523.2 th 12 k_th 3 rfl).trans h3
    have hl := (f523.2 rd 7 k_rd 1 rfl).trans hl
    have hm := (f523.2 am 13 k_am 5 rfl).trans hm
    have hp := (f523.2 th 12 k_th 2 rfl).trans hp
    have hg := (f523.2 am 13 k_am 3 rfl).trans hg
    have htC := htC.fr k_rd x523 f523 (by decide +kernel)
    have htM := htM.fr k_am x523 f523 (by decide +kernel)
    have hrc := hrc.fr k_th x523 f523 (by decide +kernel)
    have k_th := x523 _ _ k_th
    have k_am := x523 _ _ k_am
    have k_out := x523 _ _ k_out
    have k_rd := x523 _ _ k_rd
    rcases hQ with ⟨cx2, ht, z0⟩ | ⟨cx2, cy2, ht, z0⟩ | ⟨cx2, cy2, r4, ht, z0⟩ | ⟨cx2, cy2, r4, ev2, ht, z0⟩
    · exact absurd cx cx2
    · exact absurd cy cy2
    · have hrm := hrm0.upf k_am1 x523 f523 z0 (by decide +kernel)
      have hbc := rc_upb (k := 3) (v := cn 3) hbc (by omega)
      have hcy := hcy.m0 x523 f523 (by decide +kernel) hmf (hi_ne hrm0.1.1 hrm0.1.2 (by decide))
      show et_go _ _ 1000 526 [some (.ref 150), some (.ref th), some (.ref am), some (.ref out), some (.int (Int32.ofNat i)), some (.int (Int32.ofNat 3)), x6] [.int w_] _ ((ck + c505) + c523) ((sk + s505) + s523) _
      refine ls_istore (i := 6) (p := 528) (by decide +kernel) (Nat.le_of_ble_eq_true rfl) ?_
      refine ls_goto (p := 1663) (by decide +kernel) ?_
      exact hN _ _ c h _ _ _ _ _ _ ⟨⟨hH, hci, k_th, k_am, k_out, h3, k_rd, hl, hm, hc⟩, ⟨hh1, hp, hg⟩, hrc, hrm, hbc, hbi, ⟨hry, hcy, hty, hzy, hky, hcq.le (by first | exact Nat.le_refl _ | exact Nat.le_succ _) (by first | exact Nat.le_refl _ | exact Nat.le_succ _)⟩, _, htC, htM, htb⟩ (by omega) (by omega)
    · exact absurd c4 (by omega)
  · cases ev
    have hrc := hrc0.upf k_th0 x505 f505 q0 w1 (by decide +kernel)
    obtain ⟨n0, hn0, cn0⟩ : ∃ n0, n0 < cn 0 ∧ (f (i + 2)) = Int32.ofNat n0 := ⟨((f (i + 2))).toInt.toNat, by have z0_ : cn (0, 0).2 = cn 0 := rfl; have := cx.1; have := cx.2; omega, hi_of (by have := cx.1; omega) (by have z0_ : cn (0, 0).2 = cn 0 := rfl; have := cx.1; have := cx.2; omega)⟩
    have hmd := hmd n0 cn0 hn0 cy c4
    have hcyA := hcy0.c1 (x := (f (i + 1))) (y := if φ_ (R0_ n0) (feE (fun _ => (f (i + 1)))) = true then 1 else 0) hrc0.1.2.2 hHo x505 hxf (fun b j t kb hs => by rcases hs with h | h | h | h | h | h <;> obtain ⟨h1, h2⟩ := h <;> subst h1 <;> first | (rw [k_th0] at kb; cases kb; exact cyS.r _ (by decide)) | (rw [k_out0] at kb; cases kb; exact cyS.r _ (by decide)) | (rw [k_fo_] at kb; cases kb; exact cyS.r _ (by decide)) | (rw [hrc0.1.1] at kb; cases kb; exact ⟨fun _ => ⟨rfl, h2⟩, fun h => absurd h (by decide), fun h => absurd h (by decide), by decide, by decide⟩) | (rw [k_la] at kb; cases kb; exact ⟨fun h => absurd h (by decide), fun _ => ⟨g3, h2⟩, fun h => absurd h (by decide), by decide, by decide⟩) | (rw [k_ya] at kb; cases kb; exact ⟨fun h => absurd h (by decide), fun h => absurd h (by decide), fun _ => ⟨g4, h2⟩, by decide, by decide⟩)) c4 (by split <;> decide) g3 g4 hmd.1 hmd.2
    show et_go _ _ 1000 508 [some (.ref 150), some (.ref th), some (.ref am), some (.ref out), some (.int (Int32.ofNat i)), x5, x6] [.int (Int32.ofNat 0)] _ (ck + c505) (sk + s505) _
    refine ls_istore (i := 5) (p := 510) (by decide +kernel) (Nat.le_of_ble_eq_true rfl) ?_
    refine ls_aload (i := 2) (p := 511) (by decide +kernel) rfl ?_
    refine ls_arg (j := 1) (by decide +kernel) (by omega) hn ?_
    refine ls_arg (j := 2) (by decide +kernel) (by omega) hn ?_
    refine lt_callv (T := et_TT) (t := 13) (mi := 220) (na := 2) (ci := 11) (lk := 7) (lm := 3) (L0 := eg_en (eg_mL 220) [.ref am, .int (f (i + 1)), .int (f (i + 2))]) (by decide +kernel) rfl hH k_am rfl rfl rfl rfl rfl (by rw [show eg_mL 220 = 3 from by decide +kernel]; first | done | rfl) ?_
    have hHo := hH
    have k_am1 := k_am
    have hrm0 := hrm
    refine ((er_p220_ok (K505, [], G505) [.ref am, .int (f (i + 1)), .int (f (i + 2))] _ hH (by omega) rfl (ht_ac (.inr ⟨by decide, _, rfl, k_am⟩) (ht_ac hi_any (ht_ac hi_any ht_an)))).and ((fm_made hH k_am hrm.1.1 hrm.2.1.1 (hrm.2.2 (2, 3) (by decide)).1 b3 (hrm.2.2 (0, 0) (by decide)).1 b0 (by omega)).and (fm_madeY (g := fun n => φ_ (R0_ n)) hH k_am hrm.1.1 hrm.2.1.1 (hrm.2.2 (2, 3) (by decide)).1 b3 (hrm.2.2 (0, 0) (by decide)).1 b0 hT_ (by omega)))).mono (fun u hu => ls_cbvQ (Q := fun u => mdZ _ _ _ _ _ _ u ∧ (mdF _ _ _ _ u.2.1 ∧ mdM _ _ _ _ _ _ u.2.1)) hu (fun v523 K523 G523 c523 s523 x523 f523 hH hv523 cl523 sl523 hQ => ?_))
    obtain ⟨⟨w_, eu, hQ⟩, hmf, hmd2⟩ := hQ
    cases eu
    have hcq := hcq.fr x523 hHo f523 (by decide +kernel)
    have hky := hky.fr hHo k_am hrm.1.1 f523 (by decide +kernel)
    have hzy := hzy.fr k_th hrc.1.1 hrc.1.2.1 x523 f523 (by decide +kernel)
    have hty := hty.fr x523 hHo f523 (by decide +kernel)
    have hry := hry.fr hHo x523 f523 (by decide +kernel)
    have hci := hci.fr x523 f523 (by decide +kernel)
    have h3 := (f523.2 th 12 k_th 3 rfl).trans h3
    have hl := (f523.2 rd 7 k_rd 1 rfl).trans hl
    have hm := (f523.2 am 13 k_am 5 rfl).trans hm
    have hp := (f523.2 th 12 k_th 2 rfl).trans hp
    have hg := (f523.2 am 13 k_am 3 rfl).trans hg
    have htC := htC.fr k_rd x523 f523 (by decide +kernel)
    have htM := htM.fr k_am x523 f523 (by decide +kernel)
    have hrc := hrc.fr k_th x523 f523 (by decide +kernel)
    have ho := (f523.2 out 31 k_out 0 rfl).trans ho
    have k_th := x523 _ _ k_th
    have k_am := x523 _ _ k_am
    have k_out := x523 _ _ k_out
    have k_rd := x523 _ _ k_rd
    rcases hQ with ⟨cx2, ht, z0⟩ | ⟨cx2, cy2, ht, z0⟩ | ⟨cx2, cy2, r4, ht, z0⟩ | ⟨cx2, cy2, r4, ev2, ht, z0⟩
    · exact absurd cx cx2
    · exact absurd cy cy2
    · exact absurd c4 (by omega)
    · cases ev2
      have hrm := hrm0.upf k_am1 x523 f523 z0 (by decide +kernel)
      have hbc := rc_upb (k := 3) (v := cn 3 + 1) hbc (by omega)
      have hmd2 := hmd2 n0 cn0 hn0 cy c4
      have hcy := hcyA.m1 x523 f523 (by decide +kernel) hmf (hi_ne hrm0.1.1 hrm0.1.2 (by decide)) hmd2.1 hmd2.2
      show et_go _ _ 1000 526 [some (.ref 150), some (.ref th), some (.ref am), some (.ref out), some (.int (Int32.ofNat i)), some (.int (Int32.ofNat 0)), x6] [.int (Int32.ofNat (cn 3))] _ ((ck + c505) + c523) ((sk + s505) + s523) _
      refine ls_istore (i := 6) (p := 528) (by decide +kernel) (Nat.le_of_ble_eq_true rfl) ?_
      refine ls_goto (p := 1663) (by decide +kernel) ?_
      exact hN _ _ c h _ _ _ _ _ _ ⟨⟨hH, hci, k_th, k_am, k_out, h3, k_rd, hl, hm, hc⟩, ⟨hh1, hp, hg⟩, hrc, hrm, hbc, hbi, ⟨hry, hcy, hty, hzy, hky, hcq.le (by first | exact Nat.le_refl _ | exact Nat.le_succ _) (by first | exact Nat.le_refl _ | exact Nat.le_succ _)⟩, _, htC, htM, htb⟩ (by omega) (by omega)
set_option maxHeartbeats 2000000 in
theorem lw_c9 (hI : lw_I K G th am out rd s0 s1 aw ai tp ba na tm c h cn im) (hi : i + 6 ≤ n) (hn : n ≤ 3072) (hN : ∀ (K' : et_K) (G' : eg_G) (c' h' : Nat) (cn' im' : Nat → Nat) (ck' sk' : Nat) (y5 y6 : Option Value), lw_I K' G' th am out rd s0 s1 aw ai tp ba na tm c' h' cn' im' → ck' ≤ ck + 841 → sk' ≤ sk + 7168 → et_go (some (n, f)) (d + 41) 1000 1663 [some (.ref 150), some (.ref th), some (.ref am), some (.ref out), some (.int (Int32.ofNat i)), y5, y6] [] G' ck' sk' Z) : et_go (some (n, f)) (d + 41) 1000 531 [some (.ref 150), some (.ref th), some (.ref am), some (.ref out), some (.int (Int32.ofNat i)), x5, x6] [] G ck sk Z := by
  obtain ⟨⟨hH, hci, k_th, k_am, k_out, h3, k_rd, hl, hm, hc⟩, ⟨hh1, hp, hg⟩, hrc, hrm, hbc, hbi, ⟨hry, hcy, hty, hzy, hky, hcq⟩, tb, htC, htM, htb⟩ := hI
  refine ls_aload (i := 1) (p := 532) (by decide +kernel) rfl ?_
  refine lt_callv (T := et_TT) (t := 12) (mi := 119) (na := 0) (ci := 10) (lk := 7) (lm := 1) (L0 := eg_en (eg_mL 119) [.ref th]) (by decide +kernel) rfl hH k_th rfl rfl rfl rfl rfl (by rw [show eg_mL 119 = 1 from by decide +kernel]; first | done | rfl) ?_
  have hHo := hH
  have b3 : cn 3 ≤ 20 := Int.ofNat_le.mp (hf_bd (t := 10) hH hrc.1.1 rfl rfl (hrc.2.2 (2, 3) (by decide)).1 (hbc 3))
  have hH0 := hH
  have k_th0 := k_th
  have k_out0 := k_out
  have k_rd0 := k_rd
  have k_am0 := k_am
  have hrc0 := hrc
  have hrm0 := hrm
  refine ((ek_p119_ok (K, [], G) [.ref th] _ hH (by omega) rfl (ht_ac (.inr ⟨by decide, _, rfl, k_th⟩) ht_an)).and (fc_away hH k_th hrc.2.1.1 hrc.1.1 (hrc.2.2 (2, 3) (by decide)).1 b3)).mono (fun u hu => ls_cbvQ hu (fun v532 K532 G532 c532 s532 x532 f532 hH hv532 cl532 sl532 hQ => ?_))
  obtain ⟨_, _, eu, -, hxf, hQ⟩ := hQ
  cases eu
  have hcq := hcq.fr x532 hHo f532 (by decide +kernel)
  have hky := hky.fr hHo k_am hrm.1.1 f532 (by decide +kernel)
  have hzy := hzy.fr k_th hrc.1.1 hrc.1.2.1 x532 f532 (by decide +kernel)
  have hty := hty.fr x532 hHo f532 (by decide +kernel)
  have hcy := hcy.fr x532 f532 (by decide +kernel)
  have hry := hry.fr hHo x532 f532 (by decide +kernel)
  have hci := hci.fr x532 f532 (by decide +kernel)
  have h3 := (f532.2 th 12 k_th 3 rfl).trans h3
  have hl := (f532.2 rd 7 k_rd 1 rfl).trans hl
  have hm := (f532.2 am 13 k_am 5 rfl).trans hm
  have hp := (f532.2 th 12 k_th 2 rfl).trans hp
  have hg := (f532.2 am 13 k_am 3 rfl).trans hg
  have htC := htC.fr k_rd x532 f532 (by decide +kernel)
  have htM := htM.fr k_am x532 f532 (by decide +kernel)
  have hrm := hrm.fr k_am x532 f532 (by decide +kernel)
  have k_th := x532 _ _ k_th
  have k_am := x532 _ _ k_am
  have k_out := x532 _ _ k_out
  have k_rd := x532 _ _ k_rd
  have k_z := hrc0.1.2.1
  have w1 : et_pl (eg_at G532 s1) 2 = some (.int (Int32.ofNat (im 3))) := (hxf.2 s1 2 (hH0.2.2 _ _ hrc0.1.2.1).1 (fun h => by rcases h with h | h <;> first | exact hrc0.1.2.2 h.1.symm | (have h := h.1; rw [h] at k_z; first | (rw [k_th0] at k_z; cases k_z)))).trans (hrc0.2.2 (2, 3) (by decide)).2
  rcases hQ with ⟨c4, ev, q0⟩ | ⟨c4, ev, q0⟩
  · cases ev
    have hrc := hrc0.upf k_th0 x532 f532 q0 w1 (by decide +kernel)
    show et_go _ _ 1000 535 [some (.ref 150), some (.ref th), some (.ref am), some (.ref out), some (.int (Int32.ofNat i)), x5, x6] [.int (-1)] _ ck sk _
    refine ls_pop (p := 536) (by decide +kernel) ?_
    refine ls_aload (i := 2) (p := 537) (by decide +kernel) rfl ?_
    refine lt_callv (T := et_TT) (t := 13) (mi := 221) (na := 0) (ci := 11) (lk := 7) (lm := 1) (L0 := eg_en (eg_mL 221) [.ref am]) (by decide +kernel) rfl hH k_am rfl rfl rfl rfl rfl (by rw [show eg_mL 221 = 1 from by decide +kernel]; first | done | rfl) ?_
    have hHo := hH
    have k_am1 := k_am
    have hrm0 := hrm
    refine ((er_p221_ok (K532, [], G532) [.ref am] _ hH (by omega) rfl (ht_ac (.inr ⟨by decide, _, rfl, k_am⟩) ht_an)).and (fm_away hH k_am hrm.1.1 hrm.2.1.1 (hrm.2.2 (2, 3) (by decide)).1 b3)).mono (fun u hu => ls_cbvQ hu (fun v537 K537 G537 c537 s537 x537 f537 hH hv537 cl537 sl537 hQ => ?_))
    obtain ⟨_, _, eu, -, hxf, ht, hQ⟩ := hQ
    cases eu
    have hcq := hcq.fr x537 hHo f537 (by decide +kernel)
    have hky := hky.fr hHo k_am hrm.1.1 f537 (by decide +kernel)
    have hzy := hzy.fr k_th hrc.1.1 hrc.1.2.1 x537 f537 (by decide +kernel)
    have hty := hty.fr x537 hHo f537 (by decide +kernel)
    have hcy := hcy.fr x537 f537 (by decide +kernel)
    have hry := hry.fr hHo x537 f537 (by decide +kernel)
    have hci := hci.fr x537 f537 (by decide +kernel)
    have h3 := (f537.2 th 12 k_th 3 rfl).trans h3
    have hl := (f537.2 rd 7 k_rd 1 rfl).trans hl
    have hm := (f537.2 am 13 k_am 5 rfl).trans hm
    have hp := (f537.2 th 12 k_th 2 rfl).trans hp
    have hg := (f537.2 am 13 k_am 3 rfl).trans hg
    have htC := htC.fr k_rd x537 f537 (by decide +kernel)
    have htM := htM.fr k_am x537 f537 (by decide +kernel)
    have hrc := hrc.fr k_th x537 f537 (by decide +kernel)
    have k_th := x537 _ _ k_th
    have k_am := x537 _ _ k_am
    have k_out := x537 _ _ k_out
    have k_rd := x537 _ _ k_rd
    rcases hQ with ⟨r4, ev2, z0⟩ | ⟨r4, ev2, z0⟩
    · cases ev2
      have hrm := hrm0.upf k_am1 x537 f537 z0 (by decide +kernel)
      have hbc := rc_upb (k := 3) (v := cn 3) hbc (by omega)
      show et_go _ _ 1000 540 [some (.ref 150), some (.ref th), some (.ref am), some (.ref out), some (.int (Int32.ofNat i)), x5, x6] [.int (-1)] _ ck sk _
      refine ls_pop (p := 541) (by decide +kernel) ?_
      refine ls_goto (p := 1663) (by decide +kernel) ?_
      exact hN _ _ c h _ _ _ _ _ _ ⟨⟨hH, hci, k_th, k_am, k_out, h3, k_rd, hl, hm, hc⟩, ⟨hh1, hp, hg⟩, hrc, hrm, hbc, hbi, ⟨hry, hcy, hty, hzy, hky, hcq.le (by first | exact Nat.le_refl _ | exact Nat.le_succ _) (by first | exact Nat.le_refl _ | exact Nat.le_succ _)⟩, _, htC, htM, htb⟩ (by omega) (by omega)
    · exact absurd c4 r4
  · cases ev
    have hrc := hrc0.upf k_th0 x532 f532 q0 w1 (by decide +kernel)
    show et_go _ _ 1000 535 [some (.ref 150), some (.ref th), some (.ref am), some (.ref out), some (.int (Int32.ofNat i)), x5, x6] [.int (Int32.ofNat (cn 3 - 1))] _ ck sk _
    refine ls_pop (p := 536) (by decide +kernel) ?_
    refine ls_aload (i := 2) (p := 537) (by decide +kernel) rfl ?_
    refine lt_callv (T := et_TT) (t := 13) (mi := 221) (na := 0) (ci := 11) (lk := 7) (lm := 1) (L0 := eg_en (eg_mL 221) [.ref am]) (by decide +kernel) rfl hH k_am rfl rfl rfl rfl rfl (by rw [show eg_mL 221 = 1 from by decide +kernel]; first | done | rfl) ?_
    have hHo := hH
    have k_am1 := k_am
    have hrm0 := hrm
    refine ((er_p221_ok (K532, [], G532) [.ref am] _ hH (by omega) rfl (ht_ac (.inr ⟨by decide, _, rfl, k_am⟩) ht_an)).and (fm_away hH k_am hrm.1.1 hrm.2.1.1 (hrm.2.2 (2, 3) (by decide)).1 b3)).mono (fun u hu => ls_cbvQ hu (fun v537 K537 G537 c537 s537 x537 f537 hH hv537 cl537 sl537 hQ => ?_))
    obtain ⟨_, _, eu, -, hxf, ht, hQ⟩ := hQ
    cases eu
    have hcq := hcq.fr x537 hHo f537 (by decide +kernel)
    have hky := hky.fr hHo k_am hrm.1.1 f537 (by decide +kernel)
    have hzy := hzy.fr k_th hrc.1.1 hrc.1.2.1 x537 f537 (by decide +kernel)
    have hty := hty.fr x537 hHo f537 (by decide +kernel)
    have hcy := hcy.fr x537 f537 (by decide +kernel)
    have hry := hry.fr hHo x537 f537 (by decide +kernel)
    have hci := hci.fr x537 f537 (by decide +kernel)
    have h3 := (f537.2 th 12 k_th 3 rfl).trans h3
    have hl := (f537.2 rd 7 k_rd 1 rfl).trans hl
    have hm := (f537.2 am 13 k_am 5 rfl).trans hm
    have hp := (f537.2 th 12 k_th 2 rfl).trans hp
    have hg := (f537.2 am 13 k_am 3 rfl).trans hg
    have htC := htC.fr k_rd x537 f537 (by decide +kernel)
    have htM := htM.fr k_am x537 f537 (by decide +kernel)
    have hrc := hrc.fr k_th x537 f537 (by decide +kernel)
    have k_th := x537 _ _ k_th
    have k_am := x537 _ _ k_am
    have k_out := x537 _ _ k_out
    have k_rd := x537 _ _ k_rd
    rcases hQ with ⟨r4, ev2, z0⟩ | ⟨r4, ev2, z0⟩
    · exact absurd r4 c4
    · cases ev2
      have hrm := hrm0.upf k_am1 x537 f537 z0 (by decide +kernel)
      have hbc := rc_upb (k := 3) (v := cn 3 - 1) hbc (by omega)
      have hcy := hcy.le (Nat.sub_le (cn 3) 1)
      show et_go _ _ 1000 540 [some (.ref 150), some (.ref th), some (.ref am), some (.ref out), some (.int (Int32.ofNat i)), x5, x6] [.int (Int32.ofNat (cn 3 - 1))] _ ck sk _
      refine ls_pop (p := 541) (by decide +kernel) ?_
      refine ls_goto (p := 1663) (by decide +kernel) ?_
      exact hN _ _ c h _ _ _ _ _ _ ⟨⟨hH, hci, k_th, k_am, k_out, h3, k_rd, hl, hm, hc⟩, ⟨hh1, hp, hg⟩, hrc, hrm, hbc, hbi, ⟨hry, hcy, hty, hzy, hky, hcq.le (by first | exact Nat.le_refl _ | exact Nat.le_succ _) (by first | exact Nat.le_refl _ | exact Nat.le_succ _)⟩, _, htC, htM, htb⟩ (by omega) (by omega)
set_option maxHeartbeats 2000000 in
theorem lw_c10 (hI : lw_I K G th am out rd s0 s1 aw ai tp ba na tm c h cn im) (hi : i + 6 ≤ n) (hn : n ≤ 3072) (hN : ∀ (K' : et_K) (G' : eg_G) (c' h' : Nat) (cn' im' : Nat → Nat) (ck' sk' : Nat) (y5 y6 : Option Value), lw_I K' G' th am out rd s0 s1 aw ai tp ba na tm c' h' cn' im' → ck' ≤ ck + 841 → sk' ≤ sk + 7168 → et_go (some (n, f)) (d + 41) 1000 1663 [some (.ref 150), some (.ref th), some (.ref am), some (.ref out), some (.int (Int32.ofNat i)), y5, y6] [] G' ck' sk' Z) : et_go (some (n, f)) (d + 41) 1000 544 [some (.ref 150), some (.ref th), some (.ref am), some (.ref out), some (.int (Int32.ofNat i)), x5, x6] [] G ck sk Z := by
  obtain ⟨⟨hH, hci, k_th, k_am, k_out, h3, k_rd, hl, hm, hc⟩, ⟨hh1, hp, hg⟩, hrc, hrm, hbc, hbi, ⟨hry, hcy, hty, hzy, hky, hcq⟩, tb, htC, htM, htb⟩ := hI
  refine ls_aload (i := 1) (p := 545) (by decide +kernel) rfl ?_
  refine ls_aload (i := 3) (p := 546) (by decide +kernel) rfl ?_
  refine ls_calls (mi := 6) (na := 2) (lk := 7) (lm := 3) (L0 := eg_en (eg_mL 6) [.ref th, .ref out]) (by decide +kernel) rfl rfl rfl rfl rfl rfl (by rw [show eg_mL 6 = 3 from by decide +kernel]; first | done | rfl) ?_
  have hHo := hH
  have h5 : et_pl (eg_at G s0) 5 = some (.int (Int32.ofNat (cn 4))) := (hrc.2.2 (5, 4) (by decide)).1
  have he : cn 4 ≤ 3 := Int.ofNat_le.mp (hf_bd (t := 10) hH hrc.1.1 rfl rfl h5 (hbc 4))
  have hH0 := hH
  have k_th0 := k_th
  have k_out0 := k_out
  refine ((hh_i6 hH hci k_th k_out (by omega)).and (fh_eye hH k_th k_out hrc.2.1.1 hrc.1.1 h5 he (by omega))).mono (fun u hu => ls_cbrQ hu (fun v546 K546 G546 c546 s546 x546 f546 hH hci hP cl546 sl546 hQ => ?_))
  obtain ⟨_, _, _, _, eu, -, hxf, hQ⟩ := hQ
  cases eu
  have hcq := hcq.fr x546 hHo f546 (by decide +kernel)
  have hky := hky.fr hHo k_am hrm.1.1 f546 (by decide +kernel)
  have hzy := hzy.fr k_th hrc.1.1 hrc.1.2.1 x546 f546 (by decide +kernel)
  have hty := hty.fr x546 hHo f546 (by decide +kernel)
  have hcy := hcy.fr x546 f546 (by decide +kernel)
  have hry := hry.fr hHo x546 f546 (by decide +kernel)
  have h3 := (f546.2 th 12 k_th 3 rfl).trans h3
  have hl := (f546.2 rd 7 k_rd 1 rfl).trans hl
  have hm := (f546.2 am 13 k_am 5 rfl).trans hm
  have hp := (f546.2 th 12 k_th 2 rfl).trans hp
  have hg := (f546.2 am 13 k_am 3 rfl).trans hg
  have htC := htC.fr k_rd x546 f546 (by decide +kernel)
  have htM := htM.fr k_am x546 f546 (by decide +kernel)
  have hrm := hrm.fr k_am x546 f546 (by decide +kernel)
  have k_th := x546 _ _ k_th
  have k_am := x546 _ _ k_am
  have k_out := x546 _ _ k_out
  have k_rd := x546 _ _ k_rd
  have hS0 : ∀ a j t, K a = some t → ((a = s0 ∧ j = 5) ∨ (a = out ∧ j = 0)) → (t = 12 → 2 ≤ j) ∧ (t = 10 → a = s0 ∧ j = 5) := by
    intro a j t ha h
    rcases h with ⟨ea, ej⟩ | ⟨ea, ej⟩
    · rw [ea, hrc.1.1] at ha; cases ha; exact ⟨fun h => absurd h (by decide), fun _ => ⟨ea, ej⟩⟩
    · rw [ea, k_out0] at ha; cases ha; exact ⟨fun h => absurd h (by decide), fun h => absurd h (by decide)⟩
  rcases hQ with ⟨he1, ev, ho, h5⟩ | ⟨he1, ev, h5⟩
  · cases ev
    have hrc := hrc.up hH0 k_th0 x546 hxf hS0 h5 (k0 := 4) (by decide)
    show et_go _ _ 1000 549 [some (.ref 150), some (.ref th), some (.ref am), some (.ref out), some (.int (Int32.ofNat i)), x5, x6] [.int (Int32.ofNat 0)] _ (ck + c546) (sk + s546) _
    refine ls_istore (i := 5) (p := 551) (by decide +kernel) (Nat.le_of_ble_eq_true rfl) ?_
    refine ls_aload (i := 2) (p := 552) (by decide +kernel) rfl ?_
    refine lt_callv (T := et_TT) (t := 13) (mi := 222) (na := 0) (ci := 11) (lk := 7) (lm := 3) (L0 := eg_en (eg_mL 222) [.ref am]) (by decide +kernel) rfl hH k_am rfl rfl rfl rfl rfl (by rw [show eg_mL 222 = 3 from by decide +kernel]; first | done | rfl) ?_
    have hHo := hH
    obtain ⟨ya_, yb_, O_, A_, V_, ⟨zk_, zka_, zki_⟩, zz_, zo_, zm_, zi_⟩ := hzy
    have h4 : et_pl (eg_at G546 aw) 4 = some (.int (Int32.ofNat (cn 4))) := (hrm.2.2 (5, 4) (by decide)).1
    have hH1 := hH
    have k_am0 := k_am
    refine ((er_p222_ok (K546, [], G546) [.ref am] _ hH (by omega) rfl (ht_ac (.inr ⟨by decide, _, rfl, k_am⟩) ht_an)).and ((fm_eye hH k_am hrm.1.1 hrm.2.1.1 h4 he (by omega)).and (gz_eye hH k_am hrm.1.1 hrm.2.1.1 h4 he zm_ (fun n hn => zo_ n (by omega)) (by omega)))).mono (fun u hu => ls_cbvQ (Q := fun u => xw_Z _ _ _ _ u ∧ ((cn 4 < 3 → zyM u.2.1 aw (cn 4 + 1) V_) ∧ (cn 4 = 3 → zyM u.2.1 aw (cn 4) V_))) hu (fun v552 K552 G552 c552 s552 x552 f552 hH hv552 cl552 sl552 hQ => ?_))
    obtain ⟨⟨_, _, eu, -, hxf, hQ⟩, hQZ⟩ := hQ
    cases eu
    have zz_ := zz_.fr zk_ k_th hrc.1.1 hrc.1.2.1 f552 (by decide +kernel)
    have zi_ := zi_.fr (fun n hn => zo_ (3 + n) (by omega)) zki_ f552 (by decide +kernel)
    have zk_ := zk_.ex x552
    have zka_ := x552 _ _ zka_
    have zki_ := x552 _ _ zki_
    obtain ⟨hze, hzf⟩ := hQZ
    have hcq := hcq.fr x552 hHo f552 (by decide +kernel)
    have hky := hky.fr hHo k_am hrm.1.1 f552 (by decide +kernel)
    have hty := hty.fr x552 hHo f552 (by decide +kernel)
    have hcy := hcy.fr x552 f552 (by decide +kernel)
    have hry := hry.fr hHo x552 f552 (by decide +kernel)
    have hci := hci.fr x552 f552 (by decide +kernel)
    have h3 := (f552.2 th 12 k_th 3 rfl).trans h3
    have hl := (f552.2 rd 7 k_rd 1 rfl).trans hl
    have hm := (f552.2 am 13 k_am 5 rfl).trans hm
    have hp := (f552.2 th 12 k_th 2 rfl).trans hp
    have hg := (f552.2 am 13 k_am 3 rfl).trans hg
    have htC := htC.fr k_rd x552 f552 (by decide +kernel)
    have htM := htM.fr k_am x552 f552 (by decide +kernel)
    have hrc := hrc.fr k_th x552 f552 (by decide +kernel)
    have ho := (f552.2 out 31 k_out 0 rfl).trans ho
    have k_th := x552 _ _ k_th
    have k_am := x552 _ _ k_am
    have k_out := x552 _ _ k_out
    have k_rd := x552 _ _ k_rd
    have hS1 : ∀ a j t, K546 a = some t → ((a = am ∧ j = 0) ∨ (a = aw ∧ j = 4) ∨ (a = aw ∧ 45 ≤ j ∧ j ≤ 113)) → (t = 13 → j = 0 ∨ 3 ≤ j) ∧ ((t = 46 → j = 4 ∨ 5 ≤ j) ∧ ¬ t = 47) := by
      intro a j t ha h
      rcases h with ⟨ea, ej⟩ | ⟨ea, ej⟩ | ⟨ea, ej⟩
      · rw [ea, k_am0] at ha; cases ha; exact ⟨fun _ => .inl ej, fun h => absurd h (by decide), by decide⟩
      · rw [ea, hrm.1.1] at ha; cases ha; exact ⟨fun h => absurd h (by decide), fun _ => .inl ej, by decide⟩
      · rw [ea, hrm.1.1] at ha; cases ha; exact ⟨fun h => absurd h (by decide), fun _ => .inr (by omega), by decide⟩
    rcases hQ with ⟨he2, ev, ht, h4⟩ | ⟨he2, ht, h4⟩
    · cases ev
      have hrm := hrm.up hH1 k_am0 x552 hxf hS1 h4 (by decide)
      have hbc := rc_upb (k := 4) (v := cn 4 + 1) hbc (by omega)
      have zm_ := hze (by omega)
      have hzy : zy K552 G552 th s0 s1 aw ai (cn 4 + 1) (im 4) := ⟨ya_, yb_, O_, A_, V_, ⟨zk_, zka_, zki_⟩, zz_, zo_, zm_, zi_⟩
      show et_go _ _ 1000 555 [some (.ref 150), some (.ref th), some (.ref am), some (.ref out), some (.int (Int32.ofNat i)), some (.int (Int32.ofNat 0)), x6] [.int (Int32.ofNat (cn 4))] _ (ck + c546) (sk + s546) _
      refine ls_istore (i := 6) (p := 557) (by decide +kernel) (Nat.le_of_ble_eq_true rfl) ?_
      refine ls_goto (p := 1663) (by decide +kernel) ?_
      exact hN _ _ c h _ _ _ _ _ _ ⟨⟨hH, hci, k_th, k_am, k_out, h3, k_rd, hl, hm, hc⟩, ⟨hh1, hp, hg⟩, hrc, hrm, hbc, hbi, ⟨hry, hcy, hty, hzy, hky, hcq.le (by first | exact Nat.le_refl _ | exact Nat.le_succ _) (by first | exact Nat.le_refl _ | exact Nat.le_succ _)⟩, _, htC, htM, htb⟩ (by omega) (by omega)
    · exact absurd he1 he2
  · cases ev
    have hrc := hrc.up hH0 k_th0 x546 hxf hS0 h5 (k0 := 4) (by decide)
    show et_go _ _ 1000 549 [some (.ref 150), some (.ref th), some (.ref am), some (.ref out), some (.int (Int32.ofNat i)), x5, x6] [.int (Int32.ofNat 1)] _ (ck + c546) (sk + s546) _
    refine ls_istore (i := 5) (p := 551) (by decide +kernel) (Nat.le_of_ble_eq_true rfl) ?_
    refine ls_aload (i := 2) (p := 552) (by decide +kernel) rfl ?_
    refine lt_callv (T := et_TT) (t := 13) (mi := 222) (na := 0) (ci := 11) (lk := 7) (lm := 3) (L0 := eg_en (eg_mL 222) [.ref am]) (by decide +kernel) rfl hH k_am rfl rfl rfl rfl rfl (by rw [show eg_mL 222 = 3 from by decide +kernel]; first | done | rfl) ?_
    have hHo := hH
    obtain ⟨ya_, yb_, O_, A_, V_, ⟨zk_, zka_, zki_⟩, zz_, zo_, zm_, zi_⟩ := hzy
    have h4 : et_pl (eg_at G546 aw) 4 = some (.int (Int32.ofNat (cn 4))) := (hrm.2.2 (5, 4) (by decide)).1
    have hH1 := hH
    have k_am0 := k_am
    refine ((er_p222_ok (K546, [], G546) [.ref am] _ hH (by omega) rfl (ht_ac (.inr ⟨by decide, _, rfl, k_am⟩) ht_an)).and ((fm_eye hH k_am hrm.1.1 hrm.2.1.1 h4 he (by omega)).and (gz_eye hH k_am hrm.1.1 hrm.2.1.1 h4 he zm_ (fun n hn => zo_ n (by omega)) (by omega)))).mono (fun u hu => ls_cbvQ (Q := fun u => xw_Z _ _ _ _ u ∧ ((cn 4 < 3 → zyM u.2.1 aw (cn 4 + 1) V_) ∧ (cn 4 = 3 → zyM u.2.1 aw (cn 4) V_))) hu (fun v552 K552 G552 c552 s552 x552 f552 hH hv552 cl552 sl552 hQ => ?_))
    obtain ⟨⟨_, _, eu, -, hxf, hQ⟩, hQZ⟩ := hQ
    cases eu
    have zz_ := zz_.fr zk_ k_th hrc.1.1 hrc.1.2.1 f552 (by decide +kernel)
    have zi_ := zi_.fr (fun n hn => zo_ (3 + n) (by omega)) zki_ f552 (by decide +kernel)
    have zk_ := zk_.ex x552
    have zka_ := x552 _ _ zka_
    have zki_ := x552 _ _ zki_
    obtain ⟨hze, hzf⟩ := hQZ
    have hcq := hcq.fr x552 hHo f552 (by decide +kernel)
    have hky := hky.fr hHo k_am hrm.1.1 f552 (by decide +kernel)
    have hty := hty.fr x552 hHo f552 (by decide +kernel)
    have hcy := hcy.fr x552 f552 (by decide +kernel)
    have hry := hry.fr hHo x552 f552 (by decide +kernel)
    have hci := hci.fr x552 f552 (by decide +kernel)
    have h3 := (f552.2 th 12 k_th 3 rfl).trans h3
    have hl := (f552.2 rd 7 k_rd 1 rfl).trans hl
    have hm := (f552.2 am 13 k_am 5 rfl).trans hm
    have hp := (f552.2 th 12 k_th 2 rfl).trans hp
    have hg := (f552.2 am 13 k_am 3 rfl).trans hg
    have htC := htC.fr k_rd x552 f552 (by decide +kernel)
    have htM := htM.fr k_am x552 f552 (by decide +kernel)
    have hrc := hrc.fr k_th x552 f552 (by decide +kernel)
    have k_th := x552 _ _ k_th
    have k_am := x552 _ _ k_am
    have k_out := x552 _ _ k_out
    have k_rd := x552 _ _ k_rd
    have hS1 : ∀ a j t, K546 a = some t → ((a = am ∧ j = 0) ∨ (a = aw ∧ j = 4) ∨ (a = aw ∧ 45 ≤ j ∧ j ≤ 113)) → (t = 13 → j = 0 ∨ 3 ≤ j) ∧ ((t = 46 → j = 4 ∨ 5 ≤ j) ∧ ¬ t = 47) := by
      intro a j t ha h
      rcases h with ⟨ea, ej⟩ | ⟨ea, ej⟩ | ⟨ea, ej⟩
      · rw [ea, k_am0] at ha; cases ha; exact ⟨fun _ => .inl ej, fun h => absurd h (by decide), by decide⟩
      · rw [ea, hrm.1.1] at ha; cases ha; exact ⟨fun h => absurd h (by decide), fun _ => .inl ej, by decide⟩
      · rw [ea, hrm.1.1] at ha; cases ha; exact ⟨fun h => absurd h (by decide), fun _ => .inr (by omega), by decide⟩
    rcases hQ with ⟨he2, ev, ht, h4⟩ | ⟨he2, ht, h4⟩
    · exact absurd he2 he1
    · obtain ⟨v552, rfl, -⟩ := hv552
      have hrm := hrm.up hH1 k_am0 x552 hxf hS1 h4 (by decide)
      have hbc := rc_upb (k := 4) (v := cn 4) hbc (by omega)
      have zm_ := hzf (by omega)
      have hzy : zy K552 G552 th s0 s1 aw ai (cn 4) (im 4) := ⟨ya_, yb_, O_, A_, V_, ⟨zk_, zka_, zki_⟩, zz_, zo_, zm_, zi_⟩
      show et_go _ _ 1000 555 [some (.ref 150), some (.ref th), some (.ref am), some (.ref out), some (.int (Int32.ofNat i)), some (.int (Int32.ofNat 1)), x6] [.int v552] _ (ck + c546) (sk + s546) _
      refine ls_istore (i := 6) (p := 557) (by decide +kernel) (Nat.le_of_ble_eq_true rfl) ?_
      refine ls_goto (p := 1663) (by decide +kernel) ?_
      exact hN _ _ c h _ _ _ _ _ _ ⟨⟨hH, hci, k_th, k_am, k_out, h3, k_rd, hl, hm, hc⟩, ⟨hh1, hp, hg⟩, hrc, hrm, hbc, hbi, ⟨hry, hcy, hty, hzy, hky, hcq.le (by first | exact Nat.le_refl _ | exact Nat.le_succ _) (by first | exact Nat.le_refl _ | exact Nat.le_succ _)⟩, _, htC, htM, htb⟩ (by omega) (by omega)
set_option maxHeartbeats 2000000 in
theorem lw_c11 (hI : lw_I K G th am out rd s0 s1 aw ai tp ba na tm c h cn im) (hi : i + 6 ≤ n) (hn : n ≤ 3072) (hN : ∀ (K' : et_K) (G' : eg_G) (c' h' : Nat) (cn' im' : Nat → Nat) (ck' sk' : Nat) (y5 y6 : Option Value), lw_I K' G' th am out rd s0 s1 aw ai tp ba na tm c' h' cn' im' → ck' ≤ ck + 841 → sk' ≤ sk + 7168 → et_go (some (n, f)) (d + 41) 1000 1663 [some (.ref 150), some (.ref th), some (.ref am), some (.ref out), some (.int (Int32.ofNat i)), y5, y6] [] G' ck' sk' Z) : et_go (some (n, f)) (d + 41) 1000 560 [some (.ref 150), some (.ref th), some (.ref am), some (.ref out), some (.int (Int32.ofNat i)), x5, x6] [] G ck sk Z := by
  obtain ⟨⟨hH, hci, k_th, k_am, k_out, h3, k_rd, hl, hm, hc⟩, ⟨hh1, hp, hg⟩, hrc, hrm, hbc, hbi, ⟨hry, hcy, hty, hzy, hky, hcq⟩, tb, htC, htM, htb⟩ := hI
  refine ls_aload (i := 1) (p := 561) (by decide +kernel) rfl ?_
  refine ls_arg (j := 1) (by decide +kernel) (by omega) hn ?_
  refine ls_arg (j := 2) (by decide +kernel) (by omega) hn ?_
  refine ls_arg (j := 3) (by decide +kernel) (by omega) hn ?_
  refine ls_aload (i := 3) (p := 580) (by decide +kernel) rfl ?_
  refine ls_calls (mi := 7) (na := 5) (lk := 7) (lm := 6) (L0 := eg_en (eg_mL 7) [.ref th, .int (f (i + 1)), .int (f (i + 2)), .int (f (i + 3)), .ref out]) (by decide +kernel) rfl rfl rfl rfl rfl rfl (by rw [show eg_mL 7 = 6 from by decide +kernel]; first | done | rfl) ?_
  have hHo := hH
  have b4 : cn 4 ≤ 3 := Int.ofNat_le.mp (hf_bd (t := 10) hH hrc.1.1 rfl rfl (hrc.2.2 (5, 4) (by decide)).1 (hbc 4))
  obtain ⟨ya_, yb_, O_, A_, V_, ⟨zk_, zka_, zki_⟩, zz_, zo_, zm_, zi_⟩ := hzy
  refine ((hh_c7 (K, [], G) [.ref th, .int (f (i + 1)), .int (f (i + 2)), .int (f (i + 3)), .ref out] _ hH (by omega) rfl (ht_ac (.inr ⟨by decide, _, rfl, k_th⟩) (ht_ac hi_any (ht_ac hi_any (ht_ac hi_any (ht_ac (.inr ⟨by decide, _, rfl, k_out⟩) ht_an)))))).and (fz_wire hH k_th hrc.2.1.1 hrc.1.1 hrc.1.2.1 (hrc.2.2 (5, 4) (by decide)).1 b4 zk_ zz_ zo_ k_out (by omega))).mono (fun u hu => ls_cbvQ (Q := fun u => (¬ xr (f (i + 1)) (cn 4) ∧ u.1 = .inl (some (.int (Int32.ofNat 1))) ∧ ez u.2.1 th s0 s1 ya_ yb_ O_ A_ V_) ∨ ∃ n, ((f (i + 1)) = Int32.ofNat n ∧ n < cn 4) ∧ ((¬ (0 < (f (i + 2)).toInt ∧ (f (i + 2)).toInt < 65536 ∧ 0 ≤ (f (i + 3)).toInt ∧ (f (i + 3)).toInt ≤ 2) ∧ u.1 = .inl (some (.int (Int32.ofNat 2))) ∧ ez u.2.1 th s0 s1 ya_ yb_ O_ A_ V_) ∨ ((0 < (f (i + 2)).toInt ∧ (f (i + 2)).toInt < 65536 ∧ 0 ≤ (f (i + 3)).toInt ∧ (f (i + 3)).toInt ≤ 2) ∧ (V_ n).1 = 6 ∧ u.1 = .inl (some (.int (Int32.ofNat 3))) ∧ ez u.2.1 th s0 s1 ya_ yb_ O_ A_ V_) ∨ ∃ k, (((f (i + 3)) = Int32.ofNat k ∧ k ≤ 2) ∧ (0 < (f (i + 2)).toInt ∧ (f (i + 2)).toInt < 65536) ∧ (V_ n).1 < 6) ∧ u.1 = .inl (some (.int (Int32.ofNat 0))) ∧ et_pl (eg_at u.2.1 out) 0 = some (.long (Int32.ofNat (V_ n).1).toInt64) ∧ ez u.2.1 th s0 s1 ya_ yb_ O_ A_ (vup V_ n (wiV (V_ n) (f (i + 2)) k)))) hu (fun v580 K580 G580 c580 s580 x580 f580 hH hv580 cl580 sl580 hQ => ?_))
  have zm_ := zm_.fr (fun n hn => zo_ n (by omega)) zka_ f580 (by decide +kernel)
  have zi_ := zi_.fr (fun n hn => zo_ (3 + n) (by omega)) zki_ f580 (by decide +kernel)
  have zk_ := zk_.ex x580
  have zka_ := x580 _ _ zka_
  have zki_ := x580 _ _ zki_
  have hcq := hcq.fr x580 hHo f580 (by decide +kernel)
  have hky := hky.fr hHo k_am hrm.1.1 f580 (by decide +kernel)
  have hty := hty.fr x580 hHo f580 (by decide +kernel)
  have hcy := hcy.fr x580 f580 (by decide +kernel)
  have hry := hry.fr hHo x580 f580 (by decide +kernel)
  have hci := hci.fr x580 f580 (by decide +kernel)
  have h3 := (f580.2 th 12 k_th 3 rfl).trans h3
  have hl := (f580.2 rd 7 k_rd 1 rfl).trans hl
  have hm := (f580.2 am 13 k_am 5 rfl).trans hm
  have hp := (f580.2 th 12 k_th 2 rfl).trans hp
  have hg := (f580.2 am 13 k_am 3 rfl).trans hg
  have htC := htC.fr k_rd x580 f580 (by decide +kernel)
  have htM := htM.fr k_am x580 f580 (by decide +kernel)
  have hrc := hrc.fr k_th x580 f580 (by decide +kernel)
  have hrm := hrm.fr k_am x580 f580 (by decide +kernel)
  have k_th := x580 _ _ k_th
  have k_am := x580 _ _ k_am
  have k_out := x580 _ _ k_out
  have k_rd := x580 _ _ k_rd
  rcases hQ with ⟨cx, ev, zz_⟩ | ⟨n0, ⟨en0, hn0⟩, ⟨cw, ev, zz_⟩ | ⟨cw, c6, ev, zz_⟩ | ⟨k0, ⟨⟨ek0, hk0⟩, cy0, c6⟩, ev, ho, zz_⟩⟩
  · cases ev
    show et_go _ _ 1000 583 [some (.ref 150), some (.ref th), some (.ref am), some (.ref out), some (.int (Int32.ofNat i)), x5, x6] [.int (Int32.ofNat 1)] _ (ck + c580) (sk + s580) _
    refine ls_istore (i := 5) (p := 585) (by decide +kernel) (Nat.le_of_ble_eq_true rfl) ?_
    refine ls_aload (i := 2) (p := 586) (by decide +kernel) rfl ?_
    refine ls_arg (j := 1) (by decide +kernel) (by omega) hn ?_
    refine ls_arg (j := 2) (by decide +kernel) (by omega) hn ?_
    refine ls_arg (j := 3) (by decide +kernel) (by omega) hn ?_
    refine lt_callv (T := et_TT) (t := 13) (mi := 223) (na := 3) (ci := 11) (lk := 7) (lm := 5) (L0 := eg_en (eg_mL 223) [.ref am, .int (f (i + 1)), .int (f (i + 2)), .int (f (i + 3))]) (by decide +kernel) rfl hH k_am rfl rfl rfl rfl rfl (by rw [show eg_mL 223 = 5 from by decide +kernel]; first | done | rfl) ?_
    have hHo := hH
    refine ((er_p223_ok (K580, [], G580) [.ref am, .int (f (i + 1)), .int (f (i + 2)), .int (f (i + 3))] _ hH (by omega) rfl (ht_ac (.inr ⟨by decide, _, rfl, k_am⟩) (ht_ac hi_any (ht_ac hi_any (ht_ac hi_any ht_an))))).and (gz_wire hH k_am hrm.1.1 hrm.2.1.1 (hrm.2.2 (5, 4) (by decide)).1 b4 zm_ (fun n hn => zo_ n (by omega)) (by omega))).mono (fun u hu => ls_cbvQ (Q := fun u => (¬ xr (f (i + 1)) (cn 4) ∧ u.1 = .inl (some (.int (Int32.ofNat 0))) ∧ et_pl (eg_at u.2.1 am) 0 = some (.int (Int32.ofNat 1)) ∧ zyM u.2.1 aw (cn 4) V_) ∨ ∃ n, ((f (i + 1)) = Int32.ofNat n ∧ n < cn 4) ∧ ((¬ (0 < (f (i + 2)).toInt ∧ (f (i + 2)).toInt < 65536 ∧ 0 ≤ (f (i + 3)).toInt ∧ (f (i + 3)).toInt ≤ 2) ∧ u.1 = .inl (some (.int (Int32.ofNat 0))) ∧ et_pl (eg_at u.2.1 am) 0 = some (.int (Int32.ofNat 2)) ∧ zyM u.2.1 aw (cn 4) V_) ∨ ((0 < (f (i + 2)).toInt ∧ (f (i + 2)).toInt < 65536 ∧ 0 ≤ (f (i + 3)).toInt ∧ (f (i + 3)).toInt ≤ 2) ∧ (V_ n).1 = 6 ∧ u.1 = .inl (some (.int (Int32.ofNat 0))) ∧ et_pl (eg_at u.2.1 am) 0 = some (.int (Int32.ofNat 3)) ∧ zyM u.2.1 aw (cn 4) V_) ∨ ∃ k, (((f (i + 3)) = Int32.ofNat k ∧ k ≤ 2) ∧ (0 < (f (i + 2)).toInt ∧ (f (i + 2)).toInt < 65536) ∧ (V_ n).1 < 6) ∧ u.1 = .inl (some (.int (Int32.ofNat (V_ n).1))) ∧ et_pl (eg_at u.2.1 am) 0 = some (.int (Int32.ofNat 0)) ∧ zyM u.2.1 aw (cn 4) (vup V_ n (wiV (V_ n) (f (i + 2)) k)))) hu (fun v604 K604 G604 c604 s604 x604 f604 hH hv604 cl604 sl604 hQ => ?_))
    have zz_ := zz_.fr zk_ k_th hrc.1.1 hrc.1.2.1 f604 (by decide +kernel)
    have zi_ := zi_.fr (fun n hn => zo_ (3 + n) (by omega)) zki_ f604 (by decide +kernel)
    have zk_ := zk_.ex x604
    have zka_ := x604 _ _ zka_
    have zki_ := x604 _ _ zki_
    have hcq := hcq.fr x604 hHo f604 (by decide +kernel)
    have hky := hky.fr hHo k_am hrm.1.1 f604 (by decide +kernel)
    have hty := hty.fr x604 hHo f604 (by decide +kernel)
    have hcy := hcy.fr x604 f604 (by decide +kernel)
    have hry := hry.fr hHo x604 f604 (by decide +kernel)
    have hci := hci.fr x604 f604 (by decide +kernel)
    have h3 := (f604.2 th 12 k_th 3 rfl).trans h3
    have hl := (f604.2 rd 7 k_rd 1 rfl).trans hl
    have hm := (f604.2 am 13 k_am 5 rfl).trans hm
    have hp := (f604.2 th 12 k_th 2 rfl).trans hp
    have hg := (f604.2 am 13 k_am 3 rfl).trans hg
    have htC := htC.fr k_rd x604 f604 (by decide +kernel)
    have htM := htM.fr k_am x604 f604 (by decide +kernel)
    have hrc := hrc.fr k_th x604 f604 (by decide +kernel)
    have hrm := hrm.fr k_am x604 f604 (by decide +kernel)
    have k_th := x604 _ _ k_th
    have k_am := x604 _ _ k_am
    have k_out := x604 _ _ k_out
    have k_rd := x604 _ _ k_rd
    rcases hQ with ⟨dx, ev2, ht, zm_⟩ | ⟨n1, ⟨en1, hn1⟩, ⟨dw, ev2, ht, zm_⟩ | ⟨dw, d6, ev2, ht, zm_⟩ | ⟨k1, ⟨⟨ek1, hk1⟩, cy1, d6⟩, ev2, ht, zm_⟩⟩
    · cases ev2
      have hzy : zy K604 G604 th s0 s1 aw ai (cn 4) (im 4) := ⟨ya_, yb_, O_, A_, V_, ⟨zk_, zka_, zki_⟩, zz_, zo_, zm_, zi_⟩
      show et_go _ _ 1000 607 [some (.ref 150), some (.ref th), some (.ref am), some (.ref out), some (.int (Int32.ofNat i)), some (.int (Int32.ofNat 1)), x6] [.int (Int32.ofNat 0)] _ ((ck + c580) + c604) ((sk + s580) + s604) _
      refine ls_istore (i := 6) (p := 609) (by decide +kernel) (Nat.le_of_ble_eq_true rfl) ?_
      refine ls_goto (p := 1663) (by decide +kernel) ?_
      exact hN _ _ c h _ _ _ _ _ _ ⟨⟨hH, hci, k_th, k_am, k_out, h3, k_rd, hl, hm, hc⟩, ⟨hh1, hp, hg⟩, hrc, hrm, hbc, hbi, ⟨hry, hcy, hty, hzy, hky, hcq.le (by first | exact Nat.le_refl _ | exact Nat.le_succ _) (by first | exact Nat.le_refl _ | exact Nat.le_succ _)⟩, _, htC, htM, htb⟩ (by omega) (by omega)
    · exact absurd (xr_m en1 hn1 (by omega)) cx
    · exact absurd (xr_m en1 hn1 (by omega)) cx
    · exact absurd (xr_m en1 hn1 (by omega)) cx
  · cases ev
    show et_go _ _ 1000 583 [some (.ref 150), some (.ref th), some (.ref am), some (.ref out), some (.int (Int32.ofNat i)), x5, x6] [.int (Int32.ofNat 2)] _ (ck + c580) (sk + s580) _
    refine ls_istore (i := 5) (p := 585) (by decide +kernel) (Nat.le_of_ble_eq_true rfl) ?_
    refine ls_aload (i := 2) (p := 586) (by decide +kernel) rfl ?_
    refine ls_arg (j := 1) (by decide +kernel) (by omega) hn ?_
    refine ls_arg (j := 2) (by decide +kernel) (by omega) hn ?_
    refine ls_arg (j := 3) (by decide +kernel) (by omega) hn ?_
    refine lt_callv (T := et_TT) (t := 13) (mi := 223) (na := 3) (ci := 11) (lk := 7) (lm := 5) (L0 := eg_en (eg_mL 223) [.ref am, .int (f (i + 1)), .int (f (i + 2)), .int (f (i + 3))]) (by decide +kernel) rfl hH k_am rfl rfl rfl rfl rfl (by rw [show eg_mL 223 = 5 from by decide +kernel]; first | done | rfl) ?_
    have hHo := hH
    refine ((er_p223_ok (K580, [], G580) [.ref am, .int (f (i + 1)), .int (f (i + 2)), .int (f (i + 3))] _ hH (by omega) rfl (ht_ac (.inr ⟨by decide, _, rfl, k_am⟩) (ht_ac hi_any (ht_ac hi_any (ht_ac hi_any ht_an))))).and (gz_wire hH k_am hrm.1.1 hrm.2.1.1 (hrm.2.2 (5, 4) (by decide)).1 b4 zm_ (fun n hn => zo_ n (by omega)) (by omega))).mono (fun u hu => ls_cbvQ (Q := fun u => (¬ xr (f (i + 1)) (cn 4) ∧ u.1 = .inl (some (.int (Int32.ofNat 0))) ∧ et_pl (eg_at u.2.1 am) 0 = some (.int (Int32.ofNat 1)) ∧ zyM u.2.1 aw (cn 4) V_) ∨ ∃ n, ((f (i + 1)) = Int32.ofNat n ∧ n < cn 4) ∧ ((¬ (0 < (f (i + 2)).toInt ∧ (f (i + 2)).toInt < 65536 ∧ 0 ≤ (f (i + 3)).toInt ∧ (f (i + 3)).toInt ≤ 2) ∧ u.1 = .inl (some (.int (Int32.ofNat 0))) ∧ et_pl (eg_at u.2.1 am) 0 = some (.int (Int32.ofNat 2)) ∧ zyM u.2.1 aw (cn 4) V_) ∨ ((0 < (f (i + 2)).toInt ∧ (f (i + 2)).toInt < 65536 ∧ 0 ≤ (f (i + 3)).toInt ∧ (f (i + 3)).toInt ≤ 2) ∧ (V_ n).1 = 6 ∧ u.1 = .inl (some (.int (Int32.ofNat 0))) ∧ et_pl (eg_at u.2.1 am) 0 = some (.int (Int32.ofNat 3)) ∧ zyM u.2.1 aw (cn 4) V_) ∨ ∃ k, (((f (i + 3)) = Int32.ofNat k ∧ k ≤ 2) ∧ (0 < (f (i + 2)).toInt ∧ (f (i + 2)).toInt < 65536) ∧ (V_ n).1 < 6) ∧ u.1 = .inl (some (.int (Int32.ofNat (V_ n).1))) ∧ et_pl (eg_at u.2.1 am) 0 = some (.int (Int32.ofNat 0)) ∧ zyM u.2.1 aw (cn 4) (vup V_ n (wiV (V_ n) (f (i + 2)) k)))) hu (fun v604 K604 G604 c604 s604 x604 f604 hH hv604 cl604 sl604 hQ => ?_))
    have zz_ := zz_.fr zk_ k_th hrc.1.1 hrc.1.2.1 f604 (by decide +kernel)
    have zi_ := zi_.fr (fun n hn => zo_ (3 + n) (by omega)) zki_ f604 (by decide +kernel)
    have zk_ := zk_.ex x604
    have zka_ := x604 _ _ zka_
    have zki_ := x604 _ _ zki_
    have hcq := hcq.fr x604 hHo f604 (by decide +kernel)
    have hky := hky.fr hHo k_am hrm.1.1 f604 (by decide +kernel)
    have hty := hty.fr x604 hHo f604 (by decide +kernel)
    have hcy := hcy.fr x604 f604 (by decide +kernel)
    have hry := hry.fr hHo x604 f604 (by decide +kernel)
    have hci := hci.fr x604 f604 (by decide +kernel)
    have h3 := (f604.2 th 12 k_th 3 rfl).trans h3
    have hl := (f604.2 rd 7 k_rd 1 rfl).trans hl
    have hm := (f604.2 am 13 k_am 5 rfl).trans hm
    have hp := (f604.2 th 12 k_th 2 rfl).trans hp
    have hg := (f604.2 am 13 k_am 3 rfl).trans hg
    have htC := htC.fr k_rd x604 f604 (by decide +kernel)
    have htM := htM.fr k_am x604 f604 (by decide +kernel)
    have hrc := hrc.fr k_th x604 f604 (by decide +kernel)
    have hrm := hrm.fr k_am x604 f604 (by decide +kernel)
    have k_th := x604 _ _ k_th
    have k_am := x604 _ _ k_am
    have k_out := x604 _ _ k_out
    have k_rd := x604 _ _ k_rd
    rcases hQ with ⟨dx, ev2, ht, zm_⟩ | ⟨n1, ⟨en1, hn1⟩, ⟨dw, ev2, ht, zm_⟩ | ⟨dw, d6, ev2, ht, zm_⟩ | ⟨k1, ⟨⟨ek1, hk1⟩, cy1, d6⟩, ev2, ht, zm_⟩⟩
    · exact absurd (xr_m en0 hn0 (by omega)) dx
    · obtain rfl : n0 = n1 := (hs_neq (by have h9_ := (zo_ n0 (by omega)).1.1; omega) (by have h9_ := (zo_ n0 (by omega)).1.1; omega)).mp (en0.symm.trans en1)
      cases ev2
      have hzy : zy K604 G604 th s0 s1 aw ai (cn 4) (im 4) := ⟨ya_, yb_, O_, A_, V_, ⟨zk_, zka_, zki_⟩, zz_, zo_, zm_, zi_⟩
      show et_go _ _ 1000 607 [some (.ref 150), some (.ref th), some (.ref am), some (.ref out), some (.int (Int32.ofNat i)), some (.int (Int32.ofNat 2)), x6] [.int (Int32.ofNat 0)] _ ((ck + c580) + c604) ((sk + s580) + s604) _
      refine ls_istore (i := 6) (p := 609) (by decide +kernel) (Nat.le_of_ble_eq_true rfl) ?_
      refine ls_goto (p := 1663) (by decide +kernel) ?_
      exact hN _ _ c h _ _ _ _ _ _ ⟨⟨hH, hci, k_th, k_am, k_out, h3, k_rd, hl, hm, hc⟩, ⟨hh1, hp, hg⟩, hrc, hrm, hbc, hbi, ⟨hry, hcy, hty, hzy, hky, hcq.le (by first | exact Nat.le_refl _ | exact Nat.le_succ _) (by first | exact Nat.le_refl _ | exact Nat.le_succ _)⟩, _, htC, htM, htb⟩ (by omega) (by omega)
    · obtain rfl : n0 = n1 := (hs_neq (by have h9_ := (zo_ n0 (by omega)).1.1; omega) (by have h9_ := (zo_ n0 (by omega)).1.1; omega)).mp (en0.symm.trans en1)
      exact absurd dw cw
    · obtain rfl : n0 = n1 := (hs_neq (by have h9_ := (zo_ n0 (by omega)).1.1; omega) (by have h9_ := (zo_ n0 (by omega)).1.1; omega)).mp (en0.symm.trans en1)
      exact absurd (show _ ∧ _ ∧ _ ∧ _ from ⟨cy1.1, cy1.2, by rw [ek1, hs_nint (by omega)]; omega, by rw [ek1, hs_nint (by omega)]; omega⟩) cw
  · cases ev
    show et_go _ _ 1000 583 [some (.ref 150), some (.ref th), some (.ref am), some (.ref out), some (.int (Int32.ofNat i)), x5, x6] [.int (Int32.ofNat 3)] _ (ck + c580) (sk + s580) _
    refine ls_istore (i := 5) (p := 585) (by decide +kernel) (Nat.le_of_ble_eq_true rfl) ?_
    refine ls_aload (i := 2) (p := 586) (by decide +kernel) rfl ?_
    refine ls_arg (j := 1) (by decide +kernel) (by omega) hn ?_
    refine ls_arg (j := 2) (by decide +kernel) (by omega) hn ?_
    refine ls_arg (j := 3) (by decide +kernel) (by omega) hn ?_
    refine lt_callv (T := et_TT) (t := 13) (mi := 223) (na := 3) (ci := 11) (lk := 7) (lm := 5) (L0 := eg_en (eg_mL 223) [.ref am, .int (f (i + 1)), .int (f (i + 2)), .int (f (i + 3))]) (by decide +kernel) rfl hH k_am rfl rfl rfl rfl rfl (by rw [show eg_mL 223 = 5 from by decide +kernel]; first | done | rfl) ?_
    have hHo := hH
    refine ((er_p223_ok (K580, [], G580) [.ref am, .int (f (i + 1)), .int (f (i + 2)), .int (f (i + 3))] _ hH (by omega) rfl (ht_ac (.inr ⟨by decide, _, rfl, k_am⟩) (ht_ac hi_any (ht_ac hi_any (ht_ac hi_any ht_an))))).and (gz_wire hH k_am hrm.1.1 hrm.2.1.1 (hrm.2.2 (5, 4) (by decide)).1 b4 zm_ (fun n hn => zo_ n (by omega)) (by omega))).mono (fun u hu => ls_cbvQ (Q := fun u => (¬ xr (f (i + 1)) (cn 4) ∧ u.1 = .inl (some (.int (Int32.ofNat 0))) ∧ et_pl (eg_at u.2.1 am) 0 = some (.int (Int32.ofNat 1)) ∧ zyM u.2.1 aw (cn 4) V_) ∨ ∃ n, ((f (i + 1)) = Int32.ofNat n ∧ n < cn 4) ∧ ((¬ (0 < (f (i + 2)).toInt ∧ (f (i + 2)).toInt < 65536 ∧ 0 ≤ (f (i + 3)).toInt ∧ (f (i + 3)).toInt ≤ 2) ∧ u.1 = .inl (some (.int (Int32.ofNat 0))) ∧ et_pl (eg_at u.2.1 am) 0 = some (.int (Int32.ofNat 2)) ∧ zyM u.2.1 aw (cn 4) V_) ∨ ((0 < (f (i + 2)).toInt ∧ (f (i + 2)).toInt < 65536 ∧ 0 ≤ (f (i + 3)).toInt ∧ (f (i + 3)).toInt ≤ 2) ∧ (V_ n).1 = 6 ∧ u.1 = .inl (some (.int (Int32.ofNat 0))) ∧ et_pl (eg_at u.2.1 am) 0 = some (.int (Int32.ofNat 3)) ∧ zyM u.2.1 aw (cn 4) V_) ∨ ∃ k, (((f (i + 3)) = Int32.ofNat k ∧ k ≤ 2) ∧ (0 < (f (i + 2)).toInt ∧ (f (i + 2)).toInt < 65536) ∧ (V_ n).1 < 6) ∧ u.1 = .inl (some (.int (Int32.ofNat (V_ n).1))) ∧ et_pl (eg_at u.2.1 am) 0 = some (.int (Int32.ofNat 0)) ∧ zyM u.2.1 aw (cn 4) (vup V_ n (wiV (V_ n) (f (i + 2)) k)))) hu (fun v604 K604 G604 c604 s604 x604 f604 hH hv604 cl604 sl604 hQ => ?_))
    have zz_ := zz_.fr zk_ k_th hrc.1.1 hrc.1.2.1 f604 (by decide +kernel)
    have zi_ := zi_.fr (fun n hn => zo_ (3 + n) (by omega)) zki_ f604 (by decide +kernel)
    have zk_ := zk_.ex x604
    have zka_ := x604 _ _ zka_
    have zki_ := x604 _ _ zki_
    have hcq := hcq.fr x604 hHo f604 (by decide +kernel)
    have hky := hky.fr hHo k_am hrm.1.1 f604 (by decide +kernel)
    have hty := hty.fr x604 hHo f604 (by decide +kernel)
    have hcy := hcy.fr x604 f604 (by decide +kernel)
    have hry := hry.fr hHo x604 f604 (by decide +kernel)
    have hci := hci.fr x604 f604 (by decide +kernel)
    have h3 := (f604.2 th 12 k_th 3 rfl).trans h3
    have hl := (f604.2 rd 7 k_rd 1 rfl).trans hl
    have hm := (f604.2 am 13 k_am 5 rfl).trans hm
    have hp := (f604.2 th 12 k_th 2 rfl).trans hp
    have hg := (f604.2 am 13 k_am 3 rfl).trans hg
    have htC := htC.fr k_rd x604 f604 (by decide +kernel)
    have htM := htM.fr k_am x604 f604 (by decide +kernel)
    have hrc := hrc.fr k_th x604 f604 (by decide +kernel)
    have hrm := hrm.fr k_am x604 f604 (by decide +kernel)
    have k_th := x604 _ _ k_th
    have k_am := x604 _ _ k_am
    have k_out := x604 _ _ k_out
    have k_rd := x604 _ _ k_rd
    rcases hQ with ⟨dx, ev2, ht, zm_⟩ | ⟨n1, ⟨en1, hn1⟩, ⟨dw, ev2, ht, zm_⟩ | ⟨dw, d6, ev2, ht, zm_⟩ | ⟨k1, ⟨⟨ek1, hk1⟩, cy1, d6⟩, ev2, ht, zm_⟩⟩
    · exact absurd (xr_m en0 hn0 (by omega)) dx
    · obtain rfl : n0 = n1 := (hs_neq (by have h9_ := (zo_ n0 (by omega)).1.1; omega) (by have h9_ := (zo_ n0 (by omega)).1.1; omega)).mp (en0.symm.trans en1)
      exact absurd cw dw
    · obtain rfl : n0 = n1 := (hs_neq (by have h9_ := (zo_ n0 (by omega)).1.1; omega) (by have h9_ := (zo_ n0 (by omega)).1.1; omega)).mp (en0.symm.trans en1)
      cases ev2
      have hzy : zy K604 G604 th s0 s1 aw ai (cn 4) (im 4) := ⟨ya_, yb_, O_, A_, V_, ⟨zk_, zka_, zki_⟩, zz_, zo_, zm_, zi_⟩
      show et_go _ _ 1000 607 [some (.ref 150), some (.ref th), some (.ref am), some (.ref out), some (.int (Int32.ofNat i)), some (.int (Int32.ofNat 3)), x6] [.int (Int32.ofNat 0)] _ ((ck + c580) + c604) ((sk + s580) + s604) _
      refine ls_istore (i := 6) (p := 609) (by decide +kernel) (Nat.le_of_ble_eq_true rfl) ?_
      refine ls_goto (p := 1663) (by decide +kernel) ?_
      exact hN _ _ c h _ _ _ _ _ _ ⟨⟨hH, hci, k_th, k_am, k_out, h3, k_rd, hl, hm, hc⟩, ⟨hh1, hp, hg⟩, hrc, hrm, hbc, hbi, ⟨hry, hcy, hty, hzy, hky, hcq.le (by first | exact Nat.le_refl _ | exact Nat.le_succ _) (by first | exact Nat.le_refl _ | exact Nat.le_succ _)⟩, _, htC, htM, htb⟩ (by omega) (by omega)
    · obtain rfl : n0 = n1 := (hs_neq (by have h9_ := (zo_ n0 (by omega)).1.1; omega) (by have h9_ := (zo_ n0 (by omega)).1.1; omega)).mp (en0.symm.trans en1)
      exact absurd c6 (Nat.ne_of_lt d6)
  · cases ev
    show et_go _ _ 1000 583 [some (.ref 150), some (.ref th), some (.ref am), some (.ref out), some (.int (Int32.ofNat i)), x5, x6] [.int (Int32.ofNat 0)] _ (ck + c580) (sk + s580) _
    refine ls_istore (i := 5) (p := 585) (by decide +kernel) (Nat.le_of_ble_eq_true rfl) ?_
    refine ls_aload (i := 2) (p := 586) (by decide +kernel) rfl ?_
    refine ls_arg (j := 1) (by decide +kernel) (by omega) hn ?_
    refine ls_arg (j := 2) (by decide +kernel) (by omega) hn ?_
    refine ls_arg (j := 3) (by decide +kernel) (by omega) hn ?_
    refine lt_callv (T := et_TT) (t := 13) (mi := 223) (na := 3) (ci := 11) (lk := 7) (lm := 5) (L0 := eg_en (eg_mL 223) [.ref am, .int (f (i + 1)), .int (f (i + 2)), .int (f (i + 3))]) (by decide +kernel) rfl hH k_am rfl rfl rfl rfl rfl (by rw [show eg_mL 223 = 5 from by decide +kernel]; first | done | rfl) ?_
    have hHo := hH
    refine ((er_p223_ok (K580, [], G580) [.ref am, .int (f (i + 1)), .int (f (i + 2)), .int (f (i + 3))] _ hH (by omega) rfl (ht_ac (.inr ⟨by decide, _, rfl, k_am⟩) (ht_ac hi_any (ht_ac hi_any (ht_ac hi_any ht_an))))).and (gz_wire hH k_am hrm.1.1 hrm.2.1.1 (hrm.2.2 (5, 4) (by decide)).1 b4 zm_ (fun n hn => zo_ n (by omega)) (by omega))).mono (fun u hu => ls_cbvQ (Q := fun u => (¬ xr (f (i + 1)) (cn 4) ∧ u.1 = .inl (some (.int (Int32.ofNat 0))) ∧ et_pl (eg_at u.2.1 am) 0 = some (.int (Int32.ofNat 1)) ∧ zyM u.2.1 aw (cn 4) V_) ∨ ∃ n, ((f (i + 1)) = Int32.ofNat n ∧ n < cn 4) ∧ ((¬ (0 < (f (i + 2)).toInt ∧ (f (i + 2)).toInt < 65536 ∧ 0 ≤ (f (i + 3)).toInt ∧ (f (i + 3)).toInt ≤ 2) ∧ u.1 = .inl (some (.int (Int32.ofNat 0))) ∧ et_pl (eg_at u.2.1 am) 0 = some (.int (Int32.ofNat 2)) ∧ zyM u.2.1 aw (cn 4) V_) ∨ ((0 < (f (i + 2)).toInt ∧ (f (i + 2)).toInt < 65536 ∧ 0 ≤ (f (i + 3)).toInt ∧ (f (i + 3)).toInt ≤ 2) ∧ (V_ n).1 = 6 ∧ u.1 = .inl (some (.int (Int32.ofNat 0))) ∧ et_pl (eg_at u.2.1 am) 0 = some (.int (Int32.ofNat 3)) ∧ zyM u.2.1 aw (cn 4) V_) ∨ ∃ k, (((f (i + 3)) = Int32.ofNat k ∧ k ≤ 2) ∧ (0 < (f (i + 2)).toInt ∧ (f (i + 2)).toInt < 65536) ∧ (V_ n).1 < 6) ∧ u.1 = .inl (some (.int (Int32.ofNat (V_ n).1))) ∧ et_pl (eg_at u.2.1 am) 0 = some (.int (Int32.ofNat 0)) ∧ zyM u.2.1 aw (cn 4) (vup V_ n (wiV (V_ n) (f (i + 2)) k)))) hu (fun v604 K604 G604 c604 s604 x604 f604 hH hv604 cl604 sl604 hQ => ?_))
    have zz_ := zz_.fr zk_ k_th hrc.1.1 hrc.1.2.1 f604 (by decide +kernel)
    have zi_ := zi_.fr (fun n hn => zo_ (3 + n) (by omega)) zki_ f604 (by decide +kernel)
    have zk_ := zk_.ex x604
    have zka_ := x604 _ _ zka_
    have zki_ := x604 _ _ zki_
    have hcq := hcq.fr x604 hHo f604 (by decide +kernel)
    have hky := hky.fr hHo k_am hrm.1.1 f604 (by decide +kernel)
    have hty := hty.fr x604 hHo f604 (by decide +kernel)
    have hcy := hcy.fr x604 f604 (by decide +kernel)
    have hry := hry.fr hHo x604 f604 (by decide +kernel)
    have hci := hci.fr x604 f604 (by decide +kernel)
    have h3 := (f604.2 th 12 k_th 3 rfl).trans h3
    have hl := (f604.2 rd 7 k_rd 1 rfl).trans hl
    have hm := (f604.2 am 13 k_am 5 rfl).trans hm
    have hp := (f604.2 th 12 k_th 2 rfl).trans hp
    have hg := (f604.2 am 13 k_am 3 rfl).trans hg
    have htC := htC.fr k_rd x604 f604 (by decide +kernel)
    have htM := htM.fr k_am x604 f604 (by decide +kernel)
    have hrc := hrc.fr k_th x604 f604 (by decide +kernel)
    have hrm := hrm.fr k_am x604 f604 (by decide +kernel)
    have ho := (f604.2 out 31 k_out 0 rfl).trans ho
    have k_th := x604 _ _ k_th
    have k_am := x604 _ _ k_am
    have k_out := x604 _ _ k_out
    have k_rd := x604 _ _ k_rd
    rcases hQ with ⟨dx, ev2, ht, zm_⟩ | ⟨n1, ⟨en1, hn1⟩, ⟨dw, ev2, ht, zm_⟩ | ⟨dw, d6, ev2, ht, zm_⟩ | ⟨k1, ⟨⟨ek1, hk1⟩, cy1, d6⟩, ev2, ht, zm_⟩⟩
    · exact absurd (xr_m en0 hn0 (by omega)) dx
    · obtain rfl : n0 = n1 := (hs_neq (by have h9_ := (zo_ n0 (by omega)).1.1; omega) (by have h9_ := (zo_ n0 (by omega)).1.1; omega)).mp (en0.symm.trans en1)
      exact absurd (show _ ∧ _ ∧ _ ∧ _ from ⟨cy0.1, cy0.2, by rw [ek0, hs_nint (by omega)]; omega, by rw [ek0, hs_nint (by omega)]; omega⟩) dw
    · obtain rfl : n0 = n1 := (hs_neq (by have h9_ := (zo_ n0 (by omega)).1.1; omega) (by have h9_ := (zo_ n0 (by omega)).1.1; omega)).mp (en0.symm.trans en1)
      exact absurd d6 (Nat.ne_of_lt c6)
    · obtain rfl : n0 = n1 := (hs_neq (by have h9_ := (zo_ n0 (by omega)).1.1; omega) (by have h9_ := (zo_ n0 (by omega)).1.1; omega)).mp (en0.symm.trans en1)
      obtain rfl : k0 = k1 := (hs_neq (by have h9_ := (zo_ n0 (by omega)).1.1; omega) (by have h9_ := (zo_ n0 (by omega)).1.1; omega)).mp (ek0.symm.trans ek1)
      cases ev2
      have hzy : zy K604 G604 th s0 s1 aw ai (cn 4) (im 4) := ⟨ya_, yb_, O_, A_, (vup V_ n0 (wiV (V_ n0) (f (i + 2)) k0)), ⟨zk_, zka_, zki_⟩, zz_, (vup_o zo_ (wiV_o (zo_ n0 (by omega)) c6 hk0)), zm_, (vup_3 zi_ (by omega))⟩
      show et_go _ _ 1000 607 [some (.ref 150), some (.ref th), some (.ref am), some (.ref out), some (.int (Int32.ofNat i)), some (.int (Int32.ofNat 0)), x6] [.int (Int32.ofNat (V_ n0).1)] _ ((ck + c580) + c604) ((sk + s580) + s604) _
      refine ls_istore (i := 6) (p := 609) (by decide +kernel) (Nat.le_of_ble_eq_true rfl) ?_
      refine ls_goto (p := 1663) (by decide +kernel) ?_
      exact hN _ _ c h _ _ _ _ _ _ ⟨⟨hH, hci, k_th, k_am, k_out, h3, k_rd, hl, hm, hc⟩, ⟨hh1, hp, hg⟩, hrc, hrm, hbc, hbi, ⟨hry, hcy, hty, hzy, hky, hcq.le (by first | exact Nat.le_refl _ | exact Nat.le_succ _) (by first | exact Nat.le_refl _ | exact Nat.le_succ _)⟩, _, htC, htM, htb⟩ (by omega) (by omega)
set_option maxHeartbeats 2000000 in
theorem lw_c12 (hI : lw_I K G th am out rd s0 s1 aw ai tp ba na tm c h cn im) (hi : i + 6 ≤ n) (hn : n ≤ 3072) (hN : ∀ (K' : et_K) (G' : eg_G) (c' h' : Nat) (cn' im' : Nat → Nat) (ck' sk' : Nat) (y5 y6 : Option Value), lw_I K' G' th am out rd s0 s1 aw ai tp ba na tm c' h' cn' im' → ck' ≤ ck + 841 → sk' ≤ sk + 7168 → et_go (some (n, f)) (d + 41) 1000 1663 [some (.ref 150), some (.ref th), some (.ref am), some (.ref out), some (.int (Int32.ofNat i)), y5, y6] [] G' ck' sk' Z) : et_go (some (n, f)) (d + 41) 1000 612 [some (.ref 150), some (.ref th), some (.ref am), some (.ref out), some (.int (Int32.ofNat i)), x5, x6] [] G ck sk Z := by
  obtain ⟨⟨hH, hci, k_th, k_am, k_out, h3, k_rd, hl, hm, hc⟩, ⟨hh1, hp, hg⟩, hrc, hrm, hbc, hbi, ⟨hry, hcy, hty, hzy, hky, hcq⟩, tb, htC, htM, htb⟩ := hI
  refine ls_aload (i := 1) (p := 613) (by decide +kernel) rfl ?_
  refine ls_arg (j := 1) (by decide +kernel) (by omega) hn ?_
  refine ls_arg (j := 2) (by decide +kernel) (by omega) hn ?_
  refine ls_arg (j := 3) (by decide +kernel) (by omega) hn ?_
  refine ls_aload (i := 3) (p := 632) (by decide +kernel) rfl ?_
  refine ls_calls (mi := 8) (na := 5) (lk := 7) (lm := 6) (L0 := eg_en (eg_mL 8) [.ref th, .int (f (i + 1)), .int (f (i + 2)), .int (f (i + 3)), .ref out]) (by decide +kernel) rfl rfl rfl rfl rfl rfl (by rw [show eg_mL 8 = 6 from by decide +kernel]; first | done | rfl) ?_
  have hHo := hH
  have b4 : cn 4 ≤ 3 := Int.ofNat_le.mp (hf_bd (t := 10) hH hrc.1.1 rfl rfl (hrc.2.2 (5, 4) (by decide)).1 (hbc 4))
  obtain ⟨ya_, yb_, O_, A_, V_, ⟨zk_, zka_, zki_⟩, zz_, zo_, zm_, zi_⟩ := hzy
  refine ((hh_c8 (K, [], G) [.ref th, .int (f (i + 1)), .int (f (i + 2)), .int (f (i + 3)), .ref out] _ hH (by omega) rfl (ht_ac (.inr ⟨by decide, _, rfl, k_th⟩) (ht_ac hi_any (ht_ac hi_any (ht_ac hi_any (ht_ac (.inr ⟨by decide, _, rfl, k_out⟩) ht_an)))))).and (fz_knob hH k_th hrc.2.1.1 hrc.1.1 hrc.1.2.1 (hrc.2.2 (5, 4) (by decide)).1 b4 zk_ zz_ zo_ k_out (by omega))).mono (fun u hu => ls_cbvQ (Q := fun u => (¬ xr (f (i + 1)) (cn 4) ∧ u.1 = .inl (some (.int (Int32.ofNat 1))) ∧ ez u.2.1 th s0 s1 ya_ yb_ O_ A_ V_) ∨ ∃ n, ((f (i + 1)) = Int32.ofNat n ∧ n < cn 4) ∧ ((¬ (f (i + 2)) = (-1) ∧ ¬ xr (f (i + 2)) (V_ n).1 ∧ u.1 = .inl (some (.int (Int32.ofNat 1))) ∧ ez u.2.1 th s0 s1 ya_ yb_ O_ A_ V_) ∨ ((f (i + 2)) = (-1) ∧ ¬ (-2000 ≤ (f (i + 3)).toInt ∧ (f (i + 3)).toInt ≤ 2000) ∧ u.1 = .inl (some (.int (Int32.ofNat 2))) ∧ ez u.2.1 th s0 s1 ya_ yb_ O_ A_ V_) ∨ ((f (i + 2)) = (-1) ∧ (-2000 ≤ (f (i + 3)).toInt ∧ (f (i + 3)).toInt ≤ 2000) ∧ u.1 = .inl (some (.int (Int32.ofNat 0))) ∧ et_pl (eg_at u.2.1 out) 0 = some (.long (Int64.ofNat (if (V_ n).2.2.2.2.1 = (f (i + 3)) then 0 else 1))) ∧ ez u.2.1 th s0 s1 ya_ yb_ O_ A_ (vup V_ n (klV (V_ n) (f (i + 3))))) ∨ ∃ m, ((f (i + 2)) = Int32.ofNat m ∧ m < (V_ n).1) ∧ ((¬ (-200 ≤ (f (i + 3)).toInt ∧ (f (i + 3)).toInt ≤ 200) ∧ u.1 = .inl (some (.int (Int32.ofNat 2))) ∧ ez u.2.1 th s0 s1 ya_ yb_ O_ A_ V_) ∨ ((-200 ≤ (f (i + 3)).toInt ∧ (f (i + 3)).toInt ≤ 200) ∧ u.1 = .inl (some (.int (Int32.ofNat 0))) ∧ et_pl (eg_at u.2.1 out) 0 = some (.long (Int64.ofNat (if (V_ n).2.2.2.1 m = (f (i + 3)) then 0 else 1))) ∧ ez u.2.1 th s0 s1 ya_ yb_ O_ A_ (vup V_ n (kkV (V_ n) m (f (i + 3)))))))) hu (fun v632 K632 G632 c632 s632 x632 f632 hH hv632 cl632 sl632 hQ => ?_))
  have zm_ := zm_.fr (fun n hn => zo_ n (by omega)) zka_ f632 (by decide +kernel)
  have zi_ := zi_.fr (fun n hn => zo_ (3 + n) (by omega)) zki_ f632 (by decide +kernel)
  have zk_ := zk_.ex x632
  have zka_ := x632 _ _ zka_
  have zki_ := x632 _ _ zki_
  have hcq := hcq.fr x632 hHo f632 (by decide +kernel)
  have hky := hky.fr hHo k_am hrm.1.1 f632 (by decide +kernel)
  have hty := hty.fr x632 hHo f632 (by decide +kernel)
  have hcy := hcy.fr x632 f632 (by decide +kernel)
  have hry := hry.fr hHo x632 f632 (by decide +kernel)
  have hci := hci.fr x632 f632 (by decide +kernel)
  have h3 := (f632.2 th 12 k_th 3 rfl).trans h3
  have hl := (f632.2 rd 7 k_rd 1 rfl).trans hl
  have hm := (f632.2 am 13 k_am 5 rfl).trans hm
  have hp := (f632.2 th 12 k_th 2 rfl).trans hp
  have hg := (f632.2 am 13 k_am 3 rfl).trans hg
  have htC := htC.fr k_rd x632 f632 (by decide +kernel)
  have htM := htM.fr k_am x632 f632 (by decide +kernel)
  have hrc := hrc.fr k_th x632 f632 (by decide +kernel)
  have hrm := hrm.fr k_am x632 f632 (by decide +kernel)
  have k_th := x632 _ _ k_th
  have k_am := x632 _ _ k_am
  have k_out := x632 _ _ k_out
  have k_rd := x632 _ _ k_rd
  rcases hQ with ⟨cx, ev, zz_⟩ | ⟨n0, ⟨en0, hn0⟩, ⟨cy1, cy2, ev, zz_⟩ | ⟨cy1, cl, ev, zz_⟩ | ⟨cy1, cl, ev, ho, zz_⟩ | ⟨m0, ⟨em0, hm0⟩, ⟨ckn, ev, zz_⟩ | ⟨ckn, ev, ho, zz_⟩⟩⟩
  · cases ev
    show et_go _ _ 1000 635 [some (.ref 150), some (.ref th), some (.ref am), some (.ref out), some (.int (Int32.ofNat i)), x5, x6] [.int (Int32.ofNat 1)] _ (ck + c632) (sk + s632) _
    refine ls_istore (i := 5) (p := 637) (by decide +kernel) (Nat.le_of_ble_eq_true rfl) ?_
    refine ls_aload (i := 2) (p := 638) (by decide +kernel) rfl ?_
    refine ls_arg (j := 1) (by decide +kernel) (by omega) hn ?_
    refine ls_arg (j := 2) (by decide +kernel) (by omega) hn ?_
    refine ls_arg (j := 3) (by decide +kernel) (by omega) hn ?_
    refine lt_callv (T := et_TT) (t := 13) (mi := 227) (na := 3) (ci := 11) (lk := 7) (lm := 6) (L0 := eg_en (eg_mL 227) [.ref am, .int (f (i + 1)), .int (f (i + 2)), .int (f (i + 3))]) (by decide +kernel) rfl hH k_am rfl rfl rfl rfl rfl (by rw [show eg_mL 227 = 6 from by decide +kernel]; first | done | rfl) ?_
    have hHo := hH
    refine ((er_p227_ok (K632, [], G632) [.ref am, .int (f (i + 1)), .int (f (i + 2)), .int (f (i + 3))] _ hH (by omega) rfl (ht_ac (.inr ⟨by decide, _, rfl, k_am⟩) (ht_ac hi_any (ht_ac hi_any (ht_ac hi_any ht_an))))).and (gz_knob hH k_am hrm.1.1 hrm.2.1.1 (hrm.2.2 (5, 4) (by decide)).1 b4 zm_ (fun n hn => zo_ n (by omega)) (by omega))).mono (fun u hu => ls_cbvQ (Q := fun u => (¬ xr (f (i + 1)) (cn 4) ∧ u.1 = .inl (some (.int (Int32.ofNat 0))) ∧ et_pl (eg_at u.2.1 am) 0 = some (.int (Int32.ofNat 1)) ∧ zyM u.2.1 aw (cn 4) V_) ∨ ∃ n, ((f (i + 1)) = Int32.ofNat n ∧ n < cn 4) ∧ ((¬ (f (i + 2)) = (-1) ∧ ¬ xr (f (i + 2)) (V_ n).1 ∧ u.1 = .inl (some (.int (Int32.ofNat 0))) ∧ et_pl (eg_at u.2.1 am) 0 = some (.int (Int32.ofNat 1)) ∧ zyM u.2.1 aw (cn 4) V_) ∨ ((f (i + 2)) = (-1) ∧ ¬ (-2000 ≤ (f (i + 3)).toInt ∧ (f (i + 3)).toInt ≤ 2000) ∧ u.1 = .inl (some (.int (Int32.ofNat 0))) ∧ et_pl (eg_at u.2.1 am) 0 = some (.int (Int32.ofNat 2)) ∧ zyM u.2.1 aw (cn 4) V_) ∨ ((f (i + 2)) = (-1) ∧ (-2000 ≤ (f (i + 3)).toInt ∧ (f (i + 3)).toInt ≤ 2000) ∧ u.1 = .inl (some (.int (Int32.ofNat (if (V_ n).2.2.2.2.1 = (f (i + 3)) then 0 else 1)))) ∧ et_pl (eg_at u.2.1 am) 0 = some (.int (Int32.ofNat 0)) ∧ zyM u.2.1 aw (cn 4) (vup V_ n (klV (V_ n) (f (i + 3))))) ∨ ∃ m, ((f (i + 2)) = Int32.ofNat m ∧ m < (V_ n).1) ∧ ((¬ (-200 ≤ (f (i + 3)).toInt ∧ (f (i + 3)).toInt ≤ 200) ∧ u.1 = .inl (some (.int (Int32.ofNat 0))) ∧ et_pl (eg_at u.2.1 am) 0 = some (.int (Int32.ofNat 2)) ∧ zyM u.2.1 aw (cn 4) V_) ∨ ((-200 ≤ (f (i + 3)).toInt ∧ (f (i + 3)).toInt ≤ 200) ∧ u.1 = .inl (some (.int (Int32.ofNat (if (V_ n).2.2.2.1 m = (f (i + 3)) then 0 else 1)))) ∧ et_pl (eg_at u.2.1 am) 0 = some (.int (Int32.ofNat 0)) ∧ zyM u.2.1 aw (cn 4) (vup V_ n (kkV (V_ n) m (f (i + 3)))))))) hu (fun v656 K656 G656 c656 s656 x656 f656 hH hv656 cl656 sl656 hQ => ?_))
    have zz_ := zz_.fr zk_ k_th hrc.1.1 hrc.1.2.1 f656 (by decide +kernel)
    have zi_ := zi_.fr (fun n hn => zo_ (3 + n) (by omega)) zki_ f656 (by decide +kernel)
    have zk_ := zk_.ex x656
    have zka_ := x656 _ _ zka_
    have zki_ := x656 _ _ zki_
    have hcq := hcq.fr x656 hHo f656 (by decide +kernel)
    have hky := hky.fr hHo k_am hrm.1.1 f656 (by decide +kernel)
    have hty := hty.fr x656 hHo f656 (by decide +kernel)
    have hcy := hcy.fr x656 f656 (by decide +kernel)
    have hry := hry.fr hHo x656 f656 (by decide +kernel)
    have hci := hci.fr x656 f656 (by decide +kernel)
    have h3 := (f656.2 th 12 k_th 3 rfl).trans h3
    have hl := (f656.2 rd 7 k_rd 1 rfl).trans hl
    have hm := (f656.2 am 13 k_am 5 rfl).trans hm
    have hp := (f656.2 th 12 k_th 2 rfl).trans hp
    have hg := (f656.2 am 13 k_am 3 rfl).trans hg
    have htC := htC.fr k_rd x656 f656 (by decide +kernel)
    have htM := htM.fr k_am x656 f656 (by decide +kernel)
    have hrc := hrc.fr k_th x656 f656 (by decide +kernel)
    have hrm := hrm.fr k_am x656 f656 (by decide +kernel)
    have k_th := x656 _ _ k_th
    have k_am := x656 _ _ k_am
    have k_out := x656 _ _ k_out
    have k_rd := x656 _ _ k_rd
    rcases hQ with ⟨dx, ev2, ht, zm_⟩ | ⟨n1, ⟨en1, hn1⟩, ⟨dy1, dy2, ev2, ht, zm_⟩ | ⟨dy1, dl, ev2, ht, zm_⟩ | ⟨dy1, dl, ev2, ht, zm_⟩ | ⟨m1, ⟨em1, hm1⟩, ⟨dkn, ev2, ht, zm_⟩ | ⟨dkn, ev2, ht, zm_⟩⟩⟩
    · cases ev2
      have hzy : zy K656 G656 th s0 s1 aw ai (cn 4) (im 4) := ⟨ya_, yb_, O_, A_, V_, ⟨zk_, zka_, zki_⟩, zz_, zo_, zm_, zi_⟩
      show et_go _ _ 1000 659 [some (.ref 150), some (.ref th), some (.ref am), some (.ref out), some (.int (Int32.ofNat i)), some (.int (Int32.ofNat 1)), x6] [.int (Int32.ofNat 0)] _ ((ck + c632) + c656) ((sk + s632) + s656) _
      refine ls_istore (i := 6) (p := 661) (by decide +kernel) (Nat.le_of_ble_eq_true rfl) ?_
      refine ls_goto (p := 1663) (by decide +kernel) ?_
      exact hN _ _ c h _ _ _ _ _ _ ⟨⟨hH, hci, k_th, k_am, k_out, h3, k_rd, hl, hm, hc⟩, ⟨hh1, hp, hg⟩, hrc, hrm, hbc, hbi, ⟨hry, hcy, hty, hzy, hky, hcq.le (by first | exact Nat.le_refl _ | exact Nat.le_succ _) (by first | exact Nat.le_refl _ | exact Nat.le_succ _)⟩, _, htC, htM, htb⟩ (by omega) (by omega)
    · exact absurd (xr_m en1 hn1 (by omega)) cx
    · exact absurd (xr_m en1 hn1 (by omega)) cx
    · exact absurd (xr_m en1 hn1 (by omega)) cx
    · exact absurd (xr_m en1 hn1 (by omega)) cx
    · exact absurd (xr_m en1 hn1 (by omega)) cx
  · cases ev
    show et_go _ _ 1000 635 [some (.ref 150), some (.ref th), some (.ref am), some (.ref out), some (.int (Int32.ofNat i)), x5, x6] [.int (Int32.ofNat 1)] _ (ck + c632) (sk + s632) _
    refine ls_istore (i := 5) (p := 637) (by decide +kernel) (Nat.le_of_ble_eq_true rfl) ?_
    refine ls_aload (i := 2) (p := 638) (by decide +kernel) rfl ?_
    refine ls_arg (j := 1) (by decide +kernel) (by omega) hn ?_
    refine ls_arg (j := 2) (by decide +kernel) (by omega) hn ?_
    refine ls_arg (j := 3) (by decide +kernel) (by omega) hn ?_
    refine lt_callv (T := et_TT) (t := 13) (mi := 227) (na := 3) (ci := 11) (lk := 7) (lm := 6) (L0 := eg_en (eg_mL 227) [.ref am, .int (f (i + 1)), .int (f (i + 2)), .int (f (i + 3))]) (by decide +kernel) rfl hH k_am rfl rfl rfl rfl rfl (by rw [show eg_mL 227 = 6 from by decide +kernel]; first | done | rfl) ?_
    have hHo := hH
    refine ((er_p227_ok (K632, [], G632) [.ref am, .int (f (i + 1)), .int (f (i + 2)), .int (f (i + 3))] _ hH (by omega) rfl (ht_ac (.inr ⟨by decide, _, rfl, k_am⟩) (ht_ac hi_any (ht_ac hi_any (ht_ac hi_any ht_an))))).and (gz_knob hH k_am hrm.1.1 hrm.2.1.1 (hrm.2.2 (5, 4) (by decide)).1 b4 zm_ (fun n hn => zo_ n (by omega)) (by omega))).mono (fun u hu => ls_cbvQ (Q := fun u => (¬ xr (f (i + 1)) (cn 4) ∧ u.1 = .inl (some (.int (Int32.ofNat 0))) ∧ et_pl (eg_at u.2.1 am) 0 = some (.int (Int32.ofNat 1)) ∧ zyM u.2.1 aw (cn 4) V_) ∨ ∃ n, ((f (i + 1)) = Int32.ofNat n ∧ n < cn 4) ∧ ((¬ (f (i + 2)) = (-1) ∧ ¬ xr (f (i + 2)) (V_ n).1 ∧ u.1 = .inl (some (.int (Int32.ofNat 0))) ∧ et_pl (eg_at u.2.1 am) 0 = some (.int (Int32.ofNat 1)) ∧ zyM u.2.1 aw (cn 4) V_) ∨ ((f (i + 2)) = (-1) ∧ ¬ (-2000 ≤ (f (i + 3)).toInt ∧ (f (i + 3)).toInt ≤ 2000) ∧ u.1 = .inl (some (.int (Int32.ofNat 0))) ∧ et_pl (eg_at u.2.1 am) 0 = some (.int (Int32.ofNat 2)) ∧ zyM u.2.1 aw (cn 4) V_) ∨ ((f (i + 2)) = (-1) ∧ (-2000 ≤ (f (i + 3)).toInt ∧ (f (i + 3)).toInt ≤ 2000) ∧ u.1 = .inl (some (.int (Int32.ofNat (if (V_ n).2.2.2.2.1 = (f (i + 3)) then 0 else 1)))) ∧ et_pl (eg_at u.2.1 am) 0 = some (.int (Int32.ofNat 0)) ∧ zyM u.2.1 aw (cn 4) (vup V_ n (klV (V_ n) (f (i + 3))))) ∨ ∃ m, ((f (i + 2)) = Int32.ofNat m ∧ m < (V_ n).1) ∧ ((¬ (-200 ≤ (f (i + 3)).toInt ∧ (f (i + 3)).toInt ≤ 200) ∧ u.1 = .inl (some (.int (Int32.ofNat 0))) ∧ et_pl (eg_at u.2.1 am) 0 = some (.int (Int32.ofNat 2)) ∧ zyM u.2.1 aw (cn 4) V_) ∨ ((-200 ≤ (f (i + 3)).toInt ∧ (f (i + 3)).toInt ≤ 200) ∧ u.1 = .inl (some (.int (Int32.ofNat (if (V_ n).2.2.2.1 m = (f (i + 3)) then 0 else 1)))) ∧ et_pl (eg_at u.2.1 am) 0 = some (.int (Int32.ofNat 0)) ∧ zyM u.2.1 aw (cn 4) (vup V_ n (kkV (V_ n) m (f (i + 3)))))))) hu (fun v656 K656 G656 c656 s656 x656 f656 hH hv656 cl656 sl656 hQ => ?_))
    have zz_ := zz_.fr zk_ k_th hrc.1.1 hrc.1.2.1 f656 (by decide +kernel)
    have zi_ := zi_.fr (fun n hn => zo_ (3 + n) (by omega)) zki_ f656 (by decide +kernel)
    have zk_ := zk_.ex x656
    have zka_ := x656 _ _ zka_
    have zki_ := x656 _ _ zki_
    have hcq := hcq.fr x656 hHo f656 (by decide +kernel)
    have hky := hky.fr hHo k_am hrm.1.1 f656 (by decide +kernel)
    have hty := hty.fr x656 hHo f656 (by decide +kernel)
    have hcy := hcy.fr x656 f656 (by decide +kernel)
    have hry := hry.fr hHo x656 f656 (by decide +kernel)
    have hci := hci.fr x656 f656 (by decide +kernel)
    have h3 := (f656.2 th 12 k_th 3 rfl).trans h3
    have hl := (f656.2 rd 7 k_rd 1 rfl).trans hl
    have hm := (f656.2 am 13 k_am 5 rfl).trans hm
    have hp := (f656.2 th 12 k_th 2 rfl).trans hp
    have hg := (f656.2 am 13 k_am 3 rfl).trans hg
    have htC := htC.fr k_rd x656 f656 (by decide +kernel)
    have htM := htM.fr k_am x656 f656 (by decide +kernel)
    have hrc := hrc.fr k_th x656 f656 (by decide +kernel)
    have hrm := hrm.fr k_am x656 f656 (by decide +kernel)
    have k_th := x656 _ _ k_th
    have k_am := x656 _ _ k_am
    have k_out := x656 _ _ k_out
    have k_rd := x656 _ _ k_rd
    rcases hQ with ⟨dx, ev2, ht, zm_⟩ | ⟨n1, ⟨en1, hn1⟩, ⟨dy1, dy2, ev2, ht, zm_⟩ | ⟨dy1, dl, ev2, ht, zm_⟩ | ⟨dy1, dl, ev2, ht, zm_⟩ | ⟨m1, ⟨em1, hm1⟩, ⟨dkn, ev2, ht, zm_⟩ | ⟨dkn, ev2, ht, zm_⟩⟩⟩
    · exact absurd (xr_m en0 hn0 (by omega)) dx
    · obtain rfl : n0 = n1 := (hs_neq (by have h9_ := (zo_ n0 (by omega)).1.1; omega) (by have h9_ := (zo_ n0 (by omega)).1.1; omega)).mp (en0.symm.trans en1)
      cases ev2
      have hzy : zy K656 G656 th s0 s1 aw ai (cn 4) (im 4) := ⟨ya_, yb_, O_, A_, V_, ⟨zk_, zka_, zki_⟩, zz_, zo_, zm_, zi_⟩
      show et_go _ _ 1000 659 [some (.ref 150), some (.ref th), some (.ref am), some (.ref out), some (.int (Int32.ofNat i)), some (.int (Int32.ofNat 1)), x6] [.int (Int32.ofNat 0)] _ ((ck + c632) + c656) ((sk + s632) + s656) _
      refine ls_istore (i := 6) (p := 661) (by decide +kernel) (Nat.le_of_ble_eq_true rfl) ?_
      refine ls_goto (p := 1663) (by decide +kernel) ?_
      exact hN _ _ c h _ _ _ _ _ _ ⟨⟨hH, hci, k_th, k_am, k_out, h3, k_rd, hl, hm, hc⟩, ⟨hh1, hp, hg⟩, hrc, hrm, hbc, hbi, ⟨hry, hcy, hty, hzy, hky, hcq.le (by first | exact Nat.le_refl _ | exact Nat.le_succ _) (by first | exact Nat.le_refl _ | exact Nat.le_succ _)⟩, _, htC, htM, htb⟩ (by omega) (by omega)
    · obtain rfl : n0 = n1 := (hs_neq (by have h9_ := (zo_ n0 (by omega)).1.1; omega) (by have h9_ := (zo_ n0 (by omega)).1.1; omega)).mp (en0.symm.trans en1)
      exact absurd dy1 cy1
    · obtain rfl : n0 = n1 := (hs_neq (by have h9_ := (zo_ n0 (by omega)).1.1; omega) (by have h9_ := (zo_ n0 (by omega)).1.1; omega)).mp (en0.symm.trans en1)
      exact absurd dy1 cy1
    · obtain rfl : n0 = n1 := (hs_neq (by have h9_ := (zo_ n0 (by omega)).1.1; omega) (by have h9_ := (zo_ n0 (by omega)).1.1; omega)).mp (en0.symm.trans en1)
      exact absurd (xr_m em1 hm1 (Nat.le_trans (zo_ n0 (by omega)).1.1 (by decide))) cy2
    · obtain rfl : n0 = n1 := (hs_neq (by have h9_ := (zo_ n0 (by omega)).1.1; omega) (by have h9_ := (zo_ n0 (by omega)).1.1; omega)).mp (en0.symm.trans en1)
      exact absurd (xr_m em1 hm1 (Nat.le_trans (zo_ n0 (by omega)).1.1 (by decide))) cy2
  · cases ev
    show et_go _ _ 1000 635 [some (.ref 150), some (.ref th), some (.ref am), some (.ref out), some (.int (Int32.ofNat i)), x5, x6] [.int (Int32.ofNat 2)] _ (ck + c632) (sk + s632) _
    refine ls_istore (i := 5) (p := 637) (by decide +kernel) (Nat.le_of_ble_eq_true rfl) ?_
    refine ls_aload (i := 2) (p := 638) (by decide +kernel) rfl ?_
    refine ls_arg (j := 1) (by decide +kernel) (by omega) hn ?_
    refine ls_arg (j := 2) (by decide +kernel) (by omega) hn ?_
    refine ls_arg (j := 3) (by decide +kernel) (by omega) hn ?_
    refine lt_callv (T := et_TT) (t := 13) (mi := 227) (na := 3) (ci := 11) (lk := 7) (lm := 6) (L0 := eg_en (eg_mL 227) [.ref am, .int (f (i + 1)), .int (f (i + 2)), .int (f (i + 3))]) (by decide +kernel) rfl hH k_am rfl rfl rfl rfl rfl (by rw [show eg_mL 227 = 6 from by decide +kernel]; first | done | rfl) ?_
    have hHo := hH
    refine ((er_p227_ok (K632, [], G632) [.ref am, .int (f (i + 1)), .int (f (i + 2)), .int (f (i + 3))] _ hH (by omega) rfl (ht_ac (.inr ⟨by decide, _, rfl, k_am⟩) (ht_ac hi_any (ht_ac hi_any (ht_ac hi_any ht_an))))).and (gz_knob hH k_am hrm.1.1 hrm.2.1.1 (hrm.2.2 (5, 4) (by decide)).1 b4 zm_ (fun n hn => zo_ n (by omega)) (by omega))).mono (fun u hu => ls_cbvQ (Q := fun u => (¬ xr (f (i + 1)) (cn 4) ∧ u.1 = .inl (some (.int (Int32.ofNat 0))) ∧ et_pl (eg_at u.2.1 am) 0 = some (.int (Int32.ofNat 1)) ∧ zyM u.2.1 aw (cn 4) V_) ∨ ∃ n, ((f (i + 1)) = Int32.ofNat n ∧ n < cn 4) ∧ ((¬ (f (i + 2)) = (-1) ∧ ¬ xr (f (i + 2)) (V_ n).1 ∧ u.1 = .inl (some (.int (Int32.ofNat 0))) ∧ et_pl (eg_at u.2.1 am) 0 = some (.int (Int32.ofNat 1)) ∧ zyM u.2.1 aw (cn 4) V_) ∨ ((f (i + 2)) = (-1) ∧ ¬ (-2000 ≤ (f (i + 3)).toInt ∧ (f (i + 3)).toInt ≤ 2000) ∧ u.1 = .inl (some (.int (Int32.ofNat 0))) ∧ et_pl (eg_at u.2.1 am) 0 = some (.int (Int32.ofNat 2)) ∧ zyM u.2.1 aw (cn 4) V_) ∨ ((f (i + 2)) = (-1) ∧ (-2000 ≤ (f (i + 3)).toInt ∧ (f (i + 3)).toInt ≤ 2000) ∧ u.1 = .inl (some (.int (Int32.ofNat (if (V_ n).2.2.2.2.1 = (f (i + 3)) then 0 else 1)))) ∧ et_pl (eg_at u.2.1 am) 0 = some (.int (Int32.ofNat 0)) ∧ zyM u.2.1 aw (cn 4) (vup V_ n (klV (V_ n) (f (i + 3))))) ∨ ∃ m, ((f (i + 2)) = Int32.ofNat m ∧ m < (V_ n).1) ∧ ((¬ (-200 ≤ (f (i + 3)).toInt ∧ (f (i + 3)).toInt ≤ 200) ∧ u.1 = .inl (some (.int (Int32.ofNat 0))) ∧ et_pl (eg_at u.2.1 am) 0 = some (.int (Int32.ofNat 2)) ∧ zyM u.2.1 aw (cn 4) V_) ∨ ((-200 ≤ (f (i + 3)).toInt ∧ (f (i + 3)).toInt ≤ 200) ∧ u.1 = .inl (some (.int (Int32.ofNat (if (V_ n).2.2.2.1 m = (f (i + 3)) then 0 else 1)))) ∧ et_pl (eg_at u.2.1 am) 0 = some (.int (Int32.ofNat 0)) ∧ zyM u.2.1 aw (cn 4) (vup V_ n (kkV (V_ n) m (f (i + 3)))))))) hu (fun v656 K656 G656 c656 s656 x656 f656 hH hv656 cl656 sl656 hQ => ?_))
    have zz_ := zz_.fr zk_ k_th hrc.1.1 hrc.1.2.1 f656 (by decide +kernel)
    have zi_ := zi_.fr (fun n hn => zo_ (3 + n) (by omega)) zki_ f656 (by decide +kernel)
    have zk_ := zk_.ex x656
    have zka_ := x656 _ _ zka_
    have zki_ := x656 _ _ zki_
    have hcq := hcq.fr x656 hHo f656 (by decide +kernel)
    have hky := hky.fr hHo k_am hrm.1.1 f656 (by decide +kernel)
    have hty := hty.fr x656 hHo f656 (by decide +kernel)
    have hcy := hcy.fr x656 f656 (by decide +kernel)
    have hry := hry.fr hHo x656 f656 (by decide +kernel)
    have hci := hci.fr x656 f656 (by decide +kernel)
    have h3 := (f656.2 th 12 k_th 3 rfl).trans h3
    have hl := (f656.2 rd 7 k_rd 1 rfl).trans hl
    have hm := (f656.2 am 13 k_am 5 rfl).trans hm
    have hp := (f656.2 th 12 k_th 2 rfl).trans hp
    have hg := (f656.2 am 13 k_am 3 rfl).trans hg
    have htC := htC.fr k_rd x656 f656 (by decide +kernel)
    have htM := htM.fr k_am x656 f656 (by decide +kernel)
    have hrc := hrc.fr k_th x656 f656 (by decide +kernel)
    have hrm := hrm.fr k_am x656 f656 (by decide +kernel)
    have k_th := x656 _ _ k_th
    have k_am := x656 _ _ k_am
    have k_out := x656 _ _ k_out
    have k_rd := x656 _ _ k_rd
    rcases hQ with ⟨dx, ev2, ht, zm_⟩ | ⟨n1, ⟨en1, hn1⟩, ⟨dy1, dy2, ev2, ht, zm_⟩ | ⟨dy1, dl, ev2, ht, zm_⟩ | ⟨dy1, dl, ev2, ht, zm_⟩ | ⟨m1, ⟨em1, hm1⟩, ⟨dkn, ev2, ht, zm_⟩ | ⟨dkn, ev2, ht, zm_⟩⟩⟩
    · exact absurd (xr_m en0 hn0 (by omega)) dx
    · obtain rfl : n0 = n1 := (hs_neq (by have h9_ := (zo_ n0 (by omega)).1.1; omega) (by have h9_ := (zo_ n0 (by omega)).1.1; omega)).mp (en0.symm.trans en1)
      exact absurd cy1 dy1
    · obtain rfl : n0 = n1 := (hs_neq (by have h9_ := (zo_ n0 (by omega)).1.1; omega) (by have h9_ := (zo_ n0 (by omega)).1.1; omega)).mp (en0.symm.trans en1)
      cases ev2
      have hzy : zy K656 G656 th s0 s1 aw ai (cn 4) (im 4) := ⟨ya_, yb_, O_, A_, V_, ⟨zk_, zka_, zki_⟩, zz_, zo_, zm_, zi_⟩
      show et_go _ _ 1000 659 [some (.ref 150), some (.ref th), some (.ref am), some (.ref out), some (.int (Int32.ofNat i)), some (.int (Int32.ofNat 2)), x6] [.int (Int32.ofNat 0)] _ ((ck + c632) + c656) ((sk + s632) + s656) _
      refine ls_istore (i := 6) (p := 661) (by decide +kernel) (Nat.le_of_ble_eq_true rfl) ?_
      refine ls_goto (p := 1663) (by decide +kernel) ?_
      exact hN _ _ c h _ _ _ _ _ _ ⟨⟨hH, hci, k_th, k_am, k_out, h3, k_rd, hl, hm, hc⟩, ⟨hh1, hp, hg⟩, hrc, hrm, hbc, hbi, ⟨hry, hcy, hty, hzy, hky, hcq.le (by first | exact Nat.le_refl _ | exact Nat.le_succ _) (by first | exact Nat.le_refl _ | exact Nat.le_succ _)⟩, _, htC, htM, htb⟩ (by omega) (by omega)
    · obtain rfl : n0 = n1 := (hs_neq (by have h9_ := (zo_ n0 (by omega)).1.1; omega) (by have h9_ := (zo_ n0 (by omega)).1.1; omega)).mp (en0.symm.trans en1)
      exact absurd dl cl
    · obtain rfl : n0 = n1 := (hs_neq (by have h9_ := (zo_ n0 (by omega)).1.1; omega) (by have h9_ := (zo_ n0 (by omega)).1.1; omega)).mp (en0.symm.trans en1)
      exact absurd cy1 (fun h => xi_nm1 (by have := (zo_ n0 (by omega)).1.1; omega) (em1.symm.trans h))
    · obtain rfl : n0 = n1 := (hs_neq (by have h9_ := (zo_ n0 (by omega)).1.1; omega) (by have h9_ := (zo_ n0 (by omega)).1.1; omega)).mp (en0.symm.trans en1)
      exact absurd cy1 (fun h => xi_nm1 (by have := (zo_ n0 (by omega)).1.1; omega) (em1.symm.trans h))
  · cases ev
    show et_go _ _ 1000 635 [some (.ref 150), some (.ref th), some (.ref am), some (.ref out), some (.int (Int32.ofNat i)), x5, x6] [.int (Int32.ofNat 0)] _ (ck + c632) (sk + s632) _
    refine ls_istore (i := 5) (p := 637) (by decide +kernel) (Nat.le_of_ble_eq_true rfl) ?_
    refine ls_aload (i := 2) (p := 638) (by decide +kernel) rfl ?_
    refine ls_arg (j := 1) (by decide +kernel) (by omega) hn ?_
    refine ls_arg (j := 2) (by decide +kernel) (by omega) hn ?_
    refine ls_arg (j := 3) (by decide +kernel) (by omega) hn ?_
    refine lt_callv (T := et_TT) (t := 13) (mi := 227) (na := 3) (ci := 11) (lk := 7) (lm := 6) (L0 := eg_en (eg_mL 227) [.ref am, .int (f (i + 1)), .int (f (i + 2)), .int (f (i + 3))]) (by decide +kernel) rfl hH k_am rfl rfl rfl rfl rfl (by rw [show eg_mL 227 = 6 from by decide +kernel]; first | done | rfl) ?_
    have hHo := hH
    refine ((er_p227_ok (K632, [], G632) [.ref am, .int (f (i + 1)), .int (f (i + 2)), .int (f (i + 3))] _ hH (by omega) rfl (ht_ac (.inr ⟨by decide, _, rfl, k_am⟩) (ht_ac hi_any (ht_ac hi_any (ht_ac hi_any ht_an))))).and (gz_knob hH k_am hrm.1.1 hrm.2.1.1 (hrm.2.2 (5, 4) (by decide)).1 b4 zm_ (fun n hn => zo_ n (by omega)) (by omega))).mono (fun u hu => ls_cbvQ (Q := fun u => (¬ xr (f (i + 1)) (cn 4) ∧ u.1 = .inl (some (.int (Int32.ofNat 0))) ∧ et_pl (eg_at u.2.1 am) 0 = some (.int (Int32.ofNat 1)) ∧ zyM u.2.1 aw (cn 4) V_) ∨ ∃ n, ((f (i + 1)) = Int32.ofNat n ∧ n < cn 4) ∧ ((¬ (f (i + 2)) = (-1) ∧ ¬ xr (f (i + 2)) (V_ n).1 ∧ u.1 = .inl (some (.int (Int32.ofNat 0))) ∧ et_pl (eg_at u.2.1 am) 0 = some (.int (Int32.ofNat 1)) ∧ zyM u.2.1 aw (cn 4) V_) ∨ ((f (i + 2)) = (-1) ∧ ¬ (-2000 ≤ (f (i + 3)).toInt ∧ (f (i + 3)).toInt ≤ 2000) ∧ u.1 = .inl (some (.int (Int32.ofNat 0))) ∧ et_pl (eg_at u.2.1 am) 0 = some (.int (Int32.ofNat 2)) ∧ zyM u.2.1 aw (cn 4) V_) ∨ ((f (i + 2)) = (-1) ∧ (-2000 ≤ (f (i + 3)).toInt ∧ (f (i + 3)).toInt ≤ 2000) ∧ u.1 = .inl (some (.int (Int32.ofNat (if (V_ n).2.2.2.2.1 = (f (i + 3)) then 0 else 1)))) ∧ et_pl (eg_at u.2.1 am) 0 = some (.int (Int32.ofNat 0)) ∧ zyM u.2.1 aw (cn 4) (vup V_ n (klV (V_ n) (f (i + 3))))) ∨ ∃ m, ((f (i + 2)) = Int32.ofNat m ∧ m < (V_ n).1) ∧ ((¬ (-200 ≤ (f (i + 3)).toInt ∧ (f (i + 3)).toInt ≤ 200) ∧ u.1 = .inl (some (.int (Int32.ofNat 0))) ∧ et_pl (eg_at u.2.1 am) 0 = some (.int (Int32.ofNat 2)) ∧ zyM u.2.1 aw (cn 4) V_) ∨ ((-200 ≤ (f (i + 3)).toInt ∧ (f (i + 3)).toInt ≤ 200) ∧ u.1 = .inl (some (.int (Int32.ofNat (if (V_ n).2.2.2.1 m = (f (i + 3)) then 0 else 1)))) ∧ et_pl (eg_at u.2.1 am) 0 = some (.int (Int32.ofNat 0)) ∧ zyM u.2.1 aw (cn 4) (vup V_ n (kkV (V_ n) m (f (i + 3)))))))) hu (fun v656 K656 G656 c656 s656 x656 f656 hH hv656 cl656 sl656 hQ => ?_))
    have zz_ := zz_.fr zk_ k_th hrc.1.1 hrc.1.2.1 f656 (by decide +kernel)
    have zi_ := zi_.fr (fun n hn => zo_ (3 + n) (by omega)) zki_ f656 (by decide +kernel)
    have zk_ := zk_.ex x656
    have zka_ := x656 _ _ zka_
    have zki_ := x656 _ _ zki_
    have hcq := hcq.fr x656 hHo f656 (by decide +kernel)
    have hky := hky.fr hHo k_am hrm.1.1 f656 (by decide +kernel)
    have hty := hty.fr x656 hHo f656 (by decide +kernel)
    have hcy := hcy.fr x656 f656 (by decide +kernel)
    have hry := hry.fr hHo x656 f656 (by decide +kernel)
    have hci := hci.fr x656 f656 (by decide +kernel)
    have h3 := (f656.2 th 12 k_th 3 rfl).trans h3
    have hl := (f656.2 rd 7 k_rd 1 rfl).trans hl
    have hm := (f656.2 am 13 k_am 5 rfl).trans hm
    have hp := (f656.2 th 12 k_th 2 rfl).trans hp
    have hg := (f656.2 am 13 k_am 3 rfl).trans hg
    have htC := htC.fr k_rd x656 f656 (by decide +kernel)
    have htM := htM.fr k_am x656 f656 (by decide +kernel)
    have hrc := hrc.fr k_th x656 f656 (by decide +kernel)
    have hrm := hrm.fr k_am x656 f656 (by decide +kernel)
    have ho := (f656.2 out 31 k_out 0 rfl).trans ho
    have k_th := x656 _ _ k_th
    have k_am := x656 _ _ k_am
    have k_out := x656 _ _ k_out
    have k_rd := x656 _ _ k_rd
    rcases hQ with ⟨dx, ev2, ht, zm_⟩ | ⟨n1, ⟨en1, hn1⟩, ⟨dy1, dy2, ev2, ht, zm_⟩ | ⟨dy1, dl, ev2, ht, zm_⟩ | ⟨dy1, dl, ev2, ht, zm_⟩ | ⟨m1, ⟨em1, hm1⟩, ⟨dkn, ev2, ht, zm_⟩ | ⟨dkn, ev2, ht, zm_⟩⟩⟩
    · exact absurd (xr_m en0 hn0 (by omega)) dx
    · obtain rfl : n0 = n1 := (hs_neq (by have h9_ := (zo_ n0 (by omega)).1.1; omega) (by have h9_ := (zo_ n0 (by omega)).1.1; omega)).mp (en0.symm.trans en1)
      exact absurd cy1 dy1
    · obtain rfl : n0 = n1 := (hs_neq (by have h9_ := (zo_ n0 (by omega)).1.1; omega) (by have h9_ := (zo_ n0 (by omega)).1.1; omega)).mp (en0.symm.trans en1)
      exact absurd cl dl
    · obtain rfl : n0 = n1 := (hs_neq (by have h9_ := (zo_ n0 (by omega)).1.1; omega) (by have h9_ := (zo_ n0 (by omega)).1.1; omega)).mp (en0.symm.trans en1)
      cases ev2
      have hzy : zy K656 G656 th s0 s1 aw ai (cn 4) (im 4) := ⟨ya_, yb_, O_, A_, (vup V_ n0 (klV (V_ n0) (f (i + 3)))), ⟨zk_, zka_, zki_⟩, zz_, (vup_o zo_ (klV_o (zo_ n0 (by omega)))), zm_, (vup_3 zi_ (by omega))⟩
      show et_go _ _ 1000 659 [some (.ref 150), some (.ref th), some (.ref am), some (.ref out), some (.int (Int32.ofNat i)), some (.int (Int32.ofNat 0)), x6] [.int (Int32.ofNat (if (V_ n0).2.2.2.2.1 = (f (i + 3)) then 0 else 1))] _ ((ck + c632) + c656) ((sk + s632) + s656) _
      refine ls_istore (i := 6) (p := 661) (by decide +kernel) (Nat.le_of_ble_eq_true rfl) ?_
      refine ls_goto (p := 1663) (by decide +kernel) ?_
      exact hN _ _ c h _ _ _ _ _ _ ⟨⟨hH, hci, k_th, k_am, k_out, h3, k_rd, hl, hm, hc⟩, ⟨hh1, hp, hg⟩, hrc, hrm, hbc, hbi, ⟨hry, hcy, hty, hzy, hky, hcq.le (by first | exact Nat.le_refl _ | exact Nat.le_succ _) (by first | exact Nat.le_refl _ | exact Nat.le_succ _)⟩, _, htC, htM, htb⟩ (by omega) (by omega)
    · obtain rfl : n0 = n1 := (hs_neq (by have h9_ := (zo_ n0 (by omega)).1.1; omega) (by have h9_ := (zo_ n0 (by omega)).1.1; omega)).mp (en0.symm.trans en1)
      exact absurd cy1 (fun h => xi_nm1 (by have := (zo_ n0 (by omega)).1.1; omega) (em1.symm.trans h))
    · obtain rfl : n0 = n1 := (hs_neq (by have h9_ := (zo_ n0 (by omega)).1.1; omega) (by have h9_ := (zo_ n0 (by omega)).1.1; omega)).mp (en0.symm.trans en1)
      exact absurd cy1 (fun h => xi_nm1 (by have := (zo_ n0 (by omega)).1.1; omega) (em1.symm.trans h))
  · cases ev
    show et_go _ _ 1000 635 [some (.ref 150), some (.ref th), some (.ref am), some (.ref out), some (.int (Int32.ofNat i)), x5, x6] [.int (Int32.ofNat 2)] _ (ck + c632) (sk + s632) _
    refine ls_istore (i := 5) (p := 637) (by decide +kernel) (Nat.le_of_ble_eq_true rfl) ?_
    refine ls_aload (i := 2) (p := 638) (by decide +kernel) rfl ?_
    refine ls_arg (j := 1) (by decide +kernel) (by omega) hn ?_
    refine ls_arg (j := 2) (by decide +kernel) (by omega) hn ?_
    refine ls_arg (j := 3) (by decide +kernel) (by omega) hn ?_
    refine lt_callv (T := et_TT) (t := 13) (mi := 227) (na := 3) (ci := 11) (lk := 7) (lm := 6) (L0 := eg_en (eg_mL 227) [.ref am, .int (f (i + 1)), .int (f (i + 2)), .int (f (i + 3))]) (by decide +kernel) rfl hH k_am rfl rfl rfl rfl rfl (by rw [show eg_mL 227 = 6 from by decide +kernel]; first | done | rfl) ?_
    have hHo := hH
    refine ((er_p227_ok (K632, [], G632) [.ref am, .int (f (i + 1)), .int (f (i + 2)), .int (f (i + 3))] _ hH (by omega) rfl (ht_ac (.inr ⟨by decide, _, rfl, k_am⟩) (ht_ac hi_any (ht_ac hi_any (ht_ac hi_any ht_an))))).and (gz_knob hH k_am hrm.1.1 hrm.2.1.1 (hrm.2.2 (5, 4) (by decide)).1 b4 zm_ (fun n hn => zo_ n (by omega)) (by omega))).mono (fun u hu => ls_cbvQ (Q := fun u => (¬ xr (f (i + 1)) (cn 4) ∧ u.1 = .inl (some (.int (Int32.ofNat 0))) ∧ et_pl (eg_at u.2.1 am) 0 = some (.int (Int32.ofNat 1)) ∧ zyM u.2.1 aw (cn 4) V_) ∨ ∃ n, ((f (i + 1)) = Int32.ofNat n ∧ n < cn 4) ∧ ((¬ (f (i + 2)) = (-1) ∧ ¬ xr (f (i + 2)) (V_ n).1 ∧ u.1 = .inl (some (.int (Int32.ofNat 0))) ∧ et_pl (eg_at u.2.1 am) 0 = some (.int (Int32.ofNat 1)) ∧ zyM u.2.1 aw (cn 4) V_) ∨ ((f (i + 2)) = (-1) ∧ ¬ (-2000 ≤ (f (i + 3)).toInt ∧ (f (i + 3)).toInt ≤ 2000) ∧ u.1 = .inl (some (.int (Int32.ofNat 0))) ∧ et_pl (eg_at u.2.1 am) 0 = some (.int (Int32.ofNat 2)) ∧ zyM u.2.1 aw (cn 4) V_) ∨ ((f (i + 2)) = (-1) ∧ (-2000 ≤ (f (i + 3)).toInt ∧ (f (i + 3)).toInt ≤ 2000) ∧ u.1 = .inl (some (.int (Int32.ofNat (if (V_ n).2.2.2.2.1 = (f (i + 3)) then 0 else 1)))) ∧ et_pl (eg_at u.2.1 am) 0 = some (.int (Int32.ofNat 0)) ∧ zyM u.2.1 aw (cn 4) (vup V_ n (klV (V_ n) (f (i + 3))))) ∨ ∃ m, ((f (i + 2)) = Int32.ofNat m ∧ m < (V_ n).1) ∧ ((¬ (-200 ≤ (f (i + 3)).toInt ∧ (f (i + 3)).toInt ≤ 200) ∧ u.1 = .inl (some (.int (Int32.ofNat 0))) ∧ et_pl (eg_at u.2.1 am) 0 = some (.int (Int32.ofNat 2)) ∧ zyM u.2.1 aw (cn 4) V_) ∨ ((-200 ≤ (f (i + 3)).toInt ∧ (f (i + 3)).toInt ≤ 200) ∧ u.1 = .inl (some (.int (Int32.ofNat (if (V_ n).2.2.2.1 m = (f (i + 3)) then 0 else 1)))) ∧ et_pl (eg_at u.2.1 am) 0 = some (.int (Int32.ofNat 0)) ∧ zyM u.2.1 aw (cn 4) (vup V_ n (kkV (V_ n) m (f (i + 3)))))))) hu (fun v656 K656 G656 c656 s656 x656 f656 hH hv656 cl656 sl656 hQ => ?_))
    have zz_ := zz_.fr zk_ k_th hrc.1.1 hrc.1.2.1 f656 (by decide +kernel)
    have zi_ := zi_.fr (fun n hn => zo_ (3 + n) (by omega)) zki_ f656 (by decide +kernel)
    have zk_ := zk_.ex x656
    have zka_ := x656 _ _ zka_
    have zki_ := x656 _ _ zki_
    have hcq := hcq.fr x656 hHo f656 (by decide +kernel)
    have hky := hky.fr hHo k_am hrm.1.1 f656 (by decide +kernel)
    have hty := hty.fr x656 hHo f656 (by decide +kernel)
    have hcy := hcy.fr x656 f656 (by decide +kernel)
    have hry := hry.fr hHo x656 f656 (by decide +kernel)
    have hci := hci.fr x656 f656 (by decide +kernel)
    have h3 := (f656.2 th 12 k_th 3 rfl).trans h3
    have hl := (f656.2 rd 7 k_rd 1 rfl).trans hl
    have hm := (f656.2 am 13 k_am 5 rfl).trans hm
    have hp := (f656.2 th 12 k_th 2 rfl).trans hp
    have hg := (f656.2 am 13 k_am 3 rfl).trans hg
    have htC := htC.fr k_rd x656 f656 (by decide +kernel)
    have htM := htM.fr k_am x656 f656 (by decide +kernel)
    have hrc := hrc.fr k_th x656 f656 (by decide +kernel)
    have hrm := hrm.fr k_am x656 f656 (by decide +kernel)
    have k_th := x656 _ _ k_th
    have k_am := x656 _ _ k_am
    have k_out := x656 _ _ k_out
    have k_rd := x656 _ _ k_rd
    rcases hQ with ⟨dx, ev2, ht, zm_⟩ | ⟨n1, ⟨en1, hn1⟩, ⟨dy1, dy2, ev2, ht, zm_⟩ | ⟨dy1, dl, ev2, ht, zm_⟩ | ⟨dy1, dl, ev2, ht, zm_⟩ | ⟨m1, ⟨em1, hm1⟩, ⟨dkn, ev2, ht, zm_⟩ | ⟨dkn, ev2, ht, zm_⟩⟩⟩
    · exact absurd (xr_m en0 hn0 (by omega)) dx
    · obtain rfl : n0 = n1 := (hs_neq (by have h9_ := (zo_ n0 (by omega)).1.1; omega) (by have h9_ := (zo_ n0 (by omega)).1.1; omega)).mp (en0.symm.trans en1)
      exact absurd (xr_m em0 hm0 (Nat.le_trans (zo_ n0 (by omega)).1.1 (by decide))) dy2
    · obtain rfl : n0 = n1 := (hs_neq (by have h9_ := (zo_ n0 (by omega)).1.1; omega) (by have h9_ := (zo_ n0 (by omega)).1.1; omega)).mp (en0.symm.trans en1)
      exact absurd dy1 (fun h => xi_nm1 (by have := (zo_ n0 (by omega)).1.1; omega) (em0.symm.trans h))
    · obtain rfl : n0 = n1 := (hs_neq (by have h9_ := (zo_ n0 (by omega)).1.1; omega) (by have h9_ := (zo_ n0 (by omega)).1.1; omega)).mp (en0.symm.trans en1)
      exact absurd dy1 (fun h => xi_nm1 (by have := (zo_ n0 (by omega)).1.1; omega) (em0.symm.trans h))
    · obtain rfl : n0 = n1 := (hs_neq (by have h9_ := (zo_ n0 (by omega)).1.1; omega) (by have h9_ := (zo_ n0 (by omega)).1.1; omega)).mp (en0.symm.trans en1)
      obtain rfl : m0 = m1 := (hs_neq (by have h9_ := (zo_ n0 (by omega)).1.1; omega) (by have h9_ := (zo_ n0 (by omega)).1.1; omega)).mp (em0.symm.trans em1)
      cases ev2
      have hzy : zy K656 G656 th s0 s1 aw ai (cn 4) (im 4) := ⟨ya_, yb_, O_, A_, V_, ⟨zk_, zka_, zki_⟩, zz_, zo_, zm_, zi_⟩
      show et_go _ _ 1000 659 [some (.ref 150), some (.ref th), some (.ref am), some (.ref out), some (.int (Int32.ofNat i)), some (.int (Int32.ofNat 2)), x6] [.int (Int32.ofNat 0)] _ ((ck + c632) + c656) ((sk + s632) + s656) _
      refine ls_istore (i := 6) (p := 661) (by decide +kernel) (Nat.le_of_ble_eq_true rfl) ?_
      refine ls_goto (p := 1663) (by decide +kernel) ?_
      exact hN _ _ c h _ _ _ _ _ _ ⟨⟨hH, hci, k_th, k_am, k_out, h3, k_rd, hl, hm, hc⟩, ⟨hh1, hp, hg⟩, hrc, hrm, hbc, hbi, ⟨hry, hcy, hty, hzy, hky, hcq.le (by first | exact Nat.le_refl _ | exact Nat.le_succ _) (by first | exact Nat.le_refl _ | exact Nat.le_succ _)⟩, _, htC, htM, htb⟩ (by omega) (by omega)
    · obtain rfl : n0 = n1 := (hs_neq (by have h9_ := (zo_ n0 (by omega)).1.1; omega) (by have h9_ := (zo_ n0 (by omega)).1.1; omega)).mp (en0.symm.trans en1)
      obtain rfl : m0 = m1 := (hs_neq (by have h9_ := (zo_ n0 (by omega)).1.1; omega) (by have h9_ := (zo_ n0 (by omega)).1.1; omega)).mp (em0.symm.trans em1)
      exact absurd dkn ckn
  · cases ev
    show et_go _ _ 1000 635 [some (.ref 150), some (.ref th), some (.ref am), some (.ref out), some (.int (Int32.ofNat i)), x5, x6] [.int (Int32.ofNat 0)] _ (ck + c632) (sk + s632) _
    refine ls_istore (i := 5) (p := 637) (by decide +kernel) (Nat.le_of_ble_eq_true rfl) ?_
    refine ls_aload (i := 2) (p := 638) (by decide +kernel) rfl ?_
    refine ls_arg (j := 1) (by decide +kernel) (by omega) hn ?_
    refine ls_arg (j := 2) (by decide +kernel) (by omega) hn ?_
    refine ls_arg (j := 3) (by decide +kernel) (by omega) hn ?_
    refine lt_callv (T := et_TT) (t := 13) (mi := 227) (na := 3) (ci := 11) (lk := 7) (lm := 6) (L0 := eg_en (eg_mL 227) [.ref am, .int (f (i + 1)), .int (f (i + 2)), .int (f (i + 3))]) (by decide +kernel) rfl hH k_am rfl rfl rfl rfl rfl (by rw [show eg_mL 227 = 6 from by decide +kernel]; first | done | rfl) ?_
    have hHo := hH
    refine ((er_p227_ok (K632, [], G632) [.ref am, .int (f (i + 1)), .int (f (i + 2)), .int (f (i + 3))] _ hH (by omega) rfl (ht_ac (.inr ⟨by decide, _, rfl, k_am⟩) (ht_ac hi_any (ht_ac hi_any (ht_ac hi_any ht_an))))).and (gz_knob hH k_am hrm.1.1 hrm.2.1.1 (hrm.2.2 (5, 4) (by decide)).1 b4 zm_ (fun n hn => zo_ n (by omega)) (by omega))).mono (fun u hu => ls_cbvQ (Q := fun u => (¬ xr (f (i + 1)) (cn 4) ∧ u.1 = .inl (some (.int (Int32.ofNat 0))) ∧ et_pl (eg_at u.2.1 am) 0 = some (.int (Int32.ofNat 1)) ∧ zyM u.2.1 aw (cn 4) V_) ∨ ∃ n, ((f (i + 1)) = Int32.ofNat n ∧ n < cn 4) ∧ ((¬ (f (i + 2)) = (-1) ∧ ¬ xr (f (i + 2)) (V_ n).1 ∧ u.1 = .inl (some (.int (Int32.ofNat 0))) ∧ et_pl (eg_at u.2.1 am) 0 = some (.int (Int32.ofNat 1)) ∧ zyM u.2.1 aw (cn 4) V_) ∨ ((f (i + 2)) = (-1) ∧ ¬ (-2000 ≤ (f (i + 3)).toInt ∧ (f (i + 3)).toInt ≤ 2000) ∧ u.1 = .inl (some (.int (Int32.ofNat 0))) ∧ et_pl (eg_at u.2.1 am) 0 = some (.int (Int32.ofNat 2)) ∧ zyM u.2.1 aw (cn 4) V_) ∨ ((f (i + 2)) = (-1) ∧ (-2000 ≤ (f (i + 3)).toInt ∧ (f (i + 3)).toInt ≤ 2000) ∧ u.1 = .inl (some (.int (Int32.ofNat (if (V_ n).2.2.2.2.1 = (f (i + 3)) then 0 else 1)))) ∧ et_pl (eg_at u.2.1 am) 0 = some (.int (Int32.ofNat 0)) ∧ zyM u.2.1 aw (cn 4) (vup V_ n (klV (V_ n) (f (i + 3))))) ∨ ∃ m, ((f (i + 2)) = Int32.ofNat m ∧ m < (V_ n).1) ∧ ((¬ (-200 ≤ (f (i + 3)).toInt ∧ (f (i + 3)).toInt ≤ 200) ∧ u.1 = .inl (some (.int (Int32.ofNat 0))) ∧ et_pl (eg_at u.2.1 am) 0 = some (.int (Int32.ofNat 2)) ∧ zyM u.2.1 aw (cn 4) V_) ∨ ((-200 ≤ (f (i + 3)).toInt ∧ (f (i + 3)).toInt ≤ 200) ∧ u.1 = .inl (some (.int (Int32.ofNat (if (V_ n).2.2.2.1 m = (f (i + 3)) then 0 else 1)))) ∧ et_pl (eg_at u.2.1 am) 0 = some (.int (Int32.ofNat 0)) ∧ zyM u.2.1 aw (cn 4) (vup V_ n (kkV (V_ n) m (f (i + 3)))))))) hu (fun v656 K656 G656 c656 s656 x656 f656 hH hv656 cl656 sl656 hQ => ?_))
    have zz_ := zz_.fr zk_ k_th hrc.1.1 hrc.1.2.1 f656 (by decide +kernel)
    have zi_ := zi_.fr (fun n hn => zo_ (3 + n) (by omega)) zki_ f656 (by decide +kernel)
    have zk_ := zk_.ex x656
    have zka_ := x656 _ _ zka_
    have zki_ := x656 _ _ zki_
    have hcq := hcq.fr x656 hHo f656 (by decide +kernel)
    have hky := hky.fr hHo k_am hrm.1.1 f656 (by decide +kernel)
    have hty := hty.fr x656 hHo f656 (by decide +kernel)
    have hcy := hcy.fr x656 f656 (by decide +kernel)
    have hry := hry.fr hHo x656 f656 (by decide +kernel)
    have hci := hci.fr x656 f656 (by decide +kernel)
    have h3 := (f656.2 th 12 k_th 3 rfl).trans h3
    have hl := (f656.2 rd 7 k_rd 1 rfl).trans hl
    have hm := (f656.2 am 13 k_am 5 rfl).trans hm
    have hp := (f656.2 th 12 k_th 2 rfl).trans hp
    have hg := (f656.2 am 13 k_am 3 rfl).trans hg
    have htC := htC.fr k_rd x656 f656 (by decide +kernel)
    have htM := htM.fr k_am x656 f656 (by decide +kernel)
    have hrc := hrc.fr k_th x656 f656 (by decide +kernel)
    have hrm := hrm.fr k_am x656 f656 (by decide +kernel)
    have ho := (f656.2 out 31 k_out 0 rfl).trans ho
    have k_th := x656 _ _ k_th
    have k_am := x656 _ _ k_am
    have k_out := x656 _ _ k_out
    have k_rd := x656 _ _ k_rd
    rcases hQ with ⟨dx, ev2, ht, zm_⟩ | ⟨n1, ⟨en1, hn1⟩, ⟨dy1, dy2, ev2, ht, zm_⟩ | ⟨dy1, dl, ev2, ht, zm_⟩ | ⟨dy1, dl, ev2, ht, zm_⟩ | ⟨m1, ⟨em1, hm1⟩, ⟨dkn, ev2, ht, zm_⟩ | ⟨dkn, ev2, ht, zm_⟩⟩⟩
    · exact absurd (xr_m en0 hn0 (by omega)) dx
    · obtain rfl : n0 = n1 := (hs_neq (by have h9_ := (zo_ n0 (by omega)).1.1; omega) (by have h9_ := (zo_ n0 (by omega)).1.1; omega)).mp (en0.symm.trans en1)
      exact absurd (xr_m em0 hm0 (Nat.le_trans (zo_ n0 (by omega)).1.1 (by decide))) dy2
    · obtain rfl : n0 = n1 := (hs_neq (by have h9_ := (zo_ n0 (by omega)).1.1; omega) (by have h9_ := (zo_ n0 (by omega)).1.1; omega)).mp (en0.symm.trans en1)
      exact absurd dy1 (fun h => xi_nm1 (by have := (zo_ n0 (by omega)).1.1; omega) (em0.symm.trans h))
    · obtain rfl : n0 = n1 := (hs_neq (by have h9_ := (zo_ n0 (by omega)).1.1; omega) (by have h9_ := (zo_ n0 (by omega)).1.1; omega)).mp (en0.symm.trans en1)
      exact absurd dy1 (fun h => xi_nm1 (by have := (zo_ n0 (by omega)).1.1; omega) (em0.symm.trans h))
    · obtain rfl : n0 = n1 := (hs_neq (by have h9_ := (zo_ n0 (by omega)).1.1; omega) (by have h9_ := (zo_ n0 (by omega)).1.1; omega)).mp (en0.symm.trans en1)
      obtain rfl : m0 = m1 := (hs_neq (by have h9_ := (zo_ n0 (by omega)).1.1; omega) (by have h9_ := (zo_ n0 (by omega)).1.1; omega)).mp (em0.symm.trans em1)
      exact absurd ckn dkn
    · obtain rfl : n0 = n1 := (hs_neq (by have h9_ := (zo_ n0 (by omega)).1.1; omega) (by have h9_ := (zo_ n0 (by omega)).1.1; omega)).mp (en0.symm.trans en1)
      obtain rfl : m0 = m1 := (hs_neq (by have h9_ := (zo_ n0 (by omega)).1.1; omega) (by have h9_ := (zo_ n0 (by omega)).1.1; omega)).mp (em0.symm.trans em1)
      cases ev2
      have hzy : zy K656 G656 th s0 s1 aw ai (cn 4) (im 4) := ⟨ya_, yb_, O_, A_, (vup V_ n0 (kkV (V_ n0) m0 (f (i + 3)))), ⟨zk_, zka_, zki_⟩, zz_, (vup_o zo_ (kkV_o (zo_ n0 (by omega)) hm0)), zm_, (vup_3 zi_ (by omega))⟩
      show et_go _ _ 1000 659 [some (.ref 150), some (.ref th), some (.ref am), some (.ref out), some (.int (Int32.ofNat i)), some (.int (Int32.ofNat 0)), x6] [.int (Int32.ofNat (if (V_ n0).2.2.2.1 m0 = (f (i + 3)) then 0 else 1))] _ ((ck + c632) + c656) ((sk + s632) + s656) _
      refine ls_istore (i := 6) (p := 661) (by decide +kernel) (Nat.le_of_ble_eq_true rfl) ?_
      refine ls_goto (p := 1663) (by decide +kernel) ?_
      exact hN _ _ c h _ _ _ _ _ _ ⟨⟨hH, hci, k_th, k_am, k_out, h3, k_rd, hl, hm, hc⟩, ⟨hh1, hp, hg⟩, hrc, hrm, hbc, hbi, ⟨hry, hcy, hty, hzy, hky, hcq.le (by first | exact Nat.le_refl _ | exact Nat.le_succ _) (by first | exact Nat.le_refl _ | exact Nat.le_succ _)⟩, _, htC, htM, htb⟩ (by omega) (by omega)
set_option maxHeartbeats 2000000 in
theorem lw_c13 (hI : lw_I K G th am out rd s0 s1 aw ai tp ba na tm c h cn im) (hi : i + 6 ≤ n) (hn : n ≤ 3072) (hN : ∀ (K' : et_K) (G' : eg_G) (c' h' : Nat) (cn' im' : Nat → Nat) (ck' sk' : Nat) (y5 y6 : Option Value), lw_I K' G' th am out rd s0 s1 aw ai tp ba na tm c' h' cn' im' → ck' ≤ ck + 841 → sk' ≤ sk + 7168 → et_go (some (n, f)) (d + 41) 1000 1663 [some (.ref 150), some (.ref th), some (.ref am), some (.ref out), some (.int (Int32.ofNat i)), y5, y6] [] G' ck' sk' Z) : et_go (some (n, f)) (d + 41) 1000 664 [some (.ref 150), some (.ref th), some (.ref am), some (.ref out), some (.int (Int32.ofNat i)), x5, x6] [] G ck sk Z := by
  obtain ⟨⟨hH, hci, k_th, k_am, k_out, h3, k_rd, hl, hm, hc⟩, ⟨hh1, hp, hg⟩, hrc, hrm, hbc, hbi, ⟨hry, hcy, hty, hzy, hky, hcq⟩, tb, htC, htM, htb⟩ := hI
  refine ls_aload (i := 1) (p := 665) (by decide +kernel) rfl ?_
  refine ls_arg (j := 1) (by decide +kernel) (by omega) hn ?_
  refine ls_arg (j := 2) (by decide +kernel) (by omega) hn ?_
  refine ls_arg (j := 3) (by decide +kernel) (by omega) hn ?_
  refine ls_calls (mi := 9) (na := 4) (lk := 7) (lm := 5) (L0 := eg_en (eg_mL 9) [.ref th, .int (f (i + 1)), .int (f (i + 2)), .int (f (i + 3))]) (by decide +kernel) rfl rfl rfl rfl rfl rfl (by rw [show eg_mL 9 = 5 from by decide +kernel]; first | done | rfl) ?_
  have hHo := hH
  have b4 : cn 4 ≤ 3 := Int.ofNat_le.mp (hf_bd (t := 10) hH hrc.1.1 rfl rfl (hrc.2.2 (5, 4) (by decide)).1 (hbc 4))
  obtain ⟨ya_, yb_, O_, A_, V_, ⟨zk_, zka_, zki_⟩, zz_, zo_, zm_, zi_⟩ := hzy
  refine ((hh_c9 (K, [], G) [.ref th, .int (f (i + 1)), .int (f (i + 2)), .int (f (i + 3))] _ hH (by omega) rfl (ht_ac (.inr ⟨by decide, _, rfl, k_th⟩) (ht_ac hi_any (ht_ac hi_any (ht_ac hi_any ht_an))))).and (fz_stuck hH k_th hrc.2.1.1 hrc.1.1 hrc.1.2.1 (hrc.2.2 (5, 4) (by decide)).1 b4 zk_ zz_ zo_ (by omega))).mono (fun u hu => ls_cbvQ (Q := fun u => (¬ xr (f (i + 1)) (cn 4) ∧ u.1 = .inl (some (.int (Int32.ofNat 1))) ∧ ez u.2.1 th s0 s1 ya_ yb_ O_ A_ V_) ∨ ∃ n, ((f (i + 1)) = Int32.ofNat n ∧ n < cn 4) ∧ ((¬ (0 ≤ (f (i + 2)).toInt ∧ (f (i + 2)).toInt ≤ 127 ∧ 0 ≤ (f (i + 3)).toInt ∧ (f (i + 3)).toInt ≤ 50) ∧ u.1 = .inl (some (.int (Int32.ofNat 2))) ∧ ez u.2.1 th s0 s1 ya_ yb_ O_ A_ V_) ∨ ((0 ≤ (f (i + 2)).toInt ∧ (f (i + 2)).toInt ≤ 127 ∧ 0 ≤ (f (i + 3)).toInt ∧ (f (i + 3)).toInt ≤ 50) ∧ u.1 = .inl (some (.int (Int32.ofNat 0))) ∧ ez u.2.1 th s0 s1 ya_ yb_ O_ A_ (vup V_ n (skV (V_ n) (f (i + 2)) (f (i + 3))))))) hu (fun v683 K683 G683 c683 s683 x683 f683 hH hv683 cl683 sl683 hQ => ?_))
  have zm_ := zm_.fr (fun n hn => zo_ n (by omega)) zka_ f683 (by decide +kernel)
  have zi_ := zi_.fr (fun n hn => zo_ (3 + n) (by omega)) zki_ f683 (by decide +kernel)
  have zk_ := zk_.ex x683
  have zka_ := x683 _ _ zka_
  have zki_ := x683 _ _ zki_
  have hcq := hcq.fr x683 hHo f683 (by decide +kernel)
  have hky := hky.fr hHo k_am hrm.1.1 f683 (by decide +kernel)
  have hty := hty.fr x683 hHo f683 (by decide +kernel)
  have hcy := hcy.fr x683 f683 (by decide +kernel)
  have hry := hry.fr hHo x683 f683 (by decide +kernel)
  have hci := hci.fr x683 f683 (by decide +kernel)
  have h3 := (f683.2 th 12 k_th 3 rfl).trans h3
  have hl := (f683.2 rd 7 k_rd 1 rfl).trans hl
  have hm := (f683.2 am 13 k_am 5 rfl).trans hm
  have hp := (f683.2 th 12 k_th 2 rfl).trans hp
  have hg := (f683.2 am 13 k_am 3 rfl).trans hg
  have htC := htC.fr k_rd x683 f683 (by decide +kernel)
  have htM := htM.fr k_am x683 f683 (by decide +kernel)
  have hrc := hrc.fr k_th x683 f683 (by decide +kernel)
  have hrm := hrm.fr k_am x683 f683 (by decide +kernel)
  have k_th := x683 _ _ k_th
  have k_am := x683 _ _ k_am
  have k_out := x683 _ _ k_out
  have k_rd := x683 _ _ k_rd
  rcases hQ with ⟨cx, ev, zz_⟩ | ⟨n0, ⟨en0, hn0⟩, ⟨cs, ev, zz_⟩ | ⟨cs, ev, zz_⟩⟩
  · cases ev
    show et_go _ _ 1000 686 [some (.ref 150), some (.ref th), some (.ref am), some (.ref out), some (.int (Int32.ofNat i)), x5, x6] [.int (Int32.ofNat 1)] _ (ck + c683) (sk + s683) _
    refine ls_istore (i := 5) (p := 688) (by decide +kernel) (Nat.le_of_ble_eq_true rfl) ?_
    refine ls_aload (i := 2) (p := 689) (by decide +kernel) rfl ?_
    refine ls_arg (j := 1) (by decide +kernel) (by omega) hn ?_
    refine ls_arg (j := 2) (by decide +kernel) (by omega) hn ?_
    refine ls_arg (j := 3) (by decide +kernel) (by omega) hn ?_
    refine lt_callv (T := et_TT) (t := 13) (mi := 229) (na := 3) (ci := 11) (lk := 7) (lm := 4) (L0 := eg_en (eg_mL 229) [.ref am, .int (f (i + 1)), .int (f (i + 2)), .int (f (i + 3))]) (by decide +kernel) rfl hH k_am rfl rfl rfl rfl rfl (by rw [show eg_mL 229 = 4 from by decide +kernel]; first | done | rfl) ?_
    have hHo := hH
    refine ((er_p229_ok (K683, [], G683) [.ref am, .int (f (i + 1)), .int (f (i + 2)), .int (f (i + 3))] _ hH (by omega) rfl (ht_ac (.inr ⟨by decide, _, rfl, k_am⟩) (ht_ac hi_any (ht_ac hi_any (ht_ac hi_any ht_an))))).and (gz_stuck hH k_am hrm.1.1 hrm.2.1.1 (hrm.2.2 (5, 4) (by decide)).1 b4 zm_ (fun n hn => zo_ n (by omega)) (by omega))).mono (fun u hu => ls_cbnQ (Q := fun u => (¬ xr (f (i + 1)) (cn 4) ∧ u.1 = .inl none ∧ et_pl (eg_at u.2.1 am) 0 = some (.int (Int32.ofNat 1)) ∧ zyM u.2.1 aw (cn 4) V_) ∨ ∃ n, ((f (i + 1)) = Int32.ofNat n ∧ n < cn 4) ∧ ((¬ (0 ≤ (f (i + 2)).toInt ∧ (f (i + 2)).toInt ≤ 127 ∧ 0 ≤ (f (i + 3)).toInt ∧ (f (i + 3)).toInt ≤ 50) ∧ u.1 = .inl none ∧ et_pl (eg_at u.2.1 am) 0 = some (.int (Int32.ofNat 2)) ∧ zyM u.2.1 aw (cn 4) V_) ∨ ((0 ≤ (f (i + 2)).toInt ∧ (f (i + 2)).toInt ≤ 127 ∧ 0 ≤ (f (i + 3)).toInt ∧ (f (i + 3)).toInt ≤ 50) ∧ u.1 = .inl none ∧ et_pl (eg_at u.2.1 am) 0 = some (.int (Int32.ofNat 0)) ∧ zyM u.2.1 aw (cn 4) (vup V_ n (skV (V_ n) (f (i + 2)) (f (i + 3))))))) hu (fun K707 G707 c707 s707 x707 f707 hH cl707 sl707 hQ => ?_))
    have zz_ := zz_.fr zk_ k_th hrc.1.1 hrc.1.2.1 f707 (by decide +kernel)
    have zi_ := zi_.fr (fun n hn => zo_ (3 + n) (by omega)) zki_ f707 (by decide +kernel)
    have zk_ := zk_.ex x707
    have zka_ := x707 _ _ zka_
    have zki_ := x707 _ _ zki_
    have hcq := hcq.fr x707 hHo f707 (by decide +kernel)
    have hky := hky.fr hHo k_am hrm.1.1 f707 (by decide +kernel)
    have hty := hty.fr x707 hHo f707 (by decide +kernel)
    have hcy := hcy.fr x707 f707 (by decide +kernel)
    have hry := hry.fr hHo x707 f707 (by decide +kernel)
    have hci := hci.fr x707 f707 (by decide +kernel)
    have h3 := (f707.2 th 12 k_th 3 rfl).trans h3
    have hl := (f707.2 rd 7 k_rd 1 rfl).trans hl
    have hm := (f707.2 am 13 k_am 5 rfl).trans hm
    have hp := (f707.2 th 12 k_th 2 rfl).trans hp
    have hg := (f707.2 am 13 k_am 3 rfl).trans hg
    have htC := htC.fr k_rd x707 f707 (by decide +kernel)
    have htM := htM.fr k_am x707 f707 (by decide +kernel)
    have hrc := hrc.fr k_th x707 f707 (by decide +kernel)
    have hrm := hrm.fr k_am x707 f707 (by decide +kernel)
    have k_th := x707 _ _ k_th
    have k_am := x707 _ _ k_am
    have k_out := x707 _ _ k_out
    have k_rd := x707 _ _ k_rd
    rcases hQ with ⟨dx, -, ht, zm_⟩ | ⟨n1, ⟨en1, hn1⟩, ⟨ds, -, ht, zm_⟩ | ⟨ds, -, ht, zm_⟩⟩
    · have hzy : zy K707 G707 th s0 s1 aw ai (cn 4) (im 4) := ⟨ya_, yb_, O_, A_, V_, ⟨zk_, zka_, zki_⟩, zz_, zo_, zm_, zi_⟩
      show et_go _ _ 1000 710 [some (.ref 150), some (.ref th), some (.ref am), some (.ref out), some (.int (Int32.ofNat i)), some (.int (Int32.ofNat 1)), x6] [] _ ((ck + c683) + c707) ((sk + s683) + s707) _
      refine ls_goto (p := 1663) (by decide +kernel) ?_
      exact hN _ _ c h _ _ _ _ _ _ ⟨⟨hH, hci, k_th, k_am, k_out, h3, k_rd, hl, hm, hc⟩, ⟨hh1, hp, hg⟩, hrc, hrm, hbc, hbi, ⟨hry, hcy, hty, hzy, hky, hcq.le (by first | exact Nat.le_refl _ | exact Nat.le_succ _) (by first | exact Nat.le_refl _ | exact Nat.le_succ _)⟩, _, htC, htM, htb⟩ (by omega) (by omega)
    · exact absurd (xr_m en1 hn1 (by omega)) cx
    · exact absurd (xr_m en1 hn1 (by omega)) cx
  · cases ev
    show et_go _ _ 1000 686 [some (.ref 150), some (.ref th), some (.ref am), some (.ref out), some (.int (Int32.ofNat i)), x5, x6] [.int (Int32.ofNat 2)] _ (ck + c683) (sk + s683) _
    refine ls_istore (i := 5) (p := 688) (by decide +kernel) (Nat.le_of_ble_eq_true rfl) ?_
    refine ls_aload (i := 2) (p := 689) (by decide +kernel) rfl ?_
    refine ls_arg (j := 1) (by decide +kernel) (by omega) hn ?_
    refine ls_arg (j := 2) (by decide +kernel) (by omega) hn ?_
    refine ls_arg (j := 3) (by decide +kernel) (by omega) hn ?_
    refine lt_callv (T := et_TT) (t := 13) (mi := 229) (na := 3) (ci := 11) (lk := 7) (lm := 4) (L0 := eg_en (eg_mL 229) [.ref am, .int (f (i + 1)), .int (f (i + 2)), .int (f (i + 3))]) (by decide +kernel) rfl hH k_am rfl rfl rfl rfl rfl (by rw [show eg_mL 229 = 4 from by decide +kernel]; first | done | rfl) ?_
    have hHo := hH
    refine ((er_p229_ok (K683, [], G683) [.ref am, .int (f (i + 1)), .int (f (i + 2)), .int (f (i + 3))] _ hH (by omega) rfl (ht_ac (.inr ⟨by decide, _, rfl, k_am⟩) (ht_ac hi_any (ht_ac hi_any (ht_ac hi_any ht_an))))).and (gz_stuck hH k_am hrm.1.1 hrm.2.1.1 (hrm.2.2 (5, 4) (by decide)).1 b4 zm_ (fun n hn => zo_ n (by omega)) (by omega))).mono (fun u hu => ls_cbnQ (Q := fun u => (¬ xr (f (i + 1)) (cn 4) ∧ u.1 = .inl none ∧ et_pl (eg_at u.2.1 am) 0 = some (.int (Int32.ofNat 1)) ∧ zyM u.2.1 aw (cn 4) V_) ∨ ∃ n, ((f (i + 1)) = Int32.ofNat n ∧ n < cn 4) ∧ ((¬ (0 ≤ (f (i + 2)).toInt ∧ (f (i + 2)).toInt ≤ 127 ∧ 0 ≤ (f (i + 3)).toInt ∧ (f (i + 3)).toInt ≤ 50) ∧ u.1 = .inl none ∧ et_pl (eg_at u.2.1 am) 0 = some (.int (Int32.ofNat 2)) ∧ zyM u.2.1 aw (cn 4) V_) ∨ ((0 ≤ (f (i + 2)).toInt ∧ (f (i + 2)).toInt ≤ 127 ∧ 0 ≤ (f (i + 3)).toInt ∧ (f (i + 3)).toInt ≤ 50) ∧ u.1 = .inl none ∧ et_pl (eg_at u.2.1 am) 0 = some (.int (Int32.ofNat 0)) ∧ zyM u.2.1 aw (cn 4) (vup V_ n (skV (V_ n) (f (i + 2)) (f (i + 3))))))) hu (fun K707 G707 c707 s707 x707 f707 hH cl707 sl707 hQ => ?_))
    have zz_ := zz_.fr zk_ k_th hrc.1.1 hrc.1.2.1 f707 (by decide +kernel)
    have zi_ := zi_.fr (fun n hn => zo_ (3 + n) (by omega)) zki_ f707 (by decide +kernel)
    have zk_ := zk_.ex x707
    have zka_ := x707 _ _ zka_
    have zki_ := x707 _ _ zki_
    have hcq := hcq.fr x707 hHo f707 (by decide +kernel)
    have hky := hky.fr hHo k_am hrm.1.1 f707 (by decide +kernel)
    have hty := hty.fr x707 hHo f707 (by decide +kernel)
    have hcy := hcy.fr x707 f707 (by decide +kernel)
    have hry := hry.fr hHo x707 f707 (by decide +kernel)
    have hci := hci.fr x707 f707 (by decide +kernel)
    have h3 := (f707.2 th 12 k_th 3 rfl).trans h3
    have hl := (f707.2 rd 7 k_rd 1 rfl).trans hl
    have hm := (f707.2 am 13 k_am 5 rfl).trans hm
    have hp := (f707.2 th 12 k_th 2 rfl).trans hp
    have hg := (f707.2 am 13 k_am 3 rfl).trans hg
    have htC := htC.fr k_rd x707 f707 (by decide +kernel)
    have htM := htM.fr k_am x707 f707 (by decide +kernel)
    have hrc := hrc.fr k_th x707 f707 (by decide +kernel)
    have hrm := hrm.fr k_am x707 f707 (by decide +kernel)
    have k_th := x707 _ _ k_th
    have k_am := x707 _ _ k_am
    have k_out := x707 _ _ k_out
    have k_rd := x707 _ _ k_rd
    rcases hQ with ⟨dx, -, ht, zm_⟩ | ⟨n1, ⟨en1, hn1⟩, ⟨ds, -, ht, zm_⟩ | ⟨ds, -, ht, zm_⟩⟩
    · exact absurd (xr_m en0 hn0 (by omega)) dx
    · obtain rfl : n0 = n1 := (hs_neq (by have h9_ := (zo_ n0 (by omega)).1.1; omega) (by have h9_ := (zo_ n0 (by omega)).1.1; omega)).mp (en0.symm.trans en1)
      have hzy : zy K707 G707 th s0 s1 aw ai (cn 4) (im 4) := ⟨ya_, yb_, O_, A_, V_, ⟨zk_, zka_, zki_⟩, zz_, zo_, zm_, zi_⟩
      show et_go _ _ 1000 710 [some (.ref 150), some (.ref th), some (.ref am), some (.ref out), some (.int (Int32.ofNat i)), some (.int (Int32.ofNat 2)), x6] [] _ ((ck + c683) + c707) ((sk + s683) + s707) _
      refine ls_goto (p := 1663) (by decide +kernel) ?_
      exact hN _ _ c h _ _ _ _ _ _ ⟨⟨hH, hci, k_th, k_am, k_out, h3, k_rd, hl, hm, hc⟩, ⟨hh1, hp, hg⟩, hrc, hrm, hbc, hbi, ⟨hry, hcy, hty, hzy, hky, hcq.le (by first | exact Nat.le_refl _ | exact Nat.le_succ _) (by first | exact Nat.le_refl _ | exact Nat.le_succ _)⟩, _, htC, htM, htb⟩ (by omega) (by omega)
    · obtain rfl : n0 = n1 := (hs_neq (by have h9_ := (zo_ n0 (by omega)).1.1; omega) (by have h9_ := (zo_ n0 (by omega)).1.1; omega)).mp (en0.symm.trans en1)
      exact absurd ds cs
  · cases ev
    show et_go _ _ 1000 686 [some (.ref 150), some (.ref th), some (.ref am), some (.ref out), some (.int (Int32.ofNat i)), x5, x6] [.int (Int32.ofNat 0)] _ (ck + c683) (sk + s683) _
    refine ls_istore (i := 5) (p := 688) (by decide +kernel) (Nat.le_of_ble_eq_true rfl) ?_
    refine ls_aload (i := 2) (p := 689) (by decide +kernel) rfl ?_
    refine ls_arg (j := 1) (by decide +kernel) (by omega) hn ?_
    refine ls_arg (j := 2) (by decide +kernel) (by omega) hn ?_
    refine ls_arg (j := 3) (by decide +kernel) (by omega) hn ?_
    refine lt_callv (T := et_TT) (t := 13) (mi := 229) (na := 3) (ci := 11) (lk := 7) (lm := 4) (L0 := eg_en (eg_mL 229) [.ref am, .int (f (i + 1)), .int (f (i + 2)), .int (f (i + 3))]) (by decide +kernel) rfl hH k_am rfl rfl rfl rfl rfl (by rw [show eg_mL 229 = 4 from by decide +kernel]; first | done | rfl) ?_
    have hHo := hH
    refine ((er_p229_ok (K683, [], G683) [.ref am, .int (f (i + 1)), .int (f (i + 2)), .int (f (i + 3))] _ hH (by omega) rfl (ht_ac (.inr ⟨by decide, _, rfl, k_am⟩) (ht_ac hi_any (ht_ac hi_any (ht_ac hi_any ht_an))))).and (gz_stuck hH k_am hrm.1.1 hrm.2.1.1 (hrm.2.2 (5, 4) (by decide)).1 b4 zm_ (fun n hn => zo_ n (by omega)) (by omega))).mono (fun u hu => ls_cbnQ (Q := fun u => (¬ xr (f (i + 1)) (cn 4) ∧ u.1 = .inl none ∧ et_pl (eg_at u.2.1 am) 0 = some (.int (Int32.ofNat 1)) ∧ zyM u.2.1 aw (cn 4) V_) ∨ ∃ n, ((f (i + 1)) = Int32.ofNat n ∧ n < cn 4) ∧ ((¬ (0 ≤ (f (i + 2)).toInt ∧ (f (i + 2)).toInt ≤ 127 ∧ 0 ≤ (f (i + 3)).toInt ∧ (f (i + 3)).toInt ≤ 50) ∧ u.1 = .inl none ∧ et_pl (eg_at u.2.1 am) 0 = some (.int (Int32.ofNat 2)) ∧ zyM u.2.1 aw (cn 4) V_) ∨ ((0 ≤ (f (i + 2)).toInt ∧ (f (i + 2)).toInt ≤ 127 ∧ 0 ≤ (f (i + 3)).toInt ∧ (f (i + 3)).toInt ≤ 50) ∧ u.1 = .inl none ∧ et_pl (eg_at u.2.1 am) 0 = some (.int (Int32.ofNat 0)) ∧ zyM u.2.1 aw (cn 4) (vup V_ n (skV (V_ n) (f (i + 2)) (f (i + 3))))))) hu (fun K707 G707 c707 s707 x707 f707 hH cl707 sl707 hQ => ?_))
    have zz_ := zz_.fr zk_ k_th hrc.1.1 hrc.1.2.1 f707 (by decide +kernel)
    have zi_ := zi_.fr (fun n hn => zo_ (3 + n) (by omega)) zki_ f707 (by decide +kernel)
    have zk_ := zk_.ex x707
    have zka_ := x707 _ _ zka_
    have zki_ := x707 _ _ zki_
    have hcq := hcq.fr x707 hHo f707 (by decide +kernel)
    have hky := hky.fr hHo k_am hrm.1.1 f707 (by decide +kernel)
    have hty := hty.fr x707 hHo f707 (by decide +kernel)
    have hcy := hcy.fr x707 f707 (by decide +kernel)
    have hry := hry.fr hHo x707 f707 (by decide +kernel)
    have hci := hci.fr x707 f707 (by decide +kernel)
    have h3 := (f707.2 th 12 k_th 3 rfl).trans h3
    have hl := (f707.2 rd 7 k_rd 1 rfl).trans hl
    have hm := (f707.2 am 13 k_am 5 rfl).trans hm
    have hp := (f707.2 th 12 k_th 2 rfl).trans hp
    have hg := (f707.2 am 13 k_am 3 rfl).trans hg
    have htC := htC.fr k_rd x707 f707 (by decide +kernel)
    have htM := htM.fr k_am x707 f707 (by decide +kernel)
    have hrc := hrc.fr k_th x707 f707 (by decide +kernel)
    have hrm := hrm.fr k_am x707 f707 (by decide +kernel)
    have k_th := x707 _ _ k_th
    have k_am := x707 _ _ k_am
    have k_out := x707 _ _ k_out
    have k_rd := x707 _ _ k_rd
    rcases hQ with ⟨dx, -, ht, zm_⟩ | ⟨n1, ⟨en1, hn1⟩, ⟨ds, -, ht, zm_⟩ | ⟨ds, -, ht, zm_⟩⟩
    · exact absurd (xr_m en0 hn0 (by omega)) dx
    · obtain rfl : n0 = n1 := (hs_neq (by have h9_ := (zo_ n0 (by omega)).1.1; omega) (by have h9_ := (zo_ n0 (by omega)).1.1; omega)).mp (en0.symm.trans en1)
      exact absurd cs ds
    · obtain rfl : n0 = n1 := (hs_neq (by have h9_ := (zo_ n0 (by omega)).1.1; omega) (by have h9_ := (zo_ n0 (by omega)).1.1; omega)).mp (en0.symm.trans en1)
      have hzy : zy K707 G707 th s0 s1 aw ai (cn 4) (im 4) := ⟨ya_, yb_, O_, A_, (vup V_ n0 (skV (V_ n0) (f (i + 2)) (f (i + 3)))), ⟨zk_, zka_, zki_⟩, zz_, (vup_o zo_ (skV_o (zo_ n0 (by omega)))), zm_, (vup_3 zi_ (by omega))⟩
      show et_go _ _ 1000 710 [some (.ref 150), some (.ref th), some (.ref am), some (.ref out), some (.int (Int32.ofNat i)), some (.int (Int32.ofNat 0)), x6] [] _ ((ck + c683) + c707) ((sk + s683) + s707) _
      refine ls_goto (p := 1663) (by decide +kernel) ?_
      exact hN _ _ c h _ _ _ _ _ _ ⟨⟨hH, hci, k_th, k_am, k_out, h3, k_rd, hl, hm, hc⟩, ⟨hh1, hp, hg⟩, hrc, hrm, hbc, hbi, ⟨hry, hcy, hty, hzy, hky, hcq.le (by first | exact Nat.le_refl _ | exact Nat.le_succ _) (by first | exact Nat.le_refl _ | exact Nat.le_succ _)⟩, _, htC, htM, htb⟩ (by omega) (by omega)
set_option maxHeartbeats 2000000 in
theorem lw_c14 (hI : lw_I K G th am out rd s0 s1 aw ai tp ba na tm c h cn im) (hi : i + 6 ≤ n) (hn : n ≤ 3072) (hN : ∀ (K' : et_K) (G' : eg_G) (c' h' : Nat) (cn' im' : Nat → Nat) (ck' sk' : Nat) (y5 y6 : Option Value), lw_I K' G' th am out rd s0 s1 aw ai tp ba na tm c' h' cn' im' → ck' ≤ ck + 841 → sk' ≤ sk + 7168 → et_go (some (n, f)) (d + 41) 1000 1663 [some (.ref 150), some (.ref th), some (.ref am), some (.ref out), some (.int (Int32.ofNat i)), y5, y6] [] G' ck' sk' Z) : et_go (some (n, f)) (d + 41) 1000 713 [some (.ref 150), some (.ref th), some (.ref am), some (.ref out), some (.int (Int32.ofNat i)), x5, x6] [] G ck sk Z := by
  obtain ⟨⟨hH, hci, k_th, k_am, k_out, h3, k_rd, hl, hm, hc⟩, ⟨hh1, hp, hg⟩, hrc, hrm, hbc, hbi, ⟨hry, hcy, hty, hzy, hky, hcq⟩, tb, htC, htM, htb⟩ := hI
  refine ls_aload (i := 1) (p := 714) (by decide +kernel) rfl ?_
  refine ls_arg (j := 1) (by decide +kernel) (by omega) hn ?_
  refine ls_arg (j := 2) (by decide +kernel) (by omega) hn ?_
  refine ls_aload (i := 3) (p := 727) (by decide +kernel) rfl ?_
  refine ls_calls (mi := 10) (na := 4) (lk := 7) (lm := 5) (L0 := eg_en (eg_mL 10) [.ref th, .int (f (i + 1)), .int (f (i + 2)), .ref out]) (by decide +kernel) rfl rfl rfl rfl rfl rfl (by rw [show eg_mL 10 = 5 from by decide +kernel]; first | done | rfl) ?_
  have hHo := hH
  refine (hh_c10 (K, [], G) [.ref th, .int (f (i + 1)), .int (f (i + 2)), .ref out] _ hH (by omega) rfl (ht_ac (.inr ⟨by decide, _, rfl, k_th⟩) (ht_ac hi_any (ht_ac hi_any (ht_ac (.inr ⟨by decide, _, rfl, k_out⟩) ht_an))))).mono (fun u hu => ls_cbv hu (fun v727 K727 G727 c727 s727 x727 f727 hH hv727 cl727 sl727 => ?_))
  have hcq := hcq.fr x727 hHo f727 (by decide +kernel)
  have hky := hky.fr hHo k_am hrm.1.1 f727 (by decide +kernel)
  have hzy := hzy.fr k_th hrc.1.1 hrc.1.2.1 x727 f727 (by decide +kernel)
  have hty := hty.fr x727 hHo f727 (by decide +kernel)
  have hcy := hcy.fr x727 f727 (by decide +kernel)
  have hry := hry.fr hHo x727 f727 (by decide +kernel)
  have hci := hci.fr x727 f727 (by decide +kernel)
  have h3 := (f727.2 th 12 k_th 3 rfl).trans h3
  have hl := (f727.2 rd 7 k_rd 1 rfl).trans hl
  have hm := (f727.2 am 13 k_am 5 rfl).trans hm
  have hp := (f727.2 th 12 k_th 2 rfl).trans hp
  have hg := (f727.2 am 13 k_am 3 rfl).trans hg
  have htC := htC.fr k_rd x727 f727 (by decide +kernel)
  have htM := htM.fr k_am x727 f727 (by decide +kernel)
  have hrc := hrc.fr k_th x727 f727 (by decide +kernel)
  have hrm := hrm.fr k_am x727 f727 (by decide +kernel)
  have k_th := x727 _ _ k_th
  have k_am := x727 _ _ k_am
  have k_out := x727 _ _ k_out
  have k_rd := x727 _ _ k_rd
  obtain ⟨v727, rfl, -⟩ := hv727
  show et_go _ _ 1000 730 [some (.ref 150), some (.ref th), some (.ref am), some (.ref out), some (.int (Int32.ofNat i)), x5, x6] [.int v727] _ (ck + c727) (sk + s727) _
  refine ls_istore (i := 5) (p := 732) (by decide +kernel) (Nat.le_of_ble_eq_true rfl) ?_
  refine ls_aload (i := 2) (p := 733) (by decide +kernel) rfl ?_
  refine ls_arg (j := 1) (by decide +kernel) (by omega) hn ?_
  refine ls_arg (j := 2) (by decide +kernel) (by omega) hn ?_
  refine lt_callv (T := et_TT) (t := 13) (mi := 230) (na := 2) (ci := 11) (lk := 7) (lm := 3) (L0 := eg_en (eg_mL 230) [.ref am, .int (f (i + 1)), .int (f (i + 2))]) (by decide +kernel) rfl hH k_am rfl rfl rfl rfl rfl (by rw [show eg_mL 230 = 3 from by decide +kernel]; first | done | rfl) ?_
  have hHo := hH
  refine (er_p230_ok (K727, [], G727) [.ref am, .int (f (i + 1)), .int (f (i + 2))] _ hH (by omega) rfl (ht_ac (.inr ⟨by decide, _, rfl, k_am⟩) (ht_ac hi_any (ht_ac hi_any ht_an)))).mono (fun u hu => ls_cbv hu (fun v745 K745 G745 c745 s745 x745 f745 hH hv745 cl745 sl745 => ?_))
  have hcq := hcq.fr x745 hHo f745 (by decide +kernel)
  have hky := hky.fr hHo k_am hrm.1.1 f745 (by decide +kernel)
  have hzy := hzy.fr k_th hrc.1.1 hrc.1.2.1 x745 f745 (by decide +kernel)
  have hty := hty.fr x745 hHo f745 (by decide +kernel)
  have hcy := hcy.fr x745 f745 (by decide +kernel)
  have hry := hry.fr hHo x745 f745 (by decide +kernel)
  have hci := hci.fr x745 f745 (by decide +kernel)
  have h3 := (f745.2 th 12 k_th 3 rfl).trans h3
  have hl := (f745.2 rd 7 k_rd 1 rfl).trans hl
  have hm := (f745.2 am 13 k_am 5 rfl).trans hm
  have hp := (f745.2 th 12 k_th 2 rfl).trans hp
  have hg := (f745.2 am 13 k_am 3 rfl).trans hg
  have htC := htC.fr k_rd x745 f745 (by decide +kernel)
  have htM := htM.fr k_am x745 f745 (by decide +kernel)
  have hrc := hrc.fr k_th x745 f745 (by decide +kernel)
  have hrm := hrm.fr k_am x745 f745 (by decide +kernel)
  have k_th := x745 _ _ k_th
  have k_am := x745 _ _ k_am
  have k_out := x745 _ _ k_out
  have k_rd := x745 _ _ k_rd
  obtain ⟨v745, rfl, -⟩ := hv745
  show et_go _ _ 1000 748 [some (.ref 150), some (.ref th), some (.ref am), some (.ref out), some (.int (Int32.ofNat i)), some (.int v727), x6] [.int v745] _ ((ck + c727) + c745) ((sk + s727) + s745) _
  refine ls_istore (i := 6) (p := 750) (by decide +kernel) (Nat.le_of_ble_eq_true rfl) ?_
  refine ls_goto (p := 1663) (by decide +kernel) ?_
  exact hN _ _ c h _ _ _ _ _ _ ⟨⟨hH, hci, k_th, k_am, k_out, h3, k_rd, hl, hm, hc⟩, ⟨hh1, hp, hg⟩, hrc, hrm, hbc, hbi, ⟨hry, hcy, hty, hzy, hky, hcq.le (by first | exact Nat.le_refl _ | exact Nat.le_succ _) (by first | exact Nat.le_refl _ | exact Nat.le_succ _)⟩, _, htC, htM, htb⟩ (by omega) (by omega)
set_option maxHeartbeats 2000000 in
theorem lw_c15 (hI : lw_I K G th am out rd s0 s1 aw ai tp ba na tm c h cn im) (hi : i + 6 ≤ n) (hn : n ≤ 3072) (hN : ∀ (K' : et_K) (G' : eg_G) (c' h' : Nat) (cn' im' : Nat → Nat) (ck' sk' : Nat) (y5 y6 : Option Value), lw_I K' G' th am out rd s0 s1 aw ai tp ba na tm c' h' cn' im' → ck' ≤ ck + 841 → sk' ≤ sk + 7168 → et_go (some (n, f)) (d + 41) 1000 1663 [some (.ref 150), some (.ref th), some (.ref am), some (.ref out), some (.int (Int32.ofNat i)), y5, y6] [] G' ck' sk' Z) : et_go (some (n, f)) (d + 41) 1000 753 [some (.ref 150), some (.ref th), some (.ref am), some (.ref out), some (.int (Int32.ofNat i)), x5, x6] [] G ck sk Z := by
  obtain ⟨⟨hH, hci, k_th, k_am, k_out, h3, k_rd, hl, hm, hc⟩, ⟨hh1, hp, hg⟩, hrc, hrm, hbc, hbi, ⟨hry, hcy, hty, hzy, hky, hcq⟩, tb, htC, htM, htb⟩ := hI
  refine ls_aload (i := 1) (p := 754) (by decide +kernel) rfl ?_
  refine ls_arg (j := 1) (by decide +kernel) (by omega) hn ?_
  refine ls_arg (j := 2) (by decide +kernel) (by omega) hn ?_
  refine ls_aload (i := 3) (p := 767) (by decide +kernel) rfl ?_
  refine ls_calls (mi := 11) (na := 4) (lk := 7) (lm := 5) (L0 := eg_en (eg_mL 11) [.ref th, .int (f (i + 1)), .int (f (i + 2)), .ref out]) (by decide +kernel) rfl rfl rfl rfl rfl rfl (by rw [show eg_mL 11 = 5 from by decide +kernel]; first | done | rfl) ?_
  have hHo := hH
  have b4 : cn 4 ≤ 3 := Int.ofNat_le.mp (hf_bd (t := 10) hH hrc.1.1 rfl rfl (hrc.2.2 (5, 4) (by decide)).1 (hbc 4))
  obtain ⟨ya_, yb_, O_, A_, V_, ⟨zk_, zka_, zki_⟩, zz_, zo_, zm_, zi_⟩ := hzy
  refine ((hh_c11 (K, [], G) [.ref th, .int (f (i + 1)), .int (f (i + 2)), .ref out] _ hH (by omega) rfl (ht_ac (.inr ⟨by decide, _, rfl, k_th⟩) (ht_ac hi_any (ht_ac hi_any (ht_ac (.inr ⟨by decide, _, rfl, k_out⟩) ht_an))))).and (fz_sees hH k_th hrc.2.1.1 hrc.1.1 hrc.1.2.1 (hrc.2.2 (5, 4) (by decide)).1 b4 zk_ zz_ zo_ k_out (by omega))).mono (fun u hu => ls_cbvQ (Q := fun u => (¬ xr (f (i + 1)) (cn 4) ∧ u.1 = .inl (some (.int (Int32.ofNat 1)))) ∨ ∃ n, ((f (i + 1)) = Int32.ofNat n ∧ n < cn 4) ∧ ((¬ (0 ≤ (f (i + 2)).toInt ∧ (f (i + 2)).toInt < 65536) ∧ u.1 = .inl (some (.int (Int32.ofNat 2)))) ∨ ((0 ≤ (f (i + 2)).toInt ∧ (f (i + 2)).toInt < 65536) ∧ u.1 = .inl (some (.int (Int32.ofNat 0))) ∧ et_pl (eg_at u.2.1 out) 0 = some (.long (suN (V_ n).2.1 (V_ n).2.2.1 (V_ n).2.2.2.1 (f (i + 2)) (V_ n).1).toInt64)))) hu (fun v767 K767 G767 c767 s767 x767 f767 hH hv767 cl767 sl767 hQ => ?_))
  have zz_ := zz_.fr zk_ k_th hrc.1.1 hrc.1.2.1 f767 (by decide +kernel)
  have zm_ := zm_.fr (fun n hn => zo_ n (by omega)) zka_ f767 (by decide +kernel)
  have zi_ := zi_.fr (fun n hn => zo_ (3 + n) (by omega)) zki_ f767 (by decide +kernel)
  have zk_ := zk_.ex x767
  have zka_ := x767 _ _ zka_
  have zki_ := x767 _ _ zki_
  have hcq := hcq.fr x767 hHo f767 (by decide +kernel)
  have hky := hky.fr hHo k_am hrm.1.1 f767 (by decide +kernel)
  have hty := hty.fr x767 hHo f767 (by decide +kernel)
  have hcy := hcy.fr x767 f767 (by decide +kernel)
  have hry := hry.fr hHo x767 f767 (by decide +kernel)
  have hci := hci.fr x767 f767 (by decide +kernel)
  have h3 := (f767.2 th 12 k_th 3 rfl).trans h3
  have hl := (f767.2 rd 7 k_rd 1 rfl).trans hl
  have hm := (f767.2 am 13 k_am 5 rfl).trans hm
  have hp := (f767.2 th 12 k_th 2 rfl).trans hp
  have hg := (f767.2 am 13 k_am 3 rfl).trans hg
  have htC := htC.fr k_rd x767 f767 (by decide +kernel)
  have htM := htM.fr k_am x767 f767 (by decide +kernel)
  have hrc := hrc.fr k_th x767 f767 (by decide +kernel)
  have hrm := hrm.fr k_am x767 f767 (by decide +kernel)
  have k_th := x767 _ _ k_th
  have k_am := x767 _ _ k_am
  have k_out := x767 _ _ k_out
  have k_rd := x767 _ _ k_rd
  rcases hQ with ⟨cx, ev⟩ | ⟨n0, ⟨en0, hn0⟩, ⟨cs, ev⟩ | ⟨cs, ev, ho⟩⟩
  · cases ev
    show et_go _ _ 1000 770 [some (.ref 150), some (.ref th), some (.ref am), some (.ref out), some (.int (Int32.ofNat i)), x5, x6] [.int (Int32.ofNat 1)] _ (ck + c767) (sk + s767) _
    refine ls_istore (i := 5) (p := 772) (by decide +kernel) (Nat.le_of_ble_eq_true rfl) ?_
    refine ls_aload (i := 2) (p := 773) (by decide +kernel) rfl ?_
    refine ls_arg (j := 1) (by decide +kernel) (by omega) hn ?_
    refine ls_arg (j := 2) (by decide +kernel) (by omega) hn ?_
    refine lt_callv (T := et_TT) (t := 13) (mi := 243) (na := 2) (ci := 11) (lk := 7) (lm := 3) (L0 := eg_en (eg_mL 243) [.ref am, .int (f (i + 1)), .int (f (i + 2))]) (by decide +kernel) rfl hH k_am rfl rfl rfl rfl rfl (by rw [show eg_mL 243 = 3 from by decide +kernel]; first | done | rfl) ?_
    have hHo := hH
    refine ((er_p243_ok (K767, [], G767) [.ref am, .int (f (i + 1)), .int (f (i + 2))] _ hH (by omega) rfl (ht_ac (.inr ⟨by decide, _, rfl, k_am⟩) (ht_ac hi_any (ht_ac hi_any ht_an)))).and (gz_sees hH k_am hrm.1.1 hrm.2.1.1 (hrm.2.2 (5, 4) (by decide)).1 b4 zm_ (fun n hn => zo_ n (by omega)) (by omega))).mono (fun u hu => ls_cbvQ (Q := fun u => (¬ xr (f (i + 1)) (cn 4) ∧ u.1 = .inl (some (.int (Int32.ofNat 0))) ∧ et_pl (eg_at u.2.1 am) 0 = some (.int (Int32.ofNat 1))) ∨ ∃ n, ((f (i + 1)) = Int32.ofNat n ∧ n < cn 4) ∧ ((¬ (0 ≤ (f (i + 2)).toInt ∧ (f (i + 2)).toInt < 65536) ∧ u.1 = .inl (some (.int (Int32.ofNat 0))) ∧ et_pl (eg_at u.2.1 am) 0 = some (.int (Int32.ofNat 2))) ∨ ((0 ≤ (f (i + 2)).toInt ∧ (f (i + 2)).toInt < 65536) ∧ u.1 = .inl (some (.int (suN (V_ n).2.1 (V_ n).2.2.1 (V_ n).2.2.2.1 (f (i + 2)) (V_ n).1))) ∧ et_pl (eg_at u.2.1 am) 0 = some (.int (Int32.ofNat 0))))) hu (fun v785 K785 G785 c785 s785 x785 f785 hH hv785 cl785 sl785 hQ => ?_))
    have zz_ := zz_.fr zk_ k_th hrc.1.1 hrc.1.2.1 f785 (by decide +kernel)
    have zm_ := zm_.fr (fun n hn => zo_ n (by omega)) zka_ f785 (by decide +kernel)
    have zi_ := zi_.fr (fun n hn => zo_ (3 + n) (by omega)) zki_ f785 (by decide +kernel)
    have zk_ := zk_.ex x785
    have zka_ := x785 _ _ zka_
    have zki_ := x785 _ _ zki_
    have hcq := hcq.fr x785 hHo f785 (by decide +kernel)
    have hky := hky.fr hHo k_am hrm.1.1 f785 (by decide +kernel)
    have hty := hty.fr x785 hHo f785 (by decide +kernel)
    have hcy := hcy.fr x785 f785 (by decide +kernel)
    have hry := hry.fr hHo x785 f785 (by decide +kernel)
    have hci := hci.fr x785 f785 (by decide +kernel)
    have h3 := (f785.2 th 12 k_th 3 rfl).trans h3
    have hl := (f785.2 rd 7 k_rd 1 rfl).trans hl
    have hm := (f785.2 am 13 k_am 5 rfl).trans hm
    have hp := (f785.2 th 12 k_th 2 rfl).trans hp
    have hg := (f785.2 am 13 k_am 3 rfl).trans hg
    have htC := htC.fr k_rd x785 f785 (by decide +kernel)
    have htM := htM.fr k_am x785 f785 (by decide +kernel)
    have hrc := hrc.fr k_th x785 f785 (by decide +kernel)
    have hrm := hrm.fr k_am x785 f785 (by decide +kernel)
    have k_th := x785 _ _ k_th
    have k_am := x785 _ _ k_am
    have k_out := x785 _ _ k_out
    have k_rd := x785 _ _ k_rd
    rcases hQ with ⟨dx, ev2, ht⟩ | ⟨n1, ⟨en1, hn1⟩, ⟨ds, ev2, ht⟩ | ⟨ds, ev2, ht⟩⟩
    · cases ev2
      have hzy : zy K785 G785 th s0 s1 aw ai (cn 4) (im 4) := ⟨ya_, yb_, O_, A_, V_, ⟨zk_, zka_, zki_⟩, zz_, zo_, zm_, zi_⟩
      show et_go _ _ 1000 788 [some (.ref 150), some (.ref th), some (.ref am), some (.ref out), some (.int (Int32.ofNat i)), some (.int (Int32.ofNat 1)), x6] [.int (Int32.ofNat 0)] _ ((ck + c767) + c785) ((sk + s767) + s785) _
      refine ls_istore (i := 6) (p := 790) (by decide +kernel) (Nat.le_of_ble_eq_true rfl) ?_
      refine ls_goto (p := 1663) (by decide +kernel) ?_
      exact hN _ _ c h _ _ _ _ _ _ ⟨⟨hH, hci, k_th, k_am, k_out, h3, k_rd, hl, hm, hc⟩, ⟨hh1, hp, hg⟩, hrc, hrm, hbc, hbi, ⟨hry, hcy, hty, hzy, hky, hcq.le (by first | exact Nat.le_refl _ | exact Nat.le_succ _) (by first | exact Nat.le_refl _ | exact Nat.le_succ _)⟩, _, htC, htM, htb⟩ (by omega) (by omega)
    · exact absurd (xr_m en1 hn1 (by omega)) cx
    · exact absurd (xr_m en1 hn1 (by omega)) cx
  · cases ev
    show et_go _ _ 1000 770 [some (.ref 150), some (.ref th), some (.ref am), some (.ref out), some (.int (Int32.ofNat i)), x5, x6] [.int (Int32.ofNat 2)] _ (ck + c767) (sk + s767) _
    refine ls_istore (i := 5) (p := 772) (by decide +kernel) (Nat.le_of_ble_eq_true rfl) ?_
    refine ls_aload (i := 2) (p := 773) (by decide +kernel) rfl ?_
    refine ls_arg (j := 1) (by decide +kernel) (by omega) hn ?_
    refine ls_arg (j := 2) (by decide +kernel) (by omega) hn ?_
    refine lt_callv (T := et_TT) (t := 13) (mi := 243) (na := 2) (ci := 11) (lk := 7) (lm := 3) (L0 := eg_en (eg_mL 243) [.ref am, .int (f (i + 1)), .int (f (i + 2))]) (by decide +kernel) rfl hH k_am rfl rfl rfl rfl rfl (by rw [show eg_mL 243 = 3 from by decide +kernel]; first | done | rfl) ?_
    have hHo := hH
    refine ((er_p243_ok (K767, [], G767) [.ref am, .int (f (i + 1)), .int (f (i + 2))] _ hH (by omega) rfl (ht_ac (.inr ⟨by decide, _, rfl, k_am⟩) (ht_ac hi_any (ht_ac hi_any ht_an)))).and (gz_sees hH k_am hrm.1.1 hrm.2.1.1 (hrm.2.2 (5, 4) (by decide)).1 b4 zm_ (fun n hn => zo_ n (by omega)) (by omega))).mono (fun u hu => ls_cbvQ (Q := fun u => (¬ xr (f (i + 1)) (cn 4) ∧ u.1 = .inl (some (.int (Int32.ofNat 0))) ∧ et_pl (eg_at u.2.1 am) 0 = some (.int (Int32.ofNat 1))) ∨ ∃ n, ((f (i + 1)) = Int32.ofNat n ∧ n < cn 4) ∧ ((¬ (0 ≤ (f (i + 2)).toInt ∧ (f (i + 2)).toInt < 65536) ∧ u.1 = .inl (some (.int (Int32.ofNat 0))) ∧ et_pl (eg_at u.2.1 am) 0 = some (.int (Int32.ofNat 2))) ∨ ((0 ≤ (f (i + 2)).toInt ∧ (f (i + 2)).toInt < 65536) ∧ u.1 = .inl (some (.int (suN (V_ n).2.1 (V_ n).2.2.1 (V_ n).2.2.2.1 (f (i + 2)) (V_ n).1))) ∧ et_pl (eg_at u.2.1 am) 0 = some (.int (Int32.ofNat 0))))) hu (fun v785 K785 G785 c785 s785 x785 f785 hH hv785 cl785 sl785 hQ => ?_))
    have zz_ := zz_.fr zk_ k_th hrc.1.1 hrc.1.2.1 f785 (by decide +kernel)
    have zm_ := zm_.fr (fun n hn => zo_ n (by omega)) zka_ f785 (by decide +kernel)
    have zi_ := zi_.fr (fun n hn => zo_ (3 + n) (by omega)) zki_ f785 (by decide +kernel)
    have zk_ := zk_.ex x785
    have zka_ := x785 _ _ zka_
    have zki_ := x785 _ _ zki_
    have hcq := hcq.fr x785 hHo f785 (by decide +kernel)
    have hky := hky.fr hHo k_am hrm.1.1 f785 (by decide +kernel)
    have hty := hty.fr x785 hHo f785 (by decide +kernel)
    have hcy := hcy.fr x785 f785 (by decide +kernel)
    have hry := hry.fr hHo x785 f785 (by decide +kernel)
    have hci := hci.fr x785 f785 (by decide +kernel)
    have h3 := (f785.2 th 12 k_th 3 rfl).trans h3
    have hl := (f785.2 rd 7 k_rd 1 rfl).trans hl
    have hm := (f785.2 am 13 k_am 5 rfl).trans hm
    have hp := (f785.2 th 12 k_th 2 rfl).trans hp
    have hg := (f785.2 am 13 k_am 3 rfl).trans hg
    have htC := htC.fr k_rd x785 f785 (by decide +kernel)
    have htM := htM.fr k_am x785 f785 (by decide +kernel)
    have hrc := hrc.fr k_th x785 f785 (by decide +kernel)
    have hrm := hrm.fr k_am x785 f785 (by decide +kernel)
    have k_th := x785 _ _ k_th
    have k_am := x785 _ _ k_am
    have k_out := x785 _ _ k_out
    have k_rd := x785 _ _ k_rd
    rcases hQ with ⟨dx, ev2, ht⟩ | ⟨n1, ⟨en1, hn1⟩, ⟨ds, ev2, ht⟩ | ⟨ds, ev2, ht⟩⟩
    · exact absurd (xr_m en0 hn0 (by omega)) dx
    · obtain rfl : n0 = n1 := (hs_neq (by have h9_ := (zo_ n0 (by omega)).1.1; omega) (by have h9_ := (zo_ n0 (by omega)).1.1; omega)).mp (en0.symm.trans en1)
      cases ev2
      have hzy : zy K785 G785 th s0 s1 aw ai (cn 4) (im 4) := ⟨ya_, yb_, O_, A_, V_, ⟨zk_, zka_, zki_⟩, zz_, zo_, zm_, zi_⟩
      show et_go _ _ 1000 788 [some (.ref 150), some (.ref th), some (.ref am), some (.ref out), some (.int (Int32.ofNat i)), some (.int (Int32.ofNat 2)), x6] [.int (Int32.ofNat 0)] _ ((ck + c767) + c785) ((sk + s767) + s785) _
      refine ls_istore (i := 6) (p := 790) (by decide +kernel) (Nat.le_of_ble_eq_true rfl) ?_
      refine ls_goto (p := 1663) (by decide +kernel) ?_
      exact hN _ _ c h _ _ _ _ _ _ ⟨⟨hH, hci, k_th, k_am, k_out, h3, k_rd, hl, hm, hc⟩, ⟨hh1, hp, hg⟩, hrc, hrm, hbc, hbi, ⟨hry, hcy, hty, hzy, hky, hcq.le (by first | exact Nat.le_refl _ | exact Nat.le_succ _) (by first | exact Nat.le_refl _ | exact Nat.le_succ _)⟩, _, htC, htM, htb⟩ (by omega) (by omega)
    · obtain rfl : n0 = n1 := (hs_neq (by have h9_ := (zo_ n0 (by omega)).1.1; omega) (by have h9_ := (zo_ n0 (by omega)).1.1; omega)).mp (en0.symm.trans en1)
      exact absurd ds cs
  · cases ev
    show et_go _ _ 1000 770 [some (.ref 150), some (.ref th), some (.ref am), some (.ref out), some (.int (Int32.ofNat i)), x5, x6] [.int (Int32.ofNat 0)] _ (ck + c767) (sk + s767) _
    refine ls_istore (i := 5) (p := 772) (by decide +kernel) (Nat.le_of_ble_eq_true rfl) ?_
    refine ls_aload (i := 2) (p := 773) (by decide +kernel) rfl ?_
    refine ls_arg (j := 1) (by decide +kernel) (by omega) hn ?_
    refine ls_arg (j := 2) (by decide +kernel) (by omega) hn ?_
    refine lt_callv (T := et_TT) (t := 13) (mi := 243) (na := 2) (ci := 11) (lk := 7) (lm := 3) (L0 := eg_en (eg_mL 243) [.ref am, .int (f (i + 1)), .int (f (i + 2))]) (by decide +kernel) rfl hH k_am rfl rfl rfl rfl rfl (by rw [show eg_mL 243 = 3 from by decide +kernel]; first | done | rfl) ?_
    have hHo := hH
    refine ((er_p243_ok (K767, [], G767) [.ref am, .int (f (i + 1)), .int (f (i + 2))] _ hH (by omega) rfl (ht_ac (.inr ⟨by decide, _, rfl, k_am⟩) (ht_ac hi_any (ht_ac hi_any ht_an)))).and (gz_sees hH k_am hrm.1.1 hrm.2.1.1 (hrm.2.2 (5, 4) (by decide)).1 b4 zm_ (fun n hn => zo_ n (by omega)) (by omega))).mono (fun u hu => ls_cbvQ (Q := fun u => (¬ xr (f (i + 1)) (cn 4) ∧ u.1 = .inl (some (.int (Int32.ofNat 0))) ∧ et_pl (eg_at u.2.1 am) 0 = some (.int (Int32.ofNat 1))) ∨ ∃ n, ((f (i + 1)) = Int32.ofNat n ∧ n < cn 4) ∧ ((¬ (0 ≤ (f (i + 2)).toInt ∧ (f (i + 2)).toInt < 65536) ∧ u.1 = .inl (some (.int (Int32.ofNat 0))) ∧ et_pl (eg_at u.2.1 am) 0 = some (.int (Int32.ofNat 2))) ∨ ((0 ≤ (f (i + 2)).toInt ∧ (f (i + 2)).toInt < 65536) ∧ u.1 = .inl (some (.int (suN (V_ n).2.1 (V_ n).2.2.1 (V_ n).2.2.2.1 (f (i + 2)) (V_ n).1))) ∧ et_pl (eg_at u.2.1 am) 0 = some (.int (Int32.ofNat 0))))) hu (fun v785 K785 G785 c785 s785 x785 f785 hH hv785 cl785 sl785 hQ => ?_))
    have zz_ := zz_.fr zk_ k_th hrc.1.1 hrc.1.2.1 f785 (by decide +kernel)
    have zm_ := zm_.fr (fun n hn => zo_ n (by omega)) zka_ f785 (by decide +kernel)
    have zi_ := zi_.fr (fun n hn => zo_ (3 + n) (by omega)) zki_ f785 (by decide +kernel)
    have zk_ := zk_.ex x785
    have zka_ := x785 _ _ zka_
    have zki_ := x785 _ _ zki_
    have hcq := hcq.fr x785 hHo f785 (by decide +kernel)
    have hky := hky.fr hHo k_am hrm.1.1 f785 (by decide +kernel)
    have hty := hty.fr x785 hHo f785 (by decide +kernel)
    have hcy := hcy.fr x785 f785 (by decide +kernel)
    have hry := hry.fr hHo x785 f785 (by decide +kernel)
    have hci := hci.fr x785 f785 (by decide +kernel)
    have h3 := (f785.2 th 12 k_th 3 rfl).trans h3
    have hl := (f785.2 rd 7 k_rd 1 rfl).trans hl
    have hm := (f785.2 am 13 k_am 5 rfl).trans hm
    have hp := (f785.2 th 12 k_th 2 rfl).trans hp
    have hg := (f785.2 am 13 k_am 3 rfl).trans hg
    have htC := htC.fr k_rd x785 f785 (by decide +kernel)
    have htM := htM.fr k_am x785 f785 (by decide +kernel)
    have hrc := hrc.fr k_th x785 f785 (by decide +kernel)
    have hrm := hrm.fr k_am x785 f785 (by decide +kernel)
    have ho := (f785.2 out 31 k_out 0 rfl).trans ho
    have k_th := x785 _ _ k_th
    have k_am := x785 _ _ k_am
    have k_out := x785 _ _ k_out
    have k_rd := x785 _ _ k_rd
    rcases hQ with ⟨dx, ev2, ht⟩ | ⟨n1, ⟨en1, hn1⟩, ⟨ds, ev2, ht⟩ | ⟨ds, ev2, ht⟩⟩
    · exact absurd (xr_m en0 hn0 (by omega)) dx
    · obtain rfl : n0 = n1 := (hs_neq (by have h9_ := (zo_ n0 (by omega)).1.1; omega) (by have h9_ := (zo_ n0 (by omega)).1.1; omega)).mp (en0.symm.trans en1)
      exact absurd cs ds
    · obtain rfl : n0 = n1 := (hs_neq (by have h9_ := (zo_ n0 (by omega)).1.1; omega) (by have h9_ := (zo_ n0 (by omega)).1.1; omega)).mp (en0.symm.trans en1)
      cases ev2
      have hzy : zy K785 G785 th s0 s1 aw ai (cn 4) (im 4) := ⟨ya_, yb_, O_, A_, V_, ⟨zk_, zka_, zki_⟩, zz_, zo_, zm_, zi_⟩
      show et_go _ _ 1000 788 [some (.ref 150), some (.ref th), some (.ref am), some (.ref out), some (.int (Int32.ofNat i)), some (.int (Int32.ofNat 0)), x6] [.int (suN (V_ n0).2.1 (V_ n0).2.2.1 (V_ n0).2.2.2.1 (f (i + 2)) (V_ n0).1)] _ ((ck + c767) + c785) ((sk + s767) + s785) _
      refine ls_istore (i := 6) (p := 790) (by decide +kernel) (Nat.le_of_ble_eq_true rfl) ?_
      refine ls_goto (p := 1663) (by decide +kernel) ?_
      exact hN _ _ c h _ _ _ _ _ _ ⟨⟨hH, hci, k_th, k_am, k_out, h3, k_rd, hl, hm, hc⟩, ⟨hh1, hp, hg⟩, hrc, hrm, hbc, hbi, ⟨hry, hcy, hty, hzy, hky, hcq.le (by first | exact Nat.le_refl _ | exact Nat.le_succ _) (by first | exact Nat.le_refl _ | exact Nat.le_succ _)⟩, _, htC, htM, htb⟩ (by omega) (by omega)
set_option maxHeartbeats 2000000 in
theorem lw_c16 (hI : lw_I K G th am out rd s0 s1 aw ai tp ba na tm c h cn im) (hi : i + 6 ≤ n) (hn : n ≤ 3072) (hN : ∀ (K' : et_K) (G' : eg_G) (c' h' : Nat) (cn' im' : Nat → Nat) (ck' sk' : Nat) (y5 y6 : Option Value), lw_I K' G' th am out rd s0 s1 aw ai tp ba na tm c' h' cn' im' → ck' ≤ ck + 841 → sk' ≤ sk + 7168 → et_go (some (n, f)) (d + 41) 1000 1663 [some (.ref 150), some (.ref th), some (.ref am), some (.ref out), some (.int (Int32.ofNat i)), y5, y6] [] G' ck' sk' Z) : et_go (some (n, f)) (d + 41) 1000 793 [some (.ref 150), some (.ref th), some (.ref am), some (.ref out), some (.int (Int32.ofNat i)), x5, x6] [] G ck sk Z := by
  obtain ⟨⟨hH, hci, k_th, k_am, k_out, h3, k_rd, hl, hm, hc⟩, ⟨hh1, hp, hg⟩, hrc, hrm, hbc, hbi, ⟨hry, hcy, hty, hzy, hky, hcq⟩, tb, htC, htM, htb⟩ := hI
  refine ls_aload (i := 1) (p := 794) (by decide +kernel) rfl ?_
  refine ls_arg (j := 1) (by decide +kernel) (by omega) hn ?_
  refine ls_arg (j := 2) (by decide +kernel) (by omega) hn ?_
  refine ls_arg (j := 3) (by decide +kernel) (by omega) hn ?_
  refine ls_aload (i := 3) (p := 813) (by decide +kernel) rfl ?_
  refine ls_calls (mi := 12) (na := 5) (lk := 7) (lm := 6) (L0 := eg_en (eg_mL 12) [.ref th, .int (f (i + 1)), .int (f (i + 2)), .int (f (i + 3)), .ref out]) (by decide +kernel) rfl rfl rfl rfl rfl rfl (by rw [show eg_mL 12 = 6 from by decide +kernel]; first | done | rfl) ?_
  have hHo := hH
  have b4 : cn 4 ≤ 3 := Int.ofNat_le.mp (hf_bd (t := 10) hH hrc.1.1 rfl rfl (hrc.2.2 (5, 4) (by decide)).1 (hbc 4))
  have b1 : cn 1 ≤ 4 := Int.ofNat_le.mp (hf_bd (t := 10) hH hrc.1.1 rfl rfl (hrc.2.2 (7, 1) (by decide)).1 (hbc 1))
  have b3 : cn 3 ≤ 20 := Int.ofNat_le.mp (hf_bd (t := 10) hH hrc.1.1 rfl rfl (hrc.2.2 (2, 3) (by decide)).1 (hbc 3))
  obtain ⟨t0_, t1_, T0_, T1_, L0_, L1_, tK_, ⟨tp0_, tp1_⟩, ⟨tc_, ti_⟩, ⟨tE_, tX_⟩, tF_, tY_⟩ := id hty
  obtain ⟨la0, ya0, la1, ya1, X_, X2_, Y_, Y2_, tk_, bk_, ⟨hcc_, hcr_⟩, hcd_, hcs_⟩ := id hcy
  obtain ⟨ya_, yb_, O_, A_, V_, ⟨zk_, zka_, zki_⟩, zz_, zo_, zm_, zi_⟩ := hzy
  refine ((hh_c12 (K, [], G) [.ref th, .int (f (i + 1)), .int (f (i + 2)), .int (f (i + 3)), .ref out] _ hH (by omega) rfl (ht_ac (.inr ⟨by decide, _, rfl, k_th⟩) (ht_ac hi_any (ht_ac hi_any (ht_ac hi_any (ht_ac (.inr ⟨by decide, _, rfl, k_out⟩) ht_an)))))).and (fz_show hH k_th hrc.2.1.1 hrc.1.1 hrc.1.2.1 (hrc.2.2 (5, 4) (by decide)).1 b4 zk_ zz_ zo_ (hrc.2.2 (7, 1) (by decide)).1 b1 tp0_ tK_.1.2.2.1 tE_ (hrc.2.2 (2, 3) (by decide)).1 b3 hcc_ tk_.2.1.1 tk_.2.1.2.1 k_out (by omega))).mono (fun u hu => ls_cbvQ (Q := fun u => (¬ (xr (f (i + 1)) (cn 4) ∧ xr (f (i + 2)) (cn 3) ∧ xr (f (i + 3)) (cn 1)) ∧ u.1 = .inl (some (.int (Int32.ofNat 1))) ∧ ez u.2.1 th s0 s1 ya_ yb_ O_ A_ V_) ∨ ∃ n c k, ((f (i + 1)) = Int32.ofNat n ∧ (f (i + 2)) = Int32.ofNat c ∧ (f (i + 3)) = Int32.ofNat k) ∧ (n < cn 4 ∧ c < cn 3 ∧ k < cn 1) ∧ u.1 = .inl (some (.int (Int32.ofNat 0))) ∧ et_pl (eg_at u.2.1 out) 0 = some (.long (Int64.ofNat (if shB (V_ n) (X_ c) (yB (Y_ c)) = true then 1 else 0))) ∧ ez u.2.1 th s0 s1 ya_ yb_ O_ A_ (vup V_ n (shV (V_ n) (X_ c) (yB (Y_ c)) (L0_ k)))) hu (fun v813 K813 G813 c813 s813 x813 f813 hH hv813 cl813 sl813 hQ => ?_))
  have zm_ := zm_.fr (fun n hn => zo_ n (by omega)) zka_ f813 (by decide +kernel)
  have zi_ := zi_.fr (fun n hn => zo_ (3 + n) (by omega)) zki_ f813 (by decide +kernel)
  have zk_ := zk_.ex x813
  have zka_ := x813 _ _ zka_
  have zki_ := x813 _ _ zki_
  have hcr_ := hcr_.fr bk_.1 tk_.2.2.1.1 f813 (by decide +kernel)
  have tX_ := tX_.fr tK_.2.1.1 tc_ f813 (by decide +kernel)
  have hcq := hcq.fr x813 hHo f813 (by decide +kernel)
  have hky := hky.fr hHo k_am hrm.1.1 f813 (by decide +kernel)
  have hty := hty.fr x813 hHo f813 (by decide +kernel)
  have hcy := hcy.fr x813 f813 (by decide +kernel)
  have hry := hry.fr hHo x813 f813 (by decide +kernel)
  have hci := hci.fr x813 f813 (by decide +kernel)
  have h3 := (f813.2 th 12 k_th 3 rfl).trans h3
  have hl := (f813.2 rd 7 k_rd 1 rfl).trans hl
  have hm := (f813.2 am 13 k_am 5 rfl).trans hm
  have hp := (f813.2 th 12 k_th 2 rfl).trans hp
  have hg := (f813.2 am 13 k_am 3 rfl).trans hg
  have htC := htC.fr k_rd x813 f813 (by decide +kernel)
  have htM := htM.fr k_am x813 f813 (by decide +kernel)
  have hrc := hrc.fr k_th x813 f813 (by decide +kernel)
  have hrm := hrm.fr k_am x813 f813 (by decide +kernel)
  have k_th := x813 _ _ k_th
  have k_am := x813 _ _ k_am
  have k_out := x813 _ _ k_out
  have k_rd := x813 _ _ k_rd
  rcases hQ with ⟨cx, ev, zz_⟩ | ⟨n0, c0, k0, ⟨en0, ec0, ek0⟩, ⟨hn0, hc0, hk0⟩, ev, ho, zz_⟩
  · cases ev
    show et_go _ _ 1000 816 [some (.ref 150), some (.ref th), some (.ref am), some (.ref out), some (.int (Int32.ofNat i)), x5, x6] [.int (Int32.ofNat 1)] _ (ck + c813) (sk + s813) _
    refine ls_istore (i := 5) (p := 818) (by decide +kernel) (Nat.le_of_ble_eq_true rfl) ?_
    refine ls_aload (i := 2) (p := 819) (by decide +kernel) rfl ?_
    refine ls_arg (j := 1) (by decide +kernel) (by omega) hn ?_
    refine ls_arg (j := 2) (by decide +kernel) (by omega) hn ?_
    refine ls_arg (j := 3) (by decide +kernel) (by omega) hn ?_
    refine lt_callv (T := et_TT) (t := 13) (mi := 244) (na := 3) (ci := 11) (lk := 7) (lm := 4) (L0 := eg_en (eg_mL 244) [.ref am, .int (f (i + 1)), .int (f (i + 2)), .int (f (i + 3))]) (by decide +kernel) rfl hH k_am rfl rfl rfl rfl rfl (by rw [show eg_mL 244 = 4 from by decide +kernel]; first | done | rfl) ?_
    have hHo := hH
    refine ((er_p244_ok (K813, [], G813) [.ref am, .int (f (i + 1)), .int (f (i + 2)), .int (f (i + 3))] _ hH (by omega) rfl (ht_ac (.inr ⟨by decide, _, rfl, k_am⟩) (ht_ac hi_any (ht_ac hi_any (ht_ac hi_any ht_an))))).and (gz_show hH k_am hrm.1.1 hrm.2.1.1 (hrm.2.2 (5, 4) (by decide)).1 b4 zm_ (fun n hn => zo_ n (by omega)) (hrm.2.2 (2, 3) (by decide)).1 b3 hcr_ (hrm.2.2 (7, 1) (by decide)).1 b1 tX_ (fun k hk => (tE_ k hk).2) (by omega))).mono (fun u hu => ls_cbvQ (Q := fun u => (¬ (xr (f (i + 1)) (cn 4) ∧ xr (f (i + 2)) (cn 3) ∧ xr (f (i + 3)) (cn 1)) ∧ u.1 = .inl (some (.int (Int32.ofNat 0))) ∧ et_pl (eg_at u.2.1 am) 0 = some (.int (Int32.ofNat 1)) ∧ zyM u.2.1 aw (cn 4) V_) ∨ ∃ n c k, ((f (i + 1)) = Int32.ofNat n ∧ (f (i + 2)) = Int32.ofNat c ∧ (f (i + 3)) = Int32.ofNat k) ∧ (n < cn 4 ∧ c < cn 3 ∧ k < cn 1) ∧ u.1 = .inl (some (.int (Int32.ofNat (if shB (V_ n) (X_ c) (yB (Y_ c)) = true then 1 else 0)))) ∧ et_pl (eg_at u.2.1 am) 0 = some (.int (Int32.ofNat 0)) ∧ zyM u.2.1 aw (cn 4) (vup V_ n (shV (V_ n) (X_ c) (yB (Y_ c)) (L0_ k)))) hu (fun v837 K837 G837 c837 s837 x837 f837 hH hv837 cl837 sl837 hQ => ?_))
    have zz_ := zz_.fr zk_ k_th hrc.1.1 hrc.1.2.1 f837 (by decide +kernel)
    have zi_ := zi_.fr (fun n hn => zo_ (3 + n) (by omega)) zki_ f837 (by decide +kernel)
    have zk_ := zk_.ex x837
    have zka_ := x837 _ _ zka_
    have zki_ := x837 _ _ zki_
    have hcq := hcq.fr x837 hHo f837 (by decide +kernel)
    have hky := hky.fr hHo k_am hrm.1.1 f837 (by decide +kernel)
    have hty := hty.fr x837 hHo f837 (by decide +kernel)
    have hcy := hcy.fr x837 f837 (by decide +kernel)
    have hry := hry.fr hHo x837 f837 (by decide +kernel)
    have hci := hci.fr x837 f837 (by decide +kernel)
    have h3 := (f837.2 th 12 k_th 3 rfl).trans h3
    have hl := (f837.2 rd 7 k_rd 1 rfl).trans hl
    have hm := (f837.2 am 13 k_am 5 rfl).trans hm
    have hp := (f837.2 th 12 k_th 2 rfl).trans hp
    have hg := (f837.2 am 13 k_am 3 rfl).trans hg
    have htC := htC.fr k_rd x837 f837 (by decide +kernel)
    have htM := htM.fr k_am x837 f837 (by decide +kernel)
    have hrc := hrc.fr k_th x837 f837 (by decide +kernel)
    have hrm := hrm.fr k_am x837 f837 (by decide +kernel)
    have k_th := x837 _ _ k_th
    have k_am := x837 _ _ k_am
    have k_out := x837 _ _ k_out
    have k_rd := x837 _ _ k_rd
    rcases hQ with ⟨dx, ev2, ht, zm_⟩ | ⟨n1, c1, k1, ⟨en1, ec1, ek1⟩, ⟨hn1, hc1, hk1⟩, ev2, ht, zm_⟩
    · cases ev2
      have hzy : zy K837 G837 th s0 s1 aw ai (cn 4) (im 4) := ⟨ya_, yb_, O_, A_, V_, ⟨zk_, zka_, zki_⟩, zz_, zo_, zm_, zi_⟩
      show et_go _ _ 1000 840 [some (.ref 150), some (.ref th), some (.ref am), some (.ref out), some (.int (Int32.ofNat i)), some (.int (Int32.ofNat 1)), x6] [.int (Int32.ofNat 0)] _ ((ck + c813) + c837) ((sk + s813) + s837) _
      refine ls_istore (i := 6) (p := 842) (by decide +kernel) (Nat.le_of_ble_eq_true rfl) ?_
      refine ls_goto (p := 1663) (by decide +kernel) ?_
      exact hN _ _ c h _ _ _ _ _ _ ⟨⟨hH, hci, k_th, k_am, k_out, h3, k_rd, hl, hm, hc⟩, ⟨hh1, hp, hg⟩, hrc, hrm, hbc, hbi, ⟨hry, hcy, hty, hzy, hky, hcq.le (by first | exact Nat.le_refl _ | exact Nat.le_succ _) (by first | exact Nat.le_refl _ | exact Nat.le_succ _)⟩, _, htC, htM, htb⟩ (by omega) (by omega)
    · exact absurd (show _ ∧ _ ∧ _ from ⟨(xr_m en1 hn1 (by omega)), (xr_m ec1 hc1 (by omega)), (xr_m ek1 hk1 (by omega))⟩) cx
  · cases ev
    show et_go _ _ 1000 816 [some (.ref 150), some (.ref th), some (.ref am), some (.ref out), some (.int (Int32.ofNat i)), x5, x6] [.int (Int32.ofNat 0)] _ (ck + c813) (sk + s813) _
    refine ls_istore (i := 5) (p := 818) (by decide +kernel) (Nat.le_of_ble_eq_true rfl) ?_
    refine ls_aload (i := 2) (p := 819) (by decide +kernel) rfl ?_
    refine ls_arg (j := 1) (by decide +kernel) (by omega) hn ?_
    refine ls_arg (j := 2) (by decide +kernel) (by omega) hn ?_
    refine ls_arg (j := 3) (by decide +kernel) (by omega) hn ?_
    refine lt_callv (T := et_TT) (t := 13) (mi := 244) (na := 3) (ci := 11) (lk := 7) (lm := 4) (L0 := eg_en (eg_mL 244) [.ref am, .int (f (i + 1)), .int (f (i + 2)), .int (f (i + 3))]) (by decide +kernel) rfl hH k_am rfl rfl rfl rfl rfl (by rw [show eg_mL 244 = 4 from by decide +kernel]; first | done | rfl) ?_
    have hHo := hH
    refine ((er_p244_ok (K813, [], G813) [.ref am, .int (f (i + 1)), .int (f (i + 2)), .int (f (i + 3))] _ hH (by omega) rfl (ht_ac (.inr ⟨by decide, _, rfl, k_am⟩) (ht_ac hi_any (ht_ac hi_any (ht_ac hi_any ht_an))))).and (gz_show hH k_am hrm.1.1 hrm.2.1.1 (hrm.2.2 (5, 4) (by decide)).1 b4 zm_ (fun n hn => zo_ n (by omega)) (hrm.2.2 (2, 3) (by decide)).1 b3 hcr_ (hrm.2.2 (7, 1) (by decide)).1 b1 tX_ (fun k hk => (tE_ k hk).2) (by omega))).mono (fun u hu => ls_cbvQ (Q := fun u => (¬ (xr (f (i + 1)) (cn 4) ∧ xr (f (i + 2)) (cn 3) ∧ xr (f (i + 3)) (cn 1)) ∧ u.1 = .inl (some (.int (Int32.ofNat 0))) ∧ et_pl (eg_at u.2.1 am) 0 = some (.int (Int32.ofNat 1)) ∧ zyM u.2.1 aw (cn 4) V_) ∨ ∃ n c k, ((f (i + 1)) = Int32.ofNat n ∧ (f (i + 2)) = Int32.ofNat c ∧ (f (i + 3)) = Int32.ofNat k) ∧ (n < cn 4 ∧ c < cn 3 ∧ k < cn 1) ∧ u.1 = .inl (some (.int (Int32.ofNat (if shB (V_ n) (X_ c) (yB (Y_ c)) = true then 1 else 0)))) ∧ et_pl (eg_at u.2.1 am) 0 = some (.int (Int32.ofNat 0)) ∧ zyM u.2.1 aw (cn 4) (vup V_ n (shV (V_ n) (X_ c) (yB (Y_ c)) (L0_ k)))) hu (fun v837 K837 G837 c837 s837 x837 f837 hH hv837 cl837 sl837 hQ => ?_))
    have zz_ := zz_.fr zk_ k_th hrc.1.1 hrc.1.2.1 f837 (by decide +kernel)
    have zi_ := zi_.fr (fun n hn => zo_ (3 + n) (by omega)) zki_ f837 (by decide +kernel)
    have zk_ := zk_.ex x837
    have zka_ := x837 _ _ zka_
    have zki_ := x837 _ _ zki_
    have hcq := hcq.fr x837 hHo f837 (by decide +kernel)
    have hky := hky.fr hHo k_am hrm.1.1 f837 (by decide +kernel)
    have hty := hty.fr x837 hHo f837 (by decide +kernel)
    have hcy := hcy.fr x837 f837 (by decide +kernel)
    have hry := hry.fr hHo x837 f837 (by decide +kernel)
    have hci := hci.fr x837 f837 (by decide +kernel)
    have h3 := (f837.2 th 12 k_th 3 rfl).trans h3
    have hl := (f837.2 rd 7 k_rd 1 rfl).trans hl
    have hm := (f837.2 am 13 k_am 5 rfl).trans hm
    have hp := (f837.2 th 12 k_th 2 rfl).trans hp
    have hg := (f837.2 am 13 k_am 3 rfl).trans hg
    have htC := htC.fr k_rd x837 f837 (by decide +kernel)
    have htM := htM.fr k_am x837 f837 (by decide +kernel)
    have hrc := hrc.fr k_th x837 f837 (by decide +kernel)
    have hrm := hrm.fr k_am x837 f837 (by decide +kernel)
    have ho := (f837.2 out 31 k_out 0 rfl).trans ho
    have k_th := x837 _ _ k_th
    have k_am := x837 _ _ k_am
    have k_out := x837 _ _ k_out
    have k_rd := x837 _ _ k_rd
    rcases hQ with ⟨dx, ev2, ht, zm_⟩ | ⟨n1, c1, k1, ⟨en1, ec1, ek1⟩, ⟨hn1, hc1, hk1⟩, ev2, ht, zm_⟩
    · exact absurd (show _ ∧ _ ∧ _ from ⟨(xr_m en0 hn0 (by omega)), (xr_m ec0 hc0 (by omega)), (xr_m ek0 hk0 (by omega))⟩) dx
    · obtain rfl : n0 = n1 := (hs_neq (by have h9_ := (zo_ n0 (by omega)).1.1; omega) (by have h9_ := (zo_ n0 (by omega)).1.1; omega)).mp (en0.symm.trans en1)
      obtain rfl : c0 = c1 := (hs_neq (by have h9_ := (zo_ n0 (by omega)).1.1; omega) (by have h9_ := (zo_ n0 (by omega)).1.1; omega)).mp (ec0.symm.trans ec1)
      obtain rfl : k0 = k1 := (hs_neq (by have h9_ := (zo_ n0 (by omega)).1.1; omega) (by have h9_ := (zo_ n0 (by omega)).1.1; omega)).mp (ek0.symm.trans ek1)
      cases ev2
      have hzy : zy K837 G837 th s0 s1 aw ai (cn 4) (im 4) := ⟨ya_, yb_, O_, A_, (vup V_ n0 (shV (V_ n0) (X_ c0) (yB (Y_ c0)) (L0_ k0))), ⟨zk_, zka_, zki_⟩, zz_, (vup_o zo_ (shV_o (zo_ n0 (by omega)))), zm_, (vup_3 zi_ (by omega))⟩
      show et_go _ _ 1000 840 [some (.ref 150), some (.ref th), some (.ref am), some (.ref out), some (.int (Int32.ofNat i)), some (.int (Int32.ofNat 0)), x6] [.int (Int32.ofNat (if shB (V_ n0) (X_ c0) (yB (Y_ c0)) = true then 1 else 0))] _ ((ck + c813) + c837) ((sk + s813) + s837) _
      refine ls_istore (i := 6) (p := 842) (by decide +kernel) (Nat.le_of_ble_eq_true rfl) ?_
      refine ls_goto (p := 1663) (by decide +kernel) ?_
      exact hN _ _ c h _ _ _ _ _ _ ⟨⟨hH, hci, k_th, k_am, k_out, h3, k_rd, hl, hm, hc⟩, ⟨hh1, hp, hg⟩, hrc, hrm, hbc, hbi, ⟨hry, hcy, hty, hzy, hky, hcq.le (by first | exact Nat.le_refl _ | exact Nat.le_succ _) (by first | exact Nat.le_refl _ | exact Nat.le_succ _)⟩, _, htC, htM, htb⟩ (by omega) (by omega)
set_option maxHeartbeats 2000000 in
theorem lw_c17 (hI : lw_I K G th am out rd s0 s1 aw ai tp ba na tm c h cn im) (hi : i + 6 ≤ n) (hn : n ≤ 3072) (hN : ∀ (K' : et_K) (G' : eg_G) (c' h' : Nat) (cn' im' : Nat → Nat) (ck' sk' : Nat) (y5 y6 : Option Value), lw_I K' G' th am out rd s0 s1 aw ai tp ba na tm c' h' cn' im' → ck' ≤ ck + 841 → sk' ≤ sk + 7168 → et_go (some (n, f)) (d + 41) 1000 1663 [some (.ref 150), some (.ref th), some (.ref am), some (.ref out), some (.int (Int32.ofNat i)), y5, y6] [] G' ck' sk' Z) : et_go (some (n, f)) (d + 41) 1000 845 [some (.ref 150), some (.ref th), some (.ref am), some (.ref out), some (.int (Int32.ofNat i)), x5, x6] [] G ck sk Z := by
  obtain ⟨⟨hH, hci, k_th, k_am, k_out, h3, k_rd, hl, hm, hc⟩, ⟨hh1, hp, hg⟩, hrc, hrm, hbc, hbi, ⟨hry, hcy, hty, hzy, hky, hcq⟩, tb, htC, htM, htb⟩ := hI
  refine ls_aload (i := 1) (p := 846) (by decide +kernel) rfl ?_
  refine ls_arg (j := 1) (by decide +kernel) (by omega) hn ?_
  refine ls_arg (j := 2) (by decide +kernel) (by omega) hn ?_
  refine ls_arg (j := 3) (by decide +kernel) (by omega) hn ?_
  refine ls_aload (i := 3) (p := 865) (by decide +kernel) rfl ?_
  refine ls_calls (mi := 13) (na := 5) (lk := 7) (lm := 6) (L0 := eg_en (eg_mL 13) [.ref th, .int (f (i + 1)), .int (f (i + 2)), .int (f (i + 3)), .ref out]) (by decide +kernel) rfl rfl rfl rfl rfl rfl (by rw [show eg_mL 13 = 6 from by decide +kernel]; first | done | rfl) ?_
  have hHo := hH
  have b4 : cn 4 ≤ 3 := Int.ofNat_le.mp (hf_bd (t := 10) hH hrc.1.1 rfl rfl (hrc.2.2 (5, 4) (by decide)).1 (hbc 4))
  have b1 : cn 1 ≤ 4 := Int.ofNat_le.mp (hf_bd (t := 10) hH hrc.1.1 rfl rfl (hrc.2.2 (7, 1) (by decide)).1 (hbc 1))
  have b3 : cn 3 ≤ 20 := Int.ofNat_le.mp (hf_bd (t := 10) hH hrc.1.1 rfl rfl (hrc.2.2 (2, 3) (by decide)).1 (hbc 3))
  obtain ⟨t0_, t1_, T0_, T1_, L0_, L1_, tK_, ⟨tp0_, tp1_⟩, ⟨tc_, ti_⟩, ⟨tE_, tX_⟩, tF_, tY_⟩ := id hty
  obtain ⟨la0, ya0, la1, ya1, X_, X2_, Y_, Y2_, tk_, bk_, ⟨hcc_, hcr_⟩, hcd_, hcs_⟩ := id hcy
  obtain ⟨ya_, yb_, O_, A_, V_, ⟨zk_, zka_, zki_⟩, zz_, zo_, zm_, zi_⟩ := hzy
  refine ((hh_c13 (K, [], G) [.ref th, .int (f (i + 1)), .int (f (i + 2)), .int (f (i + 3)), .ref out] _ hH (by omega) rfl (ht_ac (.inr ⟨by decide, _, rfl, k_th⟩) (ht_ac hi_any (ht_ac hi_any (ht_ac hi_any (ht_ac (.inr ⟨by decide, _, rfl, k_out⟩) ht_an)))))).and (fz_turned hH k_th hrc.2.1.1 hrc.1.1 hrc.1.2.1 (hrc.2.2 (5, 4) (by decide)).1 b4 zk_ zz_ zo_ (hrc.2.2 (7, 1) (by decide)).1 b1 tp0_ tK_.1.2.2.1 tE_ (hrc.2.2 (2, 3) (by decide)).1 b3 hcc_ tk_.2.1.1 tk_.2.1.2.1 k_out (by omega))).mono (fun u hu => ls_cbvQ (Q := fun u => (¬ (xr (f (i + 1)) (cn 4) ∧ xr (f (i + 2)) (cn 1)) ∧ u.1 = .inl (some (.int (Int32.ofNat 1))) ∧ ez u.2.1 th s0 s1 ya_ yb_ O_ A_ V_) ∨ ((xr (f (i + 1)) (cn 4) ∧ xr (f (i + 2)) (cn 1)) ∧ ¬ (1 ≤ (f (i + 3)).toInt ∧ (f (i + 3)).toInt ≤ 60) ∧ u.1 = .inl (some (.int (Int32.ofNat 2))) ∧ ez u.2.1 th s0 s1 ya_ yb_ O_ A_ V_) ∨ ∃ n k m, ((f (i + 1)) = Int32.ofNat n ∧ (f (i + 2)) = Int32.ofNat k ∧ (f (i + 3)) = Int32.ofNat m) ∧ (n < cn 4 ∧ k < cn 1 ∧ 1 ≤ m ∧ m ≤ 60) ∧ u.1 = .inl (some (.int (Int32.ofNat 0))) ∧ et_pl (eg_at u.2.1 out) 0 = some (.long (tdR (V_ n) X_ (fun c => yB (Y_ c)) (L0_ k) (cn 3) m).2.toInt64) ∧ ez u.2.1 th s0 s1 ya_ yb_ O_ A_ (vup V_ n (tdV (V_ n) X_ (fun c => yB (Y_ c)) (L0_ k) (cn 3) m))) hu (fun v865 K865 G865 c865 s865 x865 f865 hH hv865 cl865 sl865 hQ => ?_))
  have zm_ := zm_.fr (fun n hn => zo_ n (by omega)) zka_ f865 (by decide +kernel)
  have zi_ := zi_.fr (fun n hn => zo_ (3 + n) (by omega)) zki_ f865 (by decide +kernel)
  have zk_ := zk_.ex x865
  have zka_ := x865 _ _ zka_
  have zki_ := x865 _ _ zki_
  have hcr_ := hcr_.fr bk_.1 tk_.2.2.1.1 f865 (by decide +kernel)
  have tX_ := tX_.fr tK_.2.1.1 tc_ f865 (by decide +kernel)
  have hcq := hcq.fr x865 hHo f865 (by decide +kernel)
  have hky := hky.fr hHo k_am hrm.1.1 f865 (by decide +kernel)
  have hty := hty.fr x865 hHo f865 (by decide +kernel)
  have hcy := hcy.fr x865 f865 (by decide +kernel)
  have hry := hry.fr hHo x865 f865 (by decide +kernel)
  have hci := hci.fr x865 f865 (by decide +kernel)
  have h3 := (f865.2 th 12 k_th 3 rfl).trans h3
  have hl := (f865.2 rd 7 k_rd 1 rfl).trans hl
  have hm := (f865.2 am 13 k_am 5 rfl).trans hm
  have hp := (f865.2 th 12 k_th 2 rfl).trans hp
  have hg := (f865.2 am 13 k_am 3 rfl).trans hg
  have htC := htC.fr k_rd x865 f865 (by decide +kernel)
  have htM := htM.fr k_am x865 f865 (by decide +kernel)
  have hrc := hrc.fr k_th x865 f865 (by decide +kernel)
  have hrm := hrm.fr k_am x865 f865 (by decide +kernel)
  have k_th := x865 _ _ k_th
  have k_am := x865 _ _ k_am
  have k_out := x865 _ _ k_out
  have k_rd := x865 _ _ k_rd
  rcases hQ with ⟨cx, ev, zz_⟩ | ⟨cx, cz, ev, zz_⟩ | ⟨n0, k0, m0, ⟨en0, ek0, em0⟩, ⟨hn0, hk0, hm0, hl0⟩, ev, ho, zz_⟩
  · cases ev
    show et_go _ _ 1000 868 [some (.ref 150), some (.ref th), some (.ref am), some (.ref out), some (.int (Int32.ofNat i)), x5, x6] [.int (Int32.ofNat 1)] _ (ck + c865) (sk + s865) _
    refine ls_istore (i := 5) (p := 870) (by decide +kernel) (Nat.le_of_ble_eq_true rfl) ?_
    refine ls_aload (i := 2) (p := 871) (by decide +kernel) rfl ?_
    refine ls_arg (j := 1) (by decide +kernel) (by omega) hn ?_
    refine ls_arg (j := 2) (by decide +kernel) (by omega) hn ?_
    refine ls_arg (j := 3) (by decide +kernel) (by omega) hn ?_
    refine lt_callv (T := et_TT) (t := 13) (mi := 252) (na := 3) (ci := 11) (lk := 7) (lm := 7) (L0 := eg_en (eg_mL 252) [.ref am, .int (f (i + 1)), .int (f (i + 2)), .int (f (i + 3))]) (by decide +kernel) rfl hH k_am rfl rfl rfl rfl rfl (by rw [show eg_mL 252 = 7 from by decide +kernel]; first | done | rfl) ?_
    have hHo := hH
    refine ((er_p252_ok (K865, [], G865) [.ref am, .int (f (i + 1)), .int (f (i + 2)), .int (f (i + 3))] _ hH (by omega) rfl (ht_ac (.inr ⟨by decide, _, rfl, k_am⟩) (ht_ac hi_any (ht_ac hi_any (ht_ac hi_any ht_an))))).and (gz_turned hH k_am hrm.1.1 hrm.2.1.1 (hrm.2.2 (5, 4) (by decide)).1 b4 zm_ (fun n hn => zo_ n (by omega)) (hrm.2.2 (2, 3) (by decide)).1 b3 hcr_ (hrm.2.2 (7, 1) (by decide)).1 b1 tX_ (fun k hk => (tE_ k hk).2) (by omega))).mono (fun u hu => ls_cbvQ (Q := fun u => (¬ (xr (f (i + 1)) (cn 4) ∧ xr (f (i + 2)) (cn 1)) ∧ u.1 = .inl (some (.int (Int32.ofNat 0))) ∧ et_pl (eg_at u.2.1 am) 0 = some (.int (Int32.ofNat 1)) ∧ zyM u.2.1 aw (cn 4) V_) ∨ ((xr (f (i + 1)) (cn 4) ∧ xr (f (i + 2)) (cn 1)) ∧ ¬ (1 ≤ (f (i + 3)).toInt ∧ (f (i + 3)).toInt ≤ 60) ∧ u.1 = .inl (some (.int (Int32.ofNat 0))) ∧ et_pl (eg_at u.2.1 am) 0 = some (.int (Int32.ofNat 2)) ∧ zyM u.2.1 aw (cn 4) V_) ∨ ∃ n k m, ((f (i + 1)) = Int32.ofNat n ∧ (f (i + 2)) = Int32.ofNat k ∧ (f (i + 3)) = Int32.ofNat m) ∧ (n < cn 4 ∧ k < cn 1 ∧ 1 ≤ m ∧ m ≤ 60) ∧ u.1 = .inl (some (.int (tdR (V_ n) X_ (fun c => yB (Y_ c)) (L0_ k) (cn 3) m).2)) ∧ et_pl (eg_at u.2.1 am) 0 = some (.int (Int32.ofNat 0)) ∧ zyM u.2.1 aw (cn 4) (vup V_ n (tdV (V_ n) X_ (fun c => yB (Y_ c)) (L0_ k) (cn 3) m))) hu (fun v889 K889 G889 c889 s889 x889 f889 hH hv889 cl889 sl889 hQ => ?_))
    have zz_ := zz_.fr zk_ k_th hrc.1.1 hrc.1.2.1 f889 (by decide +kernel)
    have zi_ := zi_.fr (fun n hn => zo_ (3 + n) (by omega)) zki_ f889 (by decide +kernel)
    have zk_ := zk_.ex x889
    have zka_ := x889 _ _ zka_
    have zki_ := x889 _ _ zki_
    have hcq := hcq.fr x889 hHo f889 (by decide +kernel)
    have hky := hky.fr hHo k_am hrm.1.1 f889 (by decide +kernel)
    have hty := hty.fr x889 hHo f889 (by decide +kernel)
    have hcy := hcy.fr x889 f889 (by decide +kernel)
    have hry := hry.fr hHo x889 f889 (by decide +kernel)
    have hci := hci.fr x889 f889 (by decide +kernel)
    have h3 := (f889.2 th 12 k_th 3 rfl).trans h3
    have hl := (f889.2 rd 7 k_rd 1 rfl).trans hl
    have hm := (f889.2 am 13 k_am 5 rfl).trans hm
    have hp := (f889.2 th 12 k_th 2 rfl).trans hp
    have hg := (f889.2 am 13 k_am 3 rfl).trans hg
    have htC := htC.fr k_rd x889 f889 (by decide +kernel)
    have htM := htM.fr k_am x889 f889 (by decide +kernel)
    have hrc := hrc.fr k_th x889 f889 (by decide +kernel)
    have hrm := hrm.fr k_am x889 f889 (by decide +kernel)
    have k_th := x889 _ _ k_th
    have k_am := x889 _ _ k_am
    have k_out := x889 _ _ k_out
    have k_rd := x889 _ _ k_rd
    rcases hQ with ⟨dx, ev2, ht, zm_⟩ | ⟨dx, dz, ev2, ht, zm_⟩ | ⟨n1, k1, m1, ⟨en1, ek1, em1⟩, ⟨hn1, hk1, hm1, hl1⟩, ev2, ht, zm_⟩
    · cases ev2
      have hzy : zy K889 G889 th s0 s1 aw ai (cn 4) (im 4) := ⟨ya_, yb_, O_, A_, V_, ⟨zk_, zka_, zki_⟩, zz_, zo_, zm_, zi_⟩
      show et_go _ _ 1000 892 [some (.ref 150), some (.ref th), some (.ref am), some (.ref out), some (.int (Int32.ofNat i)), some (.int (Int32.ofNat 1)), x6] [.int (Int32.ofNat 0)] _ ((ck + c865) + c889) ((sk + s865) + s889) _
      refine ls_istore (i := 6) (p := 894) (by decide +kernel) (Nat.le_of_ble_eq_true rfl) ?_
      refine ls_goto (p := 1663) (by decide +kernel) ?_
      exact hN _ _ c h _ _ _ _ _ _ ⟨⟨hH, hci, k_th, k_am, k_out, h3, k_rd, hl, hm, hc⟩, ⟨hh1, hp, hg⟩, hrc, hrm, hbc, hbi, ⟨hry, hcy, hty, hzy, hky, hcq.le (by first | exact Nat.le_refl _ | exact Nat.le_succ _) (by first | exact Nat.le_refl _ | exact Nat.le_succ _)⟩, _, htC, htM, htb⟩ (by omega) (by omega)
    · exact absurd dx cx
    · exact absurd (show _ ∧ _ from ⟨(xr_m en1 hn1 (by omega)), (xr_m ek1 hk1 (by omega))⟩) cx
  · cases ev
    show et_go _ _ 1000 868 [some (.ref 150), some (.ref th), some (.ref am), some (.ref out), some (.int (Int32.ofNat i)), x5, x6] [.int (Int32.ofNat 2)] _ (ck + c865) (sk + s865) _
    refine ls_istore (i := 5) (p := 870) (by decide +kernel) (Nat.le_of_ble_eq_true rfl) ?_
    refine ls_aload (i := 2) (p := 871) (by decide +kernel) rfl ?_
    refine ls_arg (j := 1) (by decide +kernel) (by omega) hn ?_
    refine ls_arg (j := 2) (by decide +kernel) (by omega) hn ?_
    refine ls_arg (j := 3) (by decide +kernel) (by omega) hn ?_
    refine lt_callv (T := et_TT) (t := 13) (mi := 252) (na := 3) (ci := 11) (lk := 7) (lm := 7) (L0 := eg_en (eg_mL 252) [.ref am, .int (f (i + 1)), .int (f (i + 2)), .int (f (i + 3))]) (by decide +kernel) rfl hH k_am rfl rfl rfl rfl rfl (by rw [show eg_mL 252 = 7 from by decide +kernel]; first | done | rfl) ?_
    have hHo := hH
    refine ((er_p252_ok (K865, [], G865) [.ref am, .int (f (i + 1)), .int (f (i + 2)), .int (f (i + 3))] _ hH (by omega) rfl (ht_ac (.inr ⟨by decide, _, rfl, k_am⟩) (ht_ac hi_any (ht_ac hi_any (ht_ac hi_any ht_an))))).and (gz_turned hH k_am hrm.1.1 hrm.2.1.1 (hrm.2.2 (5, 4) (by decide)).1 b4 zm_ (fun n hn => zo_ n (by omega)) (hrm.2.2 (2, 3) (by decide)).1 b3 hcr_ (hrm.2.2 (7, 1) (by decide)).1 b1 tX_ (fun k hk => (tE_ k hk).2) (by omega))).mono (fun u hu => ls_cbvQ (Q := fun u => (¬ (xr (f (i + 1)) (cn 4) ∧ xr (f (i + 2)) (cn 1)) ∧ u.1 = .inl (some (.int (Int32.ofNat 0))) ∧ et_pl (eg_at u.2.1 am) 0 = some (.int (Int32.ofNat 1)) ∧ zyM u.2.1 aw (cn 4) V_) ∨ ((xr (f (i + 1)) (cn 4) ∧ xr (f (i + 2)) (cn 1)) ∧ ¬ (1 ≤ (f (i + 3)).toInt ∧ (f (i + 3)).toInt ≤ 60) ∧ u.1 = .inl (some (.int (Int32.ofNat 0))) ∧ et_pl (eg_at u.2.1 am) 0 = some (.int (Int32.ofNat 2)) ∧ zyM u.2.1 aw (cn 4) V_) ∨ ∃ n k m, ((f (i + 1)) = Int32.ofNat n ∧ (f (i + 2)) = Int32.ofNat k ∧ (f (i + 3)) = Int32.ofNat m) ∧ (n < cn 4 ∧ k < cn 1 ∧ 1 ≤ m ∧ m ≤ 60) ∧ u.1 = .inl (some (.int (tdR (V_ n) X_ (fun c => yB (Y_ c)) (L0_ k) (cn 3) m).2)) ∧ et_pl (eg_at u.2.1 am) 0 = some (.int (Int32.ofNat 0)) ∧ zyM u.2.1 aw (cn 4) (vup V_ n (tdV (V_ n) X_ (fun c => yB (Y_ c)) (L0_ k) (cn 3) m))) hu (fun v889 K889 G889 c889 s889 x889 f889 hH hv889 cl889 sl889 hQ => ?_))
    have zz_ := zz_.fr zk_ k_th hrc.1.1 hrc.1.2.1 f889 (by decide +kernel)
    have zi_ := zi_.fr (fun n hn => zo_ (3 + n) (by omega)) zki_ f889 (by decide +kernel)
    have zk_ := zk_.ex x889
    have zka_ := x889 _ _ zka_
    have zki_ := x889 _ _ zki_
    have hcq := hcq.fr x889 hHo f889 (by decide +kernel)
    have hky := hky.fr hHo k_am hrm.1.1 f889 (by decide +kernel)
    have hty := hty.fr x889 hHo f889 (by decide +kernel)
    have hcy := hcy.fr x889 f889 (by decide +kernel)
    have hry := hry.fr hHo x889 f889 (by decide +kernel)
    have hci := hci.fr x889 f889 (by decide +kernel)
    have h3 := (f889.2 th 12 k_th 3 rfl).trans h3
    have hl := (f889.2 rd 7 k_rd 1 rfl).trans hl
    have hm := (f889.2 am 13 k_am 5 rfl).trans hm
    have hp := (f889.2 th 12 k_th 2 rfl).trans hp
    have hg := (f889.2 am 13 k_am 3 rfl).trans hg
    have htC := htC.fr k_rd x889 f889 (by decide +kernel)
    have htM := htM.fr k_am x889 f889 (by decide +kernel)
    have hrc := hrc.fr k_th x889 f889 (by decide +kernel)
    have hrm := hrm.fr k_am x889 f889 (by decide +kernel)
    have k_th := x889 _ _ k_th
    have k_am := x889 _ _ k_am
    have k_out := x889 _ _ k_out
    have k_rd := x889 _ _ k_rd
    rcases hQ with ⟨dx, ev2, ht, zm_⟩ | ⟨dx, dz, ev2, ht, zm_⟩ | ⟨n1, k1, m1, ⟨en1, ek1, em1⟩, ⟨hn1, hk1, hm1, hl1⟩, ev2, ht, zm_⟩
    · exact absurd cx dx
    · cases ev2
      have hzy : zy K889 G889 th s0 s1 aw ai (cn 4) (im 4) := ⟨ya_, yb_, O_, A_, V_, ⟨zk_, zka_, zki_⟩, zz_, zo_, zm_, zi_⟩
      show et_go _ _ 1000 892 [some (.ref 150), some (.ref th), some (.ref am), some (.ref out), some (.int (Int32.ofNat i)), some (.int (Int32.ofNat 2)), x6] [.int (Int32.ofNat 0)] _ ((ck + c865) + c889) ((sk + s865) + s889) _
      refine ls_istore (i := 6) (p := 894) (by decide +kernel) (Nat.le_of_ble_eq_true rfl) ?_
      refine ls_goto (p := 1663) (by decide +kernel) ?_
      exact hN _ _ c h _ _ _ _ _ _ ⟨⟨hH, hci, k_th, k_am, k_out, h3, k_rd, hl, hm, hc⟩, ⟨hh1, hp, hg⟩, hrc, hrm, hbc, hbi, ⟨hry, hcy, hty, hzy, hky, hcq.le (by first | exact Nat.le_refl _ | exact Nat.le_succ _) (by first | exact Nat.le_refl _ | exact Nat.le_succ _)⟩, _, htC, htM, htb⟩ (by omega) (by omega)
    · exact absurd (show _ ∧ _ from ⟨by rw [em1, hs_nint (by omega)]; omega, by rw [em1, hs_nint (by omega)]; omega⟩) cz
  · cases ev
    show et_go _ _ 1000 868 [some (.ref 150), some (.ref th), some (.ref am), some (.ref out), some (.int (Int32.ofNat i)), x5, x6] [.int (Int32.ofNat 0)] _ (ck + c865) (sk + s865) _
    refine ls_istore (i := 5) (p := 870) (by decide +kernel) (Nat.le_of_ble_eq_true rfl) ?_
    refine ls_aload (i := 2) (p := 871) (by decide +kernel) rfl ?_
    refine ls_arg (j := 1) (by decide +kernel) (by omega) hn ?_
    refine ls_arg (j := 2) (by decide +kernel) (by omega) hn ?_
    refine ls_arg (j := 3) (by decide +kernel) (by omega) hn ?_
    refine lt_callv (T := et_TT) (t := 13) (mi := 252) (na := 3) (ci := 11) (lk := 7) (lm := 7) (L0 := eg_en (eg_mL 252) [.ref am, .int (f (i + 1)), .int (f (i + 2)), .int (f (i + 3))]) (by decide +kernel) rfl hH k_am rfl rfl rfl rfl rfl (by rw [show eg_mL 252 = 7 from by decide +kernel]; first | done | rfl) ?_
    have hHo := hH
    refine ((er_p252_ok (K865, [], G865) [.ref am, .int (f (i + 1)), .int (f (i + 2)), .int (f (i + 3))] _ hH (by omega) rfl (ht_ac (.inr ⟨by decide, _, rfl, k_am⟩) (ht_ac hi_any (ht_ac hi_any (ht_ac hi_any ht_an))))).and (gz_turned hH k_am hrm.1.1 hrm.2.1.1 (hrm.2.2 (5, 4) (by decide)).1 b4 zm_ (fun n hn => zo_ n (by omega)) (hrm.2.2 (2, 3) (by decide)).1 b3 hcr_ (hrm.2.2 (7, 1) (by decide)).1 b1 tX_ (fun k hk => (tE_ k hk).2) (by omega))).mono (fun u hu => ls_cbvQ (Q := fun u => (¬ (xr (f (i + 1)) (cn 4) ∧ xr (f (i + 2)) (cn 1)) ∧ u.1 = .inl (some (.int (Int32.ofNat 0))) ∧ et_pl (eg_at u.2.1 am) 0 = some (.int (Int32.ofNat 1)) ∧ zyM u.2.1 aw (cn 4) V_) ∨ ((xr (f (i + 1)) (cn 4) ∧ xr (f (i + 2)) (cn 1)) ∧ ¬ (1 ≤ (f (i + 3)).toInt ∧ (f (i + 3)).toInt ≤ 60) ∧ u.1 = .inl (some (.int (Int32.ofNat 0))) ∧ et_pl (eg_at u.2.1 am) 0 = some (.int (Int32.ofNat 2)) ∧ zyM u.2.1 aw (cn 4) V_) ∨ ∃ n k m, ((f (i + 1)) = Int32.ofNat n ∧ (f (i + 2)) = Int32.ofNat k ∧ (f (i + 3)) = Int32.ofNat m) ∧ (n < cn 4 ∧ k < cn 1 ∧ 1 ≤ m ∧ m ≤ 60) ∧ u.1 = .inl (some (.int (tdR (V_ n) X_ (fun c => yB (Y_ c)) (L0_ k) (cn 3) m).2)) ∧ et_pl (eg_at u.2.1 am) 0 = some (.int (Int32.ofNat 0)) ∧ zyM u.2.1 aw (cn 4) (vup V_ n (tdV (V_ n) X_ (fun c => yB (Y_ c)) (L0_ k) (cn 3) m))) hu (fun v889 K889 G889 c889 s889 x889 f889 hH hv889 cl889 sl889 hQ => ?_))
    have zz_ := zz_.fr zk_ k_th hrc.1.1 hrc.1.2.1 f889 (by decide +kernel)
    have zi_ := zi_.fr (fun n hn => zo_ (3 + n) (by omega)) zki_ f889 (by decide +kernel)
    have zk_ := zk_.ex x889
    have zka_ := x889 _ _ zka_
    have zki_ := x889 _ _ zki_
    have hcq := hcq.fr x889 hHo f889 (by decide +kernel)
    have hky := hky.fr hHo k_am hrm.1.1 f889 (by decide +kernel)
    have hty := hty.fr x889 hHo f889 (by decide +kernel)
    have hcy := hcy.fr x889 f889 (by decide +kernel)
    have hry := hry.fr hHo x889 f889 (by decide +kernel)
    have hci := hci.fr x889 f889 (by decide +kernel)
    have h3 := (f889.2 th 12 k_th 3 rfl).trans h3
    have hl := (f889.2 rd 7 k_rd 1 rfl).trans hl
    have hm := (f889.2 am 13 k_am 5 rfl).trans hm
    have hp := (f889.2 th 12 k_th 2 rfl).trans hp
    have hg := (f889.2 am 13 k_am 3 rfl).trans hg
    have htC := htC.fr k_rd x889 f889 (by decide +kernel)
    have htM := htM.fr k_am x889 f889 (by decide +kernel)
    have hrc := hrc.fr k_th x889 f889 (by decide +kernel)
    have hrm := hrm.fr k_am x889 f889 (by decide +kernel)
    have ho := (f889.2 out 31 k_out 0 rfl).trans ho
    have k_th := x889 _ _ k_th
    have k_am := x889 _ _ k_am
    have k_out := x889 _ _ k_out
    have k_rd := x889 _ _ k_rd
    rcases hQ with ⟨dx, ev2, ht, zm_⟩ | ⟨dx, dz, ev2, ht, zm_⟩ | ⟨n1, k1, m1, ⟨en1, ek1, em1⟩, ⟨hn1, hk1, hm1, hl1⟩, ev2, ht, zm_⟩
    · exact absurd (show _ ∧ _ from ⟨(xr_m en0 hn0 (by omega)), (xr_m ek0 hk0 (by omega))⟩) dx
    · exact absurd (show _ ∧ _ from ⟨by rw [em0, hs_nint (by omega)]; omega, by rw [em0, hs_nint (by omega)]; omega⟩) dz
    · obtain rfl : n0 = n1 := (hs_neq (by have h9_ := (zo_ n0 (by omega)).1.1; omega) (by have h9_ := (zo_ n0 (by omega)).1.1; omega)).mp (en0.symm.trans en1)
      obtain rfl : k0 = k1 := (hs_neq (by have h9_ := (zo_ n0 (by omega)).1.1; omega) (by have h9_ := (zo_ n0 (by omega)).1.1; omega)).mp (ek0.symm.trans ek1)
      obtain rfl : m0 = m1 := (hs_neq (by have h9_ := (zo_ n0 (by omega)).1.1; omega) (by have h9_ := (zo_ n0 (by omega)).1.1; omega)).mp (em0.symm.trans em1)
      cases ev2
      have hzy : zy K889 G889 th s0 s1 aw ai (cn 4) (im 4) := ⟨ya_, yb_, O_, A_, (vup V_ n0 (tdV (V_ n0) X_ (fun c => yB (Y_ c)) (L0_ k0) (cn 3) m0)), ⟨zk_, zka_, zki_⟩, zz_, (vup_o zo_ (tdV_o (zo_ n0 (by omega)))), zm_, (vup_3 zi_ (by omega))⟩
      show et_go _ _ 1000 892 [some (.ref 150), some (.ref th), some (.ref am), some (.ref out), some (.int (Int32.ofNat i)), some (.int (Int32.ofNat 0)), x6] [.int ((tdR (V_ n0) X_ (fun c => yB (Y_ c)) (L0_ k0) (cn 3) m0).2)] _ ((ck + c865) + c889) ((sk + s865) + s889) _
      refine ls_istore (i := 6) (p := 894) (by decide +kernel) (Nat.le_of_ble_eq_true rfl) ?_
      refine ls_goto (p := 1663) (by decide +kernel) ?_
      exact hN _ _ c h _ _ _ _ _ _ ⟨⟨hH, hci, k_th, k_am, k_out, h3, k_rd, hl, hm, hc⟩, ⟨hh1, hp, hg⟩, hrc, hrm, hbc, hbi, ⟨hry, hcy, hty, hzy, hky, hcq.le (by first | exact Nat.le_refl _ | exact Nat.le_succ _) (by first | exact Nat.le_refl _ | exact Nat.le_succ _)⟩, _, htC, htM, htb⟩ (by omega) (by omega)
set_option maxHeartbeats 2000000 in
theorem lw_c18 (hI : lw_I K G th am out rd s0 s1 aw ai tp ba na tm c h cn im) (hi : i + 6 ≤ n) (hn : n ≤ 3072) (hN : ∀ (K' : et_K) (G' : eg_G) (c' h' : Nat) (cn' im' : Nat → Nat) (ck' sk' : Nat) (y5 y6 : Option Value), lw_I K' G' th am out rd s0 s1 aw ai tp ba na tm c' h' cn' im' → ck' ≤ ck + 841 → sk' ≤ sk + 7168 → et_go (some (n, f)) (d + 41) 1000 1663 [some (.ref 150), some (.ref th), some (.ref am), some (.ref out), some (.int (Int32.ofNat i)), y5, y6] [] G' ck' sk' Z) : et_go (some (n, f)) (d + 41) 1000 897 [some (.ref 150), some (.ref th), some (.ref am), some (.ref out), some (.int (Int32.ofNat i)), x5, x6] [] G ck sk Z := by
  obtain ⟨⟨hH, hci, k_th, k_am, k_out, h3, k_rd, hl, hm, hc⟩, ⟨hh1, hp, hg⟩, hrc, hrm, hbc, hbi, ⟨hry, hcy, hty, hzy, hky, hcq⟩, tb, htC, htM, htb⟩ := hI
  refine ls_aload (i := 1) (p := 898) (by decide +kernel) rfl ?_
  refine ls_arg (j := 1) (by decide +kernel) (by omega) hn ?_
  refine ls_arg (j := 2) (by decide +kernel) (by omega) hn ?_
  refine ls_aload (i := 3) (p := 911) (by decide +kernel) rfl ?_
  refine ls_calls (mi := 14) (na := 4) (lk := 7) (lm := 5) (L0 := eg_en (eg_mL 14) [.ref th, .int (f (i + 1)), .int (f (i + 2)), .ref out]) (by decide +kernel) rfl rfl rfl rfl rfl rfl (by rw [show eg_mL 14 = 5 from by decide +kernel]; first | done | rfl) ?_
  have hHo := hH
  refine (hh_c14 (K, [], G) [.ref th, .int (f (i + 1)), .int (f (i + 2)), .ref out] _ hH (by omega) rfl (ht_ac (.inr ⟨by decide, _, rfl, k_th⟩) (ht_ac hi_any (ht_ac hi_any (ht_ac (.inr ⟨by decide, _, rfl, k_out⟩) ht_an))))).mono (fun u hu => ls_cbv hu (fun v911 K911 G911 c911 s911 x911 f911 hH hv911 cl911 sl911 => ?_))
  have hcq := hcq.fr x911 hHo f911 (by decide +kernel)
  have hky := hky.fr hHo k_am hrm.1.1 f911 (by decide +kernel)
  have hzy := hzy.fr k_th hrc.1.1 hrc.1.2.1 x911 f911 (by decide +kernel)
  have hty := hty.fr x911 hHo f911 (by decide +kernel)
  have hcy := hcy.fr x911 f911 (by decide +kernel)
  have hry := hry.fr hHo x911 f911 (by decide +kernel)
  have hci := hci.fr x911 f911 (by decide +kernel)
  have h3 := (f911.2 th 12 k_th 3 rfl).trans h3
  have hl := (f911.2 rd 7 k_rd 1 rfl).trans hl
  have hm := (f911.2 am 13 k_am 5 rfl).trans hm
  have hp := (f911.2 th 12 k_th 2 rfl).trans hp
  have hg := (f911.2 am 13 k_am 3 rfl).trans hg
  have htC := htC.fr k_rd x911 f911 (by decide +kernel)
  have htM := htM.fr k_am x911 f911 (by decide +kernel)
  have hrc := hrc.fr k_th x911 f911 (by decide +kernel)
  have hrm := hrm.fr k_am x911 f911 (by decide +kernel)
  have k_th := x911 _ _ k_th
  have k_am := x911 _ _ k_am
  have k_out := x911 _ _ k_out
  have k_rd := x911 _ _ k_rd
  obtain ⟨v911, rfl, -⟩ := hv911
  show et_go _ _ 1000 914 [some (.ref 150), some (.ref th), some (.ref am), some (.ref out), some (.int (Int32.ofNat i)), x5, x6] [.int v911] _ (ck + c911) (sk + s911) _
  refine ls_istore (i := 5) (p := 916) (by decide +kernel) (Nat.le_of_ble_eq_true rfl) ?_
  refine ls_aload (i := 2) (p := 917) (by decide +kernel) rfl ?_
  refine ls_arg (j := 1) (by decide +kernel) (by omega) hn ?_
  refine ls_arg (j := 2) (by decide +kernel) (by omega) hn ?_
  refine lt_callv (T := et_TT) (t := 13) (mi := 253) (na := 2) (ci := 11) (lk := 7) (lm := 3) (L0 := eg_en (eg_mL 253) [.ref am, .int (f (i + 1)), .int (f (i + 2))]) (by decide +kernel) rfl hH k_am rfl rfl rfl rfl rfl (by rw [show eg_mL 253 = 3 from by decide +kernel]; first | done | rfl) ?_
  have hHo := hH
  refine (er_p253_ok (K911, [], G911) [.ref am, .int (f (i + 1)), .int (f (i + 2))] _ hH (by omega) rfl (ht_ac (.inr ⟨by decide, _, rfl, k_am⟩) (ht_ac hi_any (ht_ac hi_any ht_an)))).mono (fun u hu => ls_cbv hu (fun v929 K929 G929 c929 s929 x929 f929 hH hv929 cl929 sl929 => ?_))
  have hcq := hcq.fr x929 hHo f929 (by decide +kernel)
  have hky := hky.fr hHo k_am hrm.1.1 f929 (by decide +kernel)
  have hzy := hzy.fr k_th hrc.1.1 hrc.1.2.1 x929 f929 (by decide +kernel)
  have hty := hty.fr x929 hHo f929 (by decide +kernel)
  have hcy := hcy.fr x929 f929 (by decide +kernel)
  have hry := hry.fr hHo x929 f929 (by decide +kernel)
  have hci := hci.fr x929 f929 (by decide +kernel)
  have h3 := (f929.2 th 12 k_th 3 rfl).trans h3
  have hl := (f929.2 rd 7 k_rd 1 rfl).trans hl
  have hm := (f929.2 am 13 k_am 5 rfl).trans hm
  have hp := (f929.2 th 12 k_th 2 rfl).trans hp
  have hg := (f929.2 am 13 k_am 3 rfl).trans hg
  have htC := htC.fr k_rd x929 f929 (by decide +kernel)
  have htM := htM.fr k_am x929 f929 (by decide +kernel)
  have hrc := hrc.fr k_th x929 f929 (by decide +kernel)
  have hrm := hrm.fr k_am x929 f929 (by decide +kernel)
  have k_th := x929 _ _ k_th
  have k_am := x929 _ _ k_am
  have k_out := x929 _ _ k_out
  have k_rd := x929 _ _ k_rd
  obtain ⟨v929, rfl, -⟩ := hv929
  show et_go _ _ 1000 932 [some (.ref 150), some (.ref th), some (.ref am), some (.ref out), some (.int (Int32.ofNat i)), some (.int v911), x6] [.int v929] _ ((ck + c911) + c929) ((sk + s911) + s929) _
  refine ls_istore (i := 6) (p := 934) (by decide +kernel) (Nat.le_of_ble_eq_true rfl) ?_
  refine ls_goto (p := 1663) (by decide +kernel) ?_
  exact hN _ _ c h _ _ _ _ _ _ ⟨⟨hH, hci, k_th, k_am, k_out, h3, k_rd, hl, hm, hc⟩, ⟨hh1, hp, hg⟩, hrc, hrm, hbc, hbi, ⟨hry, hcy, hty, hzy, hky, hcq.le (by first | exact Nat.le_refl _ | exact Nat.le_succ _) (by first | exact Nat.le_refl _ | exact Nat.le_succ _)⟩, _, htC, htM, htb⟩ (by omega) (by omega)
set_option maxHeartbeats 2000000 in
theorem lw_c19 (hI : lw_I K G th am out rd s0 s1 aw ai tp ba na tm c h cn im) (hi : i + 6 ≤ n) (hn : n ≤ 3072) (hN : ∀ (K' : et_K) (G' : eg_G) (c' h' : Nat) (cn' im' : Nat → Nat) (ck' sk' : Nat) (y5 y6 : Option Value), lw_I K' G' th am out rd s0 s1 aw ai tp ba na tm c' h' cn' im' → ck' ≤ ck + 841 → sk' ≤ sk + 7168 → et_go (some (n, f)) (d + 41) 1000 1663 [some (.ref 150), some (.ref th), some (.ref am), some (.ref out), some (.int (Int32.ofNat i)), y5, y6] [] G' ck' sk' Z) : et_go (some (n, f)) (d + 41) 1000 937 [some (.ref 150), some (.ref th), some (.ref am), some (.ref out), some (.int (Int32.ofNat i)), x5, x6] [] G ck sk Z := by
  obtain ⟨⟨hH, hci, k_th, k_am, k_out, h3, k_rd, hl, hm, hc⟩, ⟨hh1, hp, hg⟩, hrc, hrm, hbc, hbi, ⟨hry, hcy, hty, hzy, hky, hcq⟩, tb, htC, htM, htb⟩ := hI
  refine ls_aload (i := 1) (p := 938) (by decide +kernel) rfl ?_
  refine ls_arg (j := 1) (by decide +kernel) (by omega) hn ?_
  refine ls_arg (j := 2) (by decide +kernel) (by omega) hn ?_
  refine ls_arg (j := 3) (by decide +kernel) (by omega) hn ?_
  refine ls_aload (i := 3) (p := 957) (by decide +kernel) rfl ?_
  refine ls_calls (mi := 15) (na := 5) (lk := 7) (lm := 6) (L0 := eg_en (eg_mL 15) [.ref th, .int (f (i + 1)), .int (f (i + 2)), .int (f (i + 3)), .ref out]) (by decide +kernel) rfl rfl rfl rfl rfl rfl (by rw [show eg_mL 15 = 6 from by decide +kernel]; first | done | rfl) ?_
  have hHo := hH
  refine (hh_c15 (K, [], G) [.ref th, .int (f (i + 1)), .int (f (i + 2)), .int (f (i + 3)), .ref out] _ hH (by omega) rfl (ht_ac (.inr ⟨by decide, _, rfl, k_th⟩) (ht_ac hi_any (ht_ac hi_any (ht_ac hi_any (ht_ac (.inr ⟨by decide, _, rfl, k_out⟩) ht_an)))))).mono (fun u hu => ls_cbv hu (fun v957 K957 G957 c957 s957 x957 f957 hH hv957 cl957 sl957 => ?_))
  have hcq := hcq.fr x957 hHo f957 (by decide +kernel)
  have hky := hky.fr hHo k_am hrm.1.1 f957 (by decide +kernel)
  have hzy := hzy.fr k_th hrc.1.1 hrc.1.2.1 x957 f957 (by decide +kernel)
  have hty := hty.fr x957 hHo f957 (by decide +kernel)
  have hcy := hcy.fr x957 f957 (by decide +kernel)
  have hry := hry.fr hHo x957 f957 (by decide +kernel)
  have hci := hci.fr x957 f957 (by decide +kernel)
  have h3 := (f957.2 th 12 k_th 3 rfl).trans h3
  have hl := (f957.2 rd 7 k_rd 1 rfl).trans hl
  have hm := (f957.2 am 13 k_am 5 rfl).trans hm
  have hp := (f957.2 th 12 k_th 2 rfl).trans hp
  have hg := (f957.2 am 13 k_am 3 rfl).trans hg
  have htC := htC.fr k_rd x957 f957 (by decide +kernel)
  have htM := htM.fr k_am x957 f957 (by decide +kernel)
  have hrc := hrc.fr k_th x957 f957 (by decide +kernel)
  have hrm := hrm.fr k_am x957 f957 (by decide +kernel)
  have k_th := x957 _ _ k_th
  have k_am := x957 _ _ k_am
  have k_out := x957 _ _ k_out
  have k_rd := x957 _ _ k_rd
  obtain ⟨v957, rfl, -⟩ := hv957
  show et_go _ _ 1000 960 [some (.ref 150), some (.ref th), some (.ref am), some (.ref out), some (.int (Int32.ofNat i)), x5, x6] [.int v957] _ (ck + c957) (sk + s957) _
  refine ls_istore (i := 5) (p := 962) (by decide +kernel) (Nat.le_of_ble_eq_true rfl) ?_
  refine ls_aload (i := 2) (p := 963) (by decide +kernel) rfl ?_
  refine ls_arg (j := 1) (by decide +kernel) (by omega) hn ?_
  refine ls_arg (j := 2) (by decide +kernel) (by omega) hn ?_
  refine ls_arg (j := 3) (by decide +kernel) (by omega) hn ?_
  refine lt_callv (T := et_TT) (t := 13) (mi := 259) (na := 3) (ci := 11) (lk := 7) (lm := 4) (L0 := eg_en (eg_mL 259) [.ref am, .int (f (i + 1)), .int (f (i + 2)), .int (f (i + 3))]) (by decide +kernel) rfl hH k_am rfl rfl rfl rfl rfl (by rw [show eg_mL 259 = 4 from by decide +kernel]; first | done | rfl) ?_
  have hHo := hH
  refine (er_p259_ok (K957, [], G957) [.ref am, .int (f (i + 1)), .int (f (i + 2)), .int (f (i + 3))] _ hH (by omega) rfl (ht_ac (.inr ⟨by decide, _, rfl, k_am⟩) (ht_ac hi_any (ht_ac hi_any (ht_ac hi_any ht_an))))).mono (fun u hu => ls_cbv hu (fun v981 K981 G981 c981 s981 x981 f981 hH hv981 cl981 sl981 => ?_))
  have hcq := hcq.fr x981 hHo f981 (by decide +kernel)
  have hky := hky.fr hHo k_am hrm.1.1 f981 (by decide +kernel)
  have hzy := hzy.fr k_th hrc.1.1 hrc.1.2.1 x981 f981 (by decide +kernel)
  have hty := hty.fr x981 hHo f981 (by decide +kernel)
  have hcy := hcy.fr x981 f981 (by decide +kernel)
  have hry := hry.fr hHo x981 f981 (by decide +kernel)
  have hci := hci.fr x981 f981 (by decide +kernel)
  have h3 := (f981.2 th 12 k_th 3 rfl).trans h3
  have hl := (f981.2 rd 7 k_rd 1 rfl).trans hl
  have hm := (f981.2 am 13 k_am 5 rfl).trans hm
  have hp := (f981.2 th 12 k_th 2 rfl).trans hp
  have hg := (f981.2 am 13 k_am 3 rfl).trans hg
  have htC := htC.fr k_rd x981 f981 (by decide +kernel)
  have htM := htM.fr k_am x981 f981 (by decide +kernel)
  have hrc := hrc.fr k_th x981 f981 (by decide +kernel)
  have hrm := hrm.fr k_am x981 f981 (by decide +kernel)
  have k_th := x981 _ _ k_th
  have k_am := x981 _ _ k_am
  have k_out := x981 _ _ k_out
  have k_rd := x981 _ _ k_rd
  obtain ⟨v981, rfl, -⟩ := hv981
  show et_go _ _ 1000 984 [some (.ref 150), some (.ref th), some (.ref am), some (.ref out), some (.int (Int32.ofNat i)), some (.int v957), x6] [.int v981] _ ((ck + c957) + c981) ((sk + s957) + s981) _
  refine ls_istore (i := 6) (p := 986) (by decide +kernel) (Nat.le_of_ble_eq_true rfl) ?_
  refine ls_goto (p := 1663) (by decide +kernel) ?_
  exact hN _ _ c h _ _ _ _ _ _ ⟨⟨hH, hci, k_th, k_am, k_out, h3, k_rd, hl, hm, hc⟩, ⟨hh1, hp, hg⟩, hrc, hrm, hbc, hbi, ⟨hry, hcy, hty, hzy, hky, hcq.le (by first | exact Nat.le_refl _ | exact Nat.le_succ _) (by first | exact Nat.le_refl _ | exact Nat.le_succ _)⟩, _, htC, htM, htb⟩ (by omega) (by omega)
set_option maxHeartbeats 2000000 in
theorem lw_c20 (hI : lw_I K G th am out rd s0 s1 aw ai tp ba na tm c h cn im) (hi : i + 6 ≤ n) (hn : n ≤ 3072) (hN : ∀ (K' : et_K) (G' : eg_G) (c' h' : Nat) (cn' im' : Nat → Nat) (ck' sk' : Nat) (y5 y6 : Option Value), lw_I K' G' th am out rd s0 s1 aw ai tp ba na tm c' h' cn' im' → ck' ≤ ck + 841 → sk' ≤ sk + 7168 → et_go (some (n, f)) (d + 41) 1000 1663 [some (.ref 150), some (.ref th), some (.ref am), some (.ref out), some (.int (Int32.ofNat i)), y5, y6] [] G' ck' sk' Z) : et_go (some (n, f)) (d + 41) 1000 989 [some (.ref 150), some (.ref th), some (.ref am), some (.ref out), some (.int (Int32.ofNat i)), x5, x6] [] G ck sk Z := by
  obtain ⟨⟨hH, hci, k_th, k_am, k_out, h3, k_rd, hl, hm, hc⟩, ⟨hh1, hp, hg⟩, hrc, hrm, hbc, hbi, ⟨hry, hcy, hty, hzy, hky, hcq⟩, tb, htC, htM, htb⟩ := hI
  refine ls_aload (i := 1) (p := 990) (by decide +kernel) rfl ?_
  refine ls_arg (j := 1) (by decide +kernel) (by omega) hn ?_
  refine ls_arg (j := 2) (by decide +kernel) (by omega) hn ?_
  refine ls_aload (i := 3) (p := 1003) (by decide +kernel) rfl ?_
  refine ls_calls (mi := 16) (na := 4) (lk := 7) (lm := 5) (L0 := eg_en (eg_mL 16) [.ref th, .int (f (i + 1)), .int (f (i + 2)), .ref out]) (by decide +kernel) rfl rfl rfl rfl rfl rfl (by rw [show eg_mL 16 = 5 from by decide +kernel]; first | done | rfl) ?_
  have hHo := hH
  refine (hh_c16 (K, [], G) [.ref th, .int (f (i + 1)), .int (f (i + 2)), .ref out] _ hH (by omega) rfl (ht_ac (.inr ⟨by decide, _, rfl, k_th⟩) (ht_ac hi_any (ht_ac hi_any (ht_ac (.inr ⟨by decide, _, rfl, k_out⟩) ht_an))))).mono (fun u hu => ls_cbv hu (fun v1003 K1003 G1003 c1003 s1003 x1003 f1003 hH hv1003 cl1003 sl1003 => ?_))
  have hcq := hcq.fr x1003 hHo f1003 (by decide +kernel)
  have hky := hky.fr hHo k_am hrm.1.1 f1003 (by decide +kernel)
  have hzy := hzy.fr k_th hrc.1.1 hrc.1.2.1 x1003 f1003 (by decide +kernel)
  have hty := hty.fr x1003 hHo f1003 (by decide +kernel)
  have hcy := hcy.fr x1003 f1003 (by decide +kernel)
  have hry := hry.fr hHo x1003 f1003 (by decide +kernel)
  have hci := hci.fr x1003 f1003 (by decide +kernel)
  have h3 := (f1003.2 th 12 k_th 3 rfl).trans h3
  have hl := (f1003.2 rd 7 k_rd 1 rfl).trans hl
  have hm := (f1003.2 am 13 k_am 5 rfl).trans hm
  have hp := (f1003.2 th 12 k_th 2 rfl).trans hp
  have hg := (f1003.2 am 13 k_am 3 rfl).trans hg
  have htC := htC.fr k_rd x1003 f1003 (by decide +kernel)
  have htM := htM.fr k_am x1003 f1003 (by decide +kernel)
  have hrc := hrc.fr k_th x1003 f1003 (by decide +kernel)
  have hrm := hrm.fr k_am x1003 f1003 (by decide +kernel)
  have k_th := x1003 _ _ k_th
  have k_am := x1003 _ _ k_am
  have k_out := x1003 _ _ k_out
  have k_rd := x1003 _ _ k_rd
  obtain ⟨v1003, rfl, -⟩ := hv1003
  show et_go _ _ 1000 1006 [some (.ref 150), some (.ref th), some (.ref am), some (.ref out), some (.int (Int32.ofNat i)), x5, x6] [.int v1003] _ (ck + c1003) (sk + s1003) _
  refine ls_istore (i := 5) (p := 1008) (by decide +kernel) (Nat.le_of_ble_eq_true rfl) ?_
  refine ls_aload (i := 2) (p := 1009) (by decide +kernel) rfl ?_
  refine ls_arg (j := 1) (by decide +kernel) (by omega) hn ?_
  refine ls_arg (j := 2) (by decide +kernel) (by omega) hn ?_
  refine lt_callv (T := et_TT) (t := 13) (mi := 260) (na := 2) (ci := 11) (lk := 7) (lm := 3) (L0 := eg_en (eg_mL 260) [.ref am, .int (f (i + 1)), .int (f (i + 2))]) (by decide +kernel) rfl hH k_am rfl rfl rfl rfl rfl (by rw [show eg_mL 260 = 3 from by decide +kernel]; first | done | rfl) ?_
  have hHo := hH
  refine (er_p260_ok (K1003, [], G1003) [.ref am, .int (f (i + 1)), .int (f (i + 2))] _ hH (by omega) rfl (ht_ac (.inr ⟨by decide, _, rfl, k_am⟩) (ht_ac hi_any (ht_ac hi_any ht_an)))).mono (fun u hu => ls_cbv hu (fun v1021 K1021 G1021 c1021 s1021 x1021 f1021 hH hv1021 cl1021 sl1021 => ?_))
  have hcq := hcq.fr x1021 hHo f1021 (by decide +kernel)
  have hky := hky.fr hHo k_am hrm.1.1 f1021 (by decide +kernel)
  have hzy := hzy.fr k_th hrc.1.1 hrc.1.2.1 x1021 f1021 (by decide +kernel)
  have hty := hty.fr x1021 hHo f1021 (by decide +kernel)
  have hcy := hcy.fr x1021 f1021 (by decide +kernel)
  have hry := hry.fr hHo x1021 f1021 (by decide +kernel)
  have hci := hci.fr x1021 f1021 (by decide +kernel)
  have h3 := (f1021.2 th 12 k_th 3 rfl).trans h3
  have hl := (f1021.2 rd 7 k_rd 1 rfl).trans hl
  have hm := (f1021.2 am 13 k_am 5 rfl).trans hm
  have hp := (f1021.2 th 12 k_th 2 rfl).trans hp
  have hg := (f1021.2 am 13 k_am 3 rfl).trans hg
  have htC := htC.fr k_rd x1021 f1021 (by decide +kernel)
  have htM := htM.fr k_am x1021 f1021 (by decide +kernel)
  have hrc := hrc.fr k_th x1021 f1021 (by decide +kernel)
  have hrm := hrm.fr k_am x1021 f1021 (by decide +kernel)
  have k_th := x1021 _ _ k_th
  have k_am := x1021 _ _ k_am
  have k_out := x1021 _ _ k_out
  have k_rd := x1021 _ _ k_rd
  obtain ⟨v1021, rfl, -⟩ := hv1021
  show et_go _ _ 1000 1024 [some (.ref 150), some (.ref th), some (.ref am), some (.ref out), some (.int (Int32.ofNat i)), some (.int v1003), x6] [.int v1021] _ ((ck + c1003) + c1021) ((sk + s1003) + s1021) _
  refine ls_istore (i := 6) (p := 1026) (by decide +kernel) (Nat.le_of_ble_eq_true rfl) ?_
  refine ls_goto (p := 1663) (by decide +kernel) ?_
  exact hN _ _ c h _ _ _ _ _ _ ⟨⟨hH, hci, k_th, k_am, k_out, h3, k_rd, hl, hm, hc⟩, ⟨hh1, hp, hg⟩, hrc, hrm, hbc, hbi, ⟨hry, hcy, hty, hzy, hky, hcq.le (by first | exact Nat.le_refl _ | exact Nat.le_succ _) (by first | exact Nat.le_refl _ | exact Nat.le_succ _)⟩, _, htC, htM, htb⟩ (by omega) (by omega)
set_option maxHeartbeats 2000000 in
theorem lw_c21 (hI : lw_I K G th am out rd s0 s1 aw ai tp ba na tm c h cn im) (hi : i + 6 ≤ n) (hn : n ≤ 3072) (hN : ∀ (K' : et_K) (G' : eg_G) (c' h' : Nat) (cn' im' : Nat → Nat) (ck' sk' : Nat) (y5 y6 : Option Value), lw_I K' G' th am out rd s0 s1 aw ai tp ba na tm c' h' cn' im' → ck' ≤ ck + 841 → sk' ≤ sk + 7168 → et_go (some (n, f)) (d + 41) 1000 1663 [some (.ref 150), some (.ref th), some (.ref am), some (.ref out), some (.int (Int32.ofNat i)), y5, y6] [] G' ck' sk' Z) : et_go (some (n, f)) (d + 41) 1000 1029 [some (.ref 150), some (.ref th), some (.ref am), some (.ref out), some (.int (Int32.ofNat i)), x5, x6] [] G ck sk Z := by
  obtain ⟨⟨hH, hci, k_th, k_am, k_out, h3, k_rd, hl, hm, hc⟩, ⟨hh1, hp, hg⟩, hrc, hrm, hbc, hbi, ⟨hry, hcy, hty, hzy, hky, hcq⟩, tb, htC, htM, htb⟩ := hI
  refine ls_aload (i := 1) (p := 1030) (by decide +kernel) rfl ?_
  refine ls_arg (j := 1) (by decide +kernel) (by omega) hn ?_
  refine ls_arg (j := 2) (by decide +kernel) (by omega) hn ?_
  refine ls_aload (i := 3) (p := 1043) (by decide +kernel) rfl ?_
  refine ls_calls (mi := 17) (na := 4) (lk := 7) (lm := 5) (L0 := eg_en (eg_mL 17) [.ref th, .int (f (i + 1)), .int (f (i + 2)), .ref out]) (by decide +kernel) rfl rfl rfl rfl rfl rfl (by rw [show eg_mL 17 = 5 from by decide +kernel]; first | done | rfl) ?_
  have hHo := hH
  refine (hh_c17 (K, [], G) [.ref th, .int (f (i + 1)), .int (f (i + 2)), .ref out] _ hH (by omega) rfl (ht_ac (.inr ⟨by decide, _, rfl, k_th⟩) (ht_ac hi_any (ht_ac hi_any (ht_ac (.inr ⟨by decide, _, rfl, k_out⟩) ht_an))))).mono (fun u hu => ls_cbv hu (fun v1043 K1043 G1043 c1043 s1043 x1043 f1043 hH hv1043 cl1043 sl1043 => ?_))
  have hcq := hcq.fr x1043 hHo f1043 (by decide +kernel)
  have hky := hky.fr hHo k_am hrm.1.1 f1043 (by decide +kernel)
  have hzy := hzy.fr k_th hrc.1.1 hrc.1.2.1 x1043 f1043 (by decide +kernel)
  have hty := hty.fr x1043 hHo f1043 (by decide +kernel)
  have hcy := hcy.fr x1043 f1043 (by decide +kernel)
  have hry := hry.fr hHo x1043 f1043 (by decide +kernel)
  have hci := hci.fr x1043 f1043 (by decide +kernel)
  have h3 := (f1043.2 th 12 k_th 3 rfl).trans h3
  have hl := (f1043.2 rd 7 k_rd 1 rfl).trans hl
  have hm := (f1043.2 am 13 k_am 5 rfl).trans hm
  have hp := (f1043.2 th 12 k_th 2 rfl).trans hp
  have hg := (f1043.2 am 13 k_am 3 rfl).trans hg
  have htC := htC.fr k_rd x1043 f1043 (by decide +kernel)
  have htM := htM.fr k_am x1043 f1043 (by decide +kernel)
  have hrc := hrc.fr k_th x1043 f1043 (by decide +kernel)
  have hrm := hrm.fr k_am x1043 f1043 (by decide +kernel)
  have k_th := x1043 _ _ k_th
  have k_am := x1043 _ _ k_am
  have k_out := x1043 _ _ k_out
  have k_rd := x1043 _ _ k_rd
  obtain ⟨v1043, rfl, -⟩ := hv1043
  show et_go _ _ 1000 1046 [some (.ref 150), some (.ref th), some (.ref am), some (.ref out), some (.int (Int32.ofNat i)), x5, x6] [.int v1043] _ (ck + c1043) (sk + s1043) _
  refine ls_istore (i := 5) (p := 1048) (by decide +kernel) (Nat.le_of_ble_eq_true rfl) ?_
  refine ls_aload (i := 2) (p := 1049) (by decide +kernel) rfl ?_
  refine ls_arg (j := 1) (by decide +kernel) (by omega) hn ?_
  refine ls_arg (j := 2) (by decide +kernel) (by omega) hn ?_
  refine lt_callv (T := et_TT) (t := 13) (mi := 261) (na := 2) (ci := 11) (lk := 7) (lm := 15) (L0 := eg_en (eg_mL 261) [.ref am, .int (f (i + 1)), .int (f (i + 2))]) (by decide +kernel) rfl hH k_am rfl rfl rfl rfl rfl (by rw [show eg_mL 261 = 15 from by decide +kernel]; first | done | rfl) ?_
  have hHo := hH
  refine (hc_bd (K1043, [], G1043) [.ref am, .int (f (i + 1)), .int (f (i + 2))] _ hH (by omega) rfl (ht_ac (.inr ⟨by decide, _, rfl, k_am⟩) (ht_ac hi_any (ht_ac hi_any ht_an)))).mono (fun u hu => ls_cbv hu (fun v1061 K1061 G1061 c1061 s1061 x1061 f1061 hH hv1061 cl1061 sl1061 => ?_))
  have hcq := hcq.fr x1061 hHo f1061 (by decide +kernel)
  have hky := hky.fr hHo k_am hrm.1.1 f1061 (by decide +kernel)
  have hzy := hzy.fr k_th hrc.1.1 hrc.1.2.1 x1061 f1061 (by decide +kernel)
  have hty := hty.fr x1061 hHo f1061 (by decide +kernel)
  have hcy := hcy.fr x1061 f1061 (by decide +kernel)
  have hry := hry.fr hHo x1061 f1061 (by decide +kernel)
  have hci := hci.fr x1061 f1061 (by decide +kernel)
  have h3 := (f1061.2 th 12 k_th 3 rfl).trans h3
  have hl := (f1061.2 rd 7 k_rd 1 rfl).trans hl
  have hm := (f1061.2 am 13 k_am 5 rfl).trans hm
  have hp := (f1061.2 th 12 k_th 2 rfl).trans hp
  have hg := (f1061.2 am 13 k_am 3 rfl).trans hg
  have htC := htC.fr k_rd x1061 f1061 (by decide +kernel)
  have htM := htM.fr k_am x1061 f1061 (by decide +kernel)
  have hrc := hrc.fr k_th x1061 f1061 (by decide +kernel)
  have hrm := hrm.fr k_am x1061 f1061 (by decide +kernel)
  have k_th := x1061 _ _ k_th
  have k_am := x1061 _ _ k_am
  have k_out := x1061 _ _ k_out
  have k_rd := x1061 _ _ k_rd
  obtain ⟨v1061, rfl, -⟩ := hv1061
  show et_go _ _ 1000 1064 [some (.ref 150), some (.ref th), some (.ref am), some (.ref out), some (.int (Int32.ofNat i)), some (.int v1043), x6] [.int v1061] _ ((ck + c1043) + c1061) ((sk + s1043) + s1061) _
  refine ls_istore (i := 6) (p := 1066) (by decide +kernel) (Nat.le_of_ble_eq_true rfl) ?_
  refine ls_goto (p := 1663) (by decide +kernel) ?_
  exact hN _ _ c h _ _ _ _ _ _ ⟨⟨hH, hci, k_th, k_am, k_out, h3, k_rd, hl, hm, hc⟩, ⟨hh1, hp, hg⟩, hrc, hrm, hbc, hbi, ⟨hry, hcy, hty, hzy, hky, hcq.le (by first | exact Nat.le_refl _ | exact Nat.le_succ _) (by first | exact Nat.le_refl _ | exact Nat.le_succ _)⟩, _, htC, htM, htb⟩ (by omega) (by omega)
set_option maxHeartbeats 2000000 in
theorem lw_c22 (hI : lw_I K G th am out rd s0 s1 aw ai tp ba na tm c h cn im) (hi : i + 6 ≤ n) (hn : n ≤ 3072) (hN : ∀ (K' : et_K) (G' : eg_G) (c' h' : Nat) (cn' im' : Nat → Nat) (ck' sk' : Nat) (y5 y6 : Option Value), lw_I K' G' th am out rd s0 s1 aw ai tp ba na tm c' h' cn' im' → ck' ≤ ck + 841 → sk' ≤ sk + 7168 → et_go (some (n, f)) (d + 41) 1000 1663 [some (.ref 150), some (.ref th), some (.ref am), some (.ref out), some (.int (Int32.ofNat i)), y5, y6] [] G' ck' sk' Z) : et_go (some (n, f)) (d + 41) 1000 1069 [some (.ref 150), some (.ref th), some (.ref am), some (.ref out), some (.int (Int32.ofNat i)), x5, x6] [] G ck sk Z := by
  obtain ⟨⟨hH, hci, k_th, k_am, k_out, h3, k_rd, hl, hm, hc⟩, ⟨hh1, hp, hg⟩, hrc, hrm, hbc, hbi, ⟨hry, hcy, hty, hzy, hky, hcq⟩, tb, htC, htM, htb⟩ := hI
  refine ls_aload (i := 1) (p := 1070) (by decide +kernel) rfl ?_
  refine ls_arg (j := 1) (by decide +kernel) (by omega) hn ?_
  refine ls_arg (j := 2) (by decide +kernel) (by omega) hn ?_
  refine ls_aload (i := 3) (p := 1083) (by decide +kernel) rfl ?_
  refine ls_calls (mi := 18) (na := 4) (lk := 7) (lm := 5) (L0 := eg_en (eg_mL 18) [.ref th, .int (f (i + 1)), .int (f (i + 2)), .ref out]) (by decide +kernel) rfl rfl rfl rfl rfl rfl (by rw [show eg_mL 18 = 5 from by decide +kernel]; first | done | rfl) ?_
  have hHo := hH
  obtain ⟨D_, φ_, R0_, R1_, r0_, r1_, fo_, t_, kk_, hx_, ho_⟩ := hry
  refine ((hh_c18 (K, [], G) [.ref th, .int (f (i + 1)), .int (f (i + 2)), .ref out] _ hH (by omega) rfl (ht_ac (.inr ⟨by decide, _, rfl, k_th⟩) (ht_ac hi_any (ht_ac hi_any (ht_ac (.inr ⟨by decide, _, rfl, k_out⟩) ht_an))))).and (fh_18 t_ hH k_out hx_ (by omega))).mono (fun u hu => ls_cbvQ (Q := fun u => rx D_ φ_ th s0 r0_ (cn 0) fo_ u.2.1) hu (fun v1083 K1083 G1083 c1083 s1083 x1083 f1083 hH hv1083 cl1083 sl1083 hQ => ?_))
  have hry : ry K1083 G1083 th s0 s1 aw ai (cn 0) (im 0) := ⟨D_, φ_, R0_, R1_, r0_, r1_, fo_, t_.ex x1083, kk_.ex x1083, hQ, ho_.fr kk_ f1083 (by decide +kernel)⟩
  have hcq := hcq.fr x1083 hHo f1083 (by decide +kernel)
  have hky := hky.fr hHo k_am hrm.1.1 f1083 (by decide +kernel)
  have hzy := hzy.fr k_th hrc.1.1 hrc.1.2.1 x1083 f1083 (by decide +kernel)
  have hty := hty.fr x1083 hHo f1083 (by decide +kernel)
  have hcy := hcy.fr x1083 f1083 (by decide +kernel)
  have hci := hci.fr x1083 f1083 (by decide +kernel)
  have h3 := (f1083.2 th 12 k_th 3 rfl).trans h3
  have hl := (f1083.2 rd 7 k_rd 1 rfl).trans hl
  have hm := (f1083.2 am 13 k_am 5 rfl).trans hm
  have hp := (f1083.2 th 12 k_th 2 rfl).trans hp
  have hg := (f1083.2 am 13 k_am 3 rfl).trans hg
  have htC := htC.fr k_rd x1083 f1083 (by decide +kernel)
  have htM := htM.fr k_am x1083 f1083 (by decide +kernel)
  have hrc := hrc.fr k_th x1083 f1083 (by decide +kernel)
  have hrm := hrm.fr k_am x1083 f1083 (by decide +kernel)
  have k_th := x1083 _ _ k_th
  have k_am := x1083 _ _ k_am
  have k_out := x1083 _ _ k_out
  have k_rd := x1083 _ _ k_rd
  obtain ⟨v1083, rfl, -⟩ := hv1083
  show et_go _ _ 1000 1086 [some (.ref 150), some (.ref th), some (.ref am), some (.ref out), some (.int (Int32.ofNat i)), x5, x6] [.int v1083] _ (ck + c1083) (sk + s1083) _
  refine ls_istore (i := 5) (p := 1088) (by decide +kernel) (Nat.le_of_ble_eq_true rfl) ?_
  refine ls_aload (i := 2) (p := 1089) (by decide +kernel) rfl ?_
  refine ls_arg (j := 1) (by decide +kernel) (by omega) hn ?_
  refine ls_arg (j := 2) (by decide +kernel) (by omega) hn ?_
  refine lt_callv (T := et_TT) (t := 13) (mi := 262) (na := 2) (ci := 11) (lk := 7) (lm := 3) (L0 := eg_en (eg_mL 262) [.ref am, .int (f (i + 1)), .int (f (i + 2))]) (by decide +kernel) rfl hH k_am rfl rfl rfl rfl rfl (by rw [show eg_mL 262 = 3 from by decide +kernel]; first | done | rfl) ?_
  have hHo := hH
  have b0 : cn 0 ≤ 4 := Int.ofNat_le.mp (hf_bd (t := 10) hH hrc.1.1 rfl rfl (hrc.2.2 (0, 0) (by decide)).1 (hbc 0))
  have b4 : cn 4 ≤ 3 := Int.ofNat_le.mp (hf_bd (t := 10) hH hrc.1.1 rfl rfl (hrc.2.2 (5, 4) (by decide)).1 (hbc 4))
  have hrt_ := hry.rt
  refine ((er_p262_ok (K1083, [], G1083) [.ref am, .int (f (i + 1)), .int (f (i + 2))] _ hH (by omega) rfl (ht_ac (.inr ⟨by decide, _, rfl, k_am⟩) (ht_ac hi_any (ht_ac hi_any ht_an)))).and (fk_262 hH k_am hrm.1.1 hrm.2.1.1 b0 ⟨hky, hrt_⟩ (hrm.2.2 (0, 0) (by decide)).1 (hrm.2.2 (5, 4) (by decide)).1 b4 (by omega))).mono (fun u hu => ls_cbvQ (Q := fun u => kyB u.2.1 am aw (cn 0)) hu (fun v1101 K1101 G1101 c1101 s1101 x1101 f1101 hH hv1101 cl1101 sl1101 hQ => ?_))
  have hcq := hcq.fr x1101 hHo f1101 (by decide +kernel)
  have hky := hQ.1
  have hzy := hzy.fr k_th hrc.1.1 hrc.1.2.1 x1101 f1101 (by decide +kernel)
  have hty := hty.fr x1101 hHo f1101 (by decide +kernel)
  have hcy := hcy.fr x1101 f1101 (by decide +kernel)
  have hry := hry.fr hHo x1101 f1101 (by decide +kernel)
  have hci := hci.fr x1101 f1101 (by decide +kernel)
  have h3 := (f1101.2 th 12 k_th 3 rfl).trans h3
  have hl := (f1101.2 rd 7 k_rd 1 rfl).trans hl
  have hm := (f1101.2 am 13 k_am 5 rfl).trans hm
  have hp := (f1101.2 th 12 k_th 2 rfl).trans hp
  have hg := (f1101.2 am 13 k_am 3 rfl).trans hg
  have htC := htC.fr k_rd x1101 f1101 (by decide +kernel)
  have htM := htM.fr k_am x1101 f1101 (by decide +kernel)
  have hrc := hrc.fr k_th x1101 f1101 (by decide +kernel)
  have hrm := hrm.fr k_am x1101 f1101 (by decide +kernel)
  have k_th := x1101 _ _ k_th
  have k_am := x1101 _ _ k_am
  have k_out := x1101 _ _ k_out
  have k_rd := x1101 _ _ k_rd
  obtain ⟨v1101, rfl, -⟩ := hv1101
  show et_go _ _ 1000 1104 [some (.ref 150), some (.ref th), some (.ref am), some (.ref out), some (.int (Int32.ofNat i)), some (.int v1083), x6] [.int v1101] _ ((ck + c1083) + c1101) ((sk + s1083) + s1101) _
  refine ls_istore (i := 6) (p := 1106) (by decide +kernel) (Nat.le_of_ble_eq_true rfl) ?_
  refine ls_goto (p := 1663) (by decide +kernel) ?_
  exact hN _ _ c h _ _ _ _ _ _ ⟨⟨hH, hci, k_th, k_am, k_out, h3, k_rd, hl, hm, hc⟩, ⟨hh1, hp, hg⟩, hrc, hrm, hbc, hbi, ⟨hry, hcy, hty, hzy, hky, hcq.le (by first | exact Nat.le_refl _ | exact Nat.le_succ _) (by first | exact Nat.le_refl _ | exact Nat.le_succ _)⟩, _, htC, htM, htb⟩ (by omega) (by omega)
set_option maxHeartbeats 2000000 in
theorem lw_c23 (hI : lw_I K G th am out rd s0 s1 aw ai tp ba na tm c h cn im) (hi : i + 6 ≤ n) (hn : n ≤ 3072) (hN : ∀ (K' : et_K) (G' : eg_G) (c' h' : Nat) (cn' im' : Nat → Nat) (ck' sk' : Nat) (y5 y6 : Option Value), lw_I K' G' th am out rd s0 s1 aw ai tp ba na tm c' h' cn' im' → ck' ≤ ck + 841 → sk' ≤ sk + 7168 → et_go (some (n, f)) (d + 41) 1000 1663 [some (.ref 150), some (.ref th), some (.ref am), some (.ref out), some (.int (Int32.ofNat i)), y5, y6] [] G' ck' sk' Z) : et_go (some (n, f)) (d + 41) 1000 1109 [some (.ref 150), some (.ref th), some (.ref am), some (.ref out), some (.int (Int32.ofNat i)), x5, x6] [] G ck sk Z := by
  obtain ⟨⟨hH, hci, k_th, k_am, k_out, h3, k_rd, hl, hm, hc⟩, ⟨hh1, hp, hg⟩, hrc, hrm, hbc, hbi, ⟨hry, hcy, hty, hzy, hky, hcq⟩, tb, htC, htM, htb⟩ := hI
  refine ls_aload (i := 1) (p := 1110) (by decide +kernel) rfl ?_
  refine ls_arg (j := 1) (by decide +kernel) (by omega) hn ?_
  refine ls_arg (j := 2) (by decide +kernel) (by omega) hn ?_
  refine ls_arg (j := 3) (by decide +kernel) (by omega) hn ?_
  refine ls_aload (i := 3) (p := 1129) (by decide +kernel) rfl ?_
  refine ls_calls (mi := 19) (na := 5) (lk := 7) (lm := 6) (L0 := eg_en (eg_mL 19) [.ref th, .int (f (i + 1)), .int (f (i + 2)), .int (f (i + 3)), .ref out]) (by decide +kernel) rfl rfl rfl rfl rfl rfl (by rw [show eg_mL 19 = 6 from by decide +kernel]; first | done | rfl) ?_
  have hHo := hH
  obtain ⟨D_, φ_, R0_, R1_, r0_, r1_, fo_, t_, kk_, hx_, ho_⟩ := hry
  refine ((hh_c19 (K, [], G) [.ref th, .int (f (i + 1)), .int (f (i + 2)), .int (f (i + 3)), .ref out] _ hH (by omega) rfl (ht_ac (.inr ⟨by decide, _, rfl, k_th⟩) (ht_ac hi_any (ht_ac hi_any (ht_ac hi_any (ht_ac (.inr ⟨by decide, _, rfl, k_out⟩) ht_an)))))).and (fh_19 t_ hH k_out hx_ (by omega))).mono (fun u hu => ls_cbvQ (Q := fun u => rx D_ φ_ th s0 r0_ (cn 0) fo_ u.2.1) hu (fun v1129 K1129 G1129 c1129 s1129 x1129 f1129 hH hv1129 cl1129 sl1129 hQ => ?_))
  have hry : ry K1129 G1129 th s0 s1 aw ai (cn 0) (im 0) := ⟨D_, φ_, R0_, R1_, r0_, r1_, fo_, t_.ex x1129, kk_.ex x1129, hQ, ho_.fr kk_ f1129 (by decide +kernel)⟩
  have hcq := hcq.fr x1129 hHo f1129 (by decide +kernel)
  have hky := hky.fr hHo k_am hrm.1.1 f1129 (by decide +kernel)
  have hzy := hzy.fr k_th hrc.1.1 hrc.1.2.1 x1129 f1129 (by decide +kernel)
  have hty := hty.fr x1129 hHo f1129 (by decide +kernel)
  have hcy := hcy.fr x1129 f1129 (by decide +kernel)
  have hci := hci.fr x1129 f1129 (by decide +kernel)
  have h3 := (f1129.2 th 12 k_th 3 rfl).trans h3
  have hl := (f1129.2 rd 7 k_rd 1 rfl).trans hl
  have hm := (f1129.2 am 13 k_am 5 rfl).trans hm
  have hp := (f1129.2 th 12 k_th 2 rfl).trans hp
  have hg := (f1129.2 am 13 k_am 3 rfl).trans hg
  have htC := htC.fr k_rd x1129 f1129 (by decide +kernel)
  have htM := htM.fr k_am x1129 f1129 (by decide +kernel)
  have hrc := hrc.fr k_th x1129 f1129 (by decide +kernel)
  have hrm := hrm.fr k_am x1129 f1129 (by decide +kernel)
  have k_th := x1129 _ _ k_th
  have k_am := x1129 _ _ k_am
  have k_out := x1129 _ _ k_out
  have k_rd := x1129 _ _ k_rd
  obtain ⟨v1129, rfl, -⟩ := hv1129
  show et_go _ _ 1000 1132 [some (.ref 150), some (.ref th), some (.ref am), some (.ref out), some (.int (Int32.ofNat i)), x5, x6] [.int v1129] _ (ck + c1129) (sk + s1129) _
  refine ls_istore (i := 5) (p := 1134) (by decide +kernel) (Nat.le_of_ble_eq_true rfl) ?_
  refine ls_aload (i := 2) (p := 1135) (by decide +kernel) rfl ?_
  refine ls_arg (j := 1) (by decide +kernel) (by omega) hn ?_
  refine ls_arg (j := 2) (by decide +kernel) (by omega) hn ?_
  refine ls_arg (j := 3) (by decide +kernel) (by omega) hn ?_
  refine lt_callv (T := et_TT) (t := 13) (mi := 270) (na := 3) (ci := 11) (lk := 7) (lm := 4) (L0 := eg_en (eg_mL 270) [.ref am, .int (f (i + 1)), .int (f (i + 2)), .int (f (i + 3))]) (by decide +kernel) rfl hH k_am rfl rfl rfl rfl rfl (by rw [show eg_mL 270 = 4 from by decide +kernel]; first | done | rfl) ?_
  have hHo := hH
  have b0 : cn 0 ≤ 4 := Int.ofNat_le.mp (hf_bd (t := 10) hH hrc.1.1 rfl rfl (hrc.2.2 (0, 0) (by decide)).1 (hbc 0))
  have b4 : cn 4 ≤ 3 := Int.ofNat_le.mp (hf_bd (t := 10) hH hrc.1.1 rfl rfl (hrc.2.2 (5, 4) (by decide)).1 (hbc 4))
  have hrt_ := hry.rt
  refine ((er_p270_ok (K1129, [], G1129) [.ref am, .int (f (i + 1)), .int (f (i + 2)), .int (f (i + 3))] _ hH (by omega) rfl (ht_ac (.inr ⟨by decide, _, rfl, k_am⟩) (ht_ac hi_any (ht_ac hi_any (ht_ac hi_any ht_an))))).and (fk_270 hH k_am hrm.1.1 hrm.2.1.1 b0 ⟨hky, hrt_⟩ (hrm.2.2 (0, 0) (by decide)).1 (hrm.2.2 (5, 4) (by decide)).1 b4 (by omega))).mono (fun u hu => ls_cbvQ (Q := fun u => kyB u.2.1 am aw (cn 0)) hu (fun v1153 K1153 G1153 c1153 s1153 x1153 f1153 hH hv1153 cl1153 sl1153 hQ => ?_))
  have hcq := hcq.fr x1153 hHo f1153 (by decide +kernel)
  have hky := hQ.1
  have hzy := hzy.fr k_th hrc.1.1 hrc.1.2.1 x1153 f1153 (by decide +kernel)
  have hty := hty.fr x1153 hHo f1153 (by decide +kernel)
  have hcy := hcy.fr x1153 f1153 (by decide +kernel)
  have hry := hry.fr hHo x1153 f1153 (by decide +kernel)
  have hci := hci.fr x1153 f1153 (by decide +kernel)
  have h3 := (f1153.2 th 12 k_th 3 rfl).trans h3
  have hl := (f1153.2 rd 7 k_rd 1 rfl).trans hl
  have hm := (f1153.2 am 13 k_am 5 rfl).trans hm
  have hp := (f1153.2 th 12 k_th 2 rfl).trans hp
  have hg := (f1153.2 am 13 k_am 3 rfl).trans hg
  have htC := htC.fr k_rd x1153 f1153 (by decide +kernel)
  have htM := htM.fr k_am x1153 f1153 (by decide +kernel)
  have hrc := hrc.fr k_th x1153 f1153 (by decide +kernel)
  have hrm := hrm.fr k_am x1153 f1153 (by decide +kernel)
  have k_th := x1153 _ _ k_th
  have k_am := x1153 _ _ k_am
  have k_out := x1153 _ _ k_out
  have k_rd := x1153 _ _ k_rd
  obtain ⟨v1153, rfl, -⟩ := hv1153
  show et_go _ _ 1000 1156 [some (.ref 150), some (.ref th), some (.ref am), some (.ref out), some (.int (Int32.ofNat i)), some (.int v1129), x6] [.int v1153] _ ((ck + c1129) + c1153) ((sk + s1129) + s1153) _
  refine ls_istore (i := 6) (p := 1158) (by decide +kernel) (Nat.le_of_ble_eq_true rfl) ?_
  refine ls_goto (p := 1663) (by decide +kernel) ?_
  exact hN _ _ c h _ _ _ _ _ _ ⟨⟨hH, hci, k_th, k_am, k_out, h3, k_rd, hl, hm, hc⟩, ⟨hh1, hp, hg⟩, hrc, hrm, hbc, hbi, ⟨hry, hcy, hty, hzy, hky, hcq.le (by first | exact Nat.le_refl _ | exact Nat.le_succ _) (by first | exact Nat.le_refl _ | exact Nat.le_succ _)⟩, _, htC, htM, htb⟩ (by omega) (by omega)
set_option maxHeartbeats 2000000 in
theorem lw_c24 (hI : lw_I K G th am out rd s0 s1 aw ai tp ba na tm c h cn im) (hi : i + 6 ≤ n) (hn : n ≤ 3072) (hN : ∀ (K' : et_K) (G' : eg_G) (c' h' : Nat) (cn' im' : Nat → Nat) (ck' sk' : Nat) (y5 y6 : Option Value), lw_I K' G' th am out rd s0 s1 aw ai tp ba na tm c' h' cn' im' → ck' ≤ ck + 841 → sk' ≤ sk + 7168 → et_go (some (n, f)) (d + 41) 1000 1663 [some (.ref 150), some (.ref th), some (.ref am), some (.ref out), some (.int (Int32.ofNat i)), y5, y6] [] G' ck' sk' Z) : et_go (some (n, f)) (d + 41) 1000 1161 [some (.ref 150), some (.ref th), some (.ref am), some (.ref out), some (.int (Int32.ofNat i)), x5, x6] [] G ck sk Z := by
  obtain ⟨⟨hH, hci, k_th, k_am, k_out, h3, k_rd, hl, hm, hc⟩, ⟨hh1, hp, hg⟩, hrc, hrm, hbc, hbi, ⟨hry, hcy, hty, hzy, hky, hcq⟩, tb, htC, htM, htb⟩ := hI
  refine ls_aload (i := 1) (p := 1162) (by decide +kernel) rfl ?_
  refine ls_arg (j := 1) (by decide +kernel) (by omega) hn ?_
  refine ls_arg (j := 2) (by decide +kernel) (by omega) hn ?_
  refine ls_aload (i := 3) (p := 1175) (by decide +kernel) rfl ?_
  refine ls_calls (mi := 20) (na := 4) (lk := 7) (lm := 5) (L0 := eg_en (eg_mL 20) [.ref th, .int (f (i + 1)), .int (f (i + 2)), .ref out]) (by decide +kernel) rfl rfl rfl rfl rfl rfl (by rw [show eg_mL 20 = 5 from by decide +kernel]; first | done | rfl) ?_
  have hHo := hH
  refine (hh_c20 (K, [], G) [.ref th, .int (f (i + 1)), .int (f (i + 2)), .ref out] _ hH (by omega) rfl (ht_ac (.inr ⟨by decide, _, rfl, k_th⟩) (ht_ac hi_any (ht_ac hi_any (ht_ac (.inr ⟨by decide, _, rfl, k_out⟩) ht_an))))).mono (fun u hu => ls_cbv hu (fun v1175 K1175 G1175 c1175 s1175 x1175 f1175 hH hv1175 cl1175 sl1175 => ?_))
  have hcq := hcq.fr x1175 hHo f1175 (by decide +kernel)
  have hky := hky.fr hHo k_am hrm.1.1 f1175 (by decide +kernel)
  have hzy := hzy.fr k_th hrc.1.1 hrc.1.2.1 x1175 f1175 (by decide +kernel)
  have hty := hty.fr x1175 hHo f1175 (by decide +kernel)
  have hcy := hcy.fr x1175 f1175 (by decide +kernel)
  have hry := hry.fr hHo x1175 f1175 (by decide +kernel)
  have hci := hci.fr x1175 f1175 (by decide +kernel)
  have h3 := (f1175.2 th 12 k_th 3 rfl).trans h3
  have hl := (f1175.2 rd 7 k_rd 1 rfl).trans hl
  have hm := (f1175.2 am 13 k_am 5 rfl).trans hm
  have hp := (f1175.2 th 12 k_th 2 rfl).trans hp
  have hg := (f1175.2 am 13 k_am 3 rfl).trans hg
  have htC := htC.fr k_rd x1175 f1175 (by decide +kernel)
  have htM := htM.fr k_am x1175 f1175 (by decide +kernel)
  have hrc := hrc.fr k_th x1175 f1175 (by decide +kernel)
  have hrm := hrm.fr k_am x1175 f1175 (by decide +kernel)
  have k_th := x1175 _ _ k_th
  have k_am := x1175 _ _ k_am
  have k_out := x1175 _ _ k_out
  have k_rd := x1175 _ _ k_rd
  obtain ⟨v1175, rfl, -⟩ := hv1175
  show et_go _ _ 1000 1178 [some (.ref 150), some (.ref th), some (.ref am), some (.ref out), some (.int (Int32.ofNat i)), x5, x6] [.int v1175] _ (ck + c1175) (sk + s1175) _
  refine ls_istore (i := 5) (p := 1180) (by decide +kernel) (Nat.le_of_ble_eq_true rfl) ?_
  refine ls_aload (i := 2) (p := 1181) (by decide +kernel) rfl ?_
  refine ls_arg (j := 1) (by decide +kernel) (by omega) hn ?_
  refine ls_arg (j := 2) (by decide +kernel) (by omega) hn ?_
  refine lt_callv (T := et_TT) (t := 13) (mi := 272) (na := 2) (ci := 11) (lk := 7) (lm := 3) (L0 := eg_en (eg_mL 272) [.ref am, .int (f (i + 1)), .int (f (i + 2))]) (by decide +kernel) rfl hH k_am rfl rfl rfl rfl rfl (by rw [show eg_mL 272 = 3 from by decide +kernel]; first | done | rfl) ?_
  have hHo := hH
  refine (er_p272_ok (K1175, [], G1175) [.ref am, .int (f (i + 1)), .int (f (i + 2))] _ hH (by omega) rfl (ht_ac (.inr ⟨by decide, _, rfl, k_am⟩) (ht_ac hi_any (ht_ac hi_any ht_an)))).mono (fun u hu => ls_cbv hu (fun v1193 K1193 G1193 c1193 s1193 x1193 f1193 hH hv1193 cl1193 sl1193 => ?_))
  have hcq := hcq.fr x1193 hHo f1193 (by decide +kernel)
  have hky := hky.fr hHo k_am hrm.1.1 f1193 (by decide +kernel)
  have hzy := hzy.fr k_th hrc.1.1 hrc.1.2.1 x1193 f1193 (by decide +kernel)
  have hty := hty.fr x1193 hHo f1193 (by decide +kernel)
  have hcy := hcy.fr x1193 f1193 (by decide +kernel)
  have hry := hry.fr hHo x1193 f1193 (by decide +kernel)
  have hci := hci.fr x1193 f1193 (by decide +kernel)
  have h3 := (f1193.2 th 12 k_th 3 rfl).trans h3
  have hl := (f1193.2 rd 7 k_rd 1 rfl).trans hl
  have hm := (f1193.2 am 13 k_am 5 rfl).trans hm
  have hp := (f1193.2 th 12 k_th 2 rfl).trans hp
  have hg := (f1193.2 am 13 k_am 3 rfl).trans hg
  have htC := htC.fr k_rd x1193 f1193 (by decide +kernel)
  have htM := htM.fr k_am x1193 f1193 (by decide +kernel)
  have hrc := hrc.fr k_th x1193 f1193 (by decide +kernel)
  have hrm := hrm.fr k_am x1193 f1193 (by decide +kernel)
  have k_th := x1193 _ _ k_th
  have k_am := x1193 _ _ k_am
  have k_out := x1193 _ _ k_out
  have k_rd := x1193 _ _ k_rd
  obtain ⟨v1193, rfl, -⟩ := hv1193
  show et_go _ _ 1000 1196 [some (.ref 150), some (.ref th), some (.ref am), some (.ref out), some (.int (Int32.ofNat i)), some (.int v1175), x6] [.int v1193] _ ((ck + c1175) + c1193) ((sk + s1175) + s1193) _
  refine ls_istore (i := 6) (p := 1198) (by decide +kernel) (Nat.le_of_ble_eq_true rfl) ?_
  refine ls_goto (p := 1663) (by decide +kernel) ?_
  exact hN _ _ c h _ _ _ _ _ _ ⟨⟨hH, hci, k_th, k_am, k_out, h3, k_rd, hl, hm, hc⟩, ⟨hh1, hp, hg⟩, hrc, hrm, hbc, hbi, ⟨hry, hcy, hty, hzy, hky, hcq.le (by first | exact Nat.le_refl _ | exact Nat.le_succ _) (by first | exact Nat.le_refl _ | exact Nat.le_succ _)⟩, _, htC, htM, htb⟩ (by omega) (by omega)
set_option maxHeartbeats 2000000 in
theorem lw_c25 (hI : lw_I K G th am out rd s0 s1 aw ai tp ba na tm c h cn im) (hi : i + 6 ≤ n) (hn : n ≤ 3072) (hN : ∀ (K' : et_K) (G' : eg_G) (c' h' : Nat) (cn' im' : Nat → Nat) (ck' sk' : Nat) (y5 y6 : Option Value), lw_I K' G' th am out rd s0 s1 aw ai tp ba na tm c' h' cn' im' → ck' ≤ ck + 841 → sk' ≤ sk + 7168 → et_go (some (n, f)) (d + 41) 1000 1663 [some (.ref 150), some (.ref th), some (.ref am), some (.ref out), some (.int (Int32.ofNat i)), y5, y6] [] G' ck' sk' Z) : et_go (some (n, f)) (d + 41) 1000 1201 [some (.ref 150), some (.ref th), some (.ref am), some (.ref out), some (.int (Int32.ofNat i)), x5, x6] [] G ck sk Z := by
  obtain ⟨⟨hH, hci, k_th, k_am, k_out, h3, k_rd, hl, hm, hc⟩, ⟨hh1, hp, hg⟩, hrc, hrm, hbc, hbi, ⟨hry, hcy, hty, hzy, hky, hcq⟩, tb, htC, htM, htb⟩ := hI
  refine ls_aload (i := 1) (p := 1202) (by decide +kernel) rfl ?_
  refine ls_arg (j := 1) (by decide +kernel) (by omega) hn ?_
  refine ls_aload (i := 3) (p := 1209) (by decide +kernel) rfl ?_
  refine ls_calls (mi := 21) (na := 3) (lk := 7) (lm := 4) (L0 := eg_en (eg_mL 21) [.ref th, .int (f (i + 1)), .ref out]) (by decide +kernel) rfl rfl rfl rfl rfl rfl (by rw [show eg_mL 21 = 4 from by decide +kernel]; first | done | rfl) ?_
  have hHo := hH
  refine (hh_c21 (K, [], G) [.ref th, .int (f (i + 1)), .ref out] _ hH (by omega) rfl (ht_ac (.inr ⟨by decide, _, rfl, k_th⟩) (ht_ac hi_any (ht_ac (.inr ⟨by decide, _, rfl, k_out⟩) ht_an)))).mono (fun u hu => ls_cbv hu (fun v1209 K1209 G1209 c1209 s1209 x1209 f1209 hH hv1209 cl1209 sl1209 => ?_))
  have hcq := hcq.fr x1209 hHo f1209 (by decide +kernel)
  have hky := hky.fr hHo k_am hrm.1.1 f1209 (by decide +kernel)
  have hzy := hzy.fr k_th hrc.1.1 hrc.1.2.1 x1209 f1209 (by decide +kernel)
  have hty := hty.fr x1209 hHo f1209 (by decide +kernel)
  have hcy := hcy.fr x1209 f1209 (by decide +kernel)
  have hry := hry.fr hHo x1209 f1209 (by decide +kernel)
  have hci := hci.fr x1209 f1209 (by decide +kernel)
  have h3 := (f1209.2 th 12 k_th 3 rfl).trans h3
  have hl := (f1209.2 rd 7 k_rd 1 rfl).trans hl
  have hm := (f1209.2 am 13 k_am 5 rfl).trans hm
  have hp := (f1209.2 th 12 k_th 2 rfl).trans hp
  have hg := (f1209.2 am 13 k_am 3 rfl).trans hg
  have htC := htC.fr k_rd x1209 f1209 (by decide +kernel)
  have htM := htM.fr k_am x1209 f1209 (by decide +kernel)
  have hrc := hrc.fr k_th x1209 f1209 (by decide +kernel)
  have hrm := hrm.fr k_am x1209 f1209 (by decide +kernel)
  have k_th := x1209 _ _ k_th
  have k_am := x1209 _ _ k_am
  have k_out := x1209 _ _ k_out
  have k_rd := x1209 _ _ k_rd
  obtain ⟨v1209, rfl, -⟩ := hv1209
  show et_go _ _ 1000 1212 [some (.ref 150), some (.ref th), some (.ref am), some (.ref out), some (.int (Int32.ofNat i)), x5, x6] [.int v1209] _ (ck + c1209) (sk + s1209) _
  refine ls_istore (i := 5) (p := 1214) (by decide +kernel) (Nat.le_of_ble_eq_true rfl) ?_
  refine ls_aload (i := 2) (p := 1215) (by decide +kernel) rfl ?_
  refine ls_arg (j := 1) (by decide +kernel) (by omega) hn ?_
  refine lt_callv (T := et_TT) (t := 13) (mi := 275) (na := 1) (ci := 11) (lk := 7) (lm := 6) (L0 := eg_en (eg_mL 275) [.ref am, .int (f (i + 1))]) (by decide +kernel) rfl hH k_am rfl rfl rfl rfl rfl (by rw [show eg_mL 275 = 6 from by decide +kernel]; first | done | rfl) ?_
  have hHo := hH
  refine (er_p275_ok (K1209, [], G1209) [.ref am, .int (f (i + 1))] _ hH (by omega) rfl (ht_ac (.inr ⟨by decide, _, rfl, k_am⟩) (ht_ac hi_any ht_an))).mono (fun u hu => ls_cbv hu (fun v1221 K1221 G1221 c1221 s1221 x1221 f1221 hH hv1221 cl1221 sl1221 => ?_))
  have hcq := hcq.fr x1221 hHo f1221 (by decide +kernel)
  have hky := hky.fr hHo k_am hrm.1.1 f1221 (by decide +kernel)
  have hzy := hzy.fr k_th hrc.1.1 hrc.1.2.1 x1221 f1221 (by decide +kernel)
  have hty := hty.fr x1221 hHo f1221 (by decide +kernel)
  have hcy := hcy.fr x1221 f1221 (by decide +kernel)
  have hry := hry.fr hHo x1221 f1221 (by decide +kernel)
  have hci := hci.fr x1221 f1221 (by decide +kernel)
  have h3 := (f1221.2 th 12 k_th 3 rfl).trans h3
  have hl := (f1221.2 rd 7 k_rd 1 rfl).trans hl
  have hm := (f1221.2 am 13 k_am 5 rfl).trans hm
  have hp := (f1221.2 th 12 k_th 2 rfl).trans hp
  have hg := (f1221.2 am 13 k_am 3 rfl).trans hg
  have htC := htC.fr k_rd x1221 f1221 (by decide +kernel)
  have htM := htM.fr k_am x1221 f1221 (by decide +kernel)
  have hrc := hrc.fr k_th x1221 f1221 (by decide +kernel)
  have hrm := hrm.fr k_am x1221 f1221 (by decide +kernel)
  have k_th := x1221 _ _ k_th
  have k_am := x1221 _ _ k_am
  have k_out := x1221 _ _ k_out
  have k_rd := x1221 _ _ k_rd
  obtain ⟨v1221, rfl, -⟩ := hv1221
  show et_go _ _ 1000 1224 [some (.ref 150), some (.ref th), some (.ref am), some (.ref out), some (.int (Int32.ofNat i)), some (.int v1209), x6] [.int v1221] _ ((ck + c1209) + c1221) ((sk + s1209) + s1221) _
  refine ls_istore (i := 6) (p := 1226) (by decide +kernel) (Nat.le_of_ble_eq_true rfl) ?_
  refine ls_goto (p := 1663) (by decide +kernel) ?_
  exact hN _ _ c h _ _ _ _ _ _ ⟨⟨hH, hci, k_th, k_am, k_out, h3, k_rd, hl, hm, hc⟩, ⟨hh1, hp, hg⟩, hrc, hrm, hbc, hbi, ⟨hry, hcy, hty, hzy, hky, hcq.le (by first | exact Nat.le_refl _ | exact Nat.le_succ _) (by first | exact Nat.le_refl _ | exact Nat.le_succ _)⟩, _, htC, htM, htb⟩ (by omega) (by omega)
set_option maxHeartbeats 2000000 in
theorem lw_c26 (hI : lw_I K G th am out rd s0 s1 aw ai tp ba na tm c h cn im) (hi : i + 6 ≤ n) (hn : n ≤ 3072) (hN : ∀ (K' : et_K) (G' : eg_G) (c' h' : Nat) (cn' im' : Nat → Nat) (ck' sk' : Nat) (y5 y6 : Option Value), lw_I K' G' th am out rd s0 s1 aw ai tp ba na tm c' h' cn' im' → ck' ≤ ck + 841 → sk' ≤ sk + 7168 → et_go (some (n, f)) (d + 41) 1000 1663 [some (.ref 150), some (.ref th), some (.ref am), some (.ref out), some (.int (Int32.ofNat i)), y5, y6] [] G' ck' sk' Z) : et_go (some (n, f)) (d + 41) 1000 1229 [some (.ref 150), some (.ref th), some (.ref am), some (.ref out), some (.int (Int32.ofNat i)), x5, x6] [] G ck sk Z := by
  obtain ⟨⟨hH, hci, k_th, k_am, k_out, h3, k_rd, hl, hm, hc⟩, ⟨hh1, hp, hg⟩, hrc, hrm, hbc, hbi, ⟨hry, hcy, hty, hzy, hky, hcq⟩, tb, htC, htM, htb⟩ := hI
  refine ls_aload (i := 1) (p := 1230) (by decide +kernel) rfl ?_
  refine ls_arg (j := 1) (by decide +kernel) (by omega) hn ?_
  refine ls_aload (i := 3) (p := 1237) (by decide +kernel) rfl ?_
  refine ls_calls (mi := 22) (na := 3) (lk := 7) (lm := 4) (L0 := eg_en (eg_mL 22) [.ref th, .int (f (i + 1)), .ref out]) (by decide +kernel) rfl rfl rfl rfl rfl rfl (by rw [show eg_mL 22 = 4 from by decide +kernel]; first | done | rfl) ?_
  have hHo := hH
  obtain ⟨la0, ya0, la1, ya1, X_, X2_, Y_, Y2_, tk_, bk_, ⟨hcc_, hcr_⟩, hcd_, hcs_⟩ := hcy
  refine ((hh_c22 (K, [], G) [.ref th, .int (f (i + 1)), .ref out] _ hH (by omega) rfl (ht_ac (.inr ⟨by decide, _, rfl, k_th⟩) (ht_ac hi_any (ht_ac (.inr ⟨by decide, _, rfl, k_out⟩) ht_an)))).and (fh_along hH k_th hrc.2.1.1 hrc.1.1 tk_.2.1.1 tk_.2.1.2.1 (hrc.2.2 (2, 3) (by decide)).1 hcc_.1.1 hcc_.1.2 bk_.1 hcc_.2 k_out (by omega))).mono (fun u hu => ls_cbvQ (Q := fun u => (¬ (0 ≤ (f (i + 1)).toInt ∧ (f (i + 1)).toInt < 16) ∧ u.1 = .inl (some (.int (Int32.ofNat 1)))) ∨ ∃ v, (f (i + 1)) = Int32.ofNat v ∧ v < 16 ∧ u.1 = .inl (some (.int (Int32.ofNat 0))) ∧ et_pl (eg_at u.2.1 out) 0 = some (.long (Int32.ofNat (alN X_ Y_ v (cn 3))).toInt64)) hu (fun v1237 K1237 G1237 c1237 s1237 x1237 f1237 hH hv1237 cl1237 sl1237 hQ => ?_))
  have hcc_ := hcc_.fr tk_.1.1 tk_.2.1.1 tk_.2.1.2.1 f1237 (by decide +kernel)
  have hcr_ := hcr_.fr bk_.1 tk_.2.2.1.1 f1237 (by decide +kernel)
  have hcd_ := hcd_.fr tk_.1.2 tk_.2.1.2.2.1 tk_.2.1.2.2.2 f1237 (by decide +kernel)
  have hcs_ := hcs_.fr bk_.2 tk_.2.2.1.2 f1237 (by decide +kernel)
  have hcy : cy K1237 G1237 s0 s1 aw ai (cn 3) (im 3) := ⟨la0, ya0, la1, ya1, X_, X2_, Y_, Y2_, tk_.ex x1237, bk_, ⟨hcc_, hcr_⟩, hcd_, hcs_⟩
  have hcq := hcq.fr x1237 hHo f1237 (by decide +kernel)
  have hky := hky.fr hHo k_am hrm.1.1 f1237 (by decide +kernel)
  have hzy := hzy.fr k_th hrc.1.1 hrc.1.2.1 x1237 f1237 (by decide +kernel)
  have hty := hty.fr x1237 hHo f1237 (by decide +kernel)
  have hry := hry.fr hHo x1237 f1237 (by decide +kernel)
  have hci := hci.fr x1237 f1237 (by decide +kernel)
  have h3 := (f1237.2 th 12 k_th 3 rfl).trans h3
  have hl := (f1237.2 rd 7 k_rd 1 rfl).trans hl
  have hm := (f1237.2 am 13 k_am 5 rfl).trans hm
  have hp := (f1237.2 th 12 k_th 2 rfl).trans hp
  have hg := (f1237.2 am 13 k_am 3 rfl).trans hg
  have htC := htC.fr k_rd x1237 f1237 (by decide +kernel)
  have htM := htM.fr k_am x1237 f1237 (by decide +kernel)
  have hrc := hrc.fr k_th x1237 f1237 (by decide +kernel)
  have hrm := hrm.fr k_am x1237 f1237 (by decide +kernel)
  have k_th := x1237 _ _ k_th
  have k_am := x1237 _ _ k_am
  have k_out := x1237 _ _ k_out
  have k_rd := x1237 _ _ k_rd
  rcases hQ with ⟨cx, ev⟩ | ⟨v0, cv0, hv0, ev, ho⟩
  · cases ev
    show et_go _ _ 1000 1240 [some (.ref 150), some (.ref th), some (.ref am), some (.ref out), some (.int (Int32.ofNat i)), x5, x6] [.int (Int32.ofNat 1)] _ (ck + c1237) (sk + s1237) _
    refine ls_istore (i := 5) (p := 1242) (by decide +kernel) (Nat.le_of_ble_eq_true rfl) ?_
    refine ls_aload (i := 2) (p := 1243) (by decide +kernel) rfl ?_
    refine ls_arg (j := 1) (by decide +kernel) (by omega) hn ?_
    refine lt_callv (T := et_TT) (t := 13) (mi := 276) (na := 1) (ci := 11) (lk := 7) (lm := 2) (L0 := eg_en (eg_mL 276) [.ref am, .int (f (i + 1))]) (by decide +kernel) rfl hH k_am rfl rfl rfl rfl rfl (by rw [show eg_mL 276 = 2 from by decide +kernel]; first | done | rfl) ?_
    have hHo := hH
    refine ((er_p276_ok (K1237, [], G1237) [.ref am, .int (f (i + 1))] _ hH (by omega) rfl (ht_ac (.inr ⟨by decide, _, rfl, k_am⟩) (ht_ac hi_any ht_an))).and (fm_along hH k_am hrm.1.1 hrm.2.1.1 (hrm.2.2 (2, 3) (by decide)).1 bk_.1 hcr_ (by omega))).mono (fun u hu => ls_cbvQ (Q := fun u => (¬ (0 ≤ (f (i + 1)).toInt ∧ (f (i + 1)).toInt < 16) ∧ u.1 = .inl (some (.int (Int32.ofNat 0))) ∧ et_pl (eg_at u.2.1 am) 0 = some (.int (Int32.ofNat 1))) ∨ ∃ v, (f (i + 1)) = Int32.ofNat v ∧ v < 16 ∧ u.1 = .inl (some (.int (Int32.ofNat (alN X_ Y_ v (cn 3))))) ∧ et_pl (eg_at u.2.1 am) 0 = some (.int (Int32.ofNat 0))) hu (fun v1249 K1249 G1249 c1249 s1249 x1249 f1249 hH hv1249 cl1249 sl1249 hQ => ?_))
    have hcq := hcq.fr x1249 hHo f1249 (by decide +kernel)
    have hky := hky.fr hHo k_am hrm.1.1 f1249 (by decide +kernel)
    have hzy := hzy.fr k_th hrc.1.1 hrc.1.2.1 x1249 f1249 (by decide +kernel)
    have hty := hty.fr x1249 hHo f1249 (by decide +kernel)
    have hcy := hcy.fr x1249 f1249 (by decide +kernel)
    have hry := hry.fr hHo x1249 f1249 (by decide +kernel)
    have hci := hci.fr x1249 f1249 (by decide +kernel)
    have h3 := (f1249.2 th 12 k_th 3 rfl).trans h3
    have hl := (f1249.2 rd 7 k_rd 1 rfl).trans hl
    have hm := (f1249.2 am 13 k_am 5 rfl).trans hm
    have hp := (f1249.2 th 12 k_th 2 rfl).trans hp
    have hg := (f1249.2 am 13 k_am 3 rfl).trans hg
    have htC := htC.fr k_rd x1249 f1249 (by decide +kernel)
    have htM := htM.fr k_am x1249 f1249 (by decide +kernel)
    have hrc := hrc.fr k_th x1249 f1249 (by decide +kernel)
    have hrm := hrm.fr k_am x1249 f1249 (by decide +kernel)
    have k_th := x1249 _ _ k_th
    have k_am := x1249 _ _ k_am
    have k_out := x1249 _ _ k_out
    have k_rd := x1249 _ _ k_rd
    rcases hQ with ⟨cx2, ev2, ht⟩ | ⟨v1, cv1, hv1, ev2, ht⟩
    · cases ev2
      show et_go _ _ 1000 1252 [some (.ref 150), some (.ref th), some (.ref am), some (.ref out), some (.int (Int32.ofNat i)), some (.int (Int32.ofNat 1)), x6] [.int (Int32.ofNat 0)] _ ((ck + c1237) + c1249) ((sk + s1237) + s1249) _
      refine ls_istore (i := 6) (p := 1254) (by decide +kernel) (Nat.le_of_ble_eq_true rfl) ?_
      refine ls_goto (p := 1663) (by decide +kernel) ?_
      exact hN _ _ c h _ _ _ _ _ _ ⟨⟨hH, hci, k_th, k_am, k_out, h3, k_rd, hl, hm, hc⟩, ⟨hh1, hp, hg⟩, hrc, hrm, hbc, hbi, ⟨hry, hcy, hty, hzy, hky, hcq.le (by first | exact Nat.le_refl _ | exact Nat.le_succ _) (by first | exact Nat.le_refl _ | exact Nat.le_succ _)⟩, _, htC, htM, htb⟩ (by omega) (by omega)
    · exact absurd (by rw [cv1, hs_nint (by omega)]; omega) cx
  · cases ev
    show et_go _ _ 1000 1240 [some (.ref 150), some (.ref th), some (.ref am), some (.ref out), some (.int (Int32.ofNat i)), x5, x6] [.int (Int32.ofNat 0)] _ (ck + c1237) (sk + s1237) _
    refine ls_istore (i := 5) (p := 1242) (by decide +kernel) (Nat.le_of_ble_eq_true rfl) ?_
    refine ls_aload (i := 2) (p := 1243) (by decide +kernel) rfl ?_
    refine ls_arg (j := 1) (by decide +kernel) (by omega) hn ?_
    refine lt_callv (T := et_TT) (t := 13) (mi := 276) (na := 1) (ci := 11) (lk := 7) (lm := 2) (L0 := eg_en (eg_mL 276) [.ref am, .int (f (i + 1))]) (by decide +kernel) rfl hH k_am rfl rfl rfl rfl rfl (by rw [show eg_mL 276 = 2 from by decide +kernel]; first | done | rfl) ?_
    have hHo := hH
    refine ((er_p276_ok (K1237, [], G1237) [.ref am, .int (f (i + 1))] _ hH (by omega) rfl (ht_ac (.inr ⟨by decide, _, rfl, k_am⟩) (ht_ac hi_any ht_an))).and (fm_along hH k_am hrm.1.1 hrm.2.1.1 (hrm.2.2 (2, 3) (by decide)).1 bk_.1 hcr_ (by omega))).mono (fun u hu => ls_cbvQ (Q := fun u => (¬ (0 ≤ (f (i + 1)).toInt ∧ (f (i + 1)).toInt < 16) ∧ u.1 = .inl (some (.int (Int32.ofNat 0))) ∧ et_pl (eg_at u.2.1 am) 0 = some (.int (Int32.ofNat 1))) ∨ ∃ v, (f (i + 1)) = Int32.ofNat v ∧ v < 16 ∧ u.1 = .inl (some (.int (Int32.ofNat (alN X_ Y_ v (cn 3))))) ∧ et_pl (eg_at u.2.1 am) 0 = some (.int (Int32.ofNat 0))) hu (fun v1249 K1249 G1249 c1249 s1249 x1249 f1249 hH hv1249 cl1249 sl1249 hQ => ?_))
    have hcq := hcq.fr x1249 hHo f1249 (by decide +kernel)
    have hky := hky.fr hHo k_am hrm.1.1 f1249 (by decide +kernel)
    have hzy := hzy.fr k_th hrc.1.1 hrc.1.2.1 x1249 f1249 (by decide +kernel)
    have hty := hty.fr x1249 hHo f1249 (by decide +kernel)
    have hcy := hcy.fr x1249 f1249 (by decide +kernel)
    have hry := hry.fr hHo x1249 f1249 (by decide +kernel)
    have hci := hci.fr x1249 f1249 (by decide +kernel)
    have h3 := (f1249.2 th 12 k_th 3 rfl).trans h3
    have hl := (f1249.2 rd 7 k_rd 1 rfl).trans hl
    have hm := (f1249.2 am 13 k_am 5 rfl).trans hm
    have hp := (f1249.2 th 12 k_th 2 rfl).trans hp
    have hg := (f1249.2 am 13 k_am 3 rfl).trans hg
    have htC := htC.fr k_rd x1249 f1249 (by decide +kernel)
    have htM := htM.fr k_am x1249 f1249 (by decide +kernel)
    have hrc := hrc.fr k_th x1249 f1249 (by decide +kernel)
    have hrm := hrm.fr k_am x1249 f1249 (by decide +kernel)
    have ho := (f1249.2 out 31 k_out 0 rfl).trans ho
    have k_th := x1249 _ _ k_th
    have k_am := x1249 _ _ k_am
    have k_out := x1249 _ _ k_out
    have k_rd := x1249 _ _ k_rd
    rcases hQ with ⟨cx2, ev2, ht⟩ | ⟨v1, cv1, hv1, ev2, ht⟩
    · exact absurd (by rw [cv0, hs_nint (by omega)]; omega) cx2
    · cases ev2
      obtain rfl : v0 = v1 := (hs_neq (by omega) (by omega)).mp (cv0.symm.trans cv1)
      show et_go _ _ 1000 1252 [some (.ref 150), some (.ref th), some (.ref am), some (.ref out), some (.int (Int32.ofNat i)), some (.int (Int32.ofNat 0)), x6] [.int (Int32.ofNat (alN X_ Y_ v0 (cn 3)))] _ ((ck + c1237) + c1249) ((sk + s1237) + s1249) _
      refine ls_istore (i := 6) (p := 1254) (by decide +kernel) (Nat.le_of_ble_eq_true rfl) ?_
      refine ls_goto (p := 1663) (by decide +kernel) ?_
      exact hN _ _ c h _ _ _ _ _ _ ⟨⟨hH, hci, k_th, k_am, k_out, h3, k_rd, hl, hm, hc⟩, ⟨hh1, hp, hg⟩, hrc, hrm, hbc, hbi, ⟨hry, hcy, hty, hzy, hky, hcq.le (by first | exact Nat.le_refl _ | exact Nat.le_succ _) (by first | exact Nat.le_refl _ | exact Nat.le_succ _)⟩, _, htC, htM, htb⟩ (by omega) (by omega)
set_option maxHeartbeats 2000000 in
theorem lw_c27 (hI : lw_I K G th am out rd s0 s1 aw ai tp ba na tm c h cn im) (hi : i + 6 ≤ n) (hn : n ≤ 3072) (hN : ∀ (K' : et_K) (G' : eg_G) (c' h' : Nat) (cn' im' : Nat → Nat) (ck' sk' : Nat) (y5 y6 : Option Value), lw_I K' G' th am out rd s0 s1 aw ai tp ba na tm c' h' cn' im' → ck' ≤ ck + 841 → sk' ≤ sk + 7168 → et_go (some (n, f)) (d + 41) 1000 1663 [some (.ref 150), some (.ref th), some (.ref am), some (.ref out), some (.int (Int32.ofNat i)), y5, y6] [] G' ck' sk' Z) : et_go (some (n, f)) (d + 41) 1000 1257 [some (.ref 150), some (.ref th), some (.ref am), some (.ref out), some (.int (Int32.ofNat i)), x5, x6] [] G ck sk Z := by
  obtain ⟨⟨hH, hci, k_th, k_am, k_out, h3, k_rd, hl, hm, hc⟩, ⟨hh1, hp, hg⟩, hrc, hrm, hbc, hbi, ⟨hry, hcy, hty, hzy, hky, hcq⟩, tb, htC, htM, htb⟩ := hI
  refine ls_aload (i := 1) (p := 1258) (by decide +kernel) rfl ?_
  refine lt_callv (T := et_TT) (t := 12) (mi := 121) (na := 0) (ci := 10) (lk := 7) (lm := 3) (L0 := eg_en (eg_mL 121) [.ref th]) (by decide +kernel) rfl hH k_th rfl rfl rfl rfl rfl (by rw [show eg_mL 121 = 3 from by decide +kernel]; first | done | rfl) ?_
  have hHo := hH
  obtain ⟨la0, ya0, la1, ya1, X_, X2_, Y_, Y2_, tk_, bk_, ⟨hcc_, hcr_⟩, hcd_, hcs_⟩ := hcy
  refine ((ek_p121_ok (K, [], G) [.ref th] _ hH (by omega) rfl (ht_ac (.inr ⟨by decide, _, rfl, k_th⟩) ht_an)).and ((fc_cloud hH k_th hrc.2.1.1 hrc.1.1 tk_.2.1.1 tk_.2.1.2.1 (hrc.2.2 (2, 3) (by decide)).1 hcc_.1.1 hcc_.1.2 bk_.1 hcc_.2 (by omega)).mono (fun u (hu : u = _) => (by rw [hu] : u.1 = .inl (some (if cn 3 = 0 then Value.int (-1) else .int (Int32.ofNat (clB (fun v => alN X_ Y_ v (cn 3)) 16)))))))).mono (fun u hu => ls_cbvQ (Q := fun u => u.1 = .inl (some (if cn 3 = 0 then Value.int (-1) else .int (Int32.ofNat (clB (fun v => alN X_ Y_ v (cn 3)) 16))))) hu (fun v1258 K1258 G1258 c1258 s1258 x1258 f1258 hH hv1258 cl1258 sl1258 hQ => ?_))
  have hcc_ := hcc_.fr tk_.1.1 tk_.2.1.1 tk_.2.1.2.1 f1258 (by decide +kernel)
  have hcr_ := hcr_.fr bk_.1 tk_.2.2.1.1 f1258 (by decide +kernel)
  have hcd_ := hcd_.fr tk_.1.2 tk_.2.1.2.2.1 tk_.2.1.2.2.2 f1258 (by decide +kernel)
  have hcs_ := hcs_.fr bk_.2 tk_.2.2.1.2 f1258 (by decide +kernel)
  have hcy : cy K1258 G1258 s0 s1 aw ai (cn 3) (im 3) := ⟨la0, ya0, la1, ya1, X_, X2_, Y_, Y2_, tk_.ex x1258, bk_, ⟨hcc_, hcr_⟩, hcd_, hcs_⟩
  have hcq := hcq.fr x1258 hHo f1258 (by decide +kernel)
  have hky := hky.fr hHo k_am hrm.1.1 f1258 (by decide +kernel)
  have hzy := hzy.fr k_th hrc.1.1 hrc.1.2.1 x1258 f1258 (by decide +kernel)
  have hty := hty.fr x1258 hHo f1258 (by decide +kernel)
  have hry := hry.fr hHo x1258 f1258 (by decide +kernel)
  have hci := hci.fr x1258 f1258 (by decide +kernel)
  have h3 := (f1258.2 th 12 k_th 3 rfl).trans h3
  have hl := (f1258.2 rd 7 k_rd 1 rfl).trans hl
  have hm := (f1258.2 am 13 k_am 5 rfl).trans hm
  have hp := (f1258.2 th 12 k_th 2 rfl).trans hp
  have hg := (f1258.2 am 13 k_am 3 rfl).trans hg
  have htC := htC.fr k_rd x1258 f1258 (by decide +kernel)
  have htM := htM.fr k_am x1258 f1258 (by decide +kernel)
  have hrc := hrc.fr k_th x1258 f1258 (by decide +kernel)
  have hrm := hrm.fr k_am x1258 f1258 (by decide +kernel)
  have k_th := x1258 _ _ k_th
  have k_am := x1258 _ _ k_am
  have k_out := x1258 _ _ k_out
  have k_rd := x1258 _ _ k_rd
  have hQ : (Sum.inl (some v1258) : eg_R) = .inl (some (if cn 3 = 0 then Value.int (-1) else .int (Int32.ofNat (clB (fun v => alN X_ Y_ v (cn 3)) 16)))) := hQ
  by_cases hn0 : cn 3 = 0
  · rw [if_pos hn0] at hQ
    cases hQ
    show et_go _ _ 1000 1261 [some (.ref 150), some (.ref th), some (.ref am), some (.ref out), some (.int (Int32.ofNat i)), x5, x6] [.int (-1)] _ (ck + c1258) (sk + s1258) _
    refine ls_pop (p := 1262) (by decide +kernel) ?_
    refine ls_aload (i := 2) (p := 1263) (by decide +kernel) rfl ?_
    refine lt_callv (T := et_TT) (t := 13) (mi := 278) (na := 0) (ci := 11) (lk := 7) (lm := 3) (L0 := eg_en (eg_mL 278) [.ref am]) (by decide +kernel) rfl hH k_am rfl rfl rfl rfl rfl (by rw [show eg_mL 278 = 3 from by decide +kernel]; first | done | rfl) ?_
    have hHo := hH
    refine ((er_p278_ok (K1258, [], G1258) [.ref am] _ hH (by omega) rfl (ht_ac (.inr ⟨by decide, _, rfl, k_am⟩) ht_an)).and (fm_cloud hH k_am hrm.1.1 hrm.2.1.1 (hrm.2.2 (2, 3) (by decide)).1 bk_.1 hcr_ (by omega))).mono (fun u hu => ls_cbvQ (Q := fun u => u.1 = .inl (some (if cn 3 = 0 then Value.int (-1) else .int (Int32.ofNat (clB (fun v => alN X_ Y_ v (cn 3)) 16)))) ∧ et_pl (eg_at u.2.1 am) 0 = some (.int (Int32.ofNat 0))) hu (fun v1263 K1263 G1263 c1263 s1263 x1263 f1263 hH hv1263 cl1263 sl1263 hQ => ?_))
    have hcq := hcq.fr x1263 hHo f1263 (by decide +kernel)
    have hky := hky.fr hHo k_am hrm.1.1 f1263 (by decide +kernel)
    have hzy := hzy.fr k_th hrc.1.1 hrc.1.2.1 x1263 f1263 (by decide +kernel)
    have hty := hty.fr x1263 hHo f1263 (by decide +kernel)
    have hcy := hcy.fr x1263 f1263 (by decide +kernel)
    have hry := hry.fr hHo x1263 f1263 (by decide +kernel)
    have hci := hci.fr x1263 f1263 (by decide +kernel)
    have h3 := (f1263.2 th 12 k_th 3 rfl).trans h3
    have hl := (f1263.2 rd 7 k_rd 1 rfl).trans hl
    have hm := (f1263.2 am 13 k_am 5 rfl).trans hm
    have hp := (f1263.2 th 12 k_th 2 rfl).trans hp
    have hg := (f1263.2 am 13 k_am 3 rfl).trans hg
    have htC := htC.fr k_rd x1263 f1263 (by decide +kernel)
    have htM := htM.fr k_am x1263 f1263 (by decide +kernel)
    have hrc := hrc.fr k_th x1263 f1263 (by decide +kernel)
    have hrm := hrm.fr k_am x1263 f1263 (by decide +kernel)
    have k_th := x1263 _ _ k_th
    have k_am := x1263 _ _ k_am
    have k_out := x1263 _ _ k_out
    have k_rd := x1263 _ _ k_rd
    obtain ⟨ev2, ht⟩ := hQ
    have ev2 : (Sum.inl (some v1263) : eg_R) = .inl (some (if cn 3 = 0 then Value.int (-1) else .int (Int32.ofNat (clB (fun v => alN X_ Y_ v (cn 3)) 16)))) := ev2
    rw [if_pos hn0] at ev2
    cases ev2
    show et_go _ _ 1000 1266 [some (.ref 150), some (.ref th), some (.ref am), some (.ref out), some (.int (Int32.ofNat i)), x5, x6] [.int (-1)] _ ((ck + c1258) + c1263) ((sk + s1258) + s1263) _
    refine ls_pop (p := 1267) (by decide +kernel) ?_
    refine ls_goto (p := 1663) (by decide +kernel) ?_
    exact hN _ _ c h _ _ _ _ _ _ ⟨⟨hH, hci, k_th, k_am, k_out, h3, k_rd, hl, hm, hc⟩, ⟨hh1, hp, hg⟩, hrc, hrm, hbc, hbi, ⟨hry, hcy, hty, hzy, hky, hcq.le (by first | exact Nat.le_refl _ | exact Nat.le_succ _) (by first | exact Nat.le_refl _ | exact Nat.le_succ _)⟩, _, htC, htM, htb⟩ (by omega) (by omega)
  · rw [if_neg hn0] at hQ
    cases hQ
    show et_go _ _ 1000 1261 [some (.ref 150), some (.ref th), some (.ref am), some (.ref out), some (.int (Int32.ofNat i)), x5, x6] [.int (Int32.ofNat (clB (fun v => alN X_ Y_ v (cn 3)) 16))] _ (ck + c1258) (sk + s1258) _
    refine ls_pop (p := 1262) (by decide +kernel) ?_
    refine ls_aload (i := 2) (p := 1263) (by decide +kernel) rfl ?_
    refine lt_callv (T := et_TT) (t := 13) (mi := 278) (na := 0) (ci := 11) (lk := 7) (lm := 3) (L0 := eg_en (eg_mL 278) [.ref am]) (by decide +kernel) rfl hH k_am rfl rfl rfl rfl rfl (by rw [show eg_mL 278 = 3 from by decide +kernel]; first | done | rfl) ?_
    have hHo := hH
    refine ((er_p278_ok (K1258, [], G1258) [.ref am] _ hH (by omega) rfl (ht_ac (.inr ⟨by decide, _, rfl, k_am⟩) ht_an)).and (fm_cloud hH k_am hrm.1.1 hrm.2.1.1 (hrm.2.2 (2, 3) (by decide)).1 bk_.1 hcr_ (by omega))).mono (fun u hu => ls_cbvQ (Q := fun u => u.1 = .inl (some (if cn 3 = 0 then Value.int (-1) else .int (Int32.ofNat (clB (fun v => alN X_ Y_ v (cn 3)) 16)))) ∧ et_pl (eg_at u.2.1 am) 0 = some (.int (Int32.ofNat 0))) hu (fun v1263 K1263 G1263 c1263 s1263 x1263 f1263 hH hv1263 cl1263 sl1263 hQ => ?_))
    have hcq := hcq.fr x1263 hHo f1263 (by decide +kernel)
    have hky := hky.fr hHo k_am hrm.1.1 f1263 (by decide +kernel)
    have hzy := hzy.fr k_th hrc.1.1 hrc.1.2.1 x1263 f1263 (by decide +kernel)
    have hty := hty.fr x1263 hHo f1263 (by decide +kernel)
    have hcy := hcy.fr x1263 f1263 (by decide +kernel)
    have hry := hry.fr hHo x1263 f1263 (by decide +kernel)
    have hci := hci.fr x1263 f1263 (by decide +kernel)
    have h3 := (f1263.2 th 12 k_th 3 rfl).trans h3
    have hl := (f1263.2 rd 7 k_rd 1 rfl).trans hl
    have hm := (f1263.2 am 13 k_am 5 rfl).trans hm
    have hp := (f1263.2 th 12 k_th 2 rfl).trans hp
    have hg := (f1263.2 am 13 k_am 3 rfl).trans hg
    have htC := htC.fr k_rd x1263 f1263 (by decide +kernel)
    have htM := htM.fr k_am x1263 f1263 (by decide +kernel)
    have hrc := hrc.fr k_th x1263 f1263 (by decide +kernel)
    have hrm := hrm.fr k_am x1263 f1263 (by decide +kernel)
    have k_th := x1263 _ _ k_th
    have k_am := x1263 _ _ k_am
    have k_out := x1263 _ _ k_out
    have k_rd := x1263 _ _ k_rd
    obtain ⟨ev2, ht⟩ := hQ
    have ev2 : (Sum.inl (some v1263) : eg_R) = .inl (some (if cn 3 = 0 then Value.int (-1) else .int (Int32.ofNat (clB (fun v => alN X_ Y_ v (cn 3)) 16)))) := ev2
    rw [if_neg hn0] at ev2
    cases ev2
    show et_go _ _ 1000 1266 [some (.ref 150), some (.ref th), some (.ref am), some (.ref out), some (.int (Int32.ofNat i)), x5, x6] [.int (Int32.ofNat (clB (fun v => alN X_ Y_ v (cn 3)) 16))] _ ((ck + c1258) + c1263) ((sk + s1258) + s1263) _
    refine ls_pop (p := 1267) (by decide +kernel) ?_
    refine ls_goto (p := 1663) (by decide +kernel) ?_
    exact hN _ _ c h _ _ _ _ _ _ ⟨⟨hH, hci, k_th, k_am, k_out, h3, k_rd, hl, hm, hc⟩, ⟨hh1, hp, hg⟩, hrc, hrm, hbc, hbi, ⟨hry, hcy, hty, hzy, hky, hcq.le (by first | exact Nat.le_refl _ | exact Nat.le_succ _) (by first | exact Nat.le_refl _ | exact Nat.le_succ _)⟩, _, htC, htM, htb⟩ (by omega) (by omega)
set_option maxHeartbeats 2000000 in
theorem lw_c28 (hI : lw_I K G th am out rd s0 s1 aw ai tp ba na tm c h cn im) (hi : i + 6 ≤ n) (hn : n ≤ 3072) (hN : ∀ (K' : et_K) (G' : eg_G) (c' h' : Nat) (cn' im' : Nat → Nat) (ck' sk' : Nat) (y5 y6 : Option Value), lw_I K' G' th am out rd s0 s1 aw ai tp ba na tm c' h' cn' im' → ck' ≤ ck + 841 → sk' ≤ sk + 7168 → et_go (some (n, f)) (d + 41) 1000 1663 [some (.ref 150), some (.ref th), some (.ref am), some (.ref out), some (.int (Int32.ofNat i)), y5, y6] [] G' ck' sk' Z) : et_go (some (n, f)) (d + 41) 1000 1270 [some (.ref 150), some (.ref th), some (.ref am), some (.ref out), some (.int (Int32.ofNat i)), x5, x6] [] G ck sk Z := by
  obtain ⟨⟨hH, hci, k_th, k_am, k_out, h3, k_rd, hl, hm, hc⟩, ⟨hh1, hp, hg⟩, hrc, hrm, hbc, hbi, ⟨hry, hcy, hty, hzy, hky, hcq⟩, tb, htC, htM, htb⟩ := hI
  refine ls_aload (i := 1) (p := 1271) (by decide +kernel) rfl ?_
  refine ls_arg (j := 1) (by decide +kernel) (by omega) hn ?_
  refine ls_arg (j := 2) (by decide +kernel) (by omega) hn ?_
  refine ls_aload (i := 3) (p := 1284) (by decide +kernel) rfl ?_
  refine ls_calls (mi := 23) (na := 4) (lk := 7) (lm := 5) (L0 := eg_en (eg_mL 23) [.ref th, .int (f (i + 1)), .int (f (i + 2)), .ref out]) (by decide +kernel) rfl rfl rfl rfl rfl rfl (by rw [show eg_mL 23 = 5 from by decide +kernel]; first | done | rfl) ?_
  have hHo := hH
  have b3 : cn 3 ≤ 20 := Int.ofNat_le.mp (hf_bd (t := 10) hH hrc.1.1 rfl rfl (hrc.2.2 (2, 3) (by decide)).1 (hbc 3))
  obtain ⟨la0, ya0, la1, ya1, X_, X2_, Y_, Y2_, tk_, bk_, ⟨hcc_, hcr_⟩, hcd_, hcs_⟩ := id hcy
  obtain ⟨D_, φ_, R0_, R1_, r0_, r1_, fo_, t_, kk_, hx_, ho_⟩ := hry
  have hR_ := fun (k : Nat) (hk : k < cn 0) => And.intro (ho_.2.1 k hk).1 (ho_.2.1 k hk).2.1
  refine ((hh_c23 (K, [], G) [.ref th, .int (f (i + 1)), .int (f (i + 2)), .ref out] _ hH (by omega) rfl (ht_ac (.inr ⟨by decide, _, rfl, k_th⟩) (ht_ac hi_any (ht_ac hi_any (ht_ac (.inr ⟨by decide, _, rfl, k_out⟩) ht_an))))).and (fz_md (R0 := R0_) t_ hH hx_ hR_ (hrc.2.2 (2, 3) (by decide)).1 b3 hcc_ tk_.2.1.1 tk_.2.1.2.1 k_out (by omega))).mono (fun u hu => ls_cbvQ (Q := fun u => (¬ ((0 ≤ (f (i + 1)).toInt ∧ (f (i + 1)).toInt < 16) ∧ xr (f (i + 2)) (cn 0)) ∧ u.1 = .inl (some (.int (Int32.ofNat 1)))) ∨ ∃ k n, ((f (i + 1)) = Int32.ofNat k ∧ (f (i + 2)) = Int32.ofNat n) ∧ (k < 16 ∧ n < cn 0) ∧ u.1 = .inl (some (.int (Int32.ofNat 0))) ∧ et_pl (eg_at u.2.1 out) 0 = some (.long (mdV X_ Y_ k (cn 3) (φ_ (R0_ n))).toInt64)) hu (fun v1284 K1284 G1284 c1284 s1284 x1284 f1284 hH hv1284 cl1284 sl1284 hQ => ?_))
  have hcr_ := hcr_.fr bk_.1 tk_.2.2.1.1 f1284 (by decide +kernel)
  have hx2_ := hx_.fr t_ hHo f1284 (by decide +kernel)
  have ho2_ := ho_.fr kk_ f1284 (by decide +kernel)
  have hry : ry K1284 G1284 th s0 s1 aw ai (cn 0) (im 0) := ⟨D_, φ_, R0_, R1_, r0_, r1_, fo_, t_.ex x1284, kk_.ex x1284, hx2_, ho2_⟩
  have hT_ := fun (k : Nat) (hk : k < cn 0) => And.intro (ho2_.2.1 k hk).2.2 (t_.1 _ (ho2_.2.1 k hk).1).2
  have hcq := hcq.fr x1284 hHo f1284 (by decide +kernel)
  have hky := hky.fr hHo k_am hrm.1.1 f1284 (by decide +kernel)
  have hzy := hzy.fr k_th hrc.1.1 hrc.1.2.1 x1284 f1284 (by decide +kernel)
  have hty := hty.fr x1284 hHo f1284 (by decide +kernel)
  have hcy := hcy.fr x1284 f1284 (by decide +kernel)
  have hci := hci.fr x1284 f1284 (by decide +kernel)
  have h3 := (f1284.2 th 12 k_th 3 rfl).trans h3
  have hl := (f1284.2 rd 7 k_rd 1 rfl).trans hl
  have hm := (f1284.2 am 13 k_am 5 rfl).trans hm
  have hp := (f1284.2 th 12 k_th 2 rfl).trans hp
  have hg := (f1284.2 am 13 k_am 3 rfl).trans hg
  have htC := htC.fr k_rd x1284 f1284 (by decide +kernel)
  have htM := htM.fr k_am x1284 f1284 (by decide +kernel)
  have hrc := hrc.fr k_th x1284 f1284 (by decide +kernel)
  have hrm := hrm.fr k_am x1284 f1284 (by decide +kernel)
  have k_th := x1284 _ _ k_th
  have k_am := x1284 _ _ k_am
  have k_out := x1284 _ _ k_out
  have k_rd := x1284 _ _ k_rd
  rcases hQ with ⟨cx, ev⟩ | ⟨k0, n0, ⟨ek0, en0⟩, ⟨hk0, hn0⟩, ev, ho⟩
  · cases ev
    show et_go _ _ 1000 1287 [some (.ref 150), some (.ref th), some (.ref am), some (.ref out), some (.int (Int32.ofNat i)), x5, x6] [.int (Int32.ofNat 1)] _ (ck + c1284) (sk + s1284) _
    refine ls_istore (i := 5) (p := 1289) (by decide +kernel) (Nat.le_of_ble_eq_true rfl) ?_
    refine ls_aload (i := 2) (p := 1290) (by decide +kernel) rfl ?_
    refine ls_arg (j := 1) (by decide +kernel) (by omega) hn ?_
    refine ls_arg (j := 2) (by decide +kernel) (by omega) hn ?_
    refine lt_callv (T := et_TT) (t := 13) (mi := 279) (na := 2) (ci := 11) (lk := 7) (lm := 6) (L0 := eg_en (eg_mL 279) [.ref am, .int (f (i + 1)), .int (f (i + 2))]) (by decide +kernel) rfl hH k_am rfl rfl rfl rfl rfl (by rw [show eg_mL 279 = 6 from by decide +kernel]; first | done | rfl) ?_
    have hHo := hH
    have b0 : cn 0 ≤ 4 := Int.ofNat_le.mp (hf_bd (t := 10) hH hrc.1.1 rfl rfl (hrc.2.2 (0, 0) (by decide)).1 (hbc 0))
    have b3 : cn 3 ≤ 20 := Int.ofNat_le.mp (hf_bd (t := 10) hH hrc.1.1 rfl rfl (hrc.2.2 (2, 3) (by decide)).1 (hbc 3))
    refine ((er_p279_ok (K1284, [], G1284) [.ref am, .int (f (i + 1)), .int (f (i + 2))] _ hH (by omega) rfl (ht_ac (.inr ⟨by decide, _, rfl, k_am⟩) (ht_ac hi_any (ht_ac hi_any ht_an)))).and (gz_md (g := fun n => φ_ (R0_ n)) hH k_am hrm.1.1 hrm.2.1.1 (hrm.2.2 (0, 0) (by decide)).1 b0 (hrm.2.2 (2, 3) (by decide)).1 b3 hcr_ hT_ hky (by omega))).mono (fun u hu => ls_cbvQ (Q := fun u => (¬ ((0 ≤ (f (i + 1)).toInt ∧ (f (i + 1)).toInt < 16) ∧ xr (f (i + 2)) (cn 0)) ∧ u.1 = .inl (some (.int (Int32.ofNat 0))) ∧ et_pl (eg_at u.2.1 am) 0 = some (.int (Int32.ofNat 1)) ∧ kyA u.2.1 am aw (cn 0)) ∨ ∃ k n, ((f (i + 1)) = Int32.ofNat k ∧ (f (i + 2)) = Int32.ofNat n) ∧ (k < 16 ∧ n < cn 0) ∧ u.1 = .inl (some (.int (mdV X_ Y_ k (cn 3) (φ_ (R0_ n))))) ∧ et_pl (eg_at u.2.1 am) 0 = some (.int (Int32.ofNat 0)) ∧ kyA u.2.1 am aw (cn 0)) hu (fun v1302 K1302 G1302 c1302 s1302 x1302 f1302 hH hv1302 cl1302 sl1302 hQ => ?_))
    have hcq := hcq.fr x1302 hHo f1302 (by decide +kernel)
    have hzy := hzy.fr k_th hrc.1.1 hrc.1.2.1 x1302 f1302 (by decide +kernel)
    have hty := hty.fr x1302 hHo f1302 (by decide +kernel)
    have hcy := hcy.fr x1302 f1302 (by decide +kernel)
    have hry := hry.fr hHo x1302 f1302 (by decide +kernel)
    have hci := hci.fr x1302 f1302 (by decide +kernel)
    have h3 := (f1302.2 th 12 k_th 3 rfl).trans h3
    have hl := (f1302.2 rd 7 k_rd 1 rfl).trans hl
    have hm := (f1302.2 am 13 k_am 5 rfl).trans hm
    have hp := (f1302.2 th 12 k_th 2 rfl).trans hp
    have hg := (f1302.2 am 13 k_am 3 rfl).trans hg
    have htC := htC.fr k_rd x1302 f1302 (by decide +kernel)
    have htM := htM.fr k_am x1302 f1302 (by decide +kernel)
    have hrc := hrc.fr k_th x1302 f1302 (by decide +kernel)
    have hrm := hrm.fr k_am x1302 f1302 (by decide +kernel)
    have k_th := x1302 _ _ k_th
    have k_am := x1302 _ _ k_am
    have k_out := x1302 _ _ k_out
    have k_rd := x1302 _ _ k_rd
    rcases hQ with ⟨dx, ev2, ht, hky⟩ | ⟨k1, n1, ⟨ek1, en1⟩, ⟨hk1, hn1⟩, ev2, ht, hky⟩
    · cases ev2
      show et_go _ _ 1000 1305 [some (.ref 150), some (.ref th), some (.ref am), some (.ref out), some (.int (Int32.ofNat i)), some (.int (Int32.ofNat 1)), x6] [.int (Int32.ofNat 0)] _ ((ck + c1284) + c1302) ((sk + s1284) + s1302) _
      refine ls_istore (i := 6) (p := 1307) (by decide +kernel) (Nat.le_of_ble_eq_true rfl) ?_
      refine ls_goto (p := 1663) (by decide +kernel) ?_
      exact hN _ _ c h _ _ _ _ _ _ ⟨⟨hH, hci, k_th, k_am, k_out, h3, k_rd, hl, hm, hc⟩, ⟨hh1, hp, hg⟩, hrc, hrm, hbc, hbi, ⟨hry, hcy, hty, hzy, hky, hcq.le (by first | exact Nat.le_refl _ | exact Nat.le_succ _) (by first | exact Nat.le_refl _ | exact Nat.le_succ _)⟩, _, htC, htM, htb⟩ (by omega) (by omega)
    · exact absurd (show _ ∧ _ from ⟨⟨by rw [ek1, hs_nint (by omega)]; omega, by rw [ek1, hs_nint (by omega)]; omega⟩, xr_m en1 hn1 (by omega)⟩) cx
  · cases ev
    show et_go _ _ 1000 1287 [some (.ref 150), some (.ref th), some (.ref am), some (.ref out), some (.int (Int32.ofNat i)), x5, x6] [.int (Int32.ofNat 0)] _ (ck + c1284) (sk + s1284) _
    refine ls_istore (i := 5) (p := 1289) (by decide +kernel) (Nat.le_of_ble_eq_true rfl) ?_
    refine ls_aload (i := 2) (p := 1290) (by decide +kernel) rfl ?_
    refine ls_arg (j := 1) (by decide +kernel) (by omega) hn ?_
    refine ls_arg (j := 2) (by decide +kernel) (by omega) hn ?_
    refine lt_callv (T := et_TT) (t := 13) (mi := 279) (na := 2) (ci := 11) (lk := 7) (lm := 6) (L0 := eg_en (eg_mL 279) [.ref am, .int (f (i + 1)), .int (f (i + 2))]) (by decide +kernel) rfl hH k_am rfl rfl rfl rfl rfl (by rw [show eg_mL 279 = 6 from by decide +kernel]; first | done | rfl) ?_
    have hHo := hH
    have b0 : cn 0 ≤ 4 := Int.ofNat_le.mp (hf_bd (t := 10) hH hrc.1.1 rfl rfl (hrc.2.2 (0, 0) (by decide)).1 (hbc 0))
    have b3 : cn 3 ≤ 20 := Int.ofNat_le.mp (hf_bd (t := 10) hH hrc.1.1 rfl rfl (hrc.2.2 (2, 3) (by decide)).1 (hbc 3))
    refine ((er_p279_ok (K1284, [], G1284) [.ref am, .int (f (i + 1)), .int (f (i + 2))] _ hH (by omega) rfl (ht_ac (.inr ⟨by decide, _, rfl, k_am⟩) (ht_ac hi_any (ht_ac hi_any ht_an)))).and (gz_md (g := fun n => φ_ (R0_ n)) hH k_am hrm.1.1 hrm.2.1.1 (hrm.2.2 (0, 0) (by decide)).1 b0 (hrm.2.2 (2, 3) (by decide)).1 b3 hcr_ hT_ hky (by omega))).mono (fun u hu => ls_cbvQ (Q := fun u => (¬ ((0 ≤ (f (i + 1)).toInt ∧ (f (i + 1)).toInt < 16) ∧ xr (f (i + 2)) (cn 0)) ∧ u.1 = .inl (some (.int (Int32.ofNat 0))) ∧ et_pl (eg_at u.2.1 am) 0 = some (.int (Int32.ofNat 1)) ∧ kyA u.2.1 am aw (cn 0)) ∨ ∃ k n, ((f (i + 1)) = Int32.ofNat k ∧ (f (i + 2)) = Int32.ofNat n) ∧ (k < 16 ∧ n < cn 0) ∧ u.1 = .inl (some (.int (mdV X_ Y_ k (cn 3) (φ_ (R0_ n))))) ∧ et_pl (eg_at u.2.1 am) 0 = some (.int (Int32.ofNat 0)) ∧ kyA u.2.1 am aw (cn 0)) hu (fun v1302 K1302 G1302 c1302 s1302 x1302 f1302 hH hv1302 cl1302 sl1302 hQ => ?_))
    have hcq := hcq.fr x1302 hHo f1302 (by decide +kernel)
    have hzy := hzy.fr k_th hrc.1.1 hrc.1.2.1 x1302 f1302 (by decide +kernel)
    have hty := hty.fr x1302 hHo f1302 (by decide +kernel)
    have hcy := hcy.fr x1302 f1302 (by decide +kernel)
    have hry := hry.fr hHo x1302 f1302 (by decide +kernel)
    have hci := hci.fr x1302 f1302 (by decide +kernel)
    have h3 := (f1302.2 th 12 k_th 3 rfl).trans h3
    have hl := (f1302.2 rd 7 k_rd 1 rfl).trans hl
    have hm := (f1302.2 am 13 k_am 5 rfl).trans hm
    have hp := (f1302.2 th 12 k_th 2 rfl).trans hp
    have hg := (f1302.2 am 13 k_am 3 rfl).trans hg
    have htC := htC.fr k_rd x1302 f1302 (by decide +kernel)
    have htM := htM.fr k_am x1302 f1302 (by decide +kernel)
    have hrc := hrc.fr k_th x1302 f1302 (by decide +kernel)
    have hrm := hrm.fr k_am x1302 f1302 (by decide +kernel)
    have ho := (f1302.2 out 31 k_out 0 rfl).trans ho
    have k_th := x1302 _ _ k_th
    have k_am := x1302 _ _ k_am
    have k_out := x1302 _ _ k_out
    have k_rd := x1302 _ _ k_rd
    rcases hQ with ⟨dx, ev2, ht, hky⟩ | ⟨k1, n1, ⟨ek1, en1⟩, ⟨hk1, hn1⟩, ev2, ht, hky⟩
    · exact absurd (show _ ∧ _ from ⟨⟨by rw [ek0, hs_nint (by omega)]; omega, by rw [ek0, hs_nint (by omega)]; omega⟩, xr_m en0 hn0 (by omega)⟩) dx
    · cases ev2
      obtain rfl : k0 = k1 := (hs_neq (by omega) (by omega)).mp (ek0.symm.trans ek1)
      obtain rfl : n0 = n1 := (hs_neq (by omega) (by omega)).mp (en0.symm.trans en1)
      show et_go _ _ 1000 1305 [some (.ref 150), some (.ref th), some (.ref am), some (.ref out), some (.int (Int32.ofNat i)), some (.int (Int32.ofNat 0)), x6] [.int (mdV X_ Y_ k0 (cn 3) (φ_ (R0_ n0)))] _ ((ck + c1284) + c1302) ((sk + s1284) + s1302) _
      refine ls_istore (i := 6) (p := 1307) (by decide +kernel) (Nat.le_of_ble_eq_true rfl) ?_
      refine ls_goto (p := 1663) (by decide +kernel) ?_
      exact hN _ _ c h _ _ _ _ _ _ ⟨⟨hH, hci, k_th, k_am, k_out, h3, k_rd, hl, hm, hc⟩, ⟨hh1, hp, hg⟩, hrc, hrm, hbc, hbi, ⟨hry, hcy, hty, hzy, hky, hcq.le (by first | exact Nat.le_refl _ | exact Nat.le_succ _) (by first | exact Nat.le_refl _ | exact Nat.le_succ _)⟩, _, htC, htM, htb⟩ (by omega) (by omega)
set_option maxHeartbeats 2000000 in
theorem lw_c29 (hI : lw_I K G th am out rd s0 s1 aw ai tp ba na tm c h cn im) (hi : i + 6 ≤ n) (hn : n ≤ 3072) (hN : ∀ (K' : et_K) (G' : eg_G) (c' h' : Nat) (cn' im' : Nat → Nat) (ck' sk' : Nat) (y5 y6 : Option Value), lw_I K' G' th am out rd s0 s1 aw ai tp ba na tm c' h' cn' im' → ck' ≤ ck + 841 → sk' ≤ sk + 7168 → et_go (some (n, f)) (d + 41) 1000 1663 [some (.ref 150), some (.ref th), some (.ref am), some (.ref out), some (.int (Int32.ofNat i)), y5, y6] [] G' ck' sk' Z) : et_go (some (n, f)) (d + 41) 1000 1310 [some (.ref 150), some (.ref th), some (.ref am), some (.ref out), some (.int (Int32.ofNat i)), x5, x6] [] G ck sk Z := by
  obtain ⟨⟨hH, hci, k_th, k_am, k_out, h3, k_rd, hl, hm, hc⟩, ⟨hh1, hp, hg⟩, hrc, hrm, hbc, hbi, ⟨hry, hcy, hty, hzy, hky, hcq⟩, tb, htC, htM, htb⟩ := hI
  refine ls_aload (i := 1) (p := 1311) (by decide +kernel) rfl ?_
  refine ls_arg (j := 1) (by decide +kernel) (by omega) hn ?_
  refine ls_aload (i := 3) (p := 1318) (by decide +kernel) rfl ?_
  refine ls_calls (mi := 24) (na := 3) (lk := 7) (lm := 4) (L0 := eg_en (eg_mL 24) [.ref th, .int (f (i + 1)), .ref out]) (by decide +kernel) rfl rfl rfl rfl rfl rfl (by rw [show eg_mL 24 = 4 from by decide +kernel]; first | done | rfl) ?_
  have hHo := hH
  refine (hh_c24 (K, [], G) [.ref th, .int (f (i + 1)), .ref out] _ hH (by omega) rfl (ht_ac (.inr ⟨by decide, _, rfl, k_th⟩) (ht_ac hi_any (ht_ac (.inr ⟨by decide, _, rfl, k_out⟩) ht_an)))).mono (fun u hu => ls_cbv hu (fun v1318 K1318 G1318 c1318 s1318 x1318 f1318 hH hv1318 cl1318 sl1318 => ?_))
  have hcq := hcq.fr x1318 hHo f1318 (by decide +kernel)
  have hky := hky.fr hHo k_am hrm.1.1 f1318 (by decide +kernel)
  have hzy := hzy.fr k_th hrc.1.1 hrc.1.2.1 x1318 f1318 (by decide +kernel)
  have hty := hty.fr x1318 hHo f1318 (by decide +kernel)
  have hcy := hcy.fr x1318 f1318 (by decide +kernel)
  have hry := hry.fr hHo x1318 f1318 (by decide +kernel)
  have hci := hci.fr x1318 f1318 (by decide +kernel)
  have h3 := (f1318.2 th 12 k_th 3 rfl).trans h3
  have hl := (f1318.2 rd 7 k_rd 1 rfl).trans hl
  have hm := (f1318.2 am 13 k_am 5 rfl).trans hm
  have hp := (f1318.2 th 12 k_th 2 rfl).trans hp
  have hg := (f1318.2 am 13 k_am 3 rfl).trans hg
  have htC := htC.fr k_rd x1318 f1318 (by decide +kernel)
  have htM := htM.fr k_am x1318 f1318 (by decide +kernel)
  have hrc := hrc.fr k_th x1318 f1318 (by decide +kernel)
  have hrm := hrm.fr k_am x1318 f1318 (by decide +kernel)
  have k_th := x1318 _ _ k_th
  have k_am := x1318 _ _ k_am
  have k_out := x1318 _ _ k_out
  have k_rd := x1318 _ _ k_rd
  obtain ⟨v1318, rfl, -⟩ := hv1318
  show et_go _ _ 1000 1321 [some (.ref 150), some (.ref th), some (.ref am), some (.ref out), some (.int (Int32.ofNat i)), x5, x6] [.int v1318] _ (ck + c1318) (sk + s1318) _
  refine ls_istore (i := 5) (p := 1323) (by decide +kernel) (Nat.le_of_ble_eq_true rfl) ?_
  refine ls_aload (i := 2) (p := 1324) (by decide +kernel) rfl ?_
  refine ls_arg (j := 1) (by decide +kernel) (by omega) hn ?_
  refine lt_callv (T := et_TT) (t := 13) (mi := 280) (na := 1) (ci := 11) (lk := 7) (lm := 5) (L0 := eg_en (eg_mL 280) [.ref am, .int (f (i + 1))]) (by decide +kernel) rfl hH k_am rfl rfl rfl rfl rfl (by rw [show eg_mL 280 = 5 from by decide +kernel]; first | done | rfl) ?_
  have hHo := hH
  refine (er_p280_ok (K1318, [], G1318) [.ref am, .int (f (i + 1))] _ hH (by omega) rfl (ht_ac (.inr ⟨by decide, _, rfl, k_am⟩) (ht_ac hi_any ht_an))).mono (fun u hu => ls_cbv hu (fun v1330 K1330 G1330 c1330 s1330 x1330 f1330 hH hv1330 cl1330 sl1330 => ?_))
  have hcq := hcq.fr x1330 hHo f1330 (by decide +kernel)
  have hky := hky.fr hHo k_am hrm.1.1 f1330 (by decide +kernel)
  have hzy := hzy.fr k_th hrc.1.1 hrc.1.2.1 x1330 f1330 (by decide +kernel)
  have hty := hty.fr x1330 hHo f1330 (by decide +kernel)
  have hcy := hcy.fr x1330 f1330 (by decide +kernel)
  have hry := hry.fr hHo x1330 f1330 (by decide +kernel)
  have hci := hci.fr x1330 f1330 (by decide +kernel)
  have h3 := (f1330.2 th 12 k_th 3 rfl).trans h3
  have hl := (f1330.2 rd 7 k_rd 1 rfl).trans hl
  have hm := (f1330.2 am 13 k_am 5 rfl).trans hm
  have hp := (f1330.2 th 12 k_th 2 rfl).trans hp
  have hg := (f1330.2 am 13 k_am 3 rfl).trans hg
  have htC := htC.fr k_rd x1330 f1330 (by decide +kernel)
  have htM := htM.fr k_am x1330 f1330 (by decide +kernel)
  have hrc := hrc.fr k_th x1330 f1330 (by decide +kernel)
  have hrm := hrm.fr k_am x1330 f1330 (by decide +kernel)
  have k_th := x1330 _ _ k_th
  have k_am := x1330 _ _ k_am
  have k_out := x1330 _ _ k_out
  have k_rd := x1330 _ _ k_rd
  obtain ⟨v1330, rfl, -⟩ := hv1330
  show et_go _ _ 1000 1333 [some (.ref 150), some (.ref th), some (.ref am), some (.ref out), some (.int (Int32.ofNat i)), some (.int v1318), x6] [.int v1330] _ ((ck + c1318) + c1330) ((sk + s1318) + s1330) _
  refine ls_istore (i := 6) (p := 1335) (by decide +kernel) (Nat.le_of_ble_eq_true rfl) ?_
  refine ls_goto (p := 1663) (by decide +kernel) ?_
  exact hN _ _ c h _ _ _ _ _ _ ⟨⟨hH, hci, k_th, k_am, k_out, h3, k_rd, hl, hm, hc⟩, ⟨hh1, hp, hg⟩, hrc, hrm, hbc, hbi, ⟨hry, hcy, hty, hzy, hky, hcq.le (by first | exact Nat.le_refl _ | exact Nat.le_succ _) (by first | exact Nat.le_refl _ | exact Nat.le_succ _)⟩, _, htC, htM, htb⟩ (by omega) (by omega)
set_option maxHeartbeats 2000000 in
theorem lw_c30 (hI : lw_I K G th am out rd s0 s1 aw ai tp ba na tm c h cn im) (hi : i + 6 ≤ n) (hn : n ≤ 3072) (hN : ∀ (K' : et_K) (G' : eg_G) (c' h' : Nat) (cn' im' : Nat → Nat) (ck' sk' : Nat) (y5 y6 : Option Value), lw_I K' G' th am out rd s0 s1 aw ai tp ba na tm c' h' cn' im' → ck' ≤ ck + 841 → sk' ≤ sk + 7168 → et_go (some (n, f)) (d + 41) 1000 1663 [some (.ref 150), some (.ref th), some (.ref am), some (.ref out), some (.int (Int32.ofNat i)), y5, y6] [] G' ck' sk' Z) : et_go (some (n, f)) (d + 41) 1000 1338 [some (.ref 150), some (.ref th), some (.ref am), some (.ref out), some (.int (Int32.ofNat i)), x5, x6] [] G ck sk Z := by
  obtain ⟨⟨hH, hci, k_th, k_am, k_out, h3, k_rd, hl, hm, hc⟩, ⟨hh1, hp, hg⟩, hrc, hrm, hbc, hbi, ⟨hry, hcy, hty, hzy, hky, hcq⟩, tb, htC, htM, htb⟩ := hI
  refine ls_aload (i := 1) (p := 1339) (by decide +kernel) rfl ?_
  refine ls_arg (j := 1) (by decide +kernel) (by omega) hn ?_
  refine ls_arg (j := 2) (by decide +kernel) (by omega) hn ?_
  refine ls_arg (j := 3) (by decide +kernel) (by omega) hn ?_
  refine ls_aload (i := 3) (p := 1358) (by decide +kernel) rfl ?_
  refine ls_calls (mi := 25) (na := 5) (lk := 7) (lm := 6) (L0 := eg_en (eg_mL 25) [.ref th, .int (f (i + 1)), .int (f (i + 2)), .int (f (i + 3)), .ref out]) (by decide +kernel) rfl rfl rfl rfl rfl rfl (by rw [show eg_mL 25 = 6 from by decide +kernel]; first | done | rfl) ?_
  have hHo := hH
  have b4 : cn 4 ≤ 3 := Int.ofNat_le.mp (hf_bd (t := 10) hH hrc.1.1 rfl rfl (hrc.2.2 (5, 4) (by decide)).1 (hbc 4))
  have b1 : cn 1 ≤ 4 := Int.ofNat_le.mp (hf_bd (t := 10) hH hrc.1.1 rfl rfl (hrc.2.2 (7, 1) (by decide)).1 (hbc 1))
  obtain ⟨t0_, t1_, T0_, T1_, L0_, L1_, tK_, ⟨tp0_, tp1_⟩, ⟨tc_, ti_⟩, ⟨tE_, tX_⟩, tF_, tY_⟩ := id hty
  obtain ⟨ya_, yb_, O_, A_, V_, ⟨zk_, zka_, zki_⟩, zz_, zo_, zm_, zi_⟩ := hzy
  refine ((hh_c25 (K, [], G) [.ref th, .int (f (i + 1)), .int (f (i + 2)), .int (f (i + 3)), .ref out] _ hH (by omega) rfl (ht_ac (.inr ⟨by decide, _, rfl, k_th⟩) (ht_ac hi_any (ht_ac hi_any (ht_ac hi_any (ht_ac (.inr ⟨by decide, _, rfl, k_out⟩) ht_an)))))).and (fh_25Z hH k_th k_out hrc.2.1.1 hrc.1.1 (hrc.2.2 (5, 4) (by decide)).1 b4 zk_ zz_ zo_ (by omega))).mono (fun u hu => ls_cbvQ (Q := fun u => hol K (O_ 6) (A_ 6 0) (A_ 6 1) (A_ 6 2) G u.2.1) hu (fun v1358 K1358 G1358 c1358 s1358 x1358 f1358 hH hv1358 cl1358 sl1358 hQ => ?_))
  have zz_ := zz_.ho zk_ k_th hrc.1.1 hrc.1.2.1 hQ f1358 (by decide +kernel)
  have zm_ := zm_.fr (fun n hn => zo_ n (by omega)) zka_ f1358 (by decide +kernel)
  have zi_ := zi_.fr (fun n hn => zo_ (3 + n) (by omega)) zki_ f1358 (by decide +kernel)
  have zk_ := zk_.ex x1358
  have zka_ := x1358 _ _ zka_
  have zki_ := x1358 _ _ zki_
  have hzy : zy K1358 G1358 th s0 s1 aw ai (cn 4) (im 4) := ⟨ya_, yb_, O_, A_, V_, ⟨zk_, zka_, zki_⟩, zz_, zo_, zm_, zi_⟩
  have hcq := hcq.fr x1358 hHo f1358 (by decide +kernel)
  have hky := hky.fr hHo k_am hrm.1.1 f1358 (by decide +kernel)
  have hty := hty.fr x1358 hHo f1358 (by decide +kernel)
  have hcy := hcy.fr x1358 f1358 (by decide +kernel)
  have hry := hry.fr hHo x1358 f1358 (by decide +kernel)
  have hci := hci.fr x1358 f1358 (by decide +kernel)
  have h3 := (f1358.2 th 12 k_th 3 rfl).trans h3
  have hl := (f1358.2 rd 7 k_rd 1 rfl).trans hl
  have hm := (f1358.2 am 13 k_am 5 rfl).trans hm
  have hp := (f1358.2 th 12 k_th 2 rfl).trans hp
  have hg := (f1358.2 am 13 k_am 3 rfl).trans hg
  have htC := htC.fr k_rd x1358 f1358 (by decide +kernel)
  have htM := htM.fr k_am x1358 f1358 (by decide +kernel)
  have hrc := hrc.fr k_th x1358 f1358 (by decide +kernel)
  have hrm := hrm.fr k_am x1358 f1358 (by decide +kernel)
  have k_th := x1358 _ _ k_th
  have k_am := x1358 _ _ k_am
  have k_out := x1358 _ _ k_out
  have k_rd := x1358 _ _ k_rd
  obtain ⟨v1358, rfl, -⟩ := hv1358
  show et_go _ _ 1000 1361 [some (.ref 150), some (.ref th), some (.ref am), some (.ref out), some (.int (Int32.ofNat i)), x5, x6] [.int v1358] _ (ck + c1358) (sk + s1358) _
  refine ls_istore (i := 5) (p := 1363) (by decide +kernel) (Nat.le_of_ble_eq_true rfl) ?_
  refine ls_aload (i := 2) (p := 1364) (by decide +kernel) rfl ?_
  refine ls_arg (j := 1) (by decide +kernel) (by omega) hn ?_
  refine ls_arg (j := 2) (by decide +kernel) (by omega) hn ?_
  refine ls_arg (j := 3) (by decide +kernel) (by omega) hn ?_
  refine lt_callv (T := et_TT) (t := 13) (mi := 281) (na := 3) (ci := 11) (lk := 7) (lm := 8) (L0 := eg_en (eg_mL 281) [.ref am, .int (f (i + 1)), .int (f (i + 2)), .int (f (i + 3))]) (by decide +kernel) rfl hH k_am rfl rfl rfl rfl rfl (by rw [show eg_mL 281 = 8 from by decide +kernel]; first | done | rfl) ?_
  have hHo := hH
  refine (er_p281_ok (K1358, [], G1358) [.ref am, .int (f (i + 1)), .int (f (i + 2)), .int (f (i + 3))] _ hH (by omega) rfl (ht_ac (.inr ⟨by decide, _, rfl, k_am⟩) (ht_ac hi_any (ht_ac hi_any (ht_ac hi_any ht_an))))).mono (fun u hu => ls_cbv hu (fun v1382 K1382 G1382 c1382 s1382 x1382 f1382 hH hv1382 cl1382 sl1382 => ?_))
  have hcq := hcq.fr x1382 hHo f1382 (by decide +kernel)
  have hky := hky.fr hHo k_am hrm.1.1 f1382 (by decide +kernel)
  have hzy := hzy.fr k_th hrc.1.1 hrc.1.2.1 x1382 f1382 (by decide +kernel)
  have hty := hty.fr x1382 hHo f1382 (by decide +kernel)
  have hcy := hcy.fr x1382 f1382 (by decide +kernel)
  have hry := hry.fr hHo x1382 f1382 (by decide +kernel)
  have hci := hci.fr x1382 f1382 (by decide +kernel)
  have h3 := (f1382.2 th 12 k_th 3 rfl).trans h3
  have hl := (f1382.2 rd 7 k_rd 1 rfl).trans hl
  have hm := (f1382.2 am 13 k_am 5 rfl).trans hm
  have hp := (f1382.2 th 12 k_th 2 rfl).trans hp
  have hg := (f1382.2 am 13 k_am 3 rfl).trans hg
  have htC := htC.fr k_rd x1382 f1382 (by decide +kernel)
  have htM := htM.fr k_am x1382 f1382 (by decide +kernel)
  have hrc := hrc.fr k_th x1382 f1382 (by decide +kernel)
  have hrm := hrm.fr k_am x1382 f1382 (by decide +kernel)
  have k_th := x1382 _ _ k_th
  have k_am := x1382 _ _ k_am
  have k_out := x1382 _ _ k_out
  have k_rd := x1382 _ _ k_rd
  obtain ⟨v1382, rfl, -⟩ := hv1382
  show et_go _ _ 1000 1385 [some (.ref 150), some (.ref th), some (.ref am), some (.ref out), some (.int (Int32.ofNat i)), some (.int v1358), x6] [.int v1382] _ ((ck + c1358) + c1382) ((sk + s1358) + s1382) _
  refine ls_istore (i := 6) (p := 1387) (by decide +kernel) (Nat.le_of_ble_eq_true rfl) ?_
  refine ls_goto (p := 1663) (by decide +kernel) ?_
  exact hN _ _ c h _ _ _ _ _ _ ⟨⟨hH, hci, k_th, k_am, k_out, h3, k_rd, hl, hm, hc⟩, ⟨hh1, hp, hg⟩, hrc, hrm, hbc, hbi, ⟨hry, hcy, hty, hzy, hky, hcq.le (by first | exact Nat.le_refl _ | exact Nat.le_succ _) (by first | exact Nat.le_refl _ | exact Nat.le_succ _)⟩, _, htC, htM, htb⟩ (by omega) (by omega)
set_option maxHeartbeats 2000000 in
theorem lw_c31 (hI : lw_I K G th am out rd s0 s1 aw ai tp ba na tm c h cn im) (hi : i + 6 ≤ n) (hn : n ≤ 3072) (hN : ∀ (K' : et_K) (G' : eg_G) (c' h' : Nat) (cn' im' : Nat → Nat) (ck' sk' : Nat) (y5 y6 : Option Value), lw_I K' G' th am out rd s0 s1 aw ai tp ba na tm c' h' cn' im' → ck' ≤ ck + 841 → sk' ≤ sk + 7168 → et_go (some (n, f)) (d + 41) 1000 1663 [some (.ref 150), some (.ref th), some (.ref am), some (.ref out), some (.int (Int32.ofNat i)), y5, y6] [] G' ck' sk' Z) : et_go (some (n, f)) (d + 41) 1000 1390 [some (.ref 150), some (.ref th), some (.ref am), some (.ref out), some (.int (Int32.ofNat i)), x5, x6] [] G ck sk Z := by
  obtain ⟨⟨hH, hci, k_th, k_am, k_out, h3, k_rd, hl, hm, hc⟩, ⟨hh1, hp, hg⟩, hrc, hrm, hbc, hbi, ⟨hry, hcy, hty, hzy, hky, hcq⟩, tb, htC, htM, htb⟩ := hI
  refine ls_aload (i := 1) (p := 1391) (by decide +kernel) rfl ?_
  refine ls_arg (j := 1) (by decide +kernel) (by omega) hn ?_
  refine ls_arg (j := 2) (by decide +kernel) (by omega) hn ?_
  refine ls_aload (i := 3) (p := 1404) (by decide +kernel) rfl ?_
  refine ls_calls (mi := 26) (na := 4) (lk := 7) (lm := 5) (L0 := eg_en (eg_mL 26) [.ref th, .int (f (i + 1)), .int (f (i + 2)), .ref out]) (by decide +kernel) rfl rfl rfl rfl rfl rfl (by rw [show eg_mL 26 = 5 from by decide +kernel]; first | done | rfl) ?_
  have hHo := hH
  have b4 : cn 4 ≤ 3 := Int.ofNat_le.mp (hf_bd (t := 10) hH hrc.1.1 rfl rfl (hrc.2.2 (5, 4) (by decide)).1 (hbc 4))
  have b1 : cn 1 ≤ 4 := Int.ofNat_le.mp (hf_bd (t := 10) hH hrc.1.1 rfl rfl (hrc.2.2 (7, 1) (by decide)).1 (hbc 1))
  obtain ⟨t0_, t1_, T0_, T1_, L0_, L1_, tK_, ⟨tp0_, tp1_⟩, ⟨tc_, ti_⟩, ⟨tE_, tX_⟩, tF_, tY_⟩ := id hty
  obtain ⟨ya_, yb_, O_, A_, V_, ⟨zk_, zka_, zki_⟩, zz_, zo_, zm_, zi_⟩ := hzy
  refine ((hh_c26 (K, [], G) [.ref th, .int (f (i + 1)), .int (f (i + 2)), .ref out] _ hH (by omega) rfl (ht_ac (.inr ⟨by decide, _, rfl, k_th⟩) (ht_ac hi_any (ht_ac hi_any (ht_ac (.inr ⟨by decide, _, rfl, k_out⟩) ht_an))))).and (fh_26Z hH k_th k_out hrc.2.1.1 hrc.1.1 (hrc.2.2 (5, 4) (by decide)).1 b4 zk_ zz_ zo_ (hrc.2.2 (7, 1) (by decide)).1 b1 tp0_ tK_.1.2.2.1 tE_ (by omega))).mono (fun u hu => ls_cbvQ (Q := fun u => hol K (O_ 6) (A_ 6 0) (A_ 6 1) (A_ 6 2) G u.2.1) hu (fun v1404 K1404 G1404 c1404 s1404 x1404 f1404 hH hv1404 cl1404 sl1404 hQ => ?_))
  have zz_ := zz_.ho zk_ k_th hrc.1.1 hrc.1.2.1 hQ f1404 (by decide +kernel)
  have zm_ := zm_.fr (fun n hn => zo_ n (by omega)) zka_ f1404 (by decide +kernel)
  have zi_ := zi_.fr (fun n hn => zo_ (3 + n) (by omega)) zki_ f1404 (by decide +kernel)
  have zk_ := zk_.ex x1404
  have zka_ := x1404 _ _ zka_
  have zki_ := x1404 _ _ zki_
  have hzy : zy K1404 G1404 th s0 s1 aw ai (cn 4) (im 4) := ⟨ya_, yb_, O_, A_, V_, ⟨zk_, zka_, zki_⟩, zz_, zo_, zm_, zi_⟩
  have hcq := hcq.fr x1404 hHo f1404 (by decide +kernel)
  have hky := hky.fr hHo k_am hrm.1.1 f1404 (by decide +kernel)
  have hty := hty.fr x1404 hHo f1404 (by decide +kernel)
  have hcy := hcy.fr x1404 f1404 (by decide +kernel)
  have hry := hry.fr hHo x1404 f1404 (by decide +kernel)
  have hci := hci.fr x1404 f1404 (by decide +kernel)
  have h3 := (f1404.2 th 12 k_th 3 rfl).trans h3
  have hl := (f1404.2 rd 7 k_rd 1 rfl).trans hl
  have hm := (f1404.2 am 13 k_am 5 rfl).trans hm
  have hp := (f1404.2 th 12 k_th 2 rfl).trans hp
  have hg := (f1404.2 am 13 k_am 3 rfl).trans hg
  have htC := htC.fr k_rd x1404 f1404 (by decide +kernel)
  have htM := htM.fr k_am x1404 f1404 (by decide +kernel)
  have hrc := hrc.fr k_th x1404 f1404 (by decide +kernel)
  have hrm := hrm.fr k_am x1404 f1404 (by decide +kernel)
  have k_th := x1404 _ _ k_th
  have k_am := x1404 _ _ k_am
  have k_out := x1404 _ _ k_out
  have k_rd := x1404 _ _ k_rd
  obtain ⟨v1404, rfl, -⟩ := hv1404
  show et_go _ _ 1000 1407 [some (.ref 150), some (.ref th), some (.ref am), some (.ref out), some (.int (Int32.ofNat i)), x5, x6] [.int v1404] _ (ck + c1404) (sk + s1404) _
  refine ls_istore (i := 5) (p := 1409) (by decide +kernel) (Nat.le_of_ble_eq_true rfl) ?_
  refine ls_aload (i := 2) (p := 1410) (by decide +kernel) rfl ?_
  refine ls_arg (j := 1) (by decide +kernel) (by omega) hn ?_
  refine ls_arg (j := 2) (by decide +kernel) (by omega) hn ?_
  refine lt_callv (T := et_TT) (t := 13) (mi := 282) (na := 2) (ci := 11) (lk := 7) (lm := 13) (L0 := eg_en (eg_mL 282) [.ref am, .int (f (i + 1)), .int (f (i + 2))]) (by decide +kernel) rfl hH k_am rfl rfl rfl rfl rfl (by rw [show eg_mL 282 = 13 from by decide +kernel]; first | done | rfl) ?_
  have hHo := hH
  obtain ⟨ya_, yb_, O_, A_, V_, ⟨zk_, zka_, zki_⟩, zz_, zo_, zm_, zi_⟩ := hzy
  refine ((hc_so (K1404, [], G1404) [.ref am, .int (f (i + 1)), .int (f (i + 2))] _ hH (by omega) rfl (ht_ac (.inr ⟨by decide, _, rfl, k_am⟩) (ht_ac hi_any (ht_ac hi_any ht_an)))).and (fm_soon (w := (K1404, [], G1404)) hH k_am hrm.2.1.1 hrm.1.1 (by omega))).mono (fun u hu => ls_cbvQ (Q := fun u => ∀ i, et_pl (eg_at u.2.1 aw) i = et_pl (eg_at G1404 aw) i) hu (fun v1422 K1422 G1422 c1422 s1422 x1422 f1422 hH hv1422 cl1422 sl1422 hQ => ?_))
  have zm_ := zm_.mv (fun n hn => zo_ n (by omega)) (fun j _ _ => hQ j)
  have zz_ := zz_.fr zk_ k_th hrc.1.1 hrc.1.2.1 f1422 (by decide +kernel)
  have zi_ := zi_.fr (fun n hn => zo_ (3 + n) (by omega)) zki_ f1422 (by decide +kernel)
  have zk_ := zk_.ex x1422
  have zka_ := x1422 _ _ zka_
  have zki_ := x1422 _ _ zki_
  have hzy : zy K1422 G1422 th s0 s1 aw ai (cn 4) (im 4) := ⟨ya_, yb_, O_, A_, V_, ⟨zk_, zka_, zki_⟩, zz_, zo_, zm_, zi_⟩
  have hcq := hcq.fr x1422 hHo f1422 (by decide +kernel)
  have hky := hky.fr hHo k_am hrm.1.1 f1422 (by decide +kernel)
  have hty := hty.fr x1422 hHo f1422 (by decide +kernel)
  have hcy := hcy.fr x1422 f1422 (by decide +kernel)
  have hry := hry.fr hHo x1422 f1422 (by decide +kernel)
  have hci := hci.fr x1422 f1422 (by decide +kernel)
  have h3 := (f1422.2 th 12 k_th 3 rfl).trans h3
  have hl := (f1422.2 rd 7 k_rd 1 rfl).trans hl
  have hm := (f1422.2 am 13 k_am 5 rfl).trans hm
  have hp := (f1422.2 th 12 k_th 2 rfl).trans hp
  have hg := (f1422.2 am 13 k_am 3 rfl).trans hg
  have htC := htC.fr k_rd x1422 f1422 (by decide +kernel)
  have htM := htM.fr k_am x1422 f1422 (by decide +kernel)
  have hrc := hrc.fr k_th x1422 f1422 (by decide +kernel)
  have hrm := hrm.fr k_am x1422 f1422 (by decide +kernel)
  have k_th := x1422 _ _ k_th
  have k_am := x1422 _ _ k_am
  have k_out := x1422 _ _ k_out
  have k_rd := x1422 _ _ k_rd
  obtain ⟨v1422, rfl, -⟩ := hv1422
  show et_go _ _ 1000 1425 [some (.ref 150), some (.ref th), some (.ref am), some (.ref out), some (.int (Int32.ofNat i)), some (.int v1404), x6] [.int v1422] _ ((ck + c1404) + c1422) ((sk + s1404) + s1422) _
  refine ls_istore (i := 6) (p := 1427) (by decide +kernel) (Nat.le_of_ble_eq_true rfl) ?_
  refine ls_goto (p := 1663) (by decide +kernel) ?_
  exact hN _ _ c h _ _ _ _ _ _ ⟨⟨hH, hci, k_th, k_am, k_out, h3, k_rd, hl, hm, hc⟩, ⟨hh1, hp, hg⟩, hrc, hrm, hbc, hbi, ⟨hry, hcy, hty, hzy, hky, hcq.le (by first | exact Nat.le_refl _ | exact Nat.le_succ _) (by first | exact Nat.le_refl _ | exact Nat.le_succ _)⟩, _, htC, htM, htb⟩ (by omega) (by omega)
set_option maxHeartbeats 2000000 in
theorem lw_c32 (hI : lw_I K G th am out rd s0 s1 aw ai tp ba na tm c h cn im) (hi : i + 6 ≤ n) (hn : n ≤ 3072) (hN : ∀ (K' : et_K) (G' : eg_G) (c' h' : Nat) (cn' im' : Nat → Nat) (ck' sk' : Nat) (y5 y6 : Option Value), lw_I K' G' th am out rd s0 s1 aw ai tp ba na tm c' h' cn' im' → ck' ≤ ck + 841 → sk' ≤ sk + 7168 → et_go (some (n, f)) (d + 41) 1000 1663 [some (.ref 150), some (.ref th), some (.ref am), some (.ref out), some (.int (Int32.ofNat i)), y5, y6] [] G' ck' sk' Z) : et_go (some (n, f)) (d + 41) 1000 1430 [some (.ref 150), some (.ref th), some (.ref am), some (.ref out), some (.int (Int32.ofNat i)), x5, x6] [] G ck sk Z := by
  obtain ⟨⟨hH, hci, k_th, k_am, k_out, h3, k_rd, hl, hm, hc⟩, ⟨hh1, hp, hg⟩, hrc, hrm, hbc, hbi, ⟨hry, hcy, hty, hzy, hky, hcq⟩, tb, htC, htM, htb⟩ := hI
  refine ls_aload (i := 1) (p := 1431) (by decide +kernel) rfl ?_
  refine ls_arg (j := 1) (by decide +kernel) (by omega) hn ?_
  refine ls_arg (j := 2) (by decide +kernel) (by omega) hn ?_
  refine ls_aload (i := 3) (p := 1444) (by decide +kernel) rfl ?_
  refine ls_calls (mi := 27) (na := 4) (lk := 7) (lm := 5) (L0 := eg_en (eg_mL 27) [.ref th, .int (f (i + 1)), .int (f (i + 2)), .ref out]) (by decide +kernel) rfl rfl rfl rfl rfl rfl (by rw [show eg_mL 27 = 5 from by decide +kernel]; first | done | rfl) ?_
  have hHo := hH
  have b4 : cn 4 ≤ 3 := Int.ofNat_le.mp (hf_bd (t := 10) hH hrc.1.1 rfl rfl (hrc.2.2 (5, 4) (by decide)).1 (hbc 4))
  obtain ⟨ya_, yb_, O_, A_, V_, ⟨zk_, zka_, zki_⟩, zz_, zo_, zm_, zi_⟩ := hzy
  refine ((hh_c27 (K, [], G) [.ref th, .int (f (i + 1)), .int (f (i + 2)), .ref out] _ hH (by omega) rfl (ht_ac (.inr ⟨by decide, _, rfl, k_th⟩) (ht_ac hi_any (ht_ac hi_any (ht_ac (.inr ⟨by decide, _, rfl, k_out⟩) ht_an))))).and (fz_tog hH k_th hrc.2.1.1 hrc.1.1 (hrc.2.2 (5, 4) (by decide)).1 b4 zk_ zz_ zo_ k_out (by omega))).mono (fun u hu => ls_cbvQ (Q := fun u => (¬ (1 ≤ (f (i + 1)).toInt ∧ (f (i + 1)).toInt ≤ 3 ∧ (0 ≤ (f (i + 2)).toInt ∧ (f (i + 2)).toInt < 65536)) ∧ u.1 = .inl (some (.int (Int32.ofNat 1)))) ∨ ∃ k, (((f (i + 1)) = Int32.ofNat k ∧ 1 ≤ k ∧ k ≤ 3) ∧ (0 ≤ (f (i + 2)).toInt ∧ (f (i + 2)).toInt < 65536)) ∧ u.1 = .inl (some (.int (Int32.ofNat 0))) ∧ et_pl (eg_at u.2.1 out) 0 = some (.long (Int64.ofNat (if k ≤ nyE V_ (f (i + 2)) (cn 4) then 1 else 0)))) hu (fun v1444 K1444 G1444 c1444 s1444 x1444 f1444 hH hv1444 cl1444 sl1444 hQ => ?_))
  have zz_ := zz_.fr zk_ k_th hrc.1.1 hrc.1.2.1 f1444 (by decide +kernel)
  have zm_ := zm_.fr (fun n hn => zo_ n (by omega)) zka_ f1444 (by decide +kernel)
  have zi_ := zi_.fr (fun n hn => zo_ (3 + n) (by omega)) zki_ f1444 (by decide +kernel)
  have zk_ := zk_.ex x1444
  have zka_ := x1444 _ _ zka_
  have zki_ := x1444 _ _ zki_
  have hcq := hcq.fr x1444 hHo f1444 (by decide +kernel)
  have hky := hky.fr hHo k_am hrm.1.1 f1444 (by decide +kernel)
  have hty := hty.fr x1444 hHo f1444 (by decide +kernel)
  have hcy := hcy.fr x1444 f1444 (by decide +kernel)
  have hry := hry.fr hHo x1444 f1444 (by decide +kernel)
  have hci := hci.fr x1444 f1444 (by decide +kernel)
  have h3 := (f1444.2 th 12 k_th 3 rfl).trans h3
  have hl := (f1444.2 rd 7 k_rd 1 rfl).trans hl
  have hm := (f1444.2 am 13 k_am 5 rfl).trans hm
  have hp := (f1444.2 th 12 k_th 2 rfl).trans hp
  have hg := (f1444.2 am 13 k_am 3 rfl).trans hg
  have htC := htC.fr k_rd x1444 f1444 (by decide +kernel)
  have htM := htM.fr k_am x1444 f1444 (by decide +kernel)
  have hrc := hrc.fr k_th x1444 f1444 (by decide +kernel)
  have hrm := hrm.fr k_am x1444 f1444 (by decide +kernel)
  have k_th := x1444 _ _ k_th
  have k_am := x1444 _ _ k_am
  have k_out := x1444 _ _ k_out
  have k_rd := x1444 _ _ k_rd
  rcases hQ with ⟨cx, ev⟩ | ⟨k0, ⟨⟨ek0, hk0, hm0⟩, hl0⟩, ev, ho⟩
  · cases ev
    show et_go _ _ 1000 1447 [some (.ref 150), some (.ref th), some (.ref am), some (.ref out), some (.int (Int32.ofNat i)), x5, x6] [.int (Int32.ofNat 1)] _ (ck + c1444) (sk + s1444) _
    refine ls_istore (i := 5) (p := 1449) (by decide +kernel) (Nat.le_of_ble_eq_true rfl) ?_
    refine ls_aload (i := 2) (p := 1450) (by decide +kernel) rfl ?_
    refine ls_arg (j := 1) (by decide +kernel) (by omega) hn ?_
    refine ls_arg (j := 2) (by decide +kernel) (by omega) hn ?_
    refine lt_callv (T := et_TT) (t := 13) (mi := 285) (na := 2) (ci := 11) (lk := 7) (lm := 3) (L0 := eg_en (eg_mL 285) [.ref am, .int (f (i + 1)), .int (f (i + 2))]) (by decide +kernel) rfl hH k_am rfl rfl rfl rfl rfl (by rw [show eg_mL 285 = 3 from by decide +kernel]; first | done | rfl) ?_
    have hHo := hH
    refine ((er_p285_ok (K1444, [], G1444) [.ref am, .int (f (i + 1)), .int (f (i + 2))] _ hH (by omega) rfl (ht_ac (.inr ⟨by decide, _, rfl, k_am⟩) (ht_ac hi_any (ht_ac hi_any ht_an)))).and (gz_tog hH k_am hrm.1.1 hrm.2.1.1 (hrm.2.2 (5, 4) (by decide)).1 b4 zm_ (fun n hn => zo_ n (by omega)) (by omega))).mono (fun u hu => ls_cbvQ (Q := fun u => (¬ (1 ≤ (f (i + 1)).toInt ∧ (f (i + 1)).toInt ≤ 3 ∧ (0 ≤ (f (i + 2)).toInt ∧ (f (i + 2)).toInt < 65536)) ∧ u.1 = .inl (some (.int (Int32.ofNat 0))) ∧ et_pl (eg_at u.2.1 am) 0 = some (.int (Int32.ofNat 1))) ∨ ∃ k, (((f (i + 1)) = Int32.ofNat k ∧ 1 ≤ k ∧ k ≤ 3) ∧ (0 ≤ (f (i + 2)).toInt ∧ (f (i + 2)).toInt < 65536)) ∧ u.1 = .inl (some (.int (Int32.ofNat (if k ≤ nyE V_ (f (i + 2)) (cn 4) then 1 else 0)))) ∧ et_pl (eg_at u.2.1 am) 0 = some (.int (Int32.ofNat 0))) hu (fun v1462 K1462 G1462 c1462 s1462 x1462 f1462 hH hv1462 cl1462 sl1462 hQ => ?_))
    have zz_ := zz_.fr zk_ k_th hrc.1.1 hrc.1.2.1 f1462 (by decide +kernel)
    have zm_ := zm_.fr (fun n hn => zo_ n (by omega)) zka_ f1462 (by decide +kernel)
    have zi_ := zi_.fr (fun n hn => zo_ (3 + n) (by omega)) zki_ f1462 (by decide +kernel)
    have zk_ := zk_.ex x1462
    have zka_ := x1462 _ _ zka_
    have zki_ := x1462 _ _ zki_
    have hcq := hcq.fr x1462 hHo f1462 (by decide +kernel)
    have hky := hky.fr hHo k_am hrm.1.1 f1462 (by decide +kernel)
    have hty := hty.fr x1462 hHo f1462 (by decide +kernel)
    have hcy := hcy.fr x1462 f1462 (by decide +kernel)
    have hry := hry.fr hHo x1462 f1462 (by decide +kernel)
    have hci := hci.fr x1462 f1462 (by decide +kernel)
    have h3 := (f1462.2 th 12 k_th 3 rfl).trans h3
    have hl := (f1462.2 rd 7 k_rd 1 rfl).trans hl
    have hm := (f1462.2 am 13 k_am 5 rfl).trans hm
    have hp := (f1462.2 th 12 k_th 2 rfl).trans hp
    have hg := (f1462.2 am 13 k_am 3 rfl).trans hg
    have htC := htC.fr k_rd x1462 f1462 (by decide +kernel)
    have htM := htM.fr k_am x1462 f1462 (by decide +kernel)
    have hrc := hrc.fr k_th x1462 f1462 (by decide +kernel)
    have hrm := hrm.fr k_am x1462 f1462 (by decide +kernel)
    have k_th := x1462 _ _ k_th
    have k_am := x1462 _ _ k_am
    have k_out := x1462 _ _ k_out
    have k_rd := x1462 _ _ k_rd
    rcases hQ with ⟨dx, ev2, ht⟩ | ⟨k1, ⟨⟨ek1, hk1, hm1⟩, hl1⟩, ev2, ht⟩
    · cases ev2
      have hzy : zy K1462 G1462 th s0 s1 aw ai (cn 4) (im 4) := ⟨ya_, yb_, O_, A_, V_, ⟨zk_, zka_, zki_⟩, zz_, zo_, zm_, zi_⟩
      show et_go _ _ 1000 1465 [some (.ref 150), some (.ref th), some (.ref am), some (.ref out), some (.int (Int32.ofNat i)), some (.int (Int32.ofNat 1)), x6] [.int (Int32.ofNat 0)] _ ((ck + c1444) + c1462) ((sk + s1444) + s1462) _
      refine ls_istore (i := 6) (p := 1467) (by decide +kernel) (Nat.le_of_ble_eq_true rfl) ?_
      refine ls_goto (p := 1663) (by decide +kernel) ?_
      exact hN _ _ c h _ _ _ _ _ _ ⟨⟨hH, hci, k_th, k_am, k_out, h3, k_rd, hl, hm, hc⟩, ⟨hh1, hp, hg⟩, hrc, hrm, hbc, hbi, ⟨hry, hcy, hty, hzy, hky, hcq.le (by first | exact Nat.le_refl _ | exact Nat.le_succ _) (by first | exact Nat.le_refl _ | exact Nat.le_succ _)⟩, _, htC, htM, htb⟩ (by omega) (by omega)
    · exact absurd (show _ ∧ _ ∧ _ from ⟨by rw [ek1, hs_nint (by omega)]; omega, by rw [ek1, hs_nint (by omega)]; omega, hl1⟩) cx
  · cases ev
    show et_go _ _ 1000 1447 [some (.ref 150), some (.ref th), some (.ref am), some (.ref out), some (.int (Int32.ofNat i)), x5, x6] [.int (Int32.ofNat 0)] _ (ck + c1444) (sk + s1444) _
    refine ls_istore (i := 5) (p := 1449) (by decide +kernel) (Nat.le_of_ble_eq_true rfl) ?_
    refine ls_aload (i := 2) (p := 1450) (by decide +kernel) rfl ?_
    refine ls_arg (j := 1) (by decide +kernel) (by omega) hn ?_
    refine ls_arg (j := 2) (by decide +kernel) (by omega) hn ?_
    refine lt_callv (T := et_TT) (t := 13) (mi := 285) (na := 2) (ci := 11) (lk := 7) (lm := 3) (L0 := eg_en (eg_mL 285) [.ref am, .int (f (i + 1)), .int (f (i + 2))]) (by decide +kernel) rfl hH k_am rfl rfl rfl rfl rfl (by rw [show eg_mL 285 = 3 from by decide +kernel]; first | done | rfl) ?_
    have hHo := hH
    refine ((er_p285_ok (K1444, [], G1444) [.ref am, .int (f (i + 1)), .int (f (i + 2))] _ hH (by omega) rfl (ht_ac (.inr ⟨by decide, _, rfl, k_am⟩) (ht_ac hi_any (ht_ac hi_any ht_an)))).and (gz_tog hH k_am hrm.1.1 hrm.2.1.1 (hrm.2.2 (5, 4) (by decide)).1 b4 zm_ (fun n hn => zo_ n (by omega)) (by omega))).mono (fun u hu => ls_cbvQ (Q := fun u => (¬ (1 ≤ (f (i + 1)).toInt ∧ (f (i + 1)).toInt ≤ 3 ∧ (0 ≤ (f (i + 2)).toInt ∧ (f (i + 2)).toInt < 65536)) ∧ u.1 = .inl (some (.int (Int32.ofNat 0))) ∧ et_pl (eg_at u.2.1 am) 0 = some (.int (Int32.ofNat 1))) ∨ ∃ k, (((f (i + 1)) = Int32.ofNat k ∧ 1 ≤ k ∧ k ≤ 3) ∧ (0 ≤ (f (i + 2)).toInt ∧ (f (i + 2)).toInt < 65536)) ∧ u.1 = .inl (some (.int (Int32.ofNat (if k ≤ nyE V_ (f (i + 2)) (cn 4) then 1 else 0)))) ∧ et_pl (eg_at u.2.1 am) 0 = some (.int (Int32.ofNat 0))) hu (fun v1462 K1462 G1462 c1462 s1462 x1462 f1462 hH hv1462 cl1462 sl1462 hQ => ?_))
    have zz_ := zz_.fr zk_ k_th hrc.1.1 hrc.1.2.1 f1462 (by decide +kernel)
    have zm_ := zm_.fr (fun n hn => zo_ n (by omega)) zka_ f1462 (by decide +kernel)
    have zi_ := zi_.fr (fun n hn => zo_ (3 + n) (by omega)) zki_ f1462 (by decide +kernel)
    have zk_ := zk_.ex x1462
    have zka_ := x1462 _ _ zka_
    have zki_ := x1462 _ _ zki_
    have hcq := hcq.fr x1462 hHo f1462 (by decide +kernel)
    have hky := hky.fr hHo k_am hrm.1.1 f1462 (by decide +kernel)
    have hty := hty.fr x1462 hHo f1462 (by decide +kernel)
    have hcy := hcy.fr x1462 f1462 (by decide +kernel)
    have hry := hry.fr hHo x1462 f1462 (by decide +kernel)
    have hci := hci.fr x1462 f1462 (by decide +kernel)
    have h3 := (f1462.2 th 12 k_th 3 rfl).trans h3
    have hl := (f1462.2 rd 7 k_rd 1 rfl).trans hl
    have hm := (f1462.2 am 13 k_am 5 rfl).trans hm
    have hp := (f1462.2 th 12 k_th 2 rfl).trans hp
    have hg := (f1462.2 am 13 k_am 3 rfl).trans hg
    have htC := htC.fr k_rd x1462 f1462 (by decide +kernel)
    have htM := htM.fr k_am x1462 f1462 (by decide +kernel)
    have hrc := hrc.fr k_th x1462 f1462 (by decide +kernel)
    have hrm := hrm.fr k_am x1462 f1462 (by decide +kernel)
    have ho := (f1462.2 out 31 k_out 0 rfl).trans ho
    have k_th := x1462 _ _ k_th
    have k_am := x1462 _ _ k_am
    have k_out := x1462 _ _ k_out
    have k_rd := x1462 _ _ k_rd
    rcases hQ with ⟨dx, ev2, ht⟩ | ⟨k1, ⟨⟨ek1, hk1, hm1⟩, hl1⟩, ev2, ht⟩
    · exact absurd (show _ ∧ _ ∧ _ from ⟨by rw [ek0, hs_nint (by omega)]; omega, by rw [ek0, hs_nint (by omega)]; omega, hl0⟩) dx
    · obtain rfl : k0 = k1 := (hs_neq (by omega) (by omega)).mp (ek0.symm.trans ek1)
      cases ev2
      have hzy : zy K1462 G1462 th s0 s1 aw ai (cn 4) (im 4) := ⟨ya_, yb_, O_, A_, V_, ⟨zk_, zka_, zki_⟩, zz_, zo_, zm_, zi_⟩
      show et_go _ _ 1000 1465 [some (.ref 150), some (.ref th), some (.ref am), some (.ref out), some (.int (Int32.ofNat i)), some (.int (Int32.ofNat 0)), x6] [.int (Int32.ofNat (if k0 ≤ nyE V_ (f (i + 2)) (cn 4) then 1 else 0))] _ ((ck + c1444) + c1462) ((sk + s1444) + s1462) _
      refine ls_istore (i := 6) (p := 1467) (by decide +kernel) (Nat.le_of_ble_eq_true rfl) ?_
      refine ls_goto (p := 1663) (by decide +kernel) ?_
      exact hN _ _ c h _ _ _ _ _ _ ⟨⟨hH, hci, k_th, k_am, k_out, h3, k_rd, hl, hm, hc⟩, ⟨hh1, hp, hg⟩, hrc, hrm, hbc, hbi, ⟨hry, hcy, hty, hzy, hky, hcq.le (by first | exact Nat.le_refl _ | exact Nat.le_succ _) (by first | exact Nat.le_refl _ | exact Nat.le_succ _)⟩, _, htC, htM, htb⟩ (by omega) (by omega)
set_option maxHeartbeats 2000000 in
theorem lw_c33 (hI : lw_I K G th am out rd s0 s1 aw ai tp ba na tm c h cn im) (hi : i + 6 ≤ n) (hn : n ≤ 3072) (hN : ∀ (K' : et_K) (G' : eg_G) (c' h' : Nat) (cn' im' : Nat → Nat) (ck' sk' : Nat) (y5 y6 : Option Value), lw_I K' G' th am out rd s0 s1 aw ai tp ba na tm c' h' cn' im' → ck' ≤ ck + 841 → sk' ≤ sk + 7168 → et_go (some (n, f)) (d + 41) 1000 1663 [some (.ref 150), some (.ref th), some (.ref am), some (.ref out), some (.int (Int32.ofNat i)), y5, y6] [] G' ck' sk' Z) : et_go (some (n, f)) (d + 41) 1000 1470 [some (.ref 150), some (.ref th), some (.ref am), some (.ref out), some (.int (Int32.ofNat i)), x5, x6] [] G ck sk Z := by
  obtain ⟨⟨hH, hci, k_th, k_am, k_out, h3, k_rd, hl, hm, hc⟩, ⟨hh1, hp, hg⟩, hrc, hrm, hbc, hbi, ⟨hry, hcy, hty, hzy, hky, hcq⟩, tb, htC, htM, htb⟩ := hI
  refine ls_aload (i := 1) (p := 1471) (by decide +kernel) rfl ?_
  refine lt_callv (T := et_TT) (t := 12) (mi := 123) (na := 0) (ci := 10) (lk := 7) (lm := 4) (L0 := eg_en (eg_mL 123) [.ref th]) (by decide +kernel) rfl hH k_th rfl rfl rfl rfl rfl (by rw [show eg_mL 123 = 4 from by decide +kernel]; first | done | rfl) ?_
  have hHo := hH
  have b4 : cn 4 ≤ 3 := Int.ofNat_le.mp (hf_bd (t := 10) hH hrc.1.1 rfl rfl (hrc.2.2 (5, 4) (by decide)).1 (hbc 4))
  have b3 : cn 3 ≤ 20 := Int.ofNat_le.mp (hf_bd (t := 10) hH hrc.1.1 rfl rfl (hrc.2.2 (2, 3) (by decide)).1 (hbc 3))
  obtain ⟨la0, ya0, la1, ya1, X_, X2_, Y_, Y2_, tk_, bk_, ⟨hcc_, hcr_⟩, hcd_, hcs_⟩ := id hcy
  obtain ⟨ya_, yb_, O_, A_, V_, ⟨zk_, zka_, zki_⟩, zz_, zo_, zm_, zi_⟩ := hzy
  refine ((ek_p123_ok (K, [], G) [.ref th] _ hH (by omega) rfl (ht_ac (.inr ⟨by decide, _, rfl, k_th⟩) ht_an)).and ((fc_layer k_th hrc.2.1.1 hH hrc.1.1 (hrc.2.2 (5, 4) (by decide)).1 b4 zk_ zz_ zo_ (hrc.2.2 (2, 3) (by decide)).1 b3 hcc_ tk_.2.1.1 tk_.2.1.2.1 (by omega)).mono (fun u (hu : u = _) => (by rw [hu] : u.1 = .inl (some (.int (lyV V_ X_ Y_ (cn 4) (cn 3)))))))).mono (fun u hu => ls_cbvQ (Q := fun u => u.1 = .inl (some (.int (lyV V_ X_ Y_ (cn 4) (cn 3))))) hu (fun v1471 K1471 G1471 c1471 s1471 x1471 f1471 hH hv1471 cl1471 sl1471 hQ => ?_))
  have zz_ := zz_.fr zk_ k_th hrc.1.1 hrc.1.2.1 f1471 (by decide +kernel)
  have zm_ := zm_.fr (fun n hn => zo_ n (by omega)) zka_ f1471 (by decide +kernel)
  have zi_ := zi_.fr (fun n hn => zo_ (3 + n) (by omega)) zki_ f1471 (by decide +kernel)
  have zk_ := zk_.ex x1471
  have zka_ := x1471 _ _ zka_
  have zki_ := x1471 _ _ zki_
  have hcr_ := hcr_.fr bk_.1 tk_.2.2.1.1 f1471 (by decide +kernel)
  have hcq := hcq.fr x1471 hHo f1471 (by decide +kernel)
  have hky := hky.fr hHo k_am hrm.1.1 f1471 (by decide +kernel)
  have hty := hty.fr x1471 hHo f1471 (by decide +kernel)
  have hcy := hcy.fr x1471 f1471 (by decide +kernel)
  have hry := hry.fr hHo x1471 f1471 (by decide +kernel)
  have hci := hci.fr x1471 f1471 (by decide +kernel)
  have h3 := (f1471.2 th 12 k_th 3 rfl).trans h3
  have hl := (f1471.2 rd 7 k_rd 1 rfl).trans hl
  have hm := (f1471.2 am 13 k_am 5 rfl).trans hm
  have hp := (f1471.2 th 12 k_th 2 rfl).trans hp
  have hg := (f1471.2 am 13 k_am 3 rfl).trans hg
  have htC := htC.fr k_rd x1471 f1471 (by decide +kernel)
  have htM := htM.fr k_am x1471 f1471 (by decide +kernel)
  have hrc := hrc.fr k_th x1471 f1471 (by decide +kernel)
  have hrm := hrm.fr k_am x1471 f1471 (by decide +kernel)
  have k_th := x1471 _ _ k_th
  have k_am := x1471 _ _ k_am
  have k_out := x1471 _ _ k_out
  have k_rd := x1471 _ _ k_rd
  have hQ : (Sum.inl (some v1471) : eg_R) = .inl (some (.int (lyV V_ X_ Y_ (cn 4) (cn 3)))) := hQ
  cases hQ
  show et_go _ _ 1000 1474 [some (.ref 150), some (.ref th), some (.ref am), some (.ref out), some (.int (Int32.ofNat i)), x5, x6] [.int (lyV V_ X_ Y_ (cn 4) (cn 3))] _ (ck + c1471) (sk + s1471) _
  refine ls_pop (p := 1475) (by decide +kernel) ?_
  refine ls_aload (i := 2) (p := 1476) (by decide +kernel) rfl ?_
  refine lt_callv (T := et_TT) (t := 13) (mi := 287) (na := 0) (ci := 11) (lk := 7) (lm := 4) (L0 := eg_en (eg_mL 287) [.ref am]) (by decide +kernel) rfl hH k_am rfl rfl rfl rfl rfl (by rw [show eg_mL 287 = 4 from by decide +kernel]; first | done | rfl) ?_
  have hHo := hH
  refine ((er_p287_ok (K1471, [], G1471) [.ref am] _ hH (by omega) rfl (ht_ac (.inr ⟨by decide, _, rfl, k_am⟩) ht_an)).and (fn_layer hH k_am hrm.1.1 hrm.2.1.1 (hrm.2.2 (5, 4) (by decide)).1 b4 zm_ (fun n hn => zo_ n (by omega)) (hrm.2.2 (2, 3) (by decide)).1 b3 hcr_ (by omega))).mono (fun u hu => ls_cbvQ (Q := fun u => u.1 = .inl (some (.int (lyV V_ X_ Y_ (cn 4) (cn 3)))) ∧ et_pl (eg_at u.2.1 am) 0 = some (.int (Int32.ofNat 0))) hu (fun v1476 K1476 G1476 c1476 s1476 x1476 f1476 hH hv1476 cl1476 sl1476 hQ => ?_))
  have zi_ := zi_.fr (fun n hn => zo_ (3 + n) (by omega)) zki_ f1476 (by decide +kernel)
  have zz_ := zz_.fr zk_ k_th hrc.1.1 hrc.1.2.1 f1476 (by decide +kernel)
  have zm_ := zm_.fr (fun n hn => zo_ n (by omega)) zka_ f1476 (by decide +kernel)
  have zk_ := zk_.ex x1476
  have zka_ := x1476 _ _ zka_
  have zki_ := x1476 _ _ zki_
  have hzy : zy K1476 G1476 th s0 s1 aw ai (cn 4) (im 4) := ⟨ya_, yb_, O_, A_, V_, ⟨zk_, zka_, zki_⟩, zz_, zo_, zm_, zi_⟩
  have hcq := hcq.fr x1476 hHo f1476 (by decide +kernel)
  have hky := hky.fr hHo k_am hrm.1.1 f1476 (by decide +kernel)
  have hty := hty.fr x1476 hHo f1476 (by decide +kernel)
  have hcy := hcy.fr x1476 f1476 (by decide +kernel)
  have hry := hry.fr hHo x1476 f1476 (by decide +kernel)
  have hci := hci.fr x1476 f1476 (by decide +kernel)
  have h3 := (f1476.2 th 12 k_th 3 rfl).trans h3
  have hl := (f1476.2 rd 7 k_rd 1 rfl).trans hl
  have hm := (f1476.2 am 13 k_am 5 rfl).trans hm
  have hp := (f1476.2 th 12 k_th 2 rfl).trans hp
  have hg := (f1476.2 am 13 k_am 3 rfl).trans hg
  have htC := htC.fr k_rd x1476 f1476 (by decide +kernel)
  have htM := htM.fr k_am x1476 f1476 (by decide +kernel)
  have hrc := hrc.fr k_th x1476 f1476 (by decide +kernel)
  have hrm := hrm.fr k_am x1476 f1476 (by decide +kernel)
  have k_th := x1476 _ _ k_th
  have k_am := x1476 _ _ k_am
  have k_out := x1476 _ _ k_out
  have k_rd := x1476 _ _ k_rd
  obtain ⟨ev2, ht⟩ := hQ
  have ev2 : (Sum.inl (some v1476) : eg_R) = .inl (some (.int (lyV V_ X_ Y_ (cn 4) (cn 3)))) := ev2
  cases ev2
  show et_go _ _ 1000 1479 [some (.ref 150), some (.ref th), some (.ref am), some (.ref out), some (.int (Int32.ofNat i)), x5, x6] [.int (lyV V_ X_ Y_ (cn 4) (cn 3))] _ ((ck + c1471) + c1476) ((sk + s1471) + s1476) _
  refine ls_pop (p := 1480) (by decide +kernel) ?_
  refine ls_goto (p := 1663) (by decide +kernel) ?_
  exact hN _ _ c h _ _ _ _ _ _ ⟨⟨hH, hci, k_th, k_am, k_out, h3, k_rd, hl, hm, hc⟩, ⟨hh1, hp, hg⟩, hrc, hrm, hbc, hbi, ⟨hry, hcy, hty, hzy, hky, hcq.le (by first | exact Nat.le_refl _ | exact Nat.le_succ _) (by first | exact Nat.le_refl _ | exact Nat.le_succ _)⟩, _, htC, htM, htb⟩ (by omega) (by omega)
set_option maxHeartbeats 2000000 in
theorem lw_c34 (hI : lw_I K G th am out rd s0 s1 aw ai tp ba na tm c h cn im) (hi : i + 6 ≤ n) (hn : n ≤ 3072) (hN : ∀ (K' : et_K) (G' : eg_G) (c' h' : Nat) (cn' im' : Nat → Nat) (ck' sk' : Nat) (y5 y6 : Option Value), lw_I K' G' th am out rd s0 s1 aw ai tp ba na tm c' h' cn' im' → ck' ≤ ck + 841 → sk' ≤ sk + 7168 → et_go (some (n, f)) (d + 41) 1000 1663 [some (.ref 150), some (.ref th), some (.ref am), some (.ref out), some (.int (Int32.ofNat i)), y5, y6] [] G' ck' sk' Z) : et_go (some (n, f)) (d + 41) 1000 1483 [some (.ref 150), some (.ref th), some (.ref am), some (.ref out), some (.int (Int32.ofNat i)), x5, x6] [] G ck sk Z := by
  obtain ⟨⟨hH, hci, k_th, k_am, k_out, h3, k_rd, hl, hm, hc⟩, ⟨hh1, hp, hg⟩, hrc, hrm, hbc, hbi, ⟨hry, hcy, hty, hzy, hky, hcq⟩, tb, htC, htM, htb⟩ := hI
  refine ls_aload (i := 1) (p := 1484) (by decide +kernel) rfl ?_
  refine ls_arg (j := 1) (by decide +kernel) (by omega) hn ?_
  refine ls_arg (j := 2) (by decide +kernel) (by omega) hn ?_
  refine ls_arg (j := 3) (by decide +kernel) (by omega) hn ?_
  refine ls_bool (by decide +kernel) (fun b1502 hb1502 hbe1502 => ?_)
  refine ls_aload (i := 3) (p := 1511) (by decide +kernel) rfl ?_
  refine ls_calls (mi := 28) (na := 5) (lk := 7) (lm := 6) (L0 := eg_en (eg_mL 28) [.ref th, .int (f (i + 1)), .int (f (i + 2)), .int (Int32.ofNat b1502), .ref out]) (by decide +kernel) rfl rfl rfl rfl rfl rfl (by rw [show eg_mL 28 = 6 from by decide +kernel]; first | done | rfl) ?_
  have hHo := hH
  refine (hh_c28 (K, [], G) [.ref th, .int (f (i + 1)), .int (f (i + 2)), .int (Int32.ofNat b1502), .ref out] _ hH (by omega) rfl (ht_ac (.inr ⟨by decide, _, rfl, k_th⟩) (ht_ac hi_any (ht_ac hi_any (ht_ac (hi_nv (by omega) (by omega)) (ht_ac (.inr ⟨by decide, _, rfl, k_out⟩) ht_an)))))).mono (fun u hu => ls_cbv hu (fun v1511 K1511 G1511 c1511 s1511 x1511 f1511 hH hv1511 cl1511 sl1511 => ?_))
  have hcq := hcq.fr x1511 hHo f1511 (by decide +kernel)
  have hky := hky.fr hHo k_am hrm.1.1 f1511 (by decide +kernel)
  have hzy := hzy.fr k_th hrc.1.1 hrc.1.2.1 x1511 f1511 (by decide +kernel)
  have hty := hty.fr x1511 hHo f1511 (by decide +kernel)
  have hcy := hcy.fr x1511 f1511 (by decide +kernel)
  have hry := hry.fr hHo x1511 f1511 (by decide +kernel)
  have hci := hci.fr x1511 f1511 (by decide +kernel)
  have h3 := (f1511.2 th 12 k_th 3 rfl).trans h3
  have hl := (f1511.2 rd 7 k_rd 1 rfl).trans hl
  have hm := (f1511.2 am 13 k_am 5 rfl).trans hm
  have hp := (f1511.2 th 12 k_th 2 rfl).trans hp
  have hg := (f1511.2 am 13 k_am 3 rfl).trans hg
  have htC := htC.fr k_rd x1511 f1511 (by decide +kernel)
  have htM := htM.fr k_am x1511 f1511 (by decide +kernel)
  have hrc := hrc.fr k_th x1511 f1511 (by decide +kernel)
  have hrm := hrm.fr k_am x1511 f1511 (by decide +kernel)
  have k_th := x1511 _ _ k_th
  have k_am := x1511 _ _ k_am
  have k_out := x1511 _ _ k_out
  have k_rd := x1511 _ _ k_rd
  obtain ⟨v1511, rfl, -⟩ := hv1511
  show et_go _ _ 1000 1514 [some (.ref 150), some (.ref th), some (.ref am), some (.ref out), some (.int (Int32.ofNat i)), x5, x6] [.int v1511] _ (ck + c1511) (sk + s1511) _
  refine ls_istore (i := 5) (p := 1516) (by decide +kernel) (Nat.le_of_ble_eq_true rfl) ?_
  refine ls_aload (i := 2) (p := 1517) (by decide +kernel) rfl ?_
  refine ls_arg (j := 1) (by decide +kernel) (by omega) hn ?_
  refine ls_arg (j := 2) (by decide +kernel) (by omega) hn ?_
  refine ls_arg (j := 3) (by decide +kernel) (by omega) hn ?_
  refine ls_bool (by decide +kernel) (fun b1535 hb1535 hbe1535 => ?_)
  refine lt_callv (T := et_TT) (t := 13) (mi := 288) (na := 3) (ci := 11) (lk := 7) (lm := 8) (L0 := eg_en (eg_mL 288) [.ref am, .int (f (i + 1)), .int (f (i + 2)), .int (Int32.ofNat b1535)]) (by decide +kernel) rfl hH k_am rfl rfl rfl rfl rfl (by rw [show eg_mL 288 = 8 from by decide +kernel]; first | done | rfl) ?_
  have hHo := hH
  refine (er_p288_ok (K1511, [], G1511) [.ref am, .int (f (i + 1)), .int (f (i + 2)), .int (Int32.ofNat b1535)] _ hH (by omega) rfl (ht_ac (.inr ⟨by decide, _, rfl, k_am⟩) (ht_ac hi_any (ht_ac hi_any (ht_ac (hi_nv (by omega) (by omega)) ht_an))))).mono (fun u hu => ls_cbv hu (fun v1543 K1543 G1543 c1543 s1543 x1543 f1543 hH hv1543 cl1543 sl1543 => ?_))
  have hcq := hcq.fr x1543 hHo f1543 (by decide +kernel)
  have hky := hky.fr hHo k_am hrm.1.1 f1543 (by decide +kernel)
  have hzy := hzy.fr k_th hrc.1.1 hrc.1.2.1 x1543 f1543 (by decide +kernel)
  have hty := hty.fr x1543 hHo f1543 (by decide +kernel)
  have hcy := hcy.fr x1543 f1543 (by decide +kernel)
  have hry := hry.fr hHo x1543 f1543 (by decide +kernel)
  have hci := hci.fr x1543 f1543 (by decide +kernel)
  have h3 := (f1543.2 th 12 k_th 3 rfl).trans h3
  have hl := (f1543.2 rd 7 k_rd 1 rfl).trans hl
  have hm := (f1543.2 am 13 k_am 5 rfl).trans hm
  have hp := (f1543.2 th 12 k_th 2 rfl).trans hp
  have hg := (f1543.2 am 13 k_am 3 rfl).trans hg
  have htC := htC.fr k_rd x1543 f1543 (by decide +kernel)
  have htM := htM.fr k_am x1543 f1543 (by decide +kernel)
  have hrc := hrc.fr k_th x1543 f1543 (by decide +kernel)
  have hrm := hrm.fr k_am x1543 f1543 (by decide +kernel)
  have k_th := x1543 _ _ k_th
  have k_am := x1543 _ _ k_am
  have k_out := x1543 _ _ k_out
  have k_rd := x1543 _ _ k_rd
  obtain ⟨v1543, rfl, -⟩ := hv1543
  show et_go _ _ 1000 1546 [some (.ref 150), some (.ref th), some (.ref am), some (.ref out), some (.int (Int32.ofNat i)), some (.int v1511), x6] [.int v1543] _ ((ck + c1511) + c1543) ((sk + s1511) + s1543) _
  refine ls_istore (i := 6) (p := 1548) (by decide +kernel) (Nat.le_of_ble_eq_true rfl) ?_
  refine ls_goto (p := 1663) (by decide +kernel) ?_
  exact hN _ _ c h _ _ _ _ _ _ ⟨⟨hH, hci, k_th, k_am, k_out, h3, k_rd, hl, hm, hc⟩, ⟨hh1, hp, hg⟩, hrc, hrm, hbc, hbi, ⟨hry, hcy, hty, hzy, hky, hcq.le (by first | exact Nat.le_refl _ | exact Nat.le_succ _) (by first | exact Nat.le_refl _ | exact Nat.le_succ _)⟩, _, htC, htM, htb⟩ (by omega) (by omega)
set_option maxHeartbeats 2000000 in
theorem lw_c35 (hI : lw_I K G th am out rd s0 s1 aw ai tp ba na tm c h cn im) (hi : i + 6 ≤ n) (hn : n ≤ 3072) (hN : ∀ (K' : et_K) (G' : eg_G) (c' h' : Nat) (cn' im' : Nat → Nat) (ck' sk' : Nat) (y5 y6 : Option Value), lw_I K' G' th am out rd s0 s1 aw ai tp ba na tm c' h' cn' im' → ck' ≤ ck + 841 → sk' ≤ sk + 7168 → et_go (some (n, f)) (d + 41) 1000 1663 [some (.ref 150), some (.ref th), some (.ref am), some (.ref out), some (.int (Int32.ofNat i)), y5, y6] [] G' ck' sk' Z) : et_go (some (n, f)) (d + 41) 1000 1551 [some (.ref 150), some (.ref th), some (.ref am), some (.ref out), some (.int (Int32.ofNat i)), x5, x6] [] G ck sk Z := by
  obtain ⟨⟨hH, hci, k_th, k_am, k_out, h3, k_rd, hl, hm, hc⟩, ⟨hh1, hp, hg⟩, hrc, hrm, hbc, hbi, ⟨hry, hcy, hty, hzy, hky, hcq⟩, tb, htC, htM, htb⟩ := hI
  refine ls_aload (i := 1) (p := 1552) (by decide +kernel) rfl ?_
  refine ls_arg (j := 1) (by decide +kernel) (by omega) hn ?_
  refine ls_aload (i := 3) (p := 1559) (by decide +kernel) rfl ?_
  refine ls_calls (mi := 29) (na := 3) (lk := 7) (lm := 4) (L0 := eg_en (eg_mL 29) [.ref th, .int (f (i + 1)), .ref out]) (by decide +kernel) rfl rfl rfl rfl rfl rfl (by rw [show eg_mL 29 = 4 from by decide +kernel]; first | done | rfl) ?_
  have hHo := hH
  have b4 : cn 4 ≤ 3 := Int.ofNat_le.mp (hf_bd (t := 10) hH hrc.1.1 rfl rfl (hrc.2.2 (5, 4) (by decide)).1 (hbc 4))
  have b0 : cn 0 ≤ 4 := Int.ofNat_le.mp (hf_bd (t := 10) hH hrc.1.1 rfl rfl (hrc.2.2 (0, 0) (by decide)).1 (hbc 0))
  have b4 : cn 4 ≤ 3 := Int.ofNat_le.mp (hf_bd (t := 10) hH hrc.1.1 rfl rfl (hrc.2.2 (5, 4) (by decide)).1 (hbc 4))
  obtain ⟨D_, φ_, R0_, R1_, r0_, r1_, fo_, t_, kk_, hx_, ho_⟩ := hry
  have hR_ := fun (k : Nat) (hk : k < cn 0) => And.intro (ho_.2.1 k hk).1 (ho_.2.1 k hk).2.1
  have b3 : cn 3 ≤ 20 := Int.ofNat_le.mp (hf_bd (t := 10) hH hrc.1.1 rfl rfl (hrc.2.2 (2, 3) (by decide)).1 (hbc 3))
  obtain ⟨la0, ya0, la1, ya1, X_, X2_, Y_, Y2_, tk_, bk_, ⟨hcc_, hcr_⟩, hcd_, hcs_⟩ := id hcy
  obtain ⟨ca_, cb_, Ta_, Tb_, La_, Lb_, cK_, ⟨cp0_, cp1_⟩, ⟨cc6_, ci6_⟩, ⟨cE_, cX_⟩, cE1_, cX1_⟩ := id hcq
  obtain ⟨ya_, yb_, O_, A_, V_, ⟨zk_, zka_, zki_⟩, zz_, zo_, zm_, zi_⟩ := hzy
  refine ((hh_c29 (K, [], G) [.ref th, .int (f (i + 1)), .ref out] _ hH (by omega) rfl (ht_ac (.inr ⟨by decide, _, rfl, k_th⟩) (ht_ac hi_any (ht_ac (.inr ⟨by decide, _, rfl, k_out⟩) ht_an)))).and ((fh_29 t_ hH k_out hx_ (by omega)).and (fz_ho (R0 := R0_) hH k_th hrc.2.1.1 hrc.1.1 hrc.1.2.1 (hrc.2.2 (5, 4) (by decide)).1 b4 zk_ zz_ zo_ (hrc.2.2 (2, 3) (by decide)).1 b3 hcc_ tk_.2.1.1 tk_.2.1.2.1 k_out t_ hx_ hR_ (hrc.2.2 (9, 2) (by decide)).1 cc6_ cp0_ cK_.1.2.2.1 cE_ (by omega)))).mono (fun u hu => ls_cbvQ (Q := fun u => rx D_ φ_ th s0 r0_ (cn 0) fo_ u.2.1 ∧ ((¬ xr (f (i + 1)) (cn 2) ∧ u.1 = .inl (some (.int (Int32.ofNat 1)))) ∨ ∃ k, ((f (i + 1)) = Int32.ofNat k ∧ k < cn 2) ∧ u.1 = .inl (some (.int (Int32.ofNat 0))) ∧ et_pl (eg_at u.2.1 out) 0 = some (.long (Int64.ofNat (if (clV (La_ k).2.2 (φ_ (R0_ (La_ k).2.1)) (V_ (La_ k).1) X_ Y_ (cn 3)) = true then 1 else 0))))) hu (fun v1559 K1559 G1559 c1559 s1559 x1559 f1559 hH hv1559 cl1559 sl1559 hQ => ?_))
  have zz_ := zz_.fr zk_ k_th hrc.1.1 hrc.1.2.1 f1559 (by decide +kernel)
  have zm_ := zm_.fr (fun n hn => zo_ n (by omega)) zka_ f1559 (by decide +kernel)
  have zi_ := zi_.fr (fun n hn => zo_ (3 + n) (by omega)) zki_ f1559 (by decide +kernel)
  have zk_ := zk_.ex x1559
  have zka_ := x1559 _ _ zka_
  have zki_ := x1559 _ _ zki_
  obtain ⟨hQr, hQ⟩ := hQ
  have ho2_ := ho_.fr kk_ f1559 (by decide +kernel)
  have hry : ry K1559 G1559 th s0 s1 aw ai (cn 0) (im 0) := ⟨D_, φ_, R0_, R1_, r0_, r1_, fo_, t_.ex x1559, kk_.ex x1559, hQr, ho2_⟩
  have hT_ := fun (k : Nat) (hk : k < cn 0) => And.intro (ho2_.2.1 k hk).2.2 (t_.1 _ (ho2_.2.1 k hk).1).2
  have cX2_ := cX_.fr cK_.2.1.1 cc6_ f1559 (by decide +kernel) (by decide +kernel)
  have cB_ := fun (k : Nat) (hk : k < cn 2) => (cE_ k hk).2
  have hcr_ := hcr_.fr bk_.1 tk_.2.2.1.1 f1559 (by decide +kernel)
  have hcq := hcq.fr x1559 hHo f1559 (by decide +kernel)
  have hky := hky.fr hHo k_am hrm.1.1 f1559 (by decide +kernel)
  have hty := hty.fr x1559 hHo f1559 (by decide +kernel)
  have hcy := hcy.fr x1559 f1559 (by decide +kernel)
  have hci := hci.fr x1559 f1559 (by decide +kernel)
  have h3 := (f1559.2 th 12 k_th 3 rfl).trans h3
  have hl := (f1559.2 rd 7 k_rd 1 rfl).trans hl
  have hm := (f1559.2 am 13 k_am 5 rfl).trans hm
  have hp := (f1559.2 th 12 k_th 2 rfl).trans hp
  have hg := (f1559.2 am 13 k_am 3 rfl).trans hg
  have htC := htC.fr k_rd x1559 f1559 (by decide +kernel)
  have htM := htM.fr k_am x1559 f1559 (by decide +kernel)
  have hrc := hrc.fr k_th x1559 f1559 (by decide +kernel)
  have hrm := hrm.fr k_am x1559 f1559 (by decide +kernel)
  have k_th := x1559 _ _ k_th
  have k_am := x1559 _ _ k_am
  have k_out := x1559 _ _ k_out
  have k_rd := x1559 _ _ k_rd
  rcases hQ with ⟨cx, ev⟩ | ⟨k0, ⟨ek0, hk0⟩, ev, ho⟩
  · cases ev
    show et_go _ _ 1000 1562 [some (.ref 150), some (.ref th), some (.ref am), some (.ref out), some (.int (Int32.ofNat i)), x5, x6] [.int (Int32.ofNat 1)] _ (ck + c1559) (sk + s1559) _
    refine ls_istore (i := 5) (p := 1564) (by decide +kernel) (Nat.le_of_ble_eq_true rfl) ?_
    refine ls_aload (i := 2) (p := 1565) (by decide +kernel) rfl ?_
    refine ls_arg (j := 1) (by decide +kernel) (by omega) hn ?_
    refine lt_callv (T := et_TT) (t := 13) (mi := 291) (na := 1) (ci := 11) (lk := 7) (lm := 2) (L0 := eg_en (eg_mL 291) [.ref am, .int (f (i + 1))]) (by decide +kernel) rfl hH k_am rfl rfl rfl rfl rfl (by rw [show eg_mL 291 = 2 from by decide +kernel]; first | done | rfl) ?_
    have hHo := hH
    have b0 : cn 0 ≤ 4 := Int.ofNat_le.mp (hf_bd (t := 10) hH hrc.1.1 rfl rfl (hrc.2.2 (0, 0) (by decide)).1 (hbc 0))
    have b4 : cn 4 ≤ 3 := Int.ofNat_le.mp (hf_bd (t := 10) hH hrc.1.1 rfl rfl (hrc.2.2 (5, 4) (by decide)).1 (hbc 4))
    have hrt_ := hry.rt
    refine ((er_p291_ok (K1559, [], G1559) [.ref am, .int (f (i + 1))] _ hH (by omega) rfl (ht_ac (.inr ⟨by decide, _, rfl, k_am⟩) (ht_ac hi_any ht_an))).and ((fk_291 hH k_am hrm.1.1 hrm.2.1.1 b0 ⟨hky, hrt_⟩ (by omega)).and (gz_ho (g := fun n => φ_ (R0_ n)) hH k_am hrm.1.1 hrm.2.1.1 (hrm.2.2 (0, 0) (by decide)).1 b0 (hrm.2.2 (5, 4) (by decide)).1 b4 zm_ (fun n hn => zo_ n (by omega)) hT_ hky (hrm.2.2 (2, 3) (by decide)).1 b3 hcr_ (hrm.2.2 (9, 2) (by decide)).1 cc6_ cX2_ cB_ (by omega)))).mono (fun u hu => ls_cbvQ (Q := fun u => kyB u.2.1 am aw (cn 0) ∧ ((¬ xr (f (i + 1)) (cn 2) ∧ u.1 = .inl (some (.int (Int32.ofNat 0))) ∧ et_pl (eg_at u.2.1 am) 0 = some (.int (Int32.ofNat 1))) ∨ ∃ k, ((f (i + 1)) = Int32.ofNat k ∧ k < cn 2) ∧ u.1 = .inl (some (.int (Int32.ofNat (if (clV (La_ k).2.2 (φ_ (R0_ (La_ k).2.1)) (V_ (La_ k).1) X_ Y_ (cn 3)) = true then 1 else 0)))) ∧ et_pl (eg_at u.2.1 am) 0 = some (.int (Int32.ofNat 0)))) hu (fun v1571 K1571 G1571 c1571 s1571 x1571 f1571 hH hv1571 cl1571 sl1571 hQ => ?_))
    have zz_ := zz_.fr zk_ k_th hrc.1.1 hrc.1.2.1 f1571 (by decide +kernel)
    have zm_ := zm_.fr (fun n hn => zo_ n (by omega)) zka_ f1571 (by decide +kernel)
    have zi_ := zi_.fr (fun n hn => zo_ (3 + n) (by omega)) zki_ f1571 (by decide +kernel)
    have zk_ := zk_.ex x1571
    have zka_ := x1571 _ _ zka_
    have zki_ := x1571 _ _ zki_
    have hcq := hcq.fr x1571 hHo f1571 (by decide +kernel)
    have hty := hty.fr x1571 hHo f1571 (by decide +kernel)
    have hcy := hcy.fr x1571 f1571 (by decide +kernel)
    have hry := hry.fr hHo x1571 f1571 (by decide +kernel)
    have hci := hci.fr x1571 f1571 (by decide +kernel)
    have h3 := (f1571.2 th 12 k_th 3 rfl).trans h3
    have hl := (f1571.2 rd 7 k_rd 1 rfl).trans hl
    have hm := (f1571.2 am 13 k_am 5 rfl).trans hm
    have hp := (f1571.2 th 12 k_th 2 rfl).trans hp
    have hg := (f1571.2 am 13 k_am 3 rfl).trans hg
    have htC := htC.fr k_rd x1571 f1571 (by decide +kernel)
    have htM := htM.fr k_am x1571 f1571 (by decide +kernel)
    have hrc := hrc.fr k_th x1571 f1571 (by decide +kernel)
    have hrm := hrm.fr k_am x1571 f1571 (by decide +kernel)
    have k_th := x1571 _ _ k_th
    have k_am := x1571 _ _ k_am
    have k_out := x1571 _ _ k_out
    have k_rd := x1571 _ _ k_rd
    rcases hQ with ⟨⟨hky, -⟩, ⟨dx, ev2, ht⟩ | ⟨k1, ⟨ek1, hk1⟩, ev2, ht⟩⟩
    · cases ev2
      have hzy : zy K1571 G1571 th s0 s1 aw ai (cn 4) (im 4) := ⟨ya_, yb_, O_, A_, V_, ⟨zk_, zka_, zki_⟩, zz_, zo_, zm_, zi_⟩
      show et_go _ _ 1000 1574 [some (.ref 150), some (.ref th), some (.ref am), some (.ref out), some (.int (Int32.ofNat i)), some (.int (Int32.ofNat 1)), x6] [.int (Int32.ofNat 0)] _ ((ck + c1559) + c1571) ((sk + s1559) + s1571) _
      refine ls_istore (i := 6) (p := 1576) (by decide +kernel) (Nat.le_of_ble_eq_true rfl) ?_
      refine ls_aload (i := 2) (p := 1577) (by decide +kernel) rfl ?_
      refine lt_callv (T := et_TT) (t := 13) (mi := 315) (na := 0) (ci := 11) (lk := 7) (lm := 1) (L0 := eg_en (eg_mL 315) [.ref am]) (by decide +kernel) rfl hH k_am rfl rfl rfl rfl rfl (by rw [show eg_mL 315 = 1 from by decide +kernel]; first | done | rfl) ?_
      refine (fm_thrown hH k_am ht).mono (fun u hu => ?_)
      obtain rfl : u = (.inl (some (.int (Int32.ofNat 1))), G1571, 0, 0) := hu
      refine ls_cb ?_
      show et_go _ _ 1000 1580 [some (.ref 150), some (.ref th), some (.ref am), some (.ref out), some (.int (Int32.ofNat i)), some (.int (Int32.ofNat 1)), some (.int (Int32.ofNat 0))] [.int (Int32.ofNat 1)] _ ((ck + c1559) + c1571) ((sk + s1559) + s1571) _
      refine ls_iload (i := 5) (p := 1582) (by decide +kernel) rfl ?_
      refine ls_br2 (c := .eq) (t := 1587) (f := 1585) (by decide +kernel) (fun _ => ?_) (fun hz => absurd (show ((Int32.ofNat 1) : Int32) = (Int32.ofNat 1) from rfl) hz)
      refine ls_iload (i := 5) (p := 1589) (by decide +kernel) rfl ?_
      refine ls_br1 (c := .ne) (t := 1611) (f := 1592) (by decide +kernel) (fun _ => ?_) (fun hz => absurd (show ¬ Int32.ofNat 1 = 0 by decide) hz)
      refine ls_goto (p := 1663) (by decide +kernel) ?_
      exact hN _ _ c h _ _ _ _ _ _ ⟨⟨hH, hci, k_th, k_am, k_out, h3, k_rd, hl, hm, hc⟩, ⟨hh1, hp, hg⟩, hrc, hrm, hbc, hbi, ⟨hry, hcy, hty, hzy, hky, hcq.le (by first | exact Nat.le_refl _ | exact Nat.le_succ _) (by first | exact Nat.le_refl _ | exact Nat.le_succ _)⟩, _, htC, htM, htb⟩ (by omega) (by omega)
    · exact absurd (xr_m ek1 hk1 (by omega)) cx
  · cases ev
    show et_go _ _ 1000 1562 [some (.ref 150), some (.ref th), some (.ref am), some (.ref out), some (.int (Int32.ofNat i)), x5, x6] [.int (Int32.ofNat 0)] _ (ck + c1559) (sk + s1559) _
    refine ls_istore (i := 5) (p := 1564) (by decide +kernel) (Nat.le_of_ble_eq_true rfl) ?_
    refine ls_aload (i := 2) (p := 1565) (by decide +kernel) rfl ?_
    refine ls_arg (j := 1) (by decide +kernel) (by omega) hn ?_
    refine lt_callv (T := et_TT) (t := 13) (mi := 291) (na := 1) (ci := 11) (lk := 7) (lm := 2) (L0 := eg_en (eg_mL 291) [.ref am, .int (f (i + 1))]) (by decide +kernel) rfl hH k_am rfl rfl rfl rfl rfl (by rw [show eg_mL 291 = 2 from by decide +kernel]; first | done | rfl) ?_
    have hHo := hH
    have b0 : cn 0 ≤ 4 := Int.ofNat_le.mp (hf_bd (t := 10) hH hrc.1.1 rfl rfl (hrc.2.2 (0, 0) (by decide)).1 (hbc 0))
    have b4 : cn 4 ≤ 3 := Int.ofNat_le.mp (hf_bd (t := 10) hH hrc.1.1 rfl rfl (hrc.2.2 (5, 4) (by decide)).1 (hbc 4))
    have hrt_ := hry.rt
    refine ((er_p291_ok (K1559, [], G1559) [.ref am, .int (f (i + 1))] _ hH (by omega) rfl (ht_ac (.inr ⟨by decide, _, rfl, k_am⟩) (ht_ac hi_any ht_an))).and ((fk_291 hH k_am hrm.1.1 hrm.2.1.1 b0 ⟨hky, hrt_⟩ (by omega)).and (gz_ho (g := fun n => φ_ (R0_ n)) hH k_am hrm.1.1 hrm.2.1.1 (hrm.2.2 (0, 0) (by decide)).1 b0 (hrm.2.2 (5, 4) (by decide)).1 b4 zm_ (fun n hn => zo_ n (by omega)) hT_ hky (hrm.2.2 (2, 3) (by decide)).1 b3 hcr_ (hrm.2.2 (9, 2) (by decide)).1 cc6_ cX2_ cB_ (by omega)))).mono (fun u hu => ls_cbvQ (Q := fun u => kyB u.2.1 am aw (cn 0) ∧ ((¬ xr (f (i + 1)) (cn 2) ∧ u.1 = .inl (some (.int (Int32.ofNat 0))) ∧ et_pl (eg_at u.2.1 am) 0 = some (.int (Int32.ofNat 1))) ∨ ∃ k, ((f (i + 1)) = Int32.ofNat k ∧ k < cn 2) ∧ u.1 = .inl (some (.int (Int32.ofNat (if (clV (La_ k).2.2 (φ_ (R0_ (La_ k).2.1)) (V_ (La_ k).1) X_ Y_ (cn 3)) = true then 1 else 0)))) ∧ et_pl (eg_at u.2.1 am) 0 = some (.int (Int32.ofNat 0)))) hu (fun v1571 K1571 G1571 c1571 s1571 x1571 f1571 hH hv1571 cl1571 sl1571 hQ => ?_))
    have zz_ := zz_.fr zk_ k_th hrc.1.1 hrc.1.2.1 f1571 (by decide +kernel)
    have zm_ := zm_.fr (fun n hn => zo_ n (by omega)) zka_ f1571 (by decide +kernel)
    have zi_ := zi_.fr (fun n hn => zo_ (3 + n) (by omega)) zki_ f1571 (by decide +kernel)
    have zk_ := zk_.ex x1571
    have zka_ := x1571 _ _ zka_
    have zki_ := x1571 _ _ zki_
    have hcq := hcq.fr x1571 hHo f1571 (by decide +kernel)
    have hty := hty.fr x1571 hHo f1571 (by decide +kernel)
    have hcy := hcy.fr x1571 f1571 (by decide +kernel)
    have hry := hry.fr hHo x1571 f1571 (by decide +kernel)
    have hci := hci.fr x1571 f1571 (by decide +kernel)
    have h3 := (f1571.2 th 12 k_th 3 rfl).trans h3
    have hl := (f1571.2 rd 7 k_rd 1 rfl).trans hl
    have hm := (f1571.2 am 13 k_am 5 rfl).trans hm
    have hp := (f1571.2 th 12 k_th 2 rfl).trans hp
    have hg := (f1571.2 am 13 k_am 3 rfl).trans hg
    have htC := htC.fr k_rd x1571 f1571 (by decide +kernel)
    have htM := htM.fr k_am x1571 f1571 (by decide +kernel)
    have hrc := hrc.fr k_th x1571 f1571 (by decide +kernel)
    have hrm := hrm.fr k_am x1571 f1571 (by decide +kernel)
    have ho := (f1571.2 out 31 k_out 0 rfl).trans ho
    have k_th := x1571 _ _ k_th
    have k_am := x1571 _ _ k_am
    have k_out := x1571 _ _ k_out
    have k_rd := x1571 _ _ k_rd
    rcases hQ with ⟨⟨hky, -⟩, ⟨dx, ev2, ht⟩ | ⟨k1, ⟨ek1, hk1⟩, ev2, ht⟩⟩
    · exact absurd (xr_m ek0 hk0 (by omega)) dx
    · obtain rfl : k0 = k1 := (hs_neq (by omega) (by omega)).mp (ek0.symm.trans ek1)
      cases ev2
      have hzy : zy K1571 G1571 th s0 s1 aw ai (cn 4) (im 4) := ⟨ya_, yb_, O_, A_, V_, ⟨zk_, zka_, zki_⟩, zz_, zo_, zm_, zi_⟩
      show et_go _ _ 1000 1574 [some (.ref 150), some (.ref th), some (.ref am), some (.ref out), some (.int (Int32.ofNat i)), some (.int (Int32.ofNat 0)), x6] [.int (Int32.ofNat (if (clV (La_ k0).2.2 (φ_ (R0_ (La_ k0).2.1)) (V_ (La_ k0).1) X_ Y_ (cn 3)) = true then 1 else 0))] _ ((ck + c1559) + c1571) ((sk + s1559) + s1571) _
      refine ls_istore (i := 6) (p := 1576) (by decide +kernel) (Nat.le_of_ble_eq_true rfl) ?_
      refine ls_aload (i := 2) (p := 1577) (by decide +kernel) rfl ?_
      refine lt_callv (T := et_TT) (t := 13) (mi := 315) (na := 0) (ci := 11) (lk := 7) (lm := 1) (L0 := eg_en (eg_mL 315) [.ref am]) (by decide +kernel) rfl hH k_am rfl rfl rfl rfl rfl (by rw [show eg_mL 315 = 1 from by decide +kernel]; first | done | rfl) ?_
      refine (fm_thrown hH k_am ht).mono (fun u hu => ?_)
      obtain rfl : u = (.inl (some (.int (Int32.ofNat 0))), G1571, 0, 0) := hu
      refine ls_cb ?_
      show et_go _ _ 1000 1580 [some (.ref 150), some (.ref th), some (.ref am), some (.ref out), some (.int (Int32.ofNat i)), some (.int (Int32.ofNat 0)), some (.int (Int32.ofNat (if (clV (La_ k0).2.2 (φ_ (R0_ (La_ k0).2.1)) (V_ (La_ k0).1) X_ Y_ (cn 3)) = true then 1 else 0)))] [.int (Int32.ofNat 0)] _ ((ck + c1559) + c1571) ((sk + s1559) + s1571) _
      refine ls_iload (i := 5) (p := 1582) (by decide +kernel) rfl ?_
      refine ls_br2 (c := .eq) (t := 1587) (f := 1585) (by decide +kernel) (fun _ => ?_) (fun hz => absurd (show ((Int32.ofNat 0) : Int32) = (Int32.ofNat 0) from rfl) hz)
      refine ls_iload (i := 5) (p := 1589) (by decide +kernel) rfl ?_
      refine ls_br1 (c := .ne) (t := 1611) (f := 1592) (by decide +kernel) (fun hz => absurd rfl hz) (fun _ => ?_)
      refine ls_aload (i := 3) (p := 1593) (by decide +kernel) rfl ?_
      refine ls_k (x := Int32.ofNat 0) (p := 1594) (by decide +kernel) ?_
      refine ls_lald (t := 31) (N := 1) (p := 1595) (by decide +kernel) rfl rfl hH k_out (by decide) ho ?_
      refine ls_iload (i := 6) (p := 1597) (by decide +kernel) rfl ?_
      by_cases hB_ : (clV (La_ k0).2.2 (φ_ (R0_ (La_ k0).2.1)) (V_ (La_ k0).1) X_ Y_ (cn 3)) = true
      · rw [if_pos hB_] at ho ⊢
        refine ls_br1 (c := .eq) (t := 1604) (f := 1600) (by decide +kernel) (fun hz => absurd hz (show ¬ Int32.ofNat 1 = 0 by decide)) (fun _ => ?_)
        refine ls_st (ins := .lconst 1) (len := 1) (p := 1601) (by decide +kernel) rfl rfl rfl ?_
        refine ls_goto (p := 1605) (by decide +kernel) ?_
        refine ls_st (ins := .lcmp) (len := 1) (p := 1606) (by decide +kernel) rfl rfl rfl ?_
        refine ls_br1 (c := .eq) (t := 1611) (f := 1609) (by decide +kernel) (fun _ => ?_) (fun hz => absurd (by first | exact lg_cmp0 _ | decide) hz)
        refine ls_goto (p := 1663) (by decide +kernel) ?_
        exact hN _ _ c h _ _ _ _ _ _ ⟨⟨hH, hci, k_th, k_am, k_out, h3, k_rd, hl, hm, hc⟩, ⟨hh1, hp, hg⟩, hrc, hrm, hbc, hbi, ⟨hry, hcy, hty, hzy, hky, hcq.le (by first | exact Nat.le_refl _ | exact Nat.le_succ _) (by first | exact Nat.le_refl _ | exact Nat.le_succ _)⟩, _, htC, htM, htb⟩ (by omega) (by omega)
      · rw [if_neg hB_] at ho ⊢
        refine ls_br1 (c := .eq) (t := 1604) (f := 1600) (by decide +kernel) (fun _ => ?_) (fun hz => absurd rfl hz)
        refine ls_st (ins := .lconst 0) (len := 1) (p := 1605) (by decide +kernel) rfl rfl rfl ?_
        refine ls_st (ins := .lcmp) (len := 1) (p := 1606) (by decide +kernel) rfl rfl rfl ?_
        refine ls_br1 (c := .eq) (t := 1611) (f := 1609) (by decide +kernel) (fun _ => ?_) (fun hz => absurd (by first | exact lg_cmp0 _ | decide) hz)
        refine ls_goto (p := 1663) (by decide +kernel) ?_
        exact hN _ _ c h _ _ _ _ _ _ ⟨⟨hH, hci, k_th, k_am, k_out, h3, k_rd, hl, hm, hc⟩, ⟨hh1, hp, hg⟩, hrc, hrm, hbc, hbi, ⟨hry, hcy, hty, hzy, hky, hcq.le (by first | exact Nat.le_refl _ | exact Nat.le_succ _) (by first | exact Nat.le_refl _ | exact Nat.le_succ _)⟩, _, htC, htM, htb⟩ (by omega) (by omega)
set_option maxHeartbeats 2000000 in
theorem lw_c36 (hI : lw_I K G th am out rd s0 s1 aw ai tp ba na tm c h cn im) (hi : i + 6 ≤ n) (hn : n ≤ 3072) (hN : ∀ (K' : et_K) (G' : eg_G) (c' h' : Nat) (cn' im' : Nat → Nat) (ck' sk' : Nat) (y5 y6 : Option Value), lw_I K' G' th am out rd s0 s1 aw ai tp ba na tm c' h' cn' im' → ck' ≤ ck + 841 → sk' ≤ sk + 7168 → et_go (some (n, f)) (d + 41) 1000 1663 [some (.ref 150), some (.ref th), some (.ref am), some (.ref out), some (.int (Int32.ofNat i)), y5, y6] [] G' ck' sk' Z) : et_go (some (n, f)) (d + 41) 1000 1614 [some (.ref 150), some (.ref th), some (.ref am), some (.ref out), some (.int (Int32.ofNat i)), x5, x6] [] G ck sk Z := by
  obtain ⟨⟨hH, hci, k_th, k_am, k_out, h3, k_rd, hl, hm, hc⟩, ⟨hh1, hp, hg⟩, hrc, hrm, hbc, hbi, ⟨hry, hcy, hty, hzy, hky, hcq⟩, tb, htC, htM, htb⟩ := hI
  refine ls_aload (i := 1) (p := 1615) (by decide +kernel) rfl ?_
  refine lt_callv (T := et_TT) (t := 12) (mi := 124) (na := 0) (ci := 10) (lk := 7) (lm := 1) (L0 := eg_en (eg_mL 124) [.ref th]) (by decide +kernel) rfl hH k_th rfl rfl rfl rfl rfl (by rw [show eg_mL 124 = 1 from by decide +kernel]; first | done | rfl) ?_
  have hHo := hH
  have hcq0 := hcq
  obtain ⟨ca_, cb_, Ta_, Tb_, La_, Lb_, cK_, ⟨cp0_, cp1_⟩, ⟨cc6_, ci6_⟩, ⟨cE_, cX_⟩, cE1_, cX1_⟩ := id hcq
  obtain ⟨t0, t1, ra0, ca0, rc0, ec0, cc0, ra1, ca1, rc1, ec1, cc1, hC⟩ := id hci
  obtain rfl : s0 = t0 := Value.ref.inj (Option.some.inj (hrc.2.1.1.symm.trans hC.2.1.1))
  obtain rfl : s1 = t1 := Value.ref.inj (Option.some.inj (hrc.2.1.2.symm.trans hC.2.1.2))
  have ee0 : ec0 = cn 4 := xi_inj (by have := hC.2.2.2.1.2.2.2.1.2.1; omega) (by have := hbc 4; omega) (hC.2.2.2.1.2.2.1.2.1.symm.trans (hrc.2.2 (5, 4) (by decide)).1)
  have ee1 : ec1 = im 4 := xi_inj (by have := hC.2.2.2.2.2.2.2.1.2.1; omega) (by have := hbi 4; omega) (hC.2.2.2.2.2.2.1.2.1.symm.trans (hrc.2.2 (5, 4) (by decide)).2)
  have hry0 := hry
  have hcy0 := hcy
  obtain ⟨la0, ya0, la1, ya1, X_, X2_, Y_, Y2_, tk_, bk_, hcc_, hcd_⟩ := id hcy
  have hty0 := hty
  obtain ⟨t0_, t1_, T0_, T1_, L0_, L1_, tK_, ⟨tp0_, tp1_⟩, ⟨tc_, ti_⟩, ⟨tE_, tX_⟩, tF_, tY_⟩ := id hty
  obtain ⟨ya_, yb_, O_, A_, V_, ⟨zk_, zka_, zki_⟩, zz_, zo_, zm_, zi_⟩ := hzy
  have b0 : cn 0 ≤ 4 := Int.ofNat_le.mp (hf_bd (t := 10) hH hrc.1.1 rfl rfl (hrc.2.2 (0, 0) (by decide)).1 (hbc 0))
  have b1 : cn 1 ≤ 4 := Int.ofNat_le.mp (hf_bd (t := 10) hH hrc.1.1 rfl rfl (hrc.2.2 (7, 1) (by decide)).1 (hbc 1))
  have b2 : cn 2 ≤ 6 := Int.ofNat_le.mp (hf_bd (t := 10) hH hrc.1.1 rfl rfl (hrc.2.2 (9, 2) (by decide)).1 (hbc 2))
  have b3 : cn 3 ≤ 20 := Int.ofNat_le.mp (hf_bd (t := 10) hH hrc.1.1 rfl rfl (hrc.2.2 (2, 3) (by decide)).1 (hbc 3))
  have b4 : cn 4 ≤ 3 := Int.ofNat_le.mp (hf_bd (t := 10) hH hrc.1.1 rfl rfl (hrc.2.2 (5, 4) (by decide)).1 (hbc 4))
  refine ((hc_imageX hH hci (by omega)).and ((fc_imageN hH hC ⟨b0, b3, b4, b1, b2⟩ (hrc.2.2 (0, 0) (by decide)).1 (hrc.2.2 (2, 3) (by decide)).1 (hrc.2.2 (5, 4) (by decide)).1 (hrc.2.2 (7, 1) (by decide)).1 (hrc.2.2 (9, 2) (by decide)).1 (by omega)).and ((fc_imageR hH hC (by omega)).and ((fc_imageC hH hC hcc_.1.1.1 hcc_.1.1.2 hcd_.1.1.1 hcd_.1.1.2 tk_.2.1.1 tk_.2.1.2.1 tk_.2.1.2.2.1 tk_.2.1.2.2.2 tk_.2.2.2.1 tk_.2.2.2.2 (by omega)).and ((fc_imageT hH hC tp0_ tp1_ tK_.1.2.2.1 tK_.1.2.2.2 tK_.2.2.1 (by omega)).and ((fc_imageZ hH hC zk_ zz_ zo_ (by omega)).and (fc_imageQ hH hC cp0_ cp1_ cK_.1.2.2.1 cK_.1.2.2.2 cK_.2.2.1 (by omega)))))))).mono (fun u hu => ls_cbwQ (Q := fun u => ph_at u.2.1 th 1 ∧ tnP s1 s0 (cn 0) (cn 3) (cn 4) (cn 1) (cn 2) u.2.1 ∧ (∀ j, j < 4 → et_pl (eg_at u.2.1 ra0) j = et_pl (eg_at G ra0) j ∧ et_pl (eg_at u.2.1 ra1) j = et_pl (eg_at G ra0) j) ∧ (∀ j, j < 20 → (et_pl (eg_at u.2.1 la0) j = et_pl (eg_at G la0) j ∧ et_pl (eg_at u.2.1 ya0) j = et_pl (eg_at G ya0) j) ∧ (et_pl (eg_at u.2.1 la1) j = et_pl (eg_at G la0) j ∧ et_pl (eg_at u.2.1 ya1) j = et_pl (eg_at G ya0) j)) ∧ (∀ j, j < 4 → et_pl (eg_at u.2.1 t0_) j = et_pl (eg_at G t0_) j ∧ et_pl (eg_at u.2.1 t1_) j = et_pl (eg_at G t0_) j) ∧ ezc u.2.1 O_ A_ (fun k => if k < 3 then V_ k else V_ (k - 3)) ∧ (∀ j, j < 6 → et_pl (eg_at u.2.1 ca_) j = et_pl (eg_at G ca_) j ∧ et_pl (eg_at u.2.1 cb_) j = et_pl (eg_at G ca_) j)) ⟨hu.1.1, hu.1.2, hu.2⟩ (fun K1615 G1615 x1615 f1615 hH hci hQ => ?_))
  obtain ⟨hP, ⟨⟨pa0, pb0⟩, ⟨pa2, pb2⟩, ⟨pa5, pb5⟩, ⟨pa7, pb7⟩, ⟨pa9, pb9⟩⟩, hRR, hRC, hRT, hEZ, hRQ⟩ := hQ
  have hcyI := hcy0.im1 x1615 f1615 (by decide +kernel) (fun a b c d _ m => by obtain rfl : a = la0 := Value.ref.inj (Option.some.inj (m.1.symm.trans hcc_.1.1.1)); obtain rfl : b = ya0 := Value.ref.inj (Option.some.inj (m.2.1.symm.trans hcc_.1.1.2)); obtain rfl : c = la1 := Value.ref.inj (Option.some.inj (m.2.2.1.symm.trans hcd_.1.1.1)); obtain rfl : d = ya1 := Value.ref.inj (Option.some.inj (m.2.2.2.symm.trans hcd_.1.1.2)); exact hRC)
  have htyI := hty0.im1 hHo x1615 f1615 (by decide +kernel) (fun a b m0 m1 _ _ _ => by obtain rfl : a = t0_ := Value.ref.inj (Option.some.inj (m0.symm.trans tp0_)); obtain rfl : b = t1_ := Value.ref.inj (Option.some.inj (m1.symm.trans tp1_)); exact hRT)
  have zz_ := zz_.img zk_ k_th hrc.1.1 hrc.1.2.1 f1615 (by decide +kernel) hEZ
  have zm_ := zm_.fr (fun n hn => zo_ n (by omega)) zka_ f1615 (by decide +kernel)
  have zi_ := zi_.fr (fun n hn => zo_ (3 + n) (by omega)) zki_ f1615 (by decide +kernel)
  have zk_ := zk_.ex x1615
  have zka_ := x1615 _ _ zka_
  have zki_ := x1615 _ _ zki_
  have hryI := hry0.im1 hHo x1615 f1615 (by decide +kernel) pb0 (fun r0 r1 h0 h1 => by obtain rfl : r0 = ra0 := Value.ref.inj (Option.some.inj (h0.symm.trans hC.2.2.2.1.2.1.1)); obtain rfl : r1 = ra1 := Value.ref.inj (Option.some.inj (h1.symm.trans hC.2.2.2.2.2.1.1)); exact hRR)
  have hrc : rc lw_ks K1615 G1615 th s0 s1 cn cn := ⟨⟨x1615 _ _ hrc.1.1, x1615 _ _ hrc.1.2.1, hrc.1.2.2⟩, ⟨(f1615.2 th 12 k_th 0 rfl).trans hrc.2.1.1, (f1615.2 th 12 k_th 1 rfl).trans hrc.2.1.2⟩, fun q hq => by simp only [lw_ks, List.mem_cons, List.not_mem_nil, or_false] at hq; rcases hq with rfl | rfl | rfl | rfl | rfl <;> first | exact ⟨pb0, pa0⟩ | exact ⟨pb7, pa7⟩ | exact ⟨pb9, pa9⟩ | exact ⟨pb2, pa2⟩ | exact ⟨pb5, pa5⟩⟩
  have hky := hky.fr hHo k_am hrm.1.1 f1615 (by decide +kernel)
  have h3 := (f1615.2 th 12 k_th 3 rfl).trans h3
  have hl := (f1615.2 rd 7 k_rd 1 rfl).trans hl
  have hm := (f1615.2 am 13 k_am 5 rfl).trans hm
  have hp := hP
  have hg := (f1615.2 am 13 k_am 3 rfl).trans hg
  have htC := htC.fr k_rd x1615 f1615 (by decide +kernel)
  have htM := htM.fr k_am x1615 f1615 (by decide +kernel)
  have hrm := hrm.fr k_am x1615 f1615 (by decide +kernel)
  have k_th := x1615 _ _ k_th
  have k_am := x1615 _ _ k_am
  have k_out := x1615 _ _ k_out
  have k_rd := x1615 _ _ k_rd
  have hcqI := hcq0.im1 hHo x1615 f1615 (by decide +kernel) (fun a b m0 m1 _ _ _ => by obtain rfl : a = ca_ := Value.ref.inj (Option.some.inj (m0.symm.trans cp0_)); obtain rfl : b = cb_ := Value.ref.inj (Option.some.inj (m1.symm.trans cp1_)); exact hRQ)
  show et_go _ _ 1000 1618 [some (.ref 150), some (.ref th), some (.ref am), some (.ref out), some (.int (Int32.ofNat i)), x5, x6] [] _ ck sk _
  refine ls_aload (i := 2) (p := 1619) (by decide +kernel) rfl ?_
  refine lt_callv (T := et_TT) (t := 13) (mi := 175) (na := 0) (ci := 11) (lk := 7) (lm := 2) (L0 := eg_en (eg_mL 175) [.ref am]) (by decide +kernel) rfl hH k_am rfl rfl rfl rfl rfl (by rw [show eg_mL 175 = 2 from by decide +kernel]; first | done | rfl) ?_
  have hHo := hH
  refine ((hc_imageM (w := (K1615, [], G1615)) hH k_am).and (fm_image hH k_am hrm.2.1.1 hrm.2.1.2)).mono (fun u hu => ls_cbnQ (Q := fun u => pg_at u.2.1 am 1 ∧ ∀ k, k < 11900 → et_pl (eg_at u.2.1 aw) k = et_pl (eg_at G1615 aw) k ∧ et_pl (eg_at u.2.1 ai) k = et_pl (eg_at G1615 aw) k) ⟨hu.1.1, hu.1.2, hu.2⟩ (fun K1619 G1619 c1619 s1619 x1619 f1619 hH cl1619 sl1619 hQ => ?_))
  obtain ⟨hP, hQ⟩ := hQ
  have hry : ry K1619 G1619 th s0 s1 aw ai (cn 0) (cn 0) := hryI.im2 hHo x1619 f1619 (by decide +kernel) hQ
  have hky := hky.fr hHo k_am hrm.1.1 f1619 (by decide +kernel)
  have hrm : rm lw_ks K1619 G1619 am aw ai cn cn := ⟨⟨x1619 _ _ hrm.1.1, x1619 _ _ hrm.1.2⟩, ⟨(f1619.2 am 13 k_am 1 rfl).trans hrm.2.1.1, (f1619.2 am 13 k_am 2 rfl).trans hrm.2.1.2⟩, fun q hq => ⟨(hQ q.2 (lw_kl q hq)).1.trans (hrm.2.2 q hq).1, (hQ q.2 (lw_kl q hq)).2.trans (hrm.2.2 q hq).1⟩⟩
  have hcy : cy K1619 G1619 s0 s1 aw ai (cn 3) (cn 3) := hcyI.im2 x1619 f1619 (by decide +kernel) hQ
  have hty := htyI.im2 hHo x1619 f1619 (by decide +kernel) hQ
  have hcq := hcqI.im2 hHo x1619 f1619 (by decide +kernel) hQ
  have zz_ := zz_.fr zk_ k_th hrc.1.1 hrc.1.2.1 f1619 (by decide +kernel)
  have zk_ := zk_.ex x1619
  have zka_ := x1619 _ _ zka_
  have zki_ := x1619 _ _ zki_
  have hzy : zy K1619 G1619 th s0 s1 aw ai (cn 4) (cn 4) := zy.img (ei := im 4) ⟨zk_, zka_, zki_⟩ zz_ zo_ zm_ hQ
  have hbi := hbc
  have hci := hci.fr x1619 f1619 (by decide +kernel)
  have h3 := (f1619.2 th 12 k_th 3 rfl).trans h3
  have hl := (f1619.2 rd 7 k_rd 1 rfl).trans hl
  have hm := (f1619.2 am 13 k_am 5 rfl).trans hm
  have hp := (f1619.2 th 12 k_th 2 rfl).trans hp
  have hg := hP
  have htC := htC.fr k_rd x1619 f1619 (by decide +kernel)
  have htM := htM.fr k_am x1619 f1619 (by decide +kernel)
  have hrc := hrc.fr k_th x1619 f1619 (by decide +kernel)
  have k_th := x1619 _ _ k_th
  have k_am := x1619 _ _ k_am
  have k_out := x1619 _ _ k_out
  have k_rd := x1619 _ _ k_rd
  show et_go _ _ 1000 1622 [some (.ref 150), some (.ref th), some (.ref am), some (.ref out), some (.int (Int32.ofNat i)), x5, x6] [] _ (ck + c1619) (sk + s1619) _
  refine ls_goto (p := 1663) (by decide +kernel) ?_
  exact hN _ _ c 1 _ _ _ _ _ _ ⟨⟨hH, hci, k_th, k_am, k_out, h3, k_rd, hl, hm, hc⟩, ⟨(by decide), hp, hg⟩, hrc, hrm, hbc, hbi, ⟨hry, hcy, hty, hzy, hky, hcq.le (by first | exact Nat.le_refl _ | exact Nat.le_succ _) (by first | exact Nat.le_refl _ | exact Nat.le_succ _)⟩, _, htC, htM, htb⟩ (by omega) (by omega)
set_option maxHeartbeats 2000000 in
theorem lw_c37 (hI : lw_I K G th am out rd s0 s1 aw ai tp ba na tm c h cn im) (hi : i + 6 ≤ n) (hn : n ≤ 3072) (hN : ∀ (K' : et_K) (G' : eg_G) (c' h' : Nat) (cn' im' : Nat → Nat) (ck' sk' : Nat) (y5 y6 : Option Value), lw_I K' G' th am out rd s0 s1 aw ai tp ba na tm c' h' cn' im' → ck' ≤ ck + 841 → sk' ≤ sk + 7168 → et_go (some (n, f)) (d + 41) 1000 1663 [some (.ref 150), some (.ref th), some (.ref am), some (.ref out), some (.int (Int32.ofNat i)), y5, y6] [] G' ck' sk' Z) : et_go (some (n, f)) (d + 41) 1000 1625 [some (.ref 150), some (.ref th), some (.ref am), some (.ref out), some (.int (Int32.ofNat i)), x5, x6] [] G ck sk Z := by
  obtain ⟨⟨hH, hci, k_th, k_am, k_out, h3, k_rd, hl, hm, hc⟩, ⟨hh1, hp, hg⟩, hrc, hrm, hbc, hbi, ⟨hry, hcy, hty, hzy, hky, hcq⟩, tb, htC, htM, htb⟩ := hI
  refine ls_aload (i := 1) (p := 1626) (by decide +kernel) rfl ?_
  refine lt_callv (T := et_TT) (t := 12) (mi := 125) (na := 0) (ci := 10) (lk := 7) (lm := 1) (L0 := eg_en (eg_mL 125) [.ref th]) (by decide +kernel) rfl hH k_th rfl rfl rfl rfl rfl (by rw [show eg_mL 125 = 1 from by decide +kernel]; first | done | rfl) ?_
  have hHo := hH
  have hcq0 := hcq
  obtain ⟨ca_, cb_, Ta_, Tb_, La_, Lb_, cK_, ⟨cp0_, cp1_⟩, ⟨cc6_, ci6_⟩, ⟨cE_, cX_⟩, cE1_, cX1_⟩ := id hcq
  obtain ⟨t0, t1, ra0, ca0, rc0, ec0, cc0, ra1, ca1, rc1, ec1, cc1, hC⟩ := id hci
  obtain rfl : s0 = t0 := Value.ref.inj (Option.some.inj (hrc.2.1.1.symm.trans hC.2.1.1))
  obtain rfl : s1 = t1 := Value.ref.inj (Option.some.inj (hrc.2.1.2.symm.trans hC.2.1.2))
  have ee0 : ec0 = cn 4 := xi_inj (by have := hC.2.2.2.1.2.2.2.1.2.1; omega) (by have := hbc 4; omega) (hC.2.2.2.1.2.2.1.2.1.symm.trans (hrc.2.2 (5, 4) (by decide)).1)
  have ee1 : ec1 = im 4 := xi_inj (by have := hC.2.2.2.2.2.2.2.1.2.1; omega) (by have := hbi 4; omega) (hC.2.2.2.2.2.2.1.2.1.symm.trans (hrc.2.2 (5, 4) (by decide)).2)
  have hry0 := hry
  have hcy0 := hcy
  obtain ⟨la0, ya0, la1, ya1, X_, X2_, Y_, Y2_, tk_, bk_, hcc_, hcd_⟩ := id hcy
  have hty0 := hty
  obtain ⟨t0_, t1_, T0_, T1_, L0_, L1_, tK_, ⟨tp0_, tp1_⟩, ⟨tc_, ti_⟩, ⟨tE_, tX_⟩, tF_, tY_⟩ := id hty
  obtain ⟨ya_, yb_, O_, A_, V_, ⟨zk_, zka_, zki_⟩, zz_, zo_, zm_, zi_⟩ := hzy
  have b0 : cn 0 ≤ 4 := Int.ofNat_le.mp (hf_bd (t := 10) hH hrc.1.1 rfl rfl (hrc.2.2 (0, 0) (by decide)).1 (hbc 0))
  have bm0 : im 0 ≤ 4 := Int.ofNat_le.mp (hf_bd (t := 10) hH hrc.1.2.1 rfl rfl (hrc.2.2 (0, 0) (by decide)).2 (hbi 0))
  have b1 : cn 1 ≤ 4 := Int.ofNat_le.mp (hf_bd (t := 10) hH hrc.1.1 rfl rfl (hrc.2.2 (7, 1) (by decide)).1 (hbc 1))
  have bm1 : im 1 ≤ 4 := Int.ofNat_le.mp (hf_bd (t := 10) hH hrc.1.2.1 rfl rfl (hrc.2.2 (7, 1) (by decide)).2 (hbi 1))
  have b2 : cn 2 ≤ 6 := Int.ofNat_le.mp (hf_bd (t := 10) hH hrc.1.1 rfl rfl (hrc.2.2 (9, 2) (by decide)).1 (hbc 2))
  have bm2 : im 2 ≤ 6 := Int.ofNat_le.mp (hf_bd (t := 10) hH hrc.1.2.1 rfl rfl (hrc.2.2 (9, 2) (by decide)).2 (hbi 2))
  have b3 : cn 3 ≤ 20 := Int.ofNat_le.mp (hf_bd (t := 10) hH hrc.1.1 rfl rfl (hrc.2.2 (2, 3) (by decide)).1 (hbc 3))
  have bm3 : im 3 ≤ 20 := Int.ofNat_le.mp (hf_bd (t := 10) hH hrc.1.2.1 rfl rfl (hrc.2.2 (2, 3) (by decide)).2 (hbi 3))
  have b4 : cn 4 ≤ 3 := Int.ofNat_le.mp (hf_bd (t := 10) hH hrc.1.1 rfl rfl (hrc.2.2 (5, 4) (by decide)).1 (hbc 4))
  have bm4 : im 4 ≤ 3 := Int.ofNat_le.mp (hf_bd (t := 10) hH hrc.1.2.1 rfl rfl (hrc.2.2 (5, 4) (by decide)).2 (hbi 4))
  refine ((hc_backX hH hci hp hh1 (by omega)).and ((fc_backN hH hC ⟨b0, b3, b4, b1, b2⟩ (hrc.2.2 (0, 0) (by decide)).1 (hrc.2.2 (2, 3) (by decide)).1 (hrc.2.2 (5, 4) (by decide)).1 (hrc.2.2 (7, 1) (by decide)).1 (hrc.2.2 (9, 2) (by decide)).1 ⟨bm0, bm3, bm4, bm1, bm2⟩ (hrc.2.2 (0, 0) (by decide)).2 (hrc.2.2 (2, 3) (by decide)).2 (hrc.2.2 (5, 4) (by decide)).2 (hrc.2.2 (7, 1) (by decide)).2 (hrc.2.2 (9, 2) (by decide)).2 hp hh1 (by omega)).and ((fc_backR hH hC hp hh1 (by omega)).and ((fc_backC hH hC hcc_.1.1.1 hcc_.1.1.2 hcd_.1.1.1 hcd_.1.1.2 tk_.2.1.1 tk_.2.1.2.1 tk_.2.1.2.2.1 tk_.2.1.2.2.2 tk_.2.2.2.1 tk_.2.2.2.2 hp hh1 (by omega)).and ((fc_backT hH hC tp0_ tp1_ tK_.1.2.2.1 tK_.1.2.2.2 tK_.2.2.1 hp hh1 (by omega)).and ((fc_backZ hH hC zk_ zz_ zo_ hp hh1 (by omega)).and (fc_backQ hH hC cp0_ cp1_ cK_.1.2.2.1 cK_.1.2.2.2 cK_.2.2.1 hp hh1 (by omega)))))))).mono (fun u hu => ls_cbrQ (Q := fun u => (u.1 = .inl (some (.int (Int32.ofNat h))) ∧ ph_at u.2.1 th h) ∧ bkP s0 s1 (cn 0) (cn 3) (cn 4) (cn 1) (cn 2) (im 0) (im 3) (im 4) (im 1) (im 2) h u.2.1 ∧ (∀ j, j < 4 → et_pl (eg_at u.2.1 ra0) j = (if h = 0 then et_pl (eg_at G ra0) j else et_pl (eg_at G ra1) j) ∧ et_pl (eg_at u.2.1 ra1) j = et_pl (eg_at G ra1) j) ∧ (∀ j, j < 20 → (et_pl (eg_at u.2.1 la0) j = (if h = 0 then et_pl (eg_at G la0) j else et_pl (eg_at G la1) j) ∧ et_pl (eg_at u.2.1 ya0) j = (if h = 0 then et_pl (eg_at G ya0) j else et_pl (eg_at G ya1) j)) ∧ (et_pl (eg_at u.2.1 la1) j = et_pl (eg_at G la1) j ∧ et_pl (eg_at u.2.1 ya1) j = et_pl (eg_at G ya1) j)) ∧ (∀ j, j < 4 → et_pl (eg_at u.2.1 t0_) j = (if h = 0 then et_pl (eg_at G t0_) j else et_pl (eg_at G t1_) j) ∧ et_pl (eg_at u.2.1 t1_) j = et_pl (eg_at G t1_) j) ∧ ezc u.2.1 O_ A_ (if h = 0 then V_ else (fun k => if k < 3 then V_ (3 + k) else V_ k)) ∧ (∀ j, j < 6 → et_pl (eg_at u.2.1 ca_) j = (if h = 0 then et_pl (eg_at G ca_) j else et_pl (eg_at G cb_) j) ∧ et_pl (eg_at u.2.1 cb_) j = et_pl (eg_at G cb_) j)) ⟨hu.1.1, hu.1.2, hu.2⟩ (fun v1626 K1626 G1626 c1626 s1626 x1626 f1626 hH hci _ cl1626 sl1626 hQ => ?_))
  obtain ⟨⟨ev, hP⟩, hQ, hRR, hRC, hRT, hEZ, hRQ⟩ := hQ
  cases ev
  have hQ2 : ∀ q ∈ lw_ks, et_pl (eg_at G1626 s0) q.1 = some (.int (Int32.ofNat (if h = 0 then cn q.2 else im q.2))) ∧ et_pl (eg_at G1626 s1) q.1 = some (.int (Int32.ofNat (im q.2))) := fun q hq => by
    unfold bkP at hQ
    by_cases h0 : h = 0
    · rw [if_pos h0] at hQ ⊢
      obtain ⟨⟨pa0, pa2, pa5, pa7, pa9⟩, pb0, pb2, pb5, pb7, pb9⟩ := hQ
      simp only [lw_ks, List.mem_cons, List.not_mem_nil, or_false] at hq; rcases hq with rfl | rfl | rfl | rfl | rfl <;> first | exact ⟨pa0, pb0⟩ | exact ⟨pa7, pb7⟩ | exact ⟨pa9, pb9⟩ | exact ⟨pa2, pb2⟩ | exact ⟨pa5, pb5⟩
    · rw [if_neg h0] at hQ ⊢
      obtain ⟨⟨pa0, pb0⟩, ⟨pa2, pb2⟩, ⟨pa5, pb5⟩, ⟨pa7, pb7⟩, ⟨pa9, pb9⟩⟩ := hQ
      simp only [lw_ks, List.mem_cons, List.not_mem_nil, or_false] at hq; rcases hq with rfl | rfl | rfl | rfl | rfl <;> first | exact ⟨pa0, pb0⟩ | exact ⟨pa7, pb7⟩ | exact ⟨pa9, pb9⟩ | exact ⟨pa2, pb2⟩ | exact ⟨pa5, pb5⟩
  have hcyB := hcy0.bk1 (h := h) x1626 f1626 (by decide +kernel) (fun a b c d _ m => by obtain rfl : a = la0 := Value.ref.inj (Option.some.inj (m.1.symm.trans hcc_.1.1.1)); obtain rfl : b = ya0 := Value.ref.inj (Option.some.inj (m.2.1.symm.trans hcc_.1.1.2)); obtain rfl : c = la1 := Value.ref.inj (Option.some.inj (m.2.2.1.symm.trans hcd_.1.1.1)); obtain rfl : d = ya1 := Value.ref.inj (Option.some.inj (m.2.2.2.symm.trans hcd_.1.1.2)); exact hRC)
  have htyB := hty0.bk1 (h := h) hHo x1626 f1626 (by decide +kernel) (fun a b m0 m1 _ _ _ => by obtain rfl : a = t0_ := Value.ref.inj (Option.some.inj (m0.symm.trans tp0_)); obtain rfl : b = t1_ := Value.ref.inj (Option.some.inj (m1.symm.trans tp1_)); exact hRT)
  have zz_ := zz_.img zk_ k_th hrc.1.1 hrc.1.2.1 f1626 (by decide +kernel) hEZ
  have zm_ := zm_.fr (fun n hn => zo_ n (by omega)) zka_ f1626 (by decide +kernel)
  have zi_ := zi_.fr (fun n hn => zo_ (3 + n) (by omega)) zki_ f1626 (by decide +kernel)
  have zk_ := zk_.ex x1626
  have zka_ := x1626 _ _ zka_
  have zki_ := x1626 _ _ zki_
  have hryB := hry0.bk1 (h := h) hHo x1626 f1626 (by decide +kernel) (hQ2 (0, 0) (by decide)).1 (fun r0 r1 h0 h1 => by obtain rfl : r0 = ra0 := Value.ref.inj (Option.some.inj (h0.symm.trans hC.2.2.2.1.2.1.1)); obtain rfl : r1 = ra1 := Value.ref.inj (Option.some.inj (h1.symm.trans hC.2.2.2.2.2.1.1)); exact hRR)
  have hrc : rc lw_ks K1626 G1626 th s0 s1 (fun k => if h = 0 then cn k else im k) im := ⟨⟨x1626 _ _ hrc.1.1, x1626 _ _ hrc.1.2.1, hrc.1.2.2⟩, ⟨(f1626.2 th 12 k_th 0 rfl).trans hrc.2.1.1, (f1626.2 th 12 k_th 1 rfl).trans hrc.2.1.2⟩, hQ2⟩
  have hky := hky.fr hHo k_am hrm.1.1 f1626 (by decide +kernel)
  have h3 := (f1626.2 th 12 k_th 3 rfl).trans h3
  have hl := (f1626.2 rd 7 k_rd 1 rfl).trans hl
  have hm := (f1626.2 am 13 k_am 5 rfl).trans hm
  have hp := hP
  have hg := (f1626.2 am 13 k_am 3 rfl).trans hg
  have htC := htC.fr k_rd x1626 f1626 (by decide +kernel)
  have htM := htM.fr k_am x1626 f1626 (by decide +kernel)
  have hrm := hrm.fr k_am x1626 f1626 (by decide +kernel)
  have k_th := x1626 _ _ k_th
  have k_am := x1626 _ _ k_am
  have k_out := x1626 _ _ k_out
  have k_rd := x1626 _ _ k_rd
  have hcqB := hcq0.bk1 (h := h) hHo x1626 f1626 (by decide +kernel) (fun a b m0 m1 _ _ _ => by obtain rfl : a = ca_ := Value.ref.inj (Option.some.inj (m0.symm.trans cp0_)); obtain rfl : b = cb_ := Value.ref.inj (Option.some.inj (m1.symm.trans cp1_)); exact hRQ)
  show et_go _ _ 1000 1629 [some (.ref 150), some (.ref th), some (.ref am), some (.ref out), some (.int (Int32.ofNat i)), x5, x6] [.int (Int32.ofNat h)] _ (ck + c1626) (sk + s1626) _
  refine ls_pop (p := 1630) (by decide +kernel) ?_
  refine ls_aload (i := 2) (p := 1631) (by decide +kernel) rfl ?_
  refine lt_callv (T := et_TT) (t := 13) (mi := 176) (na := 0) (ci := 11) (lk := 7) (lm := 2) (L0 := eg_en (eg_mL 176) [.ref am]) (by decide +kernel) rfl hH k_am rfl rfl rfl rfl rfl (by rw [show eg_mL 176 = 2 from by decide +kernel]; first | done | rfl) ?_
  have hHo := hH
  refine ((hc_backM (w := (K1626, [], G1626)) hH k_am hg hh1).and ((fm_back hH k_am hrm.2.1.1 hrm.2.1.2 hg hh1).and (fm_backI hH k_am hrm.2.1.1 hrm.2.1.2 hg hh1))).mono (fun u hu => ls_cbvQ (Q := fun u => u.1 = .inl (some (.int (Int32.ofNat h))) ∧ (∀ k, k < 11900 → et_pl (eg_at u.2.1 aw) k = (if h = 0 then et_pl (eg_at G1626 aw) k else et_pl (eg_at G1626 ai) k) ∧ et_pl (eg_at u.2.1 ai) k = et_pl (eg_at G1626 ai) k) ∧ (h = 0 → ∀ ak, K1626 ak = some 25 → et_pl (eg_at G1626 am) 18 = some (.ref ak) → ∀ k, k < 4 → et_pl (eg_at u.2.1 ak) k = et_pl (eg_at G1626 ak) k) ∧ (h = 1 → ∀ ak, et_pl (eg_at G1626 am) 18 = some (.ref ak) → ∀ k, k < 4 → et_pl (eg_at u.2.1 ak) k = some (.int (Int32.ofNat 0)))) ⟨hu.1.1, hu.1.2, hu.2.1, hu.2.2⟩ (fun v1631 K1631 G1631 c1631 s1631 x1631 f1631 hH hv1631 cl1631 sl1631 hQ => ?_))
  obtain ⟨ev, hQ, hQI⟩ := hQ
  cases ev
  have hry : ry K1631 G1631 th s0 s1 aw ai (if h = 0 then cn 0 else im 0) (im 0) := hryB.bk2 hHo x1631 f1631 (by decide +kernel) hQ
  have hky : kyA G1631 am aw (if h = 0 then cn 0 else im 0) := hky.bk (g := h) hHo k_am hh1 f1631 (by decide +kernel) hQ hQI
  have hrm : rm lw_ks K1631 G1631 am aw ai (fun k => if h = 0 then cn k else im k) im := ⟨⟨x1631 _ _ hrm.1.1, x1631 _ _ hrm.1.2⟩, ⟨(f1631.2 am 13 k_am 1 rfl).trans hrm.2.1.1, (f1631.2 am 13 k_am 2 rfl).trans hrm.2.1.2⟩, fun q hq => ⟨(hQ q.2 (lw_kl q hq)).1.trans (by split; exact (hrm.2.2 q hq).1; exact (hrm.2.2 q hq).2), (hQ q.2 (lw_kl q hq)).2.trans (hrm.2.2 q hq).2⟩⟩
  have hcy : cy K1631 G1631 s0 s1 aw ai (if h = 0 then cn 3 else im 3) (im 3) := hcyB.bk2 x1631 f1631 (by decide +kernel) hQ
  have hty := htyB.bk2 hHo x1631 f1631 (by decide +kernel) hQ
  have hcq := hcqB.bk2 hHo x1631 f1631 (by decide +kernel) hQ
  have zz_ := zz_.fr zk_ k_th hrc.1.1 hrc.1.2.1 f1631 (by decide +kernel)
  have zk_ := zk_.ex x1631
  have zka_ := x1631 _ _ zka_
  have zki_ := x1631 _ _ zki_
  have hzy : zy K1631 G1631 th s0 s1 aw ai (if h = 0 then cn 4 else im 4) (im 4) := zy.bk (h := h) ⟨zk_, zka_, zki_⟩ zz_ zo_ zm_ zi_ hQ
  have hbc : ∀ k, (if h = 0 then cn k else im k) ≤ 400 := fun k => by split; exact hbc k; exact hbi k
  have hci := hci.fr x1631 f1631 (by decide +kernel)
  have h3 := (f1631.2 th 12 k_th 3 rfl).trans h3
  have hl := (f1631.2 rd 7 k_rd 1 rfl).trans hl
  have hm := (f1631.2 am 13 k_am 5 rfl).trans hm
  have hp := (f1631.2 th 12 k_th 2 rfl).trans hp
  have hg := (f1631.2 am 13 k_am 3 rfl).trans hg
  have htC := htC.fr k_rd x1631 f1631 (by decide +kernel)
  have htM := htM.fr k_am x1631 f1631 (by decide +kernel)
  have hrc := hrc.fr k_th x1631 f1631 (by decide +kernel)
  have k_th := x1631 _ _ k_th
  have k_am := x1631 _ _ k_am
  have k_out := x1631 _ _ k_out
  have k_rd := x1631 _ _ k_rd
  show et_go _ _ 1000 1634 [some (.ref 150), some (.ref th), some (.ref am), some (.ref out), some (.int (Int32.ofNat i)), x5, x6] [.int (Int32.ofNat h)] _ ((ck + c1626) + c1631) ((sk + s1626) + s1631) _
  refine ls_pop (p := 1635) (by decide +kernel) ?_
  refine ls_goto (p := 1663) (by decide +kernel) ?_
  exact hN _ _ c h _ _ _ _ _ _ ⟨⟨hH, hci, k_th, k_am, k_out, h3, k_rd, hl, hm, hc⟩, ⟨hh1, hp, hg⟩, hrc, hrm, hbc, hbi, ⟨hry, hcy, hty, hzy, hky, hcq.le (by first | exact Nat.le_refl _ | exact Nat.le_succ _) (by first | exact Nat.le_refl _ | exact Nat.le_succ _)⟩, _, htC, htM, htb⟩ (by omega) (by omega)
set_option maxHeartbeats 2000000 in
theorem lw_c38 (hI : lw_I K G th am out rd s0 s1 aw ai tp ba na tm c h cn im) (hi : i + 6 ≤ n) (hn : n ≤ 3072) (hN : ∀ (K' : et_K) (G' : eg_G) (c' h' : Nat) (cn' im' : Nat → Nat) (ck' sk' : Nat) (y5 y6 : Option Value), lw_I K' G' th am out rd s0 s1 aw ai tp ba na tm c' h' cn' im' → ck' ≤ ck + 841 → sk' ≤ sk + 7168 → et_go (some (n, f)) (d + 41) 1000 1663 [some (.ref 150), some (.ref th), some (.ref am), some (.ref out), some (.int (Int32.ofNat i)), y5, y6] [] G' ck' sk' Z) : et_go (some (n, f)) (d + 41) 1000 1638 [some (.ref 150), some (.ref th), some (.ref am), some (.ref out), some (.int (Int32.ofNat i)), x5, x6] [] G ck sk Z := by
  obtain ⟨⟨hH, hci, k_th, k_am, k_out, h3, k_rd, hl, hm, hc⟩, ⟨hh1, hp, hg⟩, hrc, hrm, hbc, hbi, ⟨hry, hcy, hty, hzy, hky, hcq⟩, tb, htC, htM, htb⟩ := hI
  refine ls_aload (i := 1) (p := 1639) (by decide +kernel) rfl ?_
  refine ls_arg (j := 1) (by decide +kernel) (by omega) hn ?_
  refine lt_callv (T := et_TT) (t := 12) (mi := 126) (na := 1) (ci := 10) (lk := 7) (lm := 4) (L0 := eg_en (eg_mL 126) [.ref th, .int (f (i + 1))]) (by decide +kernel) rfl hH k_th rfl rfl rfl rfl rfl (by rw [show eg_mL 126 = 4 from by decide +kernel]; first | done | rfl) ?_
  have hHo := hH
  obtain ⟨D_, φ_, R0_, R1_, r0_, r1_, fo_, t_, kk_, hx_, ho_⟩ := hry
  refine ((hc_countI hH hci (by omega)).and (fr_126 (w := (K, [], G)) t_ hH hx_ (by omega))).mono (fun u hu => ls_cbrQ (Q := fun u => rx D_ φ_ th s0 r0_ (cn 0) fo_ u.2.1) hu (fun v1645 K1645 G1645 c1645 s1645 x1645 f1645 hH hci _ cl1645 sl1645 hQ => ?_))
  have hry : ry K1645 G1645 th s0 s1 aw ai (cn 0) (im 0) := ⟨D_, φ_, R0_, R1_, r0_, r1_, fo_, t_.ex x1645, kk_.ex x1645, hQ, ho_.fr kk_ f1645 (by decide +kernel)⟩
  have hcq := hcq.fr x1645 hHo f1645 (by decide +kernel)
  have hky := hky.fr hHo k_am hrm.1.1 f1645 (by decide +kernel)
  have hzy := hzy.fr k_th hrc.1.1 hrc.1.2.1 x1645 f1645 (by decide +kernel)
  have hty := hty.fr x1645 hHo f1645 (by decide +kernel)
  have hcy := hcy.fr x1645 f1645 (by decide +kernel)
  have h3 := (f1645.2 th 12 k_th 3 rfl).trans h3
  have hl := (f1645.2 rd 7 k_rd 1 rfl).trans hl
  have hm := (f1645.2 am 13 k_am 5 rfl).trans hm
  have hp := (f1645.2 th 12 k_th 2 rfl).trans hp
  have hg := (f1645.2 am 13 k_am 3 rfl).trans hg
  have htC := htC.fr k_rd x1645 f1645 (by decide +kernel)
  have htM := htM.fr k_am x1645 f1645 (by decide +kernel)
  have hrc := hrc.fr k_th x1645 f1645 (by decide +kernel)
  have hrm := hrm.fr k_am x1645 f1645 (by decide +kernel)
  have k_th := x1645 _ _ k_th
  have k_am := x1645 _ _ k_am
  have k_out := x1645 _ _ k_out
  have k_rd := x1645 _ _ k_rd
  show et_go _ _ 1000 1648 [some (.ref 150), some (.ref th), some (.ref am), some (.ref out), some (.int (Int32.ofNat i)), x5, x6] [.int v1645] _ (ck + c1645) (sk + s1645) _
  refine ls_pop (p := 1649) (by decide +kernel) ?_
  refine ls_aload (i := 2) (p := 1650) (by decide +kernel) rfl ?_
  refine ls_arg (j := 1) (by decide +kernel) (by omega) hn ?_
  refine lt_callv (T := et_TT) (t := 13) (mi := 293) (na := 1) (ci := 11) (lk := 7) (lm := 4) (L0 := eg_en (eg_mL 293) [.ref am, .int (f (i + 1))]) (by decide +kernel) rfl hH k_am rfl rfl rfl rfl rfl (by rw [show eg_mL 293 = 4 from by decide +kernel]; first | done | rfl) ?_
  have hHo := hH
  have b0 : cn 0 ≤ 4 := Int.ofNat_le.mp (hf_bd (t := 10) hH hrc.1.1 rfl rfl (hrc.2.2 (0, 0) (by decide)).1 (hbc 0))
  have b4 : cn 4 ≤ 3 := Int.ofNat_le.mp (hf_bd (t := 10) hH hrc.1.1 rfl rfl (hrc.2.2 (5, 4) (by decide)).1 (hbc 4))
  have hrt_ := hry.rt
  refine ((er_p293_ok (K1645, [], G1645) [.ref am, .int (f (i + 1))] _ hH (by omega) rfl (ht_ac (.inr ⟨by decide, _, rfl, k_am⟩) (ht_ac hi_any ht_an))).and (fk_293 hH k_am hrm.1.1 hrm.2.1.1 b0 ⟨hky, hrt_⟩ (by omega))).mono (fun u hu => ls_cbvQ (Q := fun u => kyB u.2.1 am aw (cn 0)) hu (fun v1656 K1656 G1656 c1656 s1656 x1656 f1656 hH hv1656 cl1656 sl1656 hQ => ?_))
  have hcq := hcq.fr x1656 hHo f1656 (by decide +kernel)
  have hky := hQ.1
  have hzy := hzy.fr k_th hrc.1.1 hrc.1.2.1 x1656 f1656 (by decide +kernel)
  have hty := hty.fr x1656 hHo f1656 (by decide +kernel)
  have hcy := hcy.fr x1656 f1656 (by decide +kernel)
  have hry := hry.fr hHo x1656 f1656 (by decide +kernel)
  have hci := hci.fr x1656 f1656 (by decide +kernel)
  have h3 := (f1656.2 th 12 k_th 3 rfl).trans h3
  have hl := (f1656.2 rd 7 k_rd 1 rfl).trans hl
  have hm := (f1656.2 am 13 k_am 5 rfl).trans hm
  have hp := (f1656.2 th 12 k_th 2 rfl).trans hp
  have hg := (f1656.2 am 13 k_am 3 rfl).trans hg
  have htC := htC.fr k_rd x1656 f1656 (by decide +kernel)
  have htM := htM.fr k_am x1656 f1656 (by decide +kernel)
  have hrc := hrc.fr k_th x1656 f1656 (by decide +kernel)
  have hrm := hrm.fr k_am x1656 f1656 (by decide +kernel)
  have k_th := x1656 _ _ k_th
  have k_am := x1656 _ _ k_am
  have k_out := x1656 _ _ k_out
  have k_rd := x1656 _ _ k_rd
  obtain ⟨v1656, rfl, -⟩ := hv1656
  show et_go _ _ 1000 1659 [some (.ref 150), some (.ref th), some (.ref am), some (.ref out), some (.int (Int32.ofNat i)), x5, x6] [.int v1656] _ ((ck + c1645) + c1656) ((sk + s1645) + s1656) _
  refine ls_pop (p := 1660) (by decide +kernel) ?_
  refine ls_goto (p := 1663) (by decide +kernel) ?_
  exact hN _ _ c h _ _ _ _ _ _ ⟨⟨hH, hci, k_th, k_am, k_out, h3, k_rd, hl, hm, hc⟩, ⟨hh1, hp, hg⟩, hrc, hrm, hbc, hbi, ⟨hry, hcy, hty, hzy, hky, hcq.le (by first | exact Nat.le_refl _ | exact Nat.le_succ _) (by first | exact Nat.le_refl _ | exact Nat.le_succ _)⟩, _, htC, htM, htb⟩ (by omega) (by omega)
end LWA
