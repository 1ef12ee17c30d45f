/-! THE LAW'S CASES, both sides -/
def lw_ks : List (Nat × Nat) := [(0, 0), (7, 1), (9, 2), (2, 3), (5, 4)]
def lw_I (K : et_K) (G : eg_G) (th am out rd s0 s1 aw ai tp ba na tm c h : Nat) (cn im : Nat → Nat) : Prop := (et_H et_TT K G ∧ ci K G th ∧ K th = some 12 ∧ K am = some 13 ∧ K out = some 31 ∧ et_pl (eg_at G th) 3 = some (.ref rd) ∧ K rd = some 7 ∧ pl_at G rd c ∧ pm_at G am c ∧ c ≤ 400) ∧ (h ≤ 1 ∧ ph_at G th h ∧ pg_at G am h) ∧ rc lw_ks K G th s0 s1 cn im ∧ rm lw_ks K G am aw ai cn im ∧ (∀ k, cn k ≤ 400) ∧ (∀ k, im k ≤ 400) ∧ (ry K G th s0 s1 aw ai (cn 0) (im 0) ∧ cy K G s0 s1 aw ai (cn 3) (im 3) ∧ ty K G s0 s1 aw ai (cn 1) (im 1) ∧ zy K G th s0 s1 aw ai (cn 4) (im 4) ∧ syB K G th ∧ fyR K G th s0 (cn 3)) ∧ ∃ tb : Nat → Nat, tC K G rd tp ba na c tb ∧ tM K G am tm c tb ∧ ∀ i, i < c → tb i < 256
theorem lw_kl : ∀ q ∈ lw_ks, q.2 < 11900 := by decide
theorem ff_le {c : Nat} (h : c ≤ 400) : ff c ≤ 400 := by
  unfold ff
  split <;> omega
def ls_ab (pc j : Nat) : Bool := decide (hs_al 1000 pc = some (0, pc + 1)) && (decide (hs_il 1000 (pc + 1) = some (4, pc + 3)) && (decide (hs_kc 1000 (pc + 3) = some (Int32.ofNat j, pc + 4)) && (decide (hs_o 1000 (pc + 4) = some (.iadd, pc + 5)) && decide (hs_o 1000 (pc + 5) = some (.iaload, pc + 6)))))
section LWA
variable {n : Nat} {f : Nat → Int32} {d pc p ck sk i j th am out rd s0 s1 aw ai tp ba na tm c h : Nat} {cn im : Nat → Nat} {x5 x6 x1 x2 x3 : Option Value} {st : List Value} {K : et_K} {G : eg_G} {Z : eg_O → Prop}
theorem ls_arg (hc : ls_ab pc j = true) (hi : i + j < n) (hn : n ≤ 3072) (h : et_go (some (n, f)) d 1000 (pc + 6) [some (.ref 150), x1, x2, x3, some (.int (Int32.ofNat i)), x5, x6] (.int (f (i + j)) :: st) G ck sk Z) : et_go (some (n, f)) d 1000 pc [some (.ref 150), x1, x2, x3, some (.int (Int32.ofNat i)), x5, x6] st G ck sk Z := by
  unfold ls_ab at hc
  rw [Bool.and_eq_true, Bool.and_eq_true, Bool.and_eq_true, Bool.and_eq_true] at hc
  obtain ⟨h1, h2, h3, h4, h5⟩ := hc
  refine ls_aload (of_decide_eq_true h1) rfl ?_
  refine ls_iload (of_decide_eq_true h2) rfl ?_
  refine ls_k (of_decide_eq_true h3) ?_
  refine ls_iaddn (of_decide_eq_true h4) ?_
  exact ls_scr (of_decide_eq_true h5) hi hn h
def ls_bb (pc : Nat) : Bool := decide (hs_if 1000 pc = some (.eq, pc + 7, pc + 3)) && (decide (hs_kc 1000 (pc + 3) = some (Int32.ofNat 1, pc + 4)) && (decide (hs_gt 1000 (pc + 4) = some (pc + 8)) && decide (hs_kc 1000 (pc + 7) = some (Int32.ofNat 0, pc + 8))))
theorem ls_bool {sc : eg_Sc} {L : eg_Ls} {x : Int32} (hc : ls_bb pc = true) (h : ∀ b : Nat, b ≤ 1 → b = (if x = 0 then 0 else 1) → et_go sc d 1000 (pc + 8) L (.int (Int32.ofNat b) :: st) G ck sk Z) : et_go sc d 1000 pc L (.int x :: st) G ck sk Z := by
  unfold ls_bb at hc
  rw [Bool.and_eq_true, Bool.and_eq_true, Bool.and_eq_true] at hc
  obtain ⟨h1, h2, h3, h4⟩ := hc
  refine ls_br1 (of_decide_eq_true h1) (fun (hx : x = 0) => ?_) (fun (hx : ¬ x = 0) => ?_)
  · exact ls_k (of_decide_eq_true h4) (h 0 (by decide) (by rw [if_pos hx]))
  · refine ls_k (of_decide_eq_true h2) ?_
    exact ls_goto (of_decide_eq_true h3) (h 1 (by decide) (by rw [if_neg hx]))
theorem ls_cbvQ2 {sc : eg_Sc} {d k pc ck sk c s : Nat} {L : eg_Ls} {r : List Value} {Z Q1 Q2 : eg_O → Prop} {T : List et_D} {w : et_Wd} {M : et_M} {u : eg_O} {q : et_P} (hu : hi_Z T w M [(.inl (some q), c, s)] u ∧ Q1 u) (hu2 : Q2 u) (h : ∀ (v : Value) (K' : et_K) (G' : eg_G) (c' s' : Nat), et_ex w.1 K' → et_fr M w.1 w.2.2 G' → et_H T K' G' → et_v K' q v → c' ≤ c → s' ≤ s → Q1 (.inl (some v), G', c', s') → Q2 (.inl (some v), G', c', s') → et_go sc d k (pc + 3) L (v :: r) G' (ck + c') (sk + s') Z) : ls_cont sc d k pc L r ck sk Z u := ls_cbvQ (Q := fun u => Q1 u ∧ Q2 u) ⟨hu.1, hu.2, hu2⟩ (fun v K' G' c' s' h1 h2 h3 h4 h5 h6 h7 => h v K' G' c' s' h1 h2 h3 h4 h5 h6 h7.1 h7.2)
def pmu (am c : Nat) (u : eg_O) : Prop := pm_at u.2.1 am c
def plu (rd c : Nat) (u : eg_O) : Prop := pl_at u.2.1 rd c
theorem fm_thrown {d2 : Nat} {x : Int32} (hH : et_H et_TT K G) (k_am : K am = some 13) (ht : et_pl (eg_at G am) 0 = some (.int x)) : et_go none d2 315 0 (eg_en (eg_mL 315) [.ref am]) [] G 0 0 (xp_Z G (some (.int x))) := by
  rw [show eg_mL 315 = 1 from by decide +kernel]
  show et_go none d2 315 0 [some (.ref am)] [] G 0 0 _
  refine hs_aload (i := 0) (p := 1) (by decide +kernel) rfl ?_
  refine hf_get (T := et_TT) (t := 13) (ci := 11) (f := 0) (p := 4) (by decide +kernel) rfl hH k_am ht ?_
  refine hs_iret (by decide +kernel) ?_
  rfl
set_option maxHeartbeats 2000000 in
theorem lw_c0 (hI : lw_I K G th am out rd s0 s1 aw ai tp ba na tm c h cn im) (hi : i + 6 ≤ n) (hn : n ≤ 3072) (hN : ∀ (K' : et_K) (G' : eg_G) (c' h' : Nat) (cn' im' : Nat → Nat) (ck' sk' : Nat) (y5 y6 : Option Value), lw_I K' G' th am out rd s0 s1 aw ai tp ba na tm c' h' cn' im' → ck' ≤ ck + 841 → sk' ≤ sk + 7168 → et_go (some (n, f)) (d + 41) 1000 1656 [some (.ref 150), some (.ref th), some (.ref am), some (.ref out), some (.int (Int32.ofNat i)), y5, y6] [] G' ck' sk' Z) : et_go (some (n, f)) (d + 41) 1000 212 [some (.ref 150), some (.ref th), some (.ref am), some (.ref out), some (.int (Int32.ofNat i)), x5, x6] [] G ck sk Z := by
  obtain ⟨⟨hH, hci, k_th, k_am, k_out, h3, k_rd, hl, hm, hc⟩, ⟨hh1, hp, hg⟩, hrc, hrm, hbc, hbi, ⟨hry, hcy, hty, hzy, hsy, hfy⟩, tb, htC, htM, htb⟩ := hI
  refine ls_aload (i := 1) (p := 213) (by decide +kernel) rfl ?_
  refine ls_arg (j := 1) (by decide +kernel) (by omega) hn ?_
  refine ls_arg (j := 2) (by decide +kernel) (by omega) hn ?_
  refine ls_arg (j := 3) (by decide +kernel) (by omega) hn ?_
  refine ls_arg (j := 4) (by decide +kernel) (by omega) hn ?_
  refine ls_arg (j := 5) (by decide +kernel) (by omega) hn ?_
  refine lt_callv (T := et_TT) (t := 12) (mi := 116) (na := 5) (ci := 10) (lk := 7) (lm := 6) (L0 := eg_en (eg_mL 116) [.ref th, .int (f (i + 1)), .int (f (i + 2)), .int (f (i + 3)), .int (f (i + 4)), .int (f (i + 5))]) (by decide +kernel) rfl hH k_th rfl rfl rfl rfl rfl (by rw [show eg_mL 116 = 6 from by decide +kernel]; first | done | rfl) ?_
  have hHo := hH
  refine ((hc_feedC (w := (K, [], G)) hH k_th h3 k_rd hl hc (by omega)).and (fc_feed hH k_rd htC.2.1.1 htC.1.1 hl htC.2.2 k_th h3 hc (by omega))).mono (fun u hu => ls_cbvQ2 ⟨hu.1.1, (show plu rd (ff c) u from hu.1.2)⟩ hu.2 (fun v243 K243 G243 c243 s243 x243 f243 hH hv243 cl243 sl243 hP hQ => ?_))
  obtain ⟨_, _, eu, -, -, hQ⟩ := hQ
  cases eu
  have hfy := hfy.fr k_th hrc.1.1 x243 f243 (by decide +kernel)
  have hsy := hsy.fr k_th x243 f243 (by decide +kernel)
  have hzy := hzy.fr k_th hrc.1.1 hrc.1.2.1 x243 f243 (by decide +kernel)
  have hty := hty.fr x243 hHo f243 (by decide +kernel)
  have hcy := hcy.fr x243 f243 (by decide +kernel)
  have hry := hry.fr hHo x243 f243 (by decide +kernel)
  have hci := hci.fr x243 f243 (by decide +kernel)
  have h3 := (f243.2 th 12 k_th 3 rfl).trans h3
  have hl := hP
  have hm := (f243.2 am 13 k_am 5 rfl).trans hm
  have hp := (f243.2 th 12 k_th 2 rfl).trans hp
  have hg := (f243.2 am 13 k_am 3 rfl).trans hg
  have htC := htC.mk' k_rd x243 f243 (by decide +kernel) (fd_c hQ)
  have htM := htM.fr k_am x243 f243 (by decide +kernel)
  have hrc := hrc.fr k_th x243 f243 (by decide +kernel)
  have hrm := hrm.fr k_am x243 f243 (by decide +kernel)
  have k_th := x243 _ _ k_th
  have k_am := x243 _ _ k_am
  have k_out := x243 _ _ k_out
  have k_rd := x243 _ _ k_rd
  obtain ⟨v243, rfl, -⟩ := hv243
  show et_go _ _ 1000 246 [some (.ref 150), some (.ref th), some (.ref am), some (.ref out), some (.int (Int32.ofNat i)), x5, x6] [.int v243] _ ck sk _
  refine ls_pop (p := 247) (by decide +kernel) ?_
  refine ls_aload (i := 2) (p := 248) (by decide +kernel) rfl ?_
  refine ls_arg (j := 1) (by decide +kernel) (by omega) hn ?_
  refine ls_arg (j := 2) (by decide +kernel) (by omega) hn ?_
  refine ls_arg (j := 3) (by decide +kernel) (by omega) hn ?_
  refine ls_arg (j := 4) (by decide +kernel) (by omega) hn ?_
  refine ls_arg (j := 5) (by decide +kernel) (by omega) hn ?_
  refine lt_callv (T := et_TT) (t := 13) (mi := 177) (na := 5) (ci := 11) (lk := 7) (lm := 7) (L0 := eg_en (eg_mL 177) [.ref am, .int (f (i + 1)), .int (f (i + 2)), .int (f (i + 3)), .int (f (i + 4)), .int (f (i + 5))]) (by decide +kernel) rfl hH k_am rfl rfl rfl rfl rfl (by rw [show eg_mL 177 = 7 from by decide +kernel]; first | done | rfl) ?_
  have hHo := hH
  obtain ⟨fv, m11, k_fv⟩ := hf_ref (t := 13) (f := 11) (u := 14) hH k_am rfl rfl (.inr trivial)
  refine ((hc_feedM (w := (K243, [], G243)) hH k_am hm hc (by omega)).and (fm_feed hH k_am htM.2.1 htM.1 m11 k_fv hm hc htM.2.2)).mono (fun u hu => ls_cbvQ2 ⟨hu.1.1, (show pmu am (ff c) u from hu.1.2)⟩ hu.2 (fun v278 K278 G278 c278 s278 x278 f278 hH hv278 cl278 sl278 hP hQ => ?_))
  obtain ⟨_, _, eu, -, -, hQ⟩ := hQ
  cases eu
  have hfy := hfy.fr k_th hrc.1.1 x278 f278 (by decide +kernel)
  have hsy := hsy.fr k_th x278 f278 (by decide +kernel)
  have hzy := hzy.fr k_th hrc.1.1 hrc.1.2.1 x278 f278 (by decide +kernel)
  have hty := hty.fr x278 hHo f278 (by decide +kernel)
  have hcy := hcy.fr x278 f278 (by decide +kernel)
  have hry := hry.fr hHo x278 f278 (by decide +kernel)
  have hci := hci.fr x278 f278 (by decide +kernel)
  have h3 := (f278.2 th 12 k_th 3 rfl).trans h3
  have hl := (f278.2 rd 7 k_rd 1 rfl).trans hl
  have hm := hP
  have hp := (f278.2 th 12 k_th 2 rfl).trans hp
  have hg := (f278.2 am 13 k_am 3 rfl).trans hg
  have htC := htC.fr k_rd x278 f278 (by decide +kernel)
  have htM := htM.mk' k_am x278 f278 (by decide +kernel) (fd_m hQ)
  have hrc := hrc.fr k_th x278 f278 (by decide +kernel)
  have hrm := hrm.fr k_am x278 f278 (by decide +kernel)
  have k_th := x278 _ _ k_th
  have k_am := x278 _ _ k_am
  have k_out := x278 _ _ k_out
  have k_rd := x278 _ _ k_rd
  obtain ⟨v278, rfl, -⟩ := hv278
  show et_go _ _ 1000 281 [some (.ref 150), some (.ref th), some (.ref am), some (.ref out), some (.int (Int32.ofNat i)), x5, x6] [.int v278] _ ck sk _
  refine ls_pop (p := 282) (by decide +kernel) ?_
  refine ls_goto (p := 1656) (by decide +kernel) ?_
  exact hN _ _ (ff c) h _ _ _ _ _ _ ⟨⟨hH, hci, k_th, k_am, k_out, h3, k_rd, hl, hm, (ff_le hc)⟩, ⟨hh1, hp, hg⟩, hrc, hrm, hbc, hbi, ⟨hry, hcy, hty, hzy, hsy, hfy⟩, _, htC, htM, fun i hi => tbf_lt htb hi⟩ (by omega) (by omega)
set_option maxHeartbeats 2000000 in
theorem lw_c1 (hI : lw_I K G th am out rd s0 s1 aw ai tp ba na tm c h cn im) (hi : i + 6 ≤ n) (hn : n ≤ 3072) (hN : ∀ (K' : et_K) (G' : eg_G) (c' h' : Nat) (cn' im' : Nat → Nat) (ck' sk' : Nat) (y5 y6 : Option Value), lw_I K' G' th am out rd s0 s1 aw ai tp ba na tm c' h' cn' im' → ck' ≤ ck + 841 → sk' ≤ sk + 7168 → et_go (some (n, f)) (d + 41) 1000 1656 [some (.ref 150), some (.ref th), some (.ref am), some (.ref out), some (.int (Int32.ofNat i)), y5, y6] [] G' ck' sk' Z) : et_go (some (n, f)) (d + 41) 1000 285 [some (.ref 150), some (.ref th), some (.ref am), some (.ref out), some (.int (Int32.ofNat i)), x5, x6] [] G ck sk Z := by
  obtain ⟨⟨hH, hci, k_th, k_am, k_out, h3, k_rd, hl, hm, hc⟩, ⟨hh1, hp, hg⟩, hrc, hrm, hbc, hbi, ⟨hry, hcy, hty, hzy, hsy, hfy⟩, tb, htC, htM, htb⟩ := hI
  refine ls_aload (i := 1) (p := 286) (by decide +kernel) rfl ?_
  refine ls_arg (j := 1) (by decide +kernel) (by omega) hn ?_
  refine lt_callv (T := et_TT) (t := 12) (mi := 117) (na := 1) (ci := 10) (lk := 7) (lm := 2) (L0 := eg_en (eg_mL 117) [.ref th, .int (f (i + 1))]) (by decide +kernel) rfl hH k_th rfl rfl rfl rfl rfl (by rw [show eg_mL 117 = 2 from by decide +kernel]; first | done | rfl) ?_
  have hHo := hH
  refine (hc_endC (w := (K, [], G)) hH k_th h3 k_rd hl hc (by omega)).mono (fun u hu => ls_cbz hu (fun K292 G292 v292 x292 f292 hH hP => ?_))
  obtain ⟨rfl, hP⟩ := hP
  have hfy := hfy.fr k_th hrc.1.1 x292 f292 (by decide +kernel)
  have hsy := hsy.fr k_th x292 f292 (by decide +kernel)
  have hzy := hzy.fr k_th hrc.1.1 hrc.1.2.1 x292 f292 (by decide +kernel)
  have hty := hty.fr x292 hHo f292 (by decide +kernel)
  have hcy := hcy.fr x292 f292 (by decide +kernel)
  have hry := hry.fr hHo x292 f292 (by decide +kernel)
  have hci := hci.fr x292 f292 (by decide +kernel)
  have h3 := (f292.2 th 12 k_th 3 rfl).trans h3
  have hl := hP
  have hm := (f292.2 am 13 k_am 5 rfl).trans hm
  have hp := (f292.2 th 12 k_th 2 rfl).trans hp
  have hg := (f292.2 am 13 k_am 3 rfl).trans hg
  have htC := (htC.fr k_rd x292 f292 (by decide +kernel)).le (fe_le2 (n := f (i + 1)) hc)
  have htM := htM.fr k_am x292 f292 (by decide +kernel)
  have hrc := hrc.fr k_th x292 f292 (by decide +kernel)
  have hrm := hrm.fr k_am x292 f292 (by decide +kernel)
  have k_th := x292 _ _ k_th
  have k_am := x292 _ _ k_am
  have k_out := x292 _ _ k_out
  have k_rd := x292 _ _ k_rd
  show et_go _ _ 1000 295 [some (.ref 150), some (.ref th), some (.ref am), some (.ref out), some (.int (Int32.ofNat i)), x5, x6] [.int (Int32.ofNat (fe (f (i + 1)) c).1)] _ ck sk _
  refine ls_pop (p := 296) (by decide +kernel) ?_
  refine ls_aload (i := 2) (p := 297) (by decide +kernel) rfl ?_
  refine ls_arg (j := 1) (by decide +kernel) (by omega) hn ?_
  refine lt_callv (T := et_TT) (t := 13) (mi := 178) (na := 1) (ci := 11) (lk := 7) (lm := 2) (L0 := eg_en (eg_mL 178) [.ref am, .int (f (i + 1))]) (by decide +kernel) rfl hH k_am rfl rfl rfl rfl rfl (by rw [show eg_mL 178 = 2 from by decide +kernel]; first | done | rfl) ?_
  have hHo := hH
  refine (hc_endM (w := (K292, [], G292)) hH k_am hm hc).mono (fun u hu => ls_cbz hu (fun K303 G303 v303 x303 f303 hH hP => ?_))
  obtain ⟨rfl, hP⟩ := hP
  have hfy := hfy.fr k_th hrc.1.1 x303 f303 (by decide +kernel)
  have hsy := hsy.fr k_th x303 f303 (by decide +kernel)
  have hzy := hzy.fr k_th hrc.1.1 hrc.1.2.1 x303 f303 (by decide +kernel)
  have hty := hty.fr x303 hHo f303 (by decide +kernel)
  have hcy := hcy.fr x303 f303 (by decide +kernel)
  have hry := hry.fr hHo x303 f303 (by decide +kernel)
  have hci := hci.fr x303 f303 (by decide +kernel)
  have h3 := (f303.2 th 12 k_th 3 rfl).trans h3
  have hl := (f303.2 rd 7 k_rd 1 rfl).trans hl
  have hm := hP
  have hp := (f303.2 th 12 k_th 2 rfl).trans hp
  have hg := (f303.2 am 13 k_am 3 rfl).trans hg
  have htC := htC.fr k_rd x303 f303 (by decide +kernel)
  have htM := (htM.fr k_am x303 f303 (by decide +kernel)).le (fe_le2 (n := f (i + 1)) hc)
  have hrc := hrc.fr k_th x303 f303 (by decide +kernel)
  have hrm := hrm.fr k_am x303 f303 (by decide +kernel)
  have k_th := x303 _ _ k_th
  have k_am := x303 _ _ k_am
  have k_out := x303 _ _ k_out
  have k_rd := x303 _ _ k_rd
  show et_go _ _ 1000 306 [some (.ref 150), some (.ref th), some (.ref am), some (.ref out), some (.int (Int32.ofNat i)), x5, x6] [.int (Int32.ofNat (fe (f (i + 1)) c).1)] _ ck sk _
  refine ls_pop (p := 307) (by decide +kernel) ?_
  refine ls_goto (p := 1656) (by decide +kernel) ?_
  exact hN _ _ (fe (f (i + 1)) c).2 h _ _ _ _ _ _ ⟨⟨hH, hci, k_th, k_am, k_out, h3, k_rd, hl, hm, (fe_le hc).1⟩, ⟨hh1, hp, hg⟩, hrc, hrm, hbc, hbi, ⟨hry, hcy, hty, hzy, hsy, hfy⟩, _, htC, htM, fun z hz => htb z (Nat.lt_of_lt_of_le hz (fe_le2 (n := f (i + 1)) hc))⟩ (by omega) (by omega)
set_option maxHeartbeats 2000000 in
theorem lw_c2 (hI : lw_I K G th am out rd s0 s1 aw ai tp ba na tm c h cn im) (hi : i + 6 ≤ n) (hn : n ≤ 3072) (hN : ∀ (K' : et_K) (G' : eg_G) (c' h' : Nat) (cn' im' : Nat → Nat) (ck' sk' : Nat) (y5 y6 : Option Value), lw_I K' G' th am out rd s0 s1 aw ai tp ba na tm c' h' cn' im' → ck' ≤ ck + 841 → sk' ≤ sk + 7168 → et_go (some (n, f)) (d + 41) 1000 1656 [some (.ref 150), some (.ref th), some (.ref am), some (.ref out), some (.int (Int32.ofNat i)), y5, y6] [] G' ck' sk' Z) : et_go (some (n, f)) (d + 41) 1000 310 [some (.ref 150), some (.ref th), some (.ref am), some (.ref out), some (.int (Int32.ofNat i)), x5, x6] [] G ck sk Z := by
  obtain ⟨⟨hH, hci, k_th, k_am, k_out, h3, k_rd, hl, hm, hc⟩, ⟨hh1, hp, hg⟩, hrc, hrm, hbc, hbi, ⟨hry, hcy, hty, hzy, hsy, hfy⟩, tb, htC, htM, htb⟩ := hI
  refine ls_aload (i := 1) (p := 311) (by decide +kernel) rfl ?_
  refine ls_aload (i := 3) (p := 312) (by decide +kernel) rfl ?_
  refine ls_calls (mi := 0) (na := 2) (lk := 7) (lm := 3) (L0 := eg_en (eg_mL 0) [.ref th, .ref out]) (by decide +kernel) rfl rfl rfl rfl rfl rfl (by rw [show eg_mL 0 = 3 from by decide +kernel]; first | done | rfl) ?_
  have hHo := hH
  obtain ⟨t0, t1, ra0, ca0, rc0, ec0, cc0, ra1, ca1, rc1, ec1, cc1, hC⟩ := id hci
  obtain rfl : s0 = t0 := Value.ref.inj (Option.some.inj (hrc.2.1.1.symm.trans hC.2.1.1))
  obtain rfl : s1 = t1 := Value.ref.inj (Option.some.inj (hrc.2.1.2.symm.trans hC.2.1.2))
  have ee0 : ec0 = cn 4 := xi_inj (by have := hC.2.2.2.1.2.2.2.1.2.1; omega) (by have := hbc 4; omega) (hC.2.2.2.1.2.2.1.2.1.symm.trans (hrc.2.2 (5, 4) (by decide)).1)
  have ee1 : ec1 = im 4 := xi_inj (by have := hC.2.2.2.2.2.2.2.1.2.1; omega) (by have := hbi 4; omega) (hC.2.2.2.2.2.2.1.2.1.symm.trans (hrc.2.2 (5, 4) (by decide)).2)
  have b0 : cn 0 ≤ 4 := Int.ofNat_le.mp (hf_bd (t := 10) hH hrc.1.1 rfl rfl (hrc.2.2 (0, 0) (by decide)).1 (hbc 0))
  have hH0 := hH
  have k_th0 := k_th
  have k_out0 := k_out
  have k_rd0 := k_rd
  have k_am0 := k_am
  have hrc0 := hrc
  have hrm0 := hrm
  obtain ⟨ta, r4, k_ta⟩ := hf_ref (t := 7) (f := 4) (u := 41) hH k_rd rfl rfl (.inr trivial)
  have htC0 := htC
  have k_ra := hC.2.2.2.1.1.2.1
  have g1_ := hC.2.2.2.1.2.1.1
  have hry0 := hry
  have hty0 := hty
  have b1 : cn 1 ≤ 4 := Int.ofNat_le.mp (hf_bd (t := 10) hH hrc.1.1 rfl rfl (hrc.2.2 (7, 1) (by decide)).1 (hbc 1))
  refine ((hh_i0 hH hci k_th k_out h3 k_rd (by omega)).and (fh_rule (ea := 0) hH k_rd htC.2.1.1 htC.1.1 hl hc htC.2.2 htb k_ta htC.1.2.1 htC.1.2.2 htC.2.1.2.2.2 r4 htC.2.1.2.1 htC.2.1.2.2.1 k_th h3 hrc.2.1.1 hrc.1.1 (hrc.2.2 (0, 0) (by decide)).1 b0 hC.2.2.2.1.2.1.1 k_ra k_out (by omega))).mono (fun u hu => ls_cbrQ hu (fun v312 K312 G312 c312 s312 x312 f312 hH hci hP cl312 sl312 hQ => ?_))
  obtain ⟨_, _, _, _, _, eu, -, -, hxf, hQ⟩ := hQ
  cases eu
  have hfy := hfy.fr k_th hrc.1.1 x312 f312 (by decide +kernel)
  have hsy := hsy.fr k_th x312 f312 (by decide +kernel)
  have hzy := hzy.fr k_th hrc.1.1 hrc.1.2.1 x312 f312 (by decide +kernel)
  have hcy := hcy.fr x312 f312 (by decide +kernel)
  have h3 := (f312.2 th 12 k_th 3 rfl).trans h3
  have hl := hP
  have hm := (f312.2 am 13 k_am 5 rfl).trans hm
  have hp := (f312.2 th 12 k_th 2 rfl).trans hp
  have hg := (f312.2 am 13 k_am 3 rfl).trans hg
  have htC := (htC.fr k_rd x312 f312 (by decide +kernel)).le (Nat.zero_le _)
  have htM := htM.fr k_am x312 f312 (by decide +kernel)
  have hrm := hrm.fr k_am x312 f312 (by decide +kernel)
  have k_th := x312 _ _ k_th
  have k_am := x312 _ _ k_am
  have k_out := x312 _ _ k_out
  have k_rd := x312 _ _ k_rd
  have k_z := hrc0.1.2.1
  have w1 : et_pl (eg_at G312 s1) 0 = some (.int (Int32.ofNat (im 0))) := (hxf.2 s1 0 (hH0.2.2 _ _ hrc0.1.2.1).1 (fun h => by rcases h with h | h | h | h | h | h | h <;> first | exact hrc0.1.2.2 h.1.symm | (have h := h.1; rw [h] at k_z; first | (rw [k_rd0] at k_z; cases k_z) | (rw [k_ta] at k_z; cases k_z) | (rw [htC0.1.2.1] at k_z; cases k_z) | (rw [htC0.1.2.2] at k_z; cases k_z) | (rw [k_ra] at k_z; cases k_z) | (rw [k_out0] at k_z; cases k_z)))).trans (hrc0.2.2 (0, 0) (by decide)).2
  have hty := hty0.xs hHo x312 hxf (fun b j t kb hs => by rcases hs with h | h | h | h | h | h | h <;> obtain ⟨h1, h2⟩ := h <;> subst h1 <;> first | (rw [k_rd0] at kb; cases kb; exact tyS.r _ (by decide) (by decide)) | (rw [k_ta] at kb; cases kb; exact tyS.r _ (by decide) (by decide)) | (rw [htC0.1.2.1] at kb; cases kb; exact tyS.r _ (by decide) (by decide)) | (rw [htC0.1.2.2] at kb; cases kb; exact tyS.r _ (by decide) (by decide)) | (rw [k_ra] at kb; cases kb; exact tyS.r _ (by decide) (by decide)) | (rw [k_out0] at kb; cases kb; exact tyS.r _ (by decide) (by decide)) | (rw [hrc0.1.1] at kb; cases kb; exact ⟨by decide, fun _ => by omega, fun h => absurd h (by decide), fun h => absurd h (by decide), fun h => absurd h (by decide)⟩))
  rcases hQ with ⟨sq, ev, q0⟩ | ⟨c4, sq, ev, q0⟩ | ⟨c4, ev, ho, q0, f_, q_, bb_, sq, qr_, -, qa_, qb_, -, -, lq_, hi_, -, qd_⟩
  · cases ev
    have hrc := hrc0.upf k_th0 x312 f312 q0 w1 (by decide +kernel)
    have hry := hry0.xs hHo x312 hxf q0 (fun b j t kb hs => by rcases hs with h | h | h | h | h | h | h <;> obtain ⟨h1, h2⟩ := h <;> subst h1 <;> first | (rw [k_rd0] at kb; cases kb; exact ryS.r _ (by decide) (by decide)) | (rw [k_ta] at kb; cases kb; exact ryS.r _ (by decide) (by decide)) | (rw [htC0.1.2.1] at kb; cases kb; exact ryS.r _ (by decide) (by decide)) | (rw [htC0.1.2.2] at kb; cases kb; exact ryS.r _ (by decide) (by decide)) | (rw [k_out0] at kb; cases kb; exact ryS.r _ (by decide) (by decide)) | (rw [hrc0.1.1] at kb; cases kb; exact ⟨by decide, fun _ => .inl ⟨rfl, h2⟩, fun h => absurd h (by decide), fun h => absurd h (by decide), fun h => absurd h (by decide)⟩) | (rw [k_ra] at kb; cases kb; exact ⟨by decide, fun h => absurd h (by decide), fun _ => ⟨g1_, by have z0_ : cn (0, 0).2 = cn 0 := rfl; have z1_ : cn (7, 1).2 = cn 1 := rfl; have z2_ : cn (9, 2).2 = cn 2 := rfl; omega⟩, fun h => absurd h (by decide), fun h => absurd h (by decide)⟩))
    show et_go _ _ 1000 315 [some (.ref 150), some (.ref th), some (.ref am), some (.ref out), some (.int (Int32.ofNat i)), x5, x6] [.int (Int32.ofNat 1)] _ (ck + c312) (sk + s312) _
    refine ls_istore (i := 5) (p := 317) (by decide +kernel) (Nat.le_of_ble_eq_true rfl) ?_
    refine ls_aload (i := 2) (p := 318) (by decide +kernel) rfl ?_
    refine lt_callv (T := et_TT) (t := 13) (mi := 180) (na := 0) (ci := 11) (lk := 7) (lm := 2) (L0 := eg_en (eg_mL 180) [.ref am]) (by decide +kernel) rfl hH k_am rfl rfl rfl rfl rfl (by rw [show eg_mL 180 = 2 from by decide +kernel]; first | done | rfl) ?_
    have hHo := hH
    have hH1 := hH
    have k_am1 := k_am
    have hrm0 := hrm
    have htM0 := htM
    have hrc0 := hrc
    have hty0 := hty
    obtain ⟨aj, m18, k_aj⟩ := hf_ref (t := 13) (f := 18) (u := 25) hH k_am rfl rfl (.inr trivial)
    refine ((hc_ruleT (w := (K312, [], G312)) hH k_am (by omega)).and (fm_rule hH k_am htM.2.1 htM.1 hm hc htM.2.2 htb hrm.1.1 hrm.2.1.1 m18 (hrm.2.2 (0, 0) (by decide)).1 b0 (by omega))).mono (fun u hu => ls_cbvQ2 ⟨hu.1.1, (show pmu am 0 u from hu.1.2)⟩ hu.2 (fun v318 K318 G318 c318 s318 x318 f318 hH hv318 cl318 sl318 hP hQ => ?_))
    obtain ⟨_, _, eu, hxf, hQ⟩ := hQ
    cases eu
    have hfy := hfy.fr k_th hrc.1.1 x318 f318 (by decide +kernel)
    have hsy := hsy.fr k_th x318 f318 (by decide +kernel)
    have hzy := hzy.fr k_th hrc.1.1 hrc.1.2.1 x318 f318 (by decide +kernel)
    have hcy := hcy.fr x318 f318 (by decide +kernel)
    have hci := hci.fr x318 f318 (by decide +kernel)
    have h3 := (f318.2 th 12 k_th 3 rfl).trans h3
    have hl := (f318.2 rd 7 k_rd 1 rfl).trans hl
    have hm := hP
    have hp := (f318.2 th 12 k_th 2 rfl).trans hp
    have hg := (f318.2 am 13 k_am 3 rfl).trans hg
    have htC := htC.fr k_rd x318 f318 (by decide +kernel)
    have htM := (htM.fr k_am x318 f318 (by decide +kernel)).le (Nat.zero_le _)
    have hrc := hrc.fr k_th x318 f318 (by decide +kernel)
    have k_th := x318 _ _ k_th
    have k_am := x318 _ _ k_am
    have k_out := x318 _ _ k_out
    have k_rd := x318 _ _ k_rd
    have hty := hty0.xs hHo x318 hxf (fun b j t kb hs => by rcases hs with ⟨ea, ej⟩ | ⟨ea, ej⟩ | ⟨ea, ej⟩ <;> subst ea <;> first | (rw [k_am1] at kb; cases kb; exact tyS.r _ (by decide) (by decide)) | (rw [hrm0.1.1] at kb; cases kb; exact ⟨by decide, fun h => absurd h (by decide), fun h => absurd h (by decide), fun _ => by have z0_ : cn (0, 0).2 = cn 0 := rfl; have z1_ : cn (7, 1).2 = cn 1 := rfl; have z2_ : cn (9, 2).2 = cn 2 := rfl; omega, fun h => absurd h (by decide)⟩) | (rw [k_aj] at kb; cases kb; exact tyS.r _ (by decide) (by decide)))
    rcases hQ with ⟨sq2, ev2, ht, z0⟩ | ⟨r4, sq2, ev2, ht, z0⟩ | ⟨f2, sq2, r4, ev2, ht, z0, tx_⟩
    · cases ev2
      have hrm := hrm0.up hH1 k_am1 x318 hxf (fun a j t ha hs => by rcases hs with ⟨ea, ej⟩ | ⟨ea, ej⟩ | ⟨ea, ej⟩ <;> rw [ea] at ha <;> first | (rw [k_am1] at ha; cases ha; exact ⟨fun _ => by omega, fun h => absurd h (by decide), by decide⟩) | (rw [hrm0.1.1] at ha; cases ha; exact ⟨fun h => absurd h (by decide), fun _ => by omega, by decide⟩) | (rw [k_aj] at ha; cases ha; exact ⟨fun h => absurd h (by decide), fun h => absurd h (by decide), by decide⟩)) z0 (by decide)
      have hbc := rc_upb (k := 0) (v := cn 0) hbc (by omega)
      have hry := hry.xs hHo x318 hxf (hrc.2.2 (0, 0) (by decide)).1 (fun b j t kb hs => by rcases hs with ⟨ea, ej⟩ | ⟨ea, ej⟩ | ⟨ea, ej⟩ <;> subst ea <;> first | (rw [k_am1] at kb; cases kb; exact ryS.r _ (by decide) (by decide)) | (rw [hrm0.1.1] at kb; cases kb; exact ⟨by decide, fun h => absurd h (by decide), fun h => absurd h (by decide), fun _ => by have z0_ : cn (0, 0).2 = cn 0 := rfl; have z1_ : cn (7, 1).2 = cn 1 := rfl; have z2_ : cn (9, 2).2 = cn 2 := rfl; omega, fun h => absurd h (by decide)⟩) | (rw [k_aj] at kb; cases kb; exact ryS.r _ (by decide) (by decide)))
      show et_go _ _ 1000 321 [some (.ref 150), some (.ref th), some (.ref am), some (.ref out), some (.int (Int32.ofNat i)), some (.int (Int32.ofNat 1)), x6] [.int (Int32.ofNat 0)] _ (ck + c312) (sk + s312) _
      refine ls_istore (i := 6) (p := 323) (by decide +kernel) (Nat.le_of_ble_eq_true rfl) ?_
      refine ls_goto (p := 1656) (by decide +kernel) ?_
      exact hN _ _ 0 h _ _ _ _ _ _ ⟨⟨hH, hci, k_th, k_am, k_out, h3, k_rd, hl, hm, (by decide)⟩, ⟨hh1, hp, hg⟩, hrc, hrm, hbc, hbi, ⟨hry, hcy, hty, hzy, hsy, hfy⟩, _, htC, htM, fun i hi => absurd hi (Nat.not_lt_zero i)⟩ (by omega) (by omega)
    · exact absurd sq sq2
    · (rw [sq] at sq2; cases sq2)
  · cases ev
    have hrc := hrc0.upf k_th0 x312 f312 q0 w1 (by decide +kernel)
    have hry := hry0.xs hHo x312 hxf q0 (fun b j t kb hs => by rcases hs with h | h | h | h | h | h | h <;> obtain ⟨h1, h2⟩ := h <;> subst h1 <;> first | (rw [k_rd0] at kb; cases kb; exact ryS.r _ (by decide) (by decide)) | (rw [k_ta] at kb; cases kb; exact ryS.r _ (by decide) (by decide)) | (rw [htC0.1.2.1] at kb; cases kb; exact ryS.r _ (by decide) (by decide)) | (rw [htC0.1.2.2] at kb; cases kb; exact ryS.r _ (by decide) (by decide)) | (rw [k_out0] at kb; cases kb; exact ryS.r _ (by decide) (by decide)) | (rw [hrc0.1.1] at kb; cases kb; exact ⟨by decide, fun _ => .inl ⟨rfl, h2⟩, fun h => absurd h (by decide), fun h => absurd h (by decide), fun h => absurd h (by decide)⟩) | (rw [k_ra] at kb; cases kb; exact ⟨by decide, fun h => absurd h (by decide), fun _ => ⟨g1_, by have z0_ : cn (0, 0).2 = cn 0 := rfl; have z1_ : cn (7, 1).2 = cn 1 := rfl; have z2_ : cn (9, 2).2 = cn 2 := rfl; omega⟩, fun h => absurd h (by decide), fun h => absurd h (by decide)⟩))
    show et_go _ _ 1000 315 [some (.ref 150), some (.ref th), some (.ref am), some (.ref out), some (.int (Int32.ofNat i)), x5, x6] [.int (Int32.ofNat 2)] _ (ck + c312) (sk + s312) _
    refine ls_istore (i := 5) (p := 317) (by decide +kernel) (Nat.le_of_ble_eq_true rfl) ?_
    refine ls_aload (i := 2) (p := 318) (by decide +kernel) rfl ?_
    refine lt_callv (T := et_TT) (t := 13) (mi := 180) (na := 0) (ci := 11) (lk := 7) (lm := 2) (L0 := eg_en (eg_mL 180) [.ref am]) (by decide +kernel) rfl hH k_am rfl rfl rfl rfl rfl (by rw [show eg_mL 180 = 2 from by decide +kernel]; first | done | rfl) ?_
    have hHo := hH
    have hH1 := hH
    have k_am1 := k_am
    have hrm0 := hrm
    have htM0 := htM
    have hrc0 := hrc
    have hty0 := hty
    obtain ⟨aj, m18, k_aj⟩ := hf_ref (t := 13) (f := 18) (u := 25) hH k_am rfl rfl (.inr trivial)
    refine ((hc_ruleT (w := (K312, [], G312)) hH k_am (by omega)).and (fm_rule hH k_am htM.2.1 htM.1 hm hc htM.2.2 htb hrm.1.1 hrm.2.1.1 m18 (hrm.2.2 (0, 0) (by decide)).1 b0 (by omega))).mono (fun u hu => ls_cbvQ2 ⟨hu.1.1, (show pmu am 0 u from hu.1.2)⟩ hu.2 (fun v318 K318 G318 c318 s318 x318 f318 hH hv318 cl318 sl318 hP hQ => ?_))
    obtain ⟨_, _, eu, hxf, hQ⟩ := hQ
    cases eu
    have hfy := hfy.fr k_th hrc.1.1 x318 f318 (by decide +kernel)
    have hsy := hsy.fr k_th x318 f318 (by decide +kernel)
    have hzy := hzy.fr k_th hrc.1.1 hrc.1.2.1 x318 f318 (by decide +kernel)
    have hcy := hcy.fr x318 f318 (by decide +kernel)
    have hci := hci.fr x318 f318 (by decide +kernel)
    have h3 := (f318.2 th 12 k_th 3 rfl).trans h3
    have hl := (f318.2 rd 7 k_rd 1 rfl).trans hl
    have hm := hP
    have hp := (f318.2 th 12 k_th 2 rfl).trans hp
    have hg := (f318.2 am 13 k_am 3 rfl).trans hg
    have htC := htC.fr k_rd x318 f318 (by decide +kernel)
    have htM := (htM.fr k_am x318 f318 (by decide +kernel)).le (Nat.zero_le _)
    have hrc := hrc.fr k_th x318 f318 (by decide +kernel)
    have k_th := x318 _ _ k_th
    have k_am := x318 _ _ k_am
    have k_out := x318 _ _ k_out
    have k_rd := x318 _ _ k_rd
    have hty := hty0.xs hHo x318 hxf (fun b j t kb hs => by rcases hs with ⟨ea, ej⟩ | ⟨ea, ej⟩ | ⟨ea, ej⟩ <;> subst ea <;> first | (rw [k_am1] at kb; cases kb; exact tyS.r _ (by decide) (by decide)) | (rw [hrm0.1.1] at kb; cases kb; exact ⟨by decide, fun h => absurd h (by decide), fun h => absurd h (by decide), fun _ => by have z0_ : cn (0, 0).2 = cn 0 := rfl; have z1_ : cn (7, 1).2 = cn 1 := rfl; have z2_ : cn (9, 2).2 = cn 2 := rfl; omega, fun h => absurd h (by decide)⟩) | (rw [k_aj] at kb; cases kb; exact tyS.r _ (by decide) (by decide)))
    rcases hQ with ⟨sq2, ev2, ht, z0⟩ | ⟨r4, sq2, ev2, ht, z0⟩ | ⟨f2, sq2, r4, ev2, ht, z0, tx_⟩
    · exact absurd sq2 sq
    · cases ev2
      have hrm := hrm0.up hH1 k_am1 x318 hxf (fun a j t ha hs => by rcases hs with ⟨ea, ej⟩ | ⟨ea, ej⟩ | ⟨ea, ej⟩ <;> rw [ea] at ha <;> first | (rw [k_am1] at ha; cases ha; exact ⟨fun _ => by omega, fun h => absurd h (by decide), by decide⟩) | (rw [hrm0.1.1] at ha; cases ha; exact ⟨fun h => absurd h (by decide), fun _ => by omega, by decide⟩) | (rw [k_aj] at ha; cases ha; exact ⟨fun h => absurd h (by decide), fun h => absurd h (by decide), by decide⟩)) z0 (by decide)
      have hbc := rc_upb (k := 0) (v := cn 0) hbc (by omega)
      have hry := hry.xs hHo x318 hxf (hrc.2.2 (0, 0) (by decide)).1 (fun b j t kb hs => by rcases hs with ⟨ea, ej⟩ | ⟨ea, ej⟩ | ⟨ea, ej⟩ <;> subst ea <;> first | (rw [k_am1] at kb; cases kb; exact ryS.r _ (by decide) (by decide)) | (rw [hrm0.1.1] at kb; cases kb; exact ⟨by decide, fun h => absurd h (by decide), fun h => absurd h (by decide), fun _ => by have z0_ : cn (0, 0).2 = cn 0 := rfl; have z1_ : cn (7, 1).2 = cn 1 := rfl; have z2_ : cn (9, 2).2 = cn 2 := rfl; omega, fun h => absurd h (by decide)⟩) | (rw [k_aj] at kb; cases kb; exact ryS.r _ (by decide) (by decide)))
      show et_go _ _ 1000 321 [some (.ref 150), some (.ref th), some (.ref am), some (.ref out), some (.int (Int32.ofNat i)), some (.int (Int32.ofNat 2)), x6] [.int (Int32.ofNat 0)] _ (ck + c312) (sk + s312) _
      refine ls_istore (i := 6) (p := 323) (by decide +kernel) (Nat.le_of_ble_eq_true rfl) ?_
      refine ls_goto (p := 1656) (by decide +kernel) ?_
      exact hN _ _ 0 h _ _ _ _ _ _ ⟨⟨hH, hci, k_th, k_am, k_out, h3, k_rd, hl, hm, (by decide)⟩, ⟨hh1, hp, hg⟩, hrc, hrm, hbc, hbi, ⟨hry, hcy, hty, hzy, hsy, hfy⟩, _, htC, htM, fun i hi => absurd hi (Nat.not_lt_zero i)⟩ (by omega) (by omega)
    · exact absurd c4 (by omega)
  · cases ev
    have hrc := hrc0.upf k_th0 x312 f312 q0 w1 (by decide +kernel)
    have hryA := hry0.ru1 (f := f_) hHo x312 hxf (fun b j t kb hs => by rcases hs with h | h | h | h | h | h | h <;> obtain ⟨h1, h2⟩ := h <;> subst h1 <;> first | (rw [k_rd0] at kb; cases kb; exact ryS.r _ (by decide) (by decide)) | (rw [k_ta] at kb; cases kb; exact ryS.r _ (by decide) (by decide)) | (rw [htC0.1.2.1] at kb; cases kb; exact ryS.r _ (by decide) (by decide)) | (rw [htC0.1.2.2] at kb; cases kb; exact ryS.r _ (by decide) (by decide)) | (rw [k_out0] at kb; cases kb; exact ryS.r _ (by decide) (by decide)) | (rw [hrc0.1.1] at kb; cases kb; exact ⟨by decide, fun _ => .inl ⟨rfl, h2⟩, fun h => absurd h (by decide), fun h => absurd h (by decide), fun h => absurd h (by decide)⟩) | (rw [k_ra] at kb; cases kb; exact ⟨by decide, fun h => absurd h (by decide), fun _ => ⟨g1_, by have z0_ : cn (0, 0).2 = cn 0 := rfl; have z1_ : cn (7, 1).2 = cn 1 := rfl; have z2_ : cn (9, 2).2 = cn 2 := rfl; omega⟩, fun h => absurd h (by decide), fun h => absurd h (by decide)⟩)) c4 g1_ (one_fcl sq) q0 qr_ (hi_el37 hH (x312 _ _ k_ra) c4 qr_) qa_ qb_ lq_ qd_
    show et_go _ _ 1000 315 [some (.ref 150), some (.ref th), some (.ref am), some (.ref out), some (.int (Int32.ofNat i)), x5, x6] [.int (Int32.ofNat 0)] _ (ck + c312) (sk + s312) _
    refine ls_istore (i := 5) (p := 317) (by decide +kernel) (Nat.le_of_ble_eq_true rfl) ?_
    refine ls_aload (i := 2) (p := 318) (by decide +kernel) rfl ?_
    refine lt_callv (T := et_TT) (t := 13) (mi := 180) (na := 0) (ci := 11) (lk := 7) (lm := 2) (L0 := eg_en (eg_mL 180) [.ref am]) (by decide +kernel) rfl hH k_am rfl rfl rfl rfl rfl (by rw [show eg_mL 180 = 2 from by decide +kernel]; first | done | rfl) ?_
    have hHo := hH
    have hH1 := hH
    have k_am1 := k_am
    have hrm0 := hrm
    have htM0 := htM
    have hrc0 := hrc
    have hty0 := hty
    obtain ⟨aj, m18, k_aj⟩ := hf_ref (t := 13) (f := 18) (u := 25) hH k_am rfl rfl (.inr trivial)
    refine ((hc_ruleT (w := (K312, [], G312)) hH k_am (by omega)).and (fm_rule hH k_am htM.2.1 htM.1 hm hc htM.2.2 htb hrm.1.1 hrm.2.1.1 m18 (hrm.2.2 (0, 0) (by decide)).1 b0 (by omega))).mono (fun u hu => ls_cbvQ2 ⟨hu.1.1, (show pmu am 0 u from hu.1.2)⟩ hu.2 (fun v318 K318 G318 c318 s318 x318 f318 hH hv318 cl318 sl318 hP hQ => ?_))
    obtain ⟨_, _, eu, hxf, hQ⟩ := hQ
    cases eu
    have hfy := hfy.fr k_th hrc.1.1 x318 f318 (by decide +kernel)
    have hsy := hsy.fr k_th x318 f318 (by decide +kernel)
    have hzy := hzy.fr k_th hrc.1.1 hrc.1.2.1 x318 f318 (by decide +kernel)
    have hcy := hcy.fr x318 f318 (by decide +kernel)
    have hci := hci.fr x318 f318 (by decide +kernel)
    have h3 := (f318.2 th 12 k_th 3 rfl).trans h3
    have hl := (f318.2 rd 7 k_rd 1 rfl).trans hl
    have hm := hP
    have hp := (f318.2 th 12 k_th 2 rfl).trans hp
    have hg := (f318.2 am 13 k_am 3 rfl).trans hg
    have htC := htC.fr k_rd x318 f318 (by decide +kernel)
    have htM := (htM.fr k_am x318 f318 (by decide +kernel)).le (Nat.zero_le _)
    have hrc := hrc.fr k_th x318 f318 (by decide +kernel)
    have ho := (f318.2 out 31 k_out 0 rfl).trans ho
    have k_th := x318 _ _ k_th
    have k_am := x318 _ _ k_am
    have k_out := x318 _ _ k_out
    have k_rd := x318 _ _ k_rd
    have hty := hty0.xs hHo x318 hxf (fun b j t kb hs => by rcases hs with ⟨ea, ej⟩ | ⟨ea, ej⟩ | ⟨ea, ej⟩ <;> subst ea <;> first | (rw [k_am1] at kb; cases kb; exact tyS.r _ (by decide) (by decide)) | (rw [hrm0.1.1] at kb; cases kb; exact ⟨by decide, fun h => absurd h (by decide), fun h => absurd h (by decide), fun _ => by have z0_ : cn (0, 0).2 = cn 0 := rfl; have z1_ : cn (7, 1).2 = cn 1 := rfl; have z2_ : cn (9, 2).2 = cn 2 := rfl; omega, fun h => absurd h (by decide)⟩) | (rw [k_aj] at kb; cases kb; exact tyS.r _ (by decide) (by decide)))
    rcases hQ with ⟨sq2, ev2, ht, z0⟩ | ⟨r4, sq2, ev2, ht, z0⟩ | ⟨f2, sq2, r4, ev2, ht, z0, tx_⟩
    · (rw [sq2] at sq; cases sq)
    · exact absurd c4 (by omega)
    · cases ev2
      have hrm := hrm0.up hH1 k_am1 x318 hxf (fun a j t ha hs => by rcases hs with ⟨ea, ej⟩ | ⟨ea, ej⟩ | ⟨ea, ej⟩ <;> rw [ea] at ha <;> first | (rw [k_am1] at ha; cases ha; exact ⟨fun _ => by omega, fun h => absurd h (by decide), by decide⟩) | (rw [hrm0.1.1] at ha; cases ha; exact ⟨fun h => absurd h (by decide), fun _ => by omega, by decide⟩) | (rw [k_aj] at ha; cases ha; exact ⟨fun h => absurd h (by decide), fun h => absurd h (by decide), by decide⟩)) z0 (by decide)
      have hbc := rc_upb (k := 0) (v := cn 0 + 1) hbc (by omega)
      obtain rfl : f_ = f2 := Option.some.inj (sq.symm.trans sq2)
      have hry := hryA.ru2 hHo x318 hxf (fun b j t kb hs => by rcases hs with ⟨ea, ej⟩ | ⟨ea, ej⟩ | ⟨ea, ej⟩ <;> subst ea <;> first | (rw [k_am1] at kb; cases kb; exact ryS.r _ (by decide) (by decide)) | (rw [hrm0.1.1] at kb; cases kb; exact ⟨by decide, fun h => absurd h (by decide), fun h => absurd h (by decide), fun _ => by have z0_ : cn (0, 0).2 = cn 0 := rfl; have z1_ : cn (7, 1).2 = cn 1 := rfl; have z2_ : cn (9, 2).2 = cn 2 := rfl; omega, fun h => absurd h (by decide)⟩) | (rw [k_aj] at kb; cases kb; exact ryS.r _ (by decide) (by decide))) (fun j hs => by rcases hs with ⟨ea, ej⟩ | ⟨ea, ej⟩ | ⟨ea, ej⟩ <;> (have k_z := hrc0.1.1; rw [ea] at k_z; first | (rw [k_am1] at k_z; cases k_z) | (rw [hrm0.1.1] at k_z; cases k_z) | (rw [k_aj] at k_z; cases k_z))) tx_ (fun b j hs k_z => by rcases hs with ⟨ea, ej⟩ | ⟨ea, ej⟩ | ⟨ea, ej⟩ <;> (rw [ea] at k_z; first | (rw [k_am1] at k_z; cases k_z) | (rw [hrm0.1.1] at k_z; cases k_z) | (rw [k_aj] at k_z; cases k_z)))
      show et_go _ _ 1000 321 [some (.ref 150), some (.ref th), some (.ref am), some (.ref out), some (.int (Int32.ofNat i)), some (.int (Int32.ofNat 0)), x6] [.int (Int32.ofNat (cn 0))] _ (ck + c312) (sk + s312) _
      refine ls_istore (i := 6) (p := 323) (by decide +kernel) (Nat.le_of_ble_eq_true rfl) ?_
      refine ls_goto (p := 1656) (by decide +kernel) ?_
      exact hN _ _ 0 h _ _ _ _ _ _ ⟨⟨hH, hci, k_th, k_am, k_out, h3, k_rd, hl, hm, (by decide)⟩, ⟨hh1, hp, hg⟩, hrc, hrm, hbc, hbi, ⟨hry, hcy, hty, hzy, hsy, hfy⟩, _, htC, htM, fun i hi => absurd hi (Nat.not_lt_zero i)⟩ (by omega) (by omega)
set_option maxHeartbeats 2000000 in
theorem lw_c3 (hI : lw_I K G th am out rd s0 s1 aw ai tp ba na tm c h cn im) (hi : i + 6 ≤ n) (hn : n ≤ 3072) (hN : ∀ (K' : et_K) (G' : eg_G) (c' h' : Nat) (cn' im' : Nat → Nat) (ck' sk' : Nat) (y5 y6 : Option Value), lw_I K' G' th am out rd s0 s1 aw ai tp ba na tm c' h' cn' im' → ck' ≤ ck + 841 → sk' ≤ sk + 7168 → et_go (some (n, f)) (d + 41) 1000 1656 [some (.ref 150), some (.ref th), some (.ref am), some (.ref out), some (.int (Int32.ofNat i)), y5, y6] [] G' ck' sk' Z) : et_go (some (n, f)) (d + 41) 1000 326 [some (.ref 150), some (.ref th), some (.ref am), some (.ref out), some (.int (Int32.ofNat i)), x5, x6] [] G ck sk Z := by
  obtain ⟨⟨hH, hci, k_th, k_am, k_out, h3, k_rd, hl, hm, hc⟩, ⟨hh1, hp, hg⟩, hrc, hrm, hbc, hbi, ⟨hry, hcy, hty, hzy, hsy, hfy⟩, tb, htC, htM, htb⟩ := hI
  refine ls_aload (i := 1) (p := 327) (by decide +kernel) rfl ?_
  refine ls_aload (i := 3) (p := 328) (by decide +kernel) rfl ?_
  refine ls_calls (mi := 1) (na := 2) (lk := 7) (lm := 3) (L0 := eg_en (eg_mL 1) [.ref th, .ref out]) (by decide +kernel) rfl rfl rfl rfl rfl rfl (by rw [show eg_mL 1 = 3 from by decide +kernel]; first | done | rfl) ?_
  have hHo := hH
  have hty0 := hty
  have hry0 := hry
  obtain ⟨t0, t1, ra0, ca0, rc0, ec0, cc0, ra1, ca1, rc1, ec1, cc1, hC⟩ := id hci
  obtain rfl : s0 = t0 := Value.ref.inj (Option.some.inj (hrc.2.1.1.symm.trans hC.2.1.1))
  obtain rfl : s1 = t1 := Value.ref.inj (Option.some.inj (hrc.2.1.2.symm.trans hC.2.1.2))
  have ee0 : ec0 = cn 4 := xi_inj (by have := hC.2.2.2.1.2.2.2.1.2.1; omega) (by have := hbc 4; omega) (hC.2.2.2.1.2.2.1.2.1.symm.trans (hrc.2.2 (5, 4) (by decide)).1)
  have ee1 : ec1 = im 4 := xi_inj (by have := hC.2.2.2.2.2.2.2.1.2.1; omega) (by have := hbi 4; omega) (hC.2.2.2.2.2.2.1.2.1.symm.trans (hrc.2.2 (5, 4) (by decide)).2)
  have b1 : cn 1 ≤ 4 := Int.ofNat_le.mp (hf_bd (t := 10) hH hrc.1.1 rfl rfl (hrc.2.2 (7, 1) (by decide)).1 (hbc 1))
  have hH0 := hH
  have k_th0 := k_th
  have k_out0 := k_out
  have k_rd0 := k_rd
  have k_am0 := k_am
  have hrc0 := hrc
  have hrm0 := hrm
  obtain ⟨ta, r4, k_ta⟩ := hf_ref (t := 7) (f := 4) (u := 41) hH k_rd rfl rfl (.inr trivial)
  obtain ⟨tu, g8, k_ra⟩ := hf_ref (t := 10) (f := 8) (u := 38) hH hrc.1.1 rfl rfl (.inr trivial)
  have htC0 := htC
  refine ((hh_i1 hH hci k_th k_out h3 k_rd (by omega)).and (fh_turner hH k_rd htC.2.1.1 htC.1.1 hl hc htC.2.2 htb k_ta htC.1.2.1 htC.1.2.2 htC.2.1.2.2.2 r4 htC.2.1.2.1 htC.2.1.2.2.1 k_th h3 hrc.2.1.1 hrc.1.1 (hrc.2.2 (7, 1) (by decide)).1 b1 g8 k_ra k_out (by omega))).mono (fun u hu => ls_cbrQ hu (fun v328 K328 G328 c328 s328 x328 f328 hH hci hP cl328 sl328 hQ => ?_))
  obtain ⟨_, _, _, _, _, eu, -, -, hxf, hQ⟩ := hQ
  cases eu
  have hfy := hfy.fr k_th hrc.1.1 x328 f328 (by decide +kernel)
  have hsy := hsy.fr k_th x328 f328 (by decide +kernel)
  have hzy := hzy.fr k_th hrc.1.1 hrc.1.2.1 x328 f328 (by decide +kernel)
  have hcy := hcy.fr x328 f328 (by decide +kernel)
  have h3 := (f328.2 th 12 k_th 3 rfl).trans h3
  have hl := hP
  have hm := (f328.2 am 13 k_am 5 rfl).trans hm
  have hp := (f328.2 th 12 k_th 2 rfl).trans hp
  have hg := (f328.2 am 13 k_am 3 rfl).trans hg
  have htC := (htC.fr k_rd x328 f328 (by decide +kernel)).le (Nat.zero_le _)
  have htM := htM.fr k_am x328 f328 (by decide +kernel)
  have hrm := hrm.fr k_am x328 f328 (by decide +kernel)
  have k_th := x328 _ _ k_th
  have k_am := x328 _ _ k_am
  have k_out := x328 _ _ k_out
  have k_rd := x328 _ _ k_rd
  have hry := hry0.xs hHo x328 hxf ((f328.2 s0 10 hrc0.1.1 0 rfl).trans (hrc0.2.2 (0, 0) (by decide)).1) (fun b j t kb hs => by rcases hs with h | h | h | h | h | h | h <;> obtain ⟨h1, h2⟩ := h <;> subst h1 <;> first | (rw [k_rd0] at kb; cases kb; exact ryS.r _ (by decide) (by decide)) | (rw [k_ta] at kb; cases kb; exact ryS.r _ (by decide) (by decide)) | (rw [htC0.1.2.1] at kb; cases kb; exact ryS.r _ (by decide) (by decide)) | (rw [htC0.1.2.2] at kb; cases kb; exact ryS.r _ (by decide) (by decide)) | (rw [k_ra] at kb; cases kb; exact ryS.r _ (by decide) (by decide)) | (rw [k_out0] at kb; cases kb; exact ryS.r _ (by decide) (by decide)) | (rw [hrc0.1.1] at kb; cases kb; exact ⟨by decide, fun _ => .inr (by have z0_ : cn (0, 0).2 = cn 0 := rfl; have z1_ : cn (7, 1).2 = cn 1 := rfl; have z2_ : cn (9, 2).2 = cn 2 := rfl; omega), fun h => absurd h (by decide), fun h => absurd h (by decide), fun h => absurd h (by decide)⟩))
  have k_z := hrc0.1.2.1
  have w1 : et_pl (eg_at G328 s1) 7 = some (.int (Int32.ofNat (im 1))) := (hxf.2 s1 7 (hH0.2.2 _ _ hrc0.1.2.1).1 (fun h => by rcases h with h | h | h | h | h | h | h <;> first | exact hrc0.1.2.2 h.1.symm | (have h := h.1; rw [h] at k_z; first | (rw [k_rd0] at k_z; cases k_z) | (rw [k_ta] at k_z; cases k_z) | (rw [htC0.1.2.1] at k_z; cases k_z) | (rw [htC0.1.2.2] at k_z; cases k_z) | (rw [k_ra] at k_z; cases k_z) | (rw [k_out0] at k_z; cases k_z)))).trans (hrc0.2.2 (7, 1) (by decide)).2
  rcases hQ with ⟨sq, ev, q0⟩ | ⟨c4, sq, ev, q0⟩ | ⟨c4, ev, ho, q0, ls_, tn_, A_, B_, C_, mid_, hi_, sq, qr_, -, -, -, -, -, qp_, -, -, -, -, qT_⟩
  · cases ev
    have hrc := hrc0.upf k_th0 x328 f328 q0 w1 (by decide +kernel)
    have hty := hty0.xs hHo x328 hxf (fun b j t kb hs => by rcases hs with h | h | h | h | h | h | h <;> obtain ⟨h1, h2⟩ := h <;> subst h1 <;> first | (rw [k_rd0] at kb; cases kb; exact tyS.r _ (by decide) (by decide)) | (rw [k_ta] at kb; cases kb; exact tyS.r _ (by decide) (by decide)) | (rw [htC0.1.2.1] at kb; cases kb; exact tyS.r _ (by decide) (by decide)) | (rw [htC0.1.2.2] at kb; cases kb; exact tyS.r _ (by decide) (by decide)) | (rw [k_out0] at kb; cases kb; exact tyS.r _ (by decide) (by decide)) | (rw [hrc0.1.1] at kb; cases kb; exact ⟨by decide, fun _ => by omega, fun h => absurd h (by decide), fun h => absurd h (by decide), fun h => absurd h (by decide)⟩) | (rw [k_ra] at kb; cases kb; exact ⟨by decide, fun h => absurd h (by decide), fun _ => ⟨g8, by have z1_ : cn (7, 1).2 = cn 1 := rfl; omega⟩, fun h => absurd h (by decide), fun h => absurd h (by decide)⟩))
    show et_go _ _ 1000 331 [some (.ref 150), some (.ref th), some (.ref am), some (.ref out), some (.int (Int32.ofNat i)), x5, x6] [.int (Int32.ofNat 1)] _ (ck + c328) (sk + s328) _
    refine ls_istore (i := 5) (p := 333) (by decide +kernel) (Nat.le_of_ble_eq_true rfl) ?_
    refine ls_aload (i := 2) (p := 334) (by decide +kernel) rfl ?_
    refine lt_callv (T := et_TT) (t := 13) (mi := 206) (na := 0) (ci := 11) (lk := 7) (lm := 1) (L0 := eg_en (eg_mL 206) [.ref am]) (by decide +kernel) rfl hH k_am rfl rfl rfl rfl rfl (by rw [show eg_mL 206 = 1 from by decide +kernel]; first | done | rfl) ?_
    have hHo := hH
    have b0 : cn 0 ≤ 4 := Int.ofNat_le.mp (hf_bd (t := 10) hH hrc.1.1 rfl rfl (hrc.2.2 (0, 0) (by decide)).1 (hbc 0))
    have hH1 := hH
    have k_am1 := k_am
    have hrm0 := hrm
    have htM0 := htM
    have hrc0 := hrc
    have hty0 := hty
    refine ((hc_turnerT (w := (K328, [], G328)) hH k_am (by omega)).and (fm_turner hH k_am htM.2.1 htM.1 hm hc htM.2.2 htb hrm.1.1 hrm.2.1.1 (hrm.2.2 (7, 1) (by decide)).1 b1 (by omega))).mono (fun u hu => ls_cbvQ2 ⟨hu.1.1, (show pmu am 0 u from hu.1.2)⟩ hu.2 (fun v334 K334 G334 c334 s334 x334 f334 hH hv334 cl334 sl334 hP hQ => ?_))
    obtain ⟨_, _, eu, hxf, hQ⟩ := hQ
    cases eu
    have hry0 := hry
    have hfy := hfy.fr k_th hrc.1.1 x334 f334 (by decide +kernel)
    have hsy := hsy.fr k_th x334 f334 (by decide +kernel)
    have hzy := hzy.fr k_th hrc.1.1 hrc.1.2.1 x334 f334 (by decide +kernel)
    have hcy := hcy.fr x334 f334 (by decide +kernel)
    have hci := hci.fr x334 f334 (by decide +kernel)
    have h3 := (f334.2 th 12 k_th 3 rfl).trans h3
    have hl := (f334.2 rd 7 k_rd 1 rfl).trans hl
    have hm := hP
    have hp := (f334.2 th 12 k_th 2 rfl).trans hp
    have hg := (f334.2 am 13 k_am 3 rfl).trans hg
    have htC := htC.fr k_rd x334 f334 (by decide +kernel)
    have htM := (htM.fr k_am x334 f334 (by decide +kernel)).le (Nat.zero_le _)
    have hrc := hrc.fr k_th x334 f334 (by decide +kernel)
    have k_th := x334 _ _ k_th
    have k_am := x334 _ _ k_am
    have k_out := x334 _ _ k_out
    have k_rd := x334 _ _ k_rd
    have hry := hry0.xs hHo x334 hxf (hrc.2.2 (0, 0) (by decide)).1 (fun b j t kb hs => by rcases hs with ⟨ea, ej⟩ | ⟨ea, ej⟩ <;> subst ea <;> first | (rw [k_am1] at kb; cases kb; exact ryS.r _ (by decide) (by decide)) | (rw [hrm0.1.1] at kb; cases kb; exact ⟨by decide, fun h => absurd h (by decide), fun h => absurd h (by decide), fun _ => by have z0_ : cn (0, 0).2 = cn 0 := rfl; have z1_ : cn (7, 1).2 = cn 1 := rfl; have z2_ : cn (9, 2).2 = cn 2 := rfl; omega, fun h => absurd h (by decide)⟩))
    rcases hQ with ⟨sq2, ev2, ht, z0⟩ | ⟨r4, sq2, ev2, ht, z0⟩ | ⟨f2, sq2, r4, ev2, ht, z0, tx_⟩
    · cases ev2
      have hrm := hrm0.up hH1 k_am1 x334 hxf (fun a j t ha hs => by rcases hs with ⟨ea, ej⟩ | ⟨ea, ej⟩ <;> rw [ea] at ha <;> first | (rw [k_am1] at ha; cases ha; exact ⟨fun _ => by omega, fun h => absurd h (by decide), by decide⟩) | (rw [hrm0.1.1] at ha; cases ha; exact ⟨fun h => absurd h (by decide), fun _ => by omega, by decide⟩)) z0 (by decide)
      have hbc := rc_upb (k := 1) (v := cn 1) hbc (by omega)
      have hty := hty.xs hHo x334 hxf (fun b j t kb hs => by rcases hs with ⟨ea, ej⟩ | ⟨ea, ej⟩ <;> subst ea <;> first | (rw [k_am1] at kb; cases kb; exact tyS.r _ (by decide) (by decide)) | (rw [hrm0.1.1] at kb; cases kb; exact ⟨by decide, fun h => absurd h (by decide), fun h => absurd h (by decide), fun _ => by have z0_ : cn (0, 0).2 = cn 0 := rfl; have z1_ : cn (7, 1).2 = cn 1 := rfl; have z2_ : cn (9, 2).2 = cn 2 := rfl; omega, fun h => absurd h (by decide)⟩))
      show et_go _ _ 1000 337 [some (.ref 150), some (.ref th), some (.ref am), some (.ref out), some (.int (Int32.ofNat i)), some (.int (Int32.ofNat 1)), x6] [.int (Int32.ofNat 0)] _ (ck + c328) (sk + s328) _
      refine ls_istore (i := 6) (p := 339) (by decide +kernel) (Nat.le_of_ble_eq_true rfl) ?_
      refine ls_goto (p := 1656) (by decide +kernel) ?_
      exact hN _ _ 0 h _ _ _ _ _ _ ⟨⟨hH, hci, k_th, k_am, k_out, h3, k_rd, hl, hm, (by decide)⟩, ⟨hh1, hp, hg⟩, hrc, hrm, hbc, hbi, ⟨hry, hcy, hty, hzy, hsy, hfy⟩, _, htC, htM, fun i hi => absurd hi (Nat.not_lt_zero i)⟩ (by omega) (by omega)
    · exact absurd sq sq2
    · (rw [sq] at sq2; cases sq2)
  · cases ev
    have hrc := hrc0.upf k_th0 x328 f328 q0 w1 (by decide +kernel)
    have hty := hty0.xs hHo x328 hxf (fun b j t kb hs => by rcases hs with h | h | h | h | h | h | h <;> obtain ⟨h1, h2⟩ := h <;> subst h1 <;> first | (rw [k_rd0] at kb; cases kb; exact tyS.r _ (by decide) (by decide)) | (rw [k_ta] at kb; cases kb; exact tyS.r _ (by decide) (by decide)) | (rw [htC0.1.2.1] at kb; cases kb; exact tyS.r _ (by decide) (by decide)) | (rw [htC0.1.2.2] at kb; cases kb; exact tyS.r _ (by decide) (by decide)) | (rw [k_out0] at kb; cases kb; exact tyS.r _ (by decide) (by decide)) | (rw [hrc0.1.1] at kb; cases kb; exact ⟨by decide, fun _ => by omega, fun h => absurd h (by decide), fun h => absurd h (by decide), fun h => absurd h (by decide)⟩) | (rw [k_ra] at kb; cases kb; exact ⟨by decide, fun h => absurd h (by decide), fun _ => ⟨g8, by have z1_ : cn (7, 1).2 = cn 1 := rfl; omega⟩, fun h => absurd h (by decide), fun h => absurd h (by decide)⟩))
    show et_go _ _ 1000 331 [some (.ref 150), some (.ref th), some (.ref am), some (.ref out), some (.int (Int32.ofNat i)), x5, x6] [.int (Int32.ofNat 2)] _ (ck + c328) (sk + s328) _
    refine ls_istore (i := 5) (p := 333) (by decide +kernel) (Nat.le_of_ble_eq_true rfl) ?_
    refine ls_aload (i := 2) (p := 334) (by decide +kernel) rfl ?_
    refine lt_callv (T := et_TT) (t := 13) (mi := 206) (na := 0) (ci := 11) (lk := 7) (lm := 1) (L0 := eg_en (eg_mL 206) [.ref am]) (by decide +kernel) rfl hH k_am rfl rfl rfl rfl rfl (by rw [show eg_mL 206 = 1 from by decide +kernel]; first | done | rfl) ?_
    have hHo := hH
    have b0 : cn 0 ≤ 4 := Int.ofNat_le.mp (hf_bd (t := 10) hH hrc.1.1 rfl rfl (hrc.2.2 (0, 0) (by decide)).1 (hbc 0))
    have hH1 := hH
    have k_am1 := k_am
    have hrm0 := hrm
    have htM0 := htM
    have hrc0 := hrc
    have hty0 := hty
    refine ((hc_turnerT (w := (K328, [], G328)) hH k_am (by omega)).and (fm_turner hH k_am htM.2.1 htM.1 hm hc htM.2.2 htb hrm.1.1 hrm.2.1.1 (hrm.2.2 (7, 1) (by decide)).1 b1 (by omega))).mono (fun u hu => ls_cbvQ2 ⟨hu.1.1, (show pmu am 0 u from hu.1.2)⟩ hu.2 (fun v334 K334 G334 c334 s334 x334 f334 hH hv334 cl334 sl334 hP hQ => ?_))
    obtain ⟨_, _, eu, hxf, hQ⟩ := hQ
    cases eu
    have hry0 := hry
    have hfy := hfy.fr k_th hrc.1.1 x334 f334 (by decide +kernel)
    have hsy := hsy.fr k_th x334 f334 (by decide +kernel)
    have hzy := hzy.fr k_th hrc.1.1 hrc.1.2.1 x334 f334 (by decide +kernel)
    have hcy := hcy.fr x334 f334 (by decide +kernel)
    have hci := hci.fr x334 f334 (by decide +kernel)
    have h3 := (f334.2 th 12 k_th 3 rfl).trans h3
    have hl := (f334.2 rd 7 k_rd 1 rfl).trans hl
    have hm := hP
    have hp := (f334.2 th 12 k_th 2 rfl).trans hp
    have hg := (f334.2 am 13 k_am 3 rfl).trans hg
    have htC := htC.fr k_rd x334 f334 (by decide +kernel)
    have htM := (htM.fr k_am x334 f334 (by decide +kernel)).le (Nat.zero_le _)
    have hrc := hrc.fr k_th x334 f334 (by decide +kernel)
    have k_th := x334 _ _ k_th
    have k_am := x334 _ _ k_am
    have k_out := x334 _ _ k_out
    have k_rd := x334 _ _ k_rd
    have hry := hry0.xs hHo x334 hxf (hrc.2.2 (0, 0) (by decide)).1 (fun b j t kb hs => by rcases hs with ⟨ea, ej⟩ | ⟨ea, ej⟩ <;> subst ea <;> first | (rw [k_am1] at kb; cases kb; exact ryS.r _ (by decide) (by decide)) | (rw [hrm0.1.1] at kb; cases kb; exact ⟨by decide, fun h => absurd h (by decide), fun h => absurd h (by decide), fun _ => by have z0_ : cn (0, 0).2 = cn 0 := rfl; have z1_ : cn (7, 1).2 = cn 1 := rfl; have z2_ : cn (9, 2).2 = cn 2 := rfl; omega, fun h => absurd h (by decide)⟩))
    rcases hQ with ⟨sq2, ev2, ht, z0⟩ | ⟨r4, sq2, ev2, ht, z0⟩ | ⟨f2, sq2, r4, ev2, ht, z0, tx_⟩
    · exact absurd sq2 sq
    · cases ev2
      have hrm := hrm0.up hH1 k_am1 x334 hxf (fun a j t ha hs => by rcases hs with ⟨ea, ej⟩ | ⟨ea, ej⟩ <;> rw [ea] at ha <;> first | (rw [k_am1] at ha; cases ha; exact ⟨fun _ => by omega, fun h => absurd h (by decide), by decide⟩) | (rw [hrm0.1.1] at ha; cases ha; exact ⟨fun h => absurd h (by decide), fun _ => by omega, by decide⟩)) z0 (by decide)
      have hbc := rc_upb (k := 1) (v := cn 1) hbc (by omega)
      have hty := hty.xs hHo x334 hxf (fun b j t kb hs => by rcases hs with ⟨ea, ej⟩ | ⟨ea, ej⟩ <;> subst ea <;> first | (rw [k_am1] at kb; cases kb; exact tyS.r _ (by decide) (by decide)) | (rw [hrm0.1.1] at kb; cases kb; exact ⟨by decide, fun h => absurd h (by decide), fun h => absurd h (by decide), fun _ => by have z0_ : cn (0, 0).2 = cn 0 := rfl; have z1_ : cn (7, 1).2 = cn 1 := rfl; have z2_ : cn (9, 2).2 = cn 2 := rfl; omega, fun h => absurd h (by decide)⟩))
      show et_go _ _ 1000 337 [some (.ref 150), some (.ref th), some (.ref am), some (.ref out), some (.int (Int32.ofNat i)), some (.int (Int32.ofNat 2)), x6] [.int (Int32.ofNat 0)] _ (ck + c328) (sk + s328) _
      refine ls_istore (i := 6) (p := 339) (by decide +kernel) (Nat.le_of_ble_eq_true rfl) ?_
      refine ls_goto (p := 1656) (by decide +kernel) ?_
      exact hN _ _ 0 h _ _ _ _ _ _ ⟨⟨hH, hci, k_th, k_am, k_out, h3, k_rd, hl, hm, (by decide)⟩, ⟨hh1, hp, hg⟩, hrc, hrm, hbc, hbi, ⟨hry, hcy, hty, hzy, hsy, hfy⟩, _, htC, htM, fun i hi => absurd hi (Nat.not_lt_zero i)⟩ (by omega) (by omega)
    · exact absurd c4 (by omega)
  · cases ev
    have hrc := hrc0.upf k_th0 x328 f328 q0 w1 (by decide +kernel)
    have htyA := hty0.tu1 (ls := ls_) hHo x328 hxf (fun b j t kb hs => by rcases hs with h | h | h | h | h | h | h <;> obtain ⟨h1, h2⟩ := h <;> subst h1 <;> first | (rw [k_rd0] at kb; cases kb; exact tyS.r _ (by decide) (by decide)) | (rw [k_ta] at kb; cases kb; exact tyS.r _ (by decide) (by decide)) | (rw [htC0.1.2.1] at kb; cases kb; exact tyS.r _ (by decide) (by decide)) | (rw [htC0.1.2.2] at kb; cases kb; exact tyS.r _ (by decide) (by decide)) | (rw [k_out0] at kb; cases kb; exact tyS.r _ (by decide) (by decide)) | (rw [hrc0.1.1] at kb; cases kb; exact ⟨by decide, fun _ => by omega, fun h => absurd h (by decide), fun h => absurd h (by decide), fun h => absurd h (by decide)⟩) | (rw [k_ra] at kb; cases kb; exact ⟨by decide, fun h => absurd h (by decide), fun _ => ⟨g8, by have z1_ : cn (7, 1).2 = cn 1 := rfl; omega⟩, fun h => absurd h (by decide), fun h => absurd h (by decide)⟩)) c4 g8 qr_ (tuC.mk hH (x328 _ _ k_ra) c4 qr_ qp_ qT_ (turner_len sq)) (turner_cl1 sq)
    show et_go _ _ 1000 331 [some (.ref 150), some (.ref th), some (.ref am), some (.ref out), some (.int (Int32.ofNat i)), x5, x6] [.int (Int32.ofNat 0)] _ (ck + c328) (sk + s328) _
    refine ls_istore (i := 5) (p := 333) (by decide +kernel) (Nat.le_of_ble_eq_true rfl) ?_
    refine ls_aload (i := 2) (p := 334) (by decide +kernel) rfl ?_
    refine lt_callv (T := et_TT) (t := 13) (mi := 206) (na := 0) (ci := 11) (lk := 7) (lm := 1) (L0 := eg_en (eg_mL 206) [.ref am]) (by decide +kernel) rfl hH k_am rfl rfl rfl rfl rfl (by rw [show eg_mL 206 = 1 from by decide +kernel]; first | done | rfl) ?_
    have hHo := hH
    have b0 : cn 0 ≤ 4 := Int.ofNat_le.mp (hf_bd (t := 10) hH hrc.1.1 rfl rfl (hrc.2.2 (0, 0) (by decide)).1 (hbc 0))
    have hH1 := hH
    have k_am1 := k_am
    have hrm0 := hrm
    have htM0 := htM
    have hrc0 := hrc
    have hty0 := hty
    refine ((hc_turnerT (w := (K328, [], G328)) hH k_am (by omega)).and (fm_turner hH k_am htM.2.1 htM.1 hm hc htM.2.2 htb hrm.1.1 hrm.2.1.1 (hrm.2.2 (7, 1) (by decide)).1 b1 (by omega))).mono (fun u hu => ls_cbvQ2 ⟨hu.1.1, (show pmu am 0 u from hu.1.2)⟩ hu.2 (fun v334 K334 G334 c334 s334 x334 f334 hH hv334 cl334 sl334 hP hQ => ?_))
    obtain ⟨_, _, eu, hxf, hQ⟩ := hQ
    cases eu
    have hry0 := hry
    have hfy := hfy.fr k_th hrc.1.1 x334 f334 (by decide +kernel)
    have hsy := hsy.fr k_th x334 f334 (by decide +kernel)
    have hzy := hzy.fr k_th hrc.1.1 hrc.1.2.1 x334 f334 (by decide +kernel)
    have hcy := hcy.fr x334 f334 (by decide +kernel)
    have hci := hci.fr x334 f334 (by decide +kernel)
    have h3 := (f334.2 th 12 k_th 3 rfl).trans h3
    have hl := (f334.2 rd 7 k_rd 1 rfl).trans hl
    have hm := hP
    have hp := (f334.2 th 12 k_th 2 rfl).trans hp
    have hg := (f334.2 am 13 k_am 3 rfl).trans hg
    have htC := htC.fr k_rd x334 f334 (by decide +kernel)
    have htM := (htM.fr k_am x334 f334 (by decide +kernel)).le (Nat.zero_le _)
    have hrc := hrc.fr k_th x334 f334 (by decide +kernel)
    have ho := (f334.2 out 31 k_out 0 rfl).trans ho
    have k_th := x334 _ _ k_th
    have k_am := x334 _ _ k_am
    have k_out := x334 _ _ k_out
    have k_rd := x334 _ _ k_rd
    have hry := hry0.xs hHo x334 hxf (hrc.2.2 (0, 0) (by decide)).1 (fun b j t kb hs => by rcases hs with ⟨ea, ej⟩ | ⟨ea, ej⟩ <;> subst ea <;> first | (rw [k_am1] at kb; cases kb; exact ryS.r _ (by decide) (by decide)) | (rw [hrm0.1.1] at kb; cases kb; exact ⟨by decide, fun h => absurd h (by decide), fun h => absurd h (by decide), fun _ => by have z0_ : cn (0, 0).2 = cn 0 := rfl; have z1_ : cn (7, 1).2 = cn 1 := rfl; have z2_ : cn (9, 2).2 = cn 2 := rfl; omega, fun h => absurd h (by decide)⟩))
    rcases hQ with ⟨sq2, ev2, ht, z0⟩ | ⟨r4, sq2, ev2, ht, z0⟩ | ⟨f2, sq2, r4, ev2, ht, z0, tx_⟩
    · (rw [sq2] at sq; cases sq)
    · exact absurd c4 (by omega)
    · cases ev2
      have hrm := hrm0.up hH1 k_am1 x334 hxf (fun a j t ha hs => by rcases hs with ⟨ea, ej⟩ | ⟨ea, ej⟩ <;> rw [ea] at ha <;> first | (rw [k_am1] at ha; cases ha; exact ⟨fun _ => by omega, fun h => absurd h (by decide), by decide⟩) | (rw [hrm0.1.1] at ha; cases ha; exact ⟨fun h => absurd h (by decide), fun _ => by omega, by decide⟩)) z0 (by decide)
      have hbc := rc_upb (k := 1) (v := cn 1 + 1) hbc (by omega)
      obtain rfl : ls_ = f2 := Option.some.inj (sq.symm.trans sq2)
      have hty := htyA.tu2 hHo x334 hxf (fun b j t kb hs => by rcases hs with ⟨ea, ej⟩ | ⟨ea, ej⟩ <;> subst ea <;> first | (rw [k_am1] at kb; cases kb; exact tyS.r _ (by decide) (by decide)) | (rw [hrm0.1.1] at kb; cases kb; exact ⟨by decide, fun h => absurd h (by decide), fun h => absurd h (by decide), fun _ => by have z0_ : cn (0, 0).2 = cn 0 := rfl; have z1_ : cn (7, 1).2 = cn 1 := rfl; have z2_ : cn (9, 2).2 = cn 2 := rfl; omega, fun h => absurd h (by decide)⟩)) (fun b j hs k_z => by rcases hs with ⟨ea, ej⟩ | ⟨ea, ej⟩ <;> (rw [ea] at k_z; first | (rw [k_am1] at k_z; cases k_z) | (rw [hrm0.1.1] at k_z; cases k_z))) tx_
      show et_go _ _ 1000 337 [some (.ref 150), some (.ref th), some (.ref am), some (.ref out), some (.int (Int32.ofNat i)), some (.int (Int32.ofNat 0)), x6] [.int (Int32.ofNat (cn 1))] _ (ck + c328) (sk + s328) _
      refine ls_istore (i := 6) (p := 339) (by decide +kernel) (Nat.le_of_ble_eq_true rfl) ?_
      refine ls_goto (p := 1656) (by decide +kernel) ?_
      exact hN _ _ 0 h _ _ _ _ _ _ ⟨⟨hH, hci, k_th, k_am, k_out, h3, k_rd, hl, hm, (by decide)⟩, ⟨hh1, hp, hg⟩, hrc, hrm, hbc, hbi, ⟨hry, hcy, hty, hzy, hsy, hfy⟩, _, htC, htM, fun i hi => absurd hi (Nat.not_lt_zero i)⟩ (by omega) (by omega)
set_option maxHeartbeats 2000000 in
theorem lw_c4 (hI : lw_I K G th am out rd s0 s1 aw ai tp ba na tm c h cn im) (hi : i + 6 ≤ n) (hn : n ≤ 3072) (hN : ∀ (K' : et_K) (G' : eg_G) (c' h' : Nat) (cn' im' : Nat → Nat) (ck' sk' : Nat) (y5 y6 : Option Value), lw_I K' G' th am out rd s0 s1 aw ai tp ba na tm c' h' cn' im' → ck' ≤ ck + 841 → sk' ≤ sk + 7168 → et_go (some (n, f)) (d + 41) 1000 1656 [some (.ref 150), some (.ref th), some (.ref am), some (.ref out), some (.int (Int32.ofNat i)), y5, y6] [] G' ck' sk' Z) : et_go (some (n, f)) (d + 41) 1000 342 [some (.ref 150), some (.ref th), some (.ref am), some (.ref out), some (.int (Int32.ofNat i)), x5, x6] [] G ck sk Z := by
  obtain ⟨⟨hH, hci, k_th, k_am, k_out, h3, k_rd, hl, hm, hc⟩, ⟨hh1, hp, hg⟩, hrc, hrm, hbc, hbi, ⟨hry, hcy, hty, hzy, hsy, hfy⟩, tb, htC, htM, htb⟩ := hI
  refine ls_aload (i := 1) (p := 343) (by decide +kernel) rfl ?_
  refine ls_arg (j := 1) (by decide +kernel) (by omega) hn ?_
  refine ls_arg (j := 2) (by decide +kernel) (by omega) hn ?_
  refine ls_aload (i := 3) (p := 356) (by decide +kernel) rfl ?_
  refine ls_calls (mi := 2) (na := 4) (lk := 7) (lm := 5) (L0 := eg_en (eg_mL 2) [.ref th, .int (f (i + 1)), .int (f (i + 2)), .ref out]) (by decide +kernel) rfl rfl rfl rfl rfl rfl (by rw [show eg_mL 2 = 5 from by decide +kernel]; first | done | rfl) ?_
  have hHo := hH
  have hty0 := hty
  have b1 : cn 1 ≤ 4 := Int.ofNat_le.mp (hf_bd (t := 10) hH hrc.1.1 rfl rfl (hrc.2.2 (7, 1) (by decide)).1 (hbc 1))
  have hry0 := hry
  obtain ⟨t0, t1, ra0, ca0, rc0, ec0, cc0, ra1, ca1, rc1, ec1, cc1, hC⟩ := id hci
  obtain rfl : s0 = t0 := Value.ref.inj (Option.some.inj (hrc.2.1.1.symm.trans hC.2.1.1))
  obtain rfl : s1 = t1 := Value.ref.inj (Option.some.inj (hrc.2.1.2.symm.trans hC.2.1.2))
  have ee0 : ec0 = cn 4 := xi_inj (by have := hC.2.2.2.1.2.2.2.1.2.1; omega) (by have := hbc 4; omega) (hC.2.2.2.1.2.2.1.2.1.symm.trans (hrc.2.2 (5, 4) (by decide)).1)
  have ee1 : ec1 = im 4 := xi_inj (by have := hC.2.2.2.2.2.2.2.1.2.1; omega) (by have := hbi 4; omega) (hC.2.2.2.2.2.2.1.2.1.symm.trans (hrc.2.2 (5, 4) (by decide)).2)
  have er0 : rc0 = cn 0 := xi_inj (by have := hC.2.2.2.1.2.2.2.1.1; omega) (by have := hbc 0; omega) (hC.2.2.2.1.2.2.1.1.symm.trans (hrc.2.2 (0, 0) (by decide)).1)
  have b0 : cn 0 ≤ 4 := Int.ofNat_le.mp (hf_bd (t := 10) hH hrc.1.1 rfl rfl (hrc.2.2 (0, 0) (by decide)).1 (hbc 0))
  have b2 : cn 2 ≤ 6 := Int.ofNat_le.mp (hf_bd (t := 10) hH hrc.1.1 rfl rfl (hrc.2.2 (9, 2) (by decide)).1 (hbc 2))
  have b4 : cn 4 ≤ 3 := Int.ofNat_le.mp (hf_bd (t := 10) hH hrc.1.1 rfl rfl (hrc.2.2 (5, 4) (by decide)).1 (hbc 4))
  have hH0 := hH
  have k_th0 := k_th
  have k_out0 := k_out
  have k_rd0 := k_rd
  have k_am0 := k_am
  have hrc0 := hrc
  have hrm0 := hrm
  obtain ⟨ta, r4, k_ta⟩ := hf_ref (t := 7) (f := 4) (u := 41) hH k_rd rfl rfl (.inr trivial)
  obtain ⟨ea, g6, k_ea⟩ := hf_ref (t := 10) (f := 6) (u := 40) hH hrc.1.1 rfl rfl (.inr trivial)
  have htC0 := htC
  have k_ra := hC.2.2.2.1.1.2.2
  have hru : ∀ i, i < cn 0 → ∃ q, et_pl (eg_at G ra0) i = some (.ref q) := fun i hi => hC.2.2.2.1.2.2.2.2.1 i (by rw [er0]; exact hi)
  refine ((hh_i2 hH hci k_th k_out h3 k_rd (by omega)).and (fh_claim hH k_rd htC.2.1.1 htC.1.1 hl hc htC.2.2 htb k_ta htC.1.2.1 htC.1.2.2 htC.2.1.2.2.2 r4 htC.2.1.2.1 htC.2.1.2.2.1 k_th h3 hrc.2.1.1 hrc.1.1 (hrc.2.2 (0, 0) (by decide)).1 b0 hC.2.2.2.1.2.1.1 hC.2.2.2.1.1.2.1 hru (hrc.2.2 (5, 4) (by decide)).1 b4 g6 k_ea (hrc.2.2 (9, 2) (by decide)).1 b2 hC.2.2.2.1.2.1.2 k_ra k_out (by omega))).mono (fun u hu => ls_cbrQ hu (fun v356 K356 G356 c356 s356 x356 f356 hH hci hP cl356 sl356 hQ => ?_))
  obtain ⟨_, _, _, _, _, eu, -, -, hxf, hQ⟩ := hQ
  cases eu
  have hfy := hfy.fr k_th hrc.1.1 x356 f356 (by decide +kernel)
  have hsy := hsy.fr k_th x356 f356 (by decide +kernel)
  have hzy := hzy.fr k_th hrc.1.1 hrc.1.2.1 x356 f356 (by decide +kernel)
  have hcy := hcy.fr x356 f356 (by decide +kernel)
  have h3 := (f356.2 th 12 k_th 3 rfl).trans h3
  have hl := hP
  have hm := (f356.2 am 13 k_am 5 rfl).trans hm
  have hp := (f356.2 th 12 k_th 2 rfl).trans hp
  have hg := (f356.2 am 13 k_am 3 rfl).trans hg
  have htC := (htC.fr k_rd x356 f356 (by decide +kernel)).le (Nat.zero_le _)
  have htM := htM.fr k_am x356 f356 (by decide +kernel)
  have hrm := hrm.fr k_am x356 f356 (by decide +kernel)
  have k_th := x356 _ _ k_th
  have k_am := x356 _ _ k_am
  have k_out := x356 _ _ k_out
  have k_rd := x356 _ _ k_rd
  have hty := hty0.xs hHo x356 hxf (fun b j t kb hs => by rcases hs with h | h | h | h | h | h | h <;> obtain ⟨h1, h2⟩ := h <;> subst h1 <;> first | (rw [k_rd0] at kb; cases kb; exact tyS.r _ (by decide) (by decide)) | (rw [k_ta] at kb; cases kb; exact tyS.r _ (by decide) (by decide)) | (rw [htC0.1.2.1] at kb; cases kb; exact tyS.r _ (by decide) (by decide)) | (rw [htC0.1.2.2] at kb; cases kb; exact tyS.r _ (by decide) (by decide)) | (rw [k_ra] at kb; cases kb; exact tyS.r _ (by decide) (by decide)) | (rw [k_out0] at kb; cases kb; exact tyS.r _ (by decide) (by decide)) | (rw [hrc0.1.1] at kb; cases kb; exact ⟨by decide, fun _ => by omega, fun h => absurd h (by decide), fun h => absurd h (by decide), fun h => absurd h (by decide)⟩))
  have hry := hry0.xs hHo x356 hxf ((f356.2 s0 10 hrc0.1.1 0 rfl).trans (hrc0.2.2 (0, 0) (by decide)).1) (fun b j t kb hs => by rcases hs with h | h | h | h | h | h | h <;> obtain ⟨h1, h2⟩ := h <;> subst h1 <;> first | (rw [k_rd0] at kb; cases kb; exact ryS.r _ (by decide) (by decide)) | (rw [k_ta] at kb; cases kb; exact ryS.r _ (by decide) (by decide)) | (rw [htC0.1.2.1] at kb; cases kb; exact ryS.r _ (by decide) (by decide)) | (rw [htC0.1.2.2] at kb; cases kb; exact ryS.r _ (by decide) (by decide)) | (rw [k_ra] at kb; cases kb; exact ryS.r _ (by decide) (by decide)) | (rw [k_out0] at kb; cases kb; exact ryS.r _ (by decide) (by decide)) | (rw [hrc0.1.1] at kb; cases kb; exact ⟨by decide, fun _ => .inr (by have z0_ : cn (0, 0).2 = cn 0 := rfl; have z1_ : cn (7, 1).2 = cn 1 := rfl; have z2_ : cn (9, 2).2 = cn 2 := rfl; omega), fun h => absurd h (by decide), fun h => absurd h (by decide), fun h => absurd h (by decide)⟩))
  have k_z := hrc0.1.2.1
  have w1 : et_pl (eg_at G356 s1) 9 = some (.int (Int32.ofNat (im 2))) := (hxf.2 s1 9 (hH0.2.2 _ _ hrc0.1.2.1).1 (fun h => by rcases h with h | h | h | h | h | h | h <;> first | exact hrc0.1.2.2 h.1.symm | (have h := h.1; rw [h] at k_z; first | (rw [k_rd0] at k_z; cases k_z) | (rw [k_ta] at k_z; cases k_z) | (rw [htC0.1.2.1] at k_z; cases k_z) | (rw [htC0.1.2.2] at k_z; cases k_z) | (rw [k_ra] at k_z; cases k_z) | (rw [k_out0] at k_z; cases k_z)))).trans (hrc0.2.2 (9, 2) (by decide)).2
  rcases hQ with ⟨cx, ev, q0⟩ | ⟨cx, sq, ev, q0⟩ | ⟨cx, c4, sq, ev, q0⟩ | ⟨cx, c4, ev, ho, q0, f_, q_, bb_, sq, -⟩
  · cases ev
    have hrc := hrc0.upf k_th0 x356 f356 q0 w1 (by decide +kernel)
    show et_go _ _ 1000 359 [some (.ref 150), some (.ref th), some (.ref am), some (.ref out), some (.int (Int32.ofNat i)), x5, x6] [.int (Int32.ofNat 1)] _ (ck + c356) (sk + s356) _
    refine ls_istore (i := 5) (p := 361) (by decide +kernel) (Nat.le_of_ble_eq_true rfl) ?_
    refine ls_aload (i := 2) (p := 362) (by decide +kernel) rfl ?_
    refine ls_arg (j := 1) (by decide +kernel) (by omega) hn ?_
    refine ls_arg (j := 2) (by decide +kernel) (by omega) hn ?_
    refine lt_callv (T := et_TT) (t := 13) (mi := 207) (na := 2) (ci := 11) (lk := 7) (lm := 4) (L0 := eg_en (eg_mL 207) [.ref am, .int (f (i + 1)), .int (f (i + 2))]) (by decide +kernel) rfl hH k_am rfl rfl rfl rfl rfl (by rw [show eg_mL 207 = 4 from by decide +kernel]; first | done | rfl) ?_
    have hHo := hH
    have hH1 := hH
    have k_am1 := k_am
    have hrm0 := hrm
    have htM0 := htM
    have hrc0 := hrc
    have hty0 := hty
    refine ((hc_claimT (w := (K356, [], G356)) hH k_am (by omega)).and (fm_claim hH k_am htM.2.1 htM.1 hm hc htM.2.2 htb hrm.1.1 hrm.2.1.1 (hrm.2.2 (9, 2) (by decide)).1 b2 (hrm.2.2 (0, 0) (by decide)).1 b0 (hrm.2.2 (5, 4) (by decide)).1 b4 (by omega))).mono (fun u hu => ls_cbvQ2 ⟨hu.1.1, (show pmu am 0 u from hu.1.2)⟩ hu.2 (fun v374 K374 G374 c374 s374 x374 f374 hH hv374 cl374 sl374 hP hQ => ?_))
    obtain ⟨_, _, eu, hxf, hQ⟩ := hQ
    cases eu
    have hry0 := hry
    have hfy := hfy.fr k_th hrc.1.1 x374 f374 (by decide +kernel)
    have hsy := hsy.fr k_th x374 f374 (by decide +kernel)
    have hzy := hzy.fr k_th hrc.1.1 hrc.1.2.1 x374 f374 (by decide +kernel)
    have hcy := hcy.fr x374 f374 (by decide +kernel)
    have hci := hci.fr x374 f374 (by decide +kernel)
    have h3 := (f374.2 th 12 k_th 3 rfl).trans h3
    have hl := (f374.2 rd 7 k_rd 1 rfl).trans hl
    have hm := hP
    have hp := (f374.2 th 12 k_th 2 rfl).trans hp
    have hg := (f374.2 am 13 k_am 3 rfl).trans hg
    have htC := htC.fr k_rd x374 f374 (by decide +kernel)
    have htM := (htM.fr k_am x374 f374 (by decide +kernel)).le (Nat.zero_le _)
    have hrc := hrc.fr k_th x374 f374 (by decide +kernel)
    have k_th := x374 _ _ k_th
    have k_am := x374 _ _ k_am
    have k_out := x374 _ _ k_out
    have k_rd := x374 _ _ k_rd
    have hry := hry0.xs hHo x374 hxf (hrc.2.2 (0, 0) (by decide)).1 (fun b j t kb hs => by rcases hs with ⟨ea, ej⟩ | ⟨ea, ej⟩ <;> subst ea <;> first | (rw [k_am1] at kb; cases kb; exact ryS.r _ (by decide) (by decide)) | (rw [hrm0.1.1] at kb; cases kb; exact ⟨by decide, fun h => absurd h (by decide), fun h => absurd h (by decide), fun _ => by have z0_ : cn (0, 0).2 = cn 0 := rfl; have z1_ : cn (7, 1).2 = cn 1 := rfl; have z2_ : cn (9, 2).2 = cn 2 := rfl; omega, fun h => absurd h (by decide)⟩))
    have hty := hty0.xs hHo x374 hxf (fun b j t kb hs => by rcases hs with ⟨ea, ej⟩ | ⟨ea, ej⟩ <;> subst ea <;> first | (rw [k_am1] at kb; cases kb; exact tyS.r _ (by decide) (by decide)) | (rw [hrm0.1.1] at kb; cases kb; exact ⟨by decide, fun h => absurd h (by decide), fun h => absurd h (by decide), fun _ => by have z0_ : cn (0, 0).2 = cn 0 := rfl; have z1_ : cn (7, 1).2 = cn 1 := rfl; have z2_ : cn (9, 2).2 = cn 2 := rfl; omega, fun h => absurd h (by decide)⟩))
    rcases hQ with ⟨cx2, ev2, ht, z0⟩ | ⟨cx2, sq2, ev2, ht, z0⟩ | ⟨cx2, r4, sq2, ev2, ht, z0⟩ | ⟨cx2, f2, sq2, r4, ev2, ht, z0, -⟩
    · cases ev2
      have hrm := hrm0.up hH1 k_am1 x374 hxf (fun a j t ha hs => by rcases hs with ⟨ea, ej⟩ | ⟨ea, ej⟩ <;> rw [ea] at ha <;> first | (rw [k_am1] at ha; cases ha; exact ⟨fun _ => by omega, fun h => absurd h (by decide), by decide⟩) | (rw [hrm0.1.1] at ha; cases ha; exact ⟨fun h => absurd h (by decide), fun _ => by omega, by decide⟩)) z0 (by decide)
      have hbc := rc_upb (k := 2) (v := cn 2) hbc (by omega)
      show et_go _ _ 1000 377 [some (.ref 150), some (.ref th), some (.ref am), some (.ref out), some (.int (Int32.ofNat i)), some (.int (Int32.ofNat 1)), x6] [.int (Int32.ofNat 0)] _ (ck + c356) (sk + s356) _
      refine ls_istore (i := 6) (p := 379) (by decide +kernel) (Nat.le_of_ble_eq_true rfl) ?_
      refine ls_goto (p := 1656) (by decide +kernel) ?_
      exact hN _ _ 0 h _ _ _ _ _ _ ⟨⟨hH, hci, k_th, k_am, k_out, h3, k_rd, hl, hm, (by decide)⟩, ⟨hh1, hp, hg⟩, hrc, hrm, hbc, hbi, ⟨hry, hcy, hty, hzy, hsy, hfy⟩, _, htC, htM, fun i hi => absurd hi (Nat.not_lt_zero i)⟩ (by omega) (by omega)
    · exact absurd cx2 cx
    · exact absurd cx2 cx
    · exact absurd cx2 cx
  · cases ev
    have hrc := hrc0.upf k_th0 x356 f356 q0 w1 (by decide +kernel)
    show et_go _ _ 1000 359 [some (.ref 150), some (.ref th), some (.ref am), some (.ref out), some (.int (Int32.ofNat i)), x5, x6] [.int (Int32.ofNat 2)] _ (ck + c356) (sk + s356) _
    refine ls_istore (i := 5) (p := 361) (by decide +kernel) (Nat.le_of_ble_eq_true rfl) ?_
    refine ls_aload (i := 2) (p := 362) (by decide +kernel) rfl ?_
    refine ls_arg (j := 1) (by decide +kernel) (by omega) hn ?_
    refine ls_arg (j := 2) (by decide +kernel) (by omega) hn ?_
    refine lt_callv (T := et_TT) (t := 13) (mi := 207) (na := 2) (ci := 11) (lk := 7) (lm := 4) (L0 := eg_en (eg_mL 207) [.ref am, .int (f (i + 1)), .int (f (i + 2))]) (by decide +kernel) rfl hH k_am rfl rfl rfl rfl rfl (by rw [show eg_mL 207 = 4 from by decide +kernel]; first | done | rfl) ?_
    have hHo := hH
    have hH1 := hH
    have k_am1 := k_am
    have hrm0 := hrm
    have htM0 := htM
    have hrc0 := hrc
    have hty0 := hty
    refine ((hc_claimT (w := (K356, [], G356)) hH k_am (by omega)).and (fm_claim hH k_am htM.2.1 htM.1 hm hc htM.2.2 htb hrm.1.1 hrm.2.1.1 (hrm.2.2 (9, 2) (by decide)).1 b2 (hrm.2.2 (0, 0) (by decide)).1 b0 (hrm.2.2 (5, 4) (by decide)).1 b4 (by omega))).mono (fun u hu => ls_cbvQ2 ⟨hu.1.1, (show pmu am 0 u from hu.1.2)⟩ hu.2 (fun v374 K374 G374 c374 s374 x374 f374 hH hv374 cl374 sl374 hP hQ => ?_))
    obtain ⟨_, _, eu, hxf, hQ⟩ := hQ
    cases eu
    have hry0 := hry
    have hfy := hfy.fr k_th hrc.1.1 x374 f374 (by decide +kernel)
    have hsy := hsy.fr k_th x374 f374 (by decide +kernel)
    have hzy := hzy.fr k_th hrc.1.1 hrc.1.2.1 x374 f374 (by decide +kernel)
    have hcy := hcy.fr x374 f374 (by decide +kernel)
    have hci := hci.fr x374 f374 (by decide +kernel)
    have h3 := (f374.2 th 12 k_th 3 rfl).trans h3
    have hl := (f374.2 rd 7 k_rd 1 rfl).trans hl
    have hm := hP
    have hp := (f374.2 th 12 k_th 2 rfl).trans hp
    have hg := (f374.2 am 13 k_am 3 rfl).trans hg
    have htC := htC.fr k_rd x374 f374 (by decide +kernel)
    have htM := (htM.fr k_am x374 f374 (by decide +kernel)).le (Nat.zero_le _)
    have hrc := hrc.fr k_th x374 f374 (by decide +kernel)
    have k_th := x374 _ _ k_th
    have k_am := x374 _ _ k_am
    have k_out := x374 _ _ k_out
    have k_rd := x374 _ _ k_rd
    have hry := hry0.xs hHo x374 hxf (hrc.2.2 (0, 0) (by decide)).1 (fun b j t kb hs => by rcases hs with ⟨ea, ej⟩ | ⟨ea, ej⟩ <;> subst ea <;> first | (rw [k_am1] at kb; cases kb; exact ryS.r _ (by decide) (by decide)) | (rw [hrm0.1.1] at kb; cases kb; exact ⟨by decide, fun h => absurd h (by decide), fun h => absurd h (by decide), fun _ => by have z0_ : cn (0, 0).2 = cn 0 := rfl; have z1_ : cn (7, 1).2 = cn 1 := rfl; have z2_ : cn (9, 2).2 = cn 2 := rfl; omega, fun h => absurd h (by decide)⟩))
    have hty := hty0.xs hHo x374 hxf (fun b j t kb hs => by rcases hs with ⟨ea, ej⟩ | ⟨ea, ej⟩ <;> subst ea <;> first | (rw [k_am1] at kb; cases kb; exact tyS.r _ (by decide) (by decide)) | (rw [hrm0.1.1] at kb; cases kb; exact ⟨by decide, fun h => absurd h (by decide), fun h => absurd h (by decide), fun _ => by have z0_ : cn (0, 0).2 = cn 0 := rfl; have z1_ : cn (7, 1).2 = cn 1 := rfl; have z2_ : cn (9, 2).2 = cn 2 := rfl; omega, fun h => absurd h (by decide)⟩))
    rcases hQ with ⟨cx2, ev2, ht, z0⟩ | ⟨cx2, sq2, ev2, ht, z0⟩ | ⟨cx2, r4, sq2, ev2, ht, z0⟩ | ⟨cx2, f2, sq2, r4, ev2, ht, z0, -⟩
    · exact absurd cx cx2
    · cases ev2
      have hrm := hrm0.up hH1 k_am1 x374 hxf (fun a j t ha hs => by rcases hs with ⟨ea, ej⟩ | ⟨ea, ej⟩ <;> rw [ea] at ha <;> first | (rw [k_am1] at ha; cases ha; exact ⟨fun _ => by omega, fun h => absurd h (by decide), by decide⟩) | (rw [hrm0.1.1] at ha; cases ha; exact ⟨fun h => absurd h (by decide), fun _ => by omega, by decide⟩)) z0 (by decide)
      have hbc := rc_upb (k := 2) (v := cn 2) hbc (by omega)
      show et_go _ _ 1000 377 [some (.ref 150), some (.ref th), some (.ref am), some (.ref out), some (.int (Int32.ofNat i)), some (.int (Int32.ofNat 2)), x6] [.int (Int32.ofNat 0)] _ (ck + c356) (sk + s356) _
      refine ls_istore (i := 6) (p := 379) (by decide +kernel) (Nat.le_of_ble_eq_true rfl) ?_
      refine ls_goto (p := 1656) (by decide +kernel) ?_
      exact hN _ _ 0 h _ _ _ _ _ _ ⟨⟨hH, hci, k_th, k_am, k_out, h3, k_rd, hl, hm, (by decide)⟩, ⟨hh1, hp, hg⟩, hrc, hrm, hbc, hbi, ⟨hry, hcy, hty, hzy, hsy, hfy⟩, _, htC, htM, fun i hi => absurd hi (Nat.not_lt_zero i)⟩ (by omega) (by omega)
    · exact absurd sq sq2
    · (rw [sq] at sq2; cases sq2)
  · cases ev
    have hrc := hrc0.upf k_th0 x356 f356 q0 w1 (by decide +kernel)
    show et_go _ _ 1000 359 [some (.ref 150), some (.ref th), some (.ref am), some (.ref out), some (.int (Int32.ofNat i)), x5, x6] [.int (Int32.ofNat 3)] _ (ck + c356) (sk + s356) _
    refine ls_istore (i := 5) (p := 361) (by decide +kernel) (Nat.le_of_ble_eq_true rfl) ?_
    refine ls_aload (i := 2) (p := 362) (by decide +kernel) rfl ?_
    refine ls_arg (j := 1) (by decide +kernel) (by omega) hn ?_
    refine ls_arg (j := 2) (by decide +kernel) (by omega) hn ?_
    refine lt_callv (T := et_TT) (t := 13) (mi := 207) (na := 2) (ci := 11) (lk := 7) (lm := 4) (L0 := eg_en (eg_mL 207) [.ref am, .int (f (i + 1)), .int (f (i + 2))]) (by decide +kernel) rfl hH k_am rfl rfl rfl rfl rfl (by rw [show eg_mL 207 = 4 from by decide +kernel]; first | done | rfl) ?_
    have hHo := hH
    have hH1 := hH
    have k_am1 := k_am
    have hrm0 := hrm
    have htM0 := htM
    have hrc0 := hrc
    have hty0 := hty
    refine ((hc_claimT (w := (K356, [], G356)) hH k_am (by omega)).and (fm_claim hH k_am htM.2.1 htM.1 hm hc htM.2.2 htb hrm.1.1 hrm.2.1.1 (hrm.2.2 (9, 2) (by decide)).1 b2 (hrm.2.2 (0, 0) (by decide)).1 b0 (hrm.2.2 (5, 4) (by decide)).1 b4 (by omega))).mono (fun u hu => ls_cbvQ2 ⟨hu.1.1, (show pmu am 0 u from hu.1.2)⟩ hu.2 (fun v374 K374 G374 c374 s374 x374 f374 hH hv374 cl374 sl374 hP hQ => ?_))
    obtain ⟨_, _, eu, hxf, hQ⟩ := hQ
    cases eu
    have hry0 := hry
    have hfy := hfy.fr k_th hrc.1.1 x374 f374 (by decide +kernel)
    have hsy := hsy.fr k_th x374 f374 (by decide +kernel)
    have hzy := hzy.fr k_th hrc.1.1 hrc.1.2.1 x374 f374 (by decide +kernel)
    have hcy := hcy.fr x374 f374 (by decide +kernel)
    have hci := hci.fr x374 f374 (by decide +kernel)
    have h3 := (f374.2 th 12 k_th 3 rfl).trans h3
    have hl := (f374.2 rd 7 k_rd 1 rfl).trans hl
    have hm := hP
    have hp := (f374.2 th 12 k_th 2 rfl).trans hp
    have hg := (f374.2 am 13 k_am 3 rfl).trans hg
    have htC := htC.fr k_rd x374 f374 (by decide +kernel)
    have htM := (htM.fr k_am x374 f374 (by decide +kernel)).le (Nat.zero_le _)
    have hrc := hrc.fr k_th x374 f374 (by decide +kernel)
    have k_th := x374 _ _ k_th
    have k_am := x374 _ _ k_am
    have k_out := x374 _ _ k_out
    have k_rd := x374 _ _ k_rd
    have hry := hry0.xs hHo x374 hxf (hrc.2.2 (0, 0) (by decide)).1 (fun b j t kb hs => by rcases hs with ⟨ea, ej⟩ | ⟨ea, ej⟩ <;> subst ea <;> first | (rw [k_am1] at kb; cases kb; exact ryS.r _ (by decide) (by decide)) | (rw [hrm0.1.1] at kb; cases kb; exact ⟨by decide, fun h => absurd h (by decide), fun h => absurd h (by decide), fun _ => by have z0_ : cn (0, 0).2 = cn 0 := rfl; have z1_ : cn (7, 1).2 = cn 1 := rfl; have z2_ : cn (9, 2).2 = cn 2 := rfl; omega, fun h => absurd h (by decide)⟩))
    have hty := hty0.xs hHo x374 hxf (fun b j t kb hs => by rcases hs with ⟨ea, ej⟩ | ⟨ea, ej⟩ <;> subst ea <;> first | (rw [k_am1] at kb; cases kb; exact tyS.r _ (by decide) (by decide)) | (rw [hrm0.1.1] at kb; cases kb; exact ⟨by decide, fun h => absurd h (by decide), fun h => absurd h (by decide), fun _ => by have z0_ : cn (0, 0).2 = cn 0 := rfl; have z1_ : cn (7, 1).2 = cn 1 := rfl; have z2_ : cn (9, 2).2 = cn 2 := rfl; omega, fun h => absurd h (by decide)⟩))
    rcases hQ with ⟨cx2, ev2, ht, z0⟩ | ⟨cx2, sq2, ev2, ht, z0⟩ | ⟨cx2, r4, sq2, ev2, ht, z0⟩ | ⟨cx2, f2, sq2, r4, ev2, ht, z0, -⟩
    · exact absurd cx cx2
    · exact absurd sq2 sq
    · cases ev2
      have hrm := hrm0.up hH1 k_am1 x374 hxf (fun a j t ha hs => by rcases hs with ⟨ea, ej⟩ | ⟨ea, ej⟩ <;> rw [ea] at ha <;> first | (rw [k_am1] at ha; cases ha; exact ⟨fun _ => by omega, fun h => absurd h (by decide), by decide⟩) | (rw [hrm0.1.1] at ha; cases ha; exact ⟨fun h => absurd h (by decide), fun _ => by omega, by decide⟩)) z0 (by decide)
      have hbc := rc_upb (k := 2) (v := cn 2) hbc (by omega)
      show et_go _ _ 1000 377 [some (.ref 150), some (.ref th), some (.ref am), some (.ref out), some (.int (Int32.ofNat i)), some (.int (Int32.ofNat 3)), x6] [.int (Int32.ofNat 0)] _ (ck + c356) (sk + s356) _
      refine ls_istore (i := 6) (p := 379) (by decide +kernel) (Nat.le_of_ble_eq_true rfl) ?_
      refine ls_goto (p := 1656) (by decide +kernel) ?_
      exact hN _ _ 0 h _ _ _ _ _ _ ⟨⟨hH, hci, k_th, k_am, k_out, h3, k_rd, hl, hm, (by decide)⟩, ⟨hh1, hp, hg⟩, hrc, hrm, hbc, hbi, ⟨hry, hcy, hty, hzy, hsy, hfy⟩, _, htC, htM, fun i hi => absurd hi (Nat.not_lt_zero i)⟩ (by omega) (by omega)
    · exact absurd c4 (by omega)
  · cases ev
    have hrc := hrc0.upf k_th0 x356 f356 q0 w1 (by decide +kernel)
    show et_go _ _ 1000 359 [some (.ref 150), some (.ref th), some (.ref am), some (.ref out), some (.int (Int32.ofNat i)), x5, x6] [.int (Int32.ofNat 0)] _ (ck + c356) (sk + s356) _
    refine ls_istore (i := 5) (p := 361) (by decide +kernel) (Nat.le_of_ble_eq_true rfl) ?_
    refine ls_aload (i := 2) (p := 362) (by decide +kernel) rfl ?_
    refine ls_arg (j := 1) (by decide +kernel) (by omega) hn ?_
    refine ls_arg (j := 2) (by decide +kernel) (by omega) hn ?_
    refine lt_callv (T := et_TT) (t := 13) (mi := 207) (na := 2) (ci := 11) (lk := 7) (lm := 4) (L0 := eg_en (eg_mL 207) [.ref am, .int (f (i + 1)), .int (f (i + 2))]) (by decide +kernel) rfl hH k_am rfl rfl rfl rfl rfl (by rw [show eg_mL 207 = 4 from by decide +kernel]; first | done | rfl) ?_
    have hHo := hH
    have hH1 := hH
    have k_am1 := k_am
    have hrm0 := hrm
    have htM0 := htM
    have hrc0 := hrc
    have hty0 := hty
    refine ((hc_claimT (w := (K356, [], G356)) hH k_am (by omega)).and (fm_claim hH k_am htM.2.1 htM.1 hm hc htM.2.2 htb hrm.1.1 hrm.2.1.1 (hrm.2.2 (9, 2) (by decide)).1 b2 (hrm.2.2 (0, 0) (by decide)).1 b0 (hrm.2.2 (5, 4) (by decide)).1 b4 (by omega))).mono (fun u hu => ls_cbvQ2 ⟨hu.1.1, (show pmu am 0 u from hu.1.2)⟩ hu.2 (fun v374 K374 G374 c374 s374 x374 f374 hH hv374 cl374 sl374 hP hQ => ?_))
    obtain ⟨_, _, eu, hxf, hQ⟩ := hQ
    cases eu
    have hry0 := hry
    have hfy := hfy.fr k_th hrc.1.1 x374 f374 (by decide +kernel)
    have hsy := hsy.fr k_th x374 f374 (by decide +kernel)
    have hzy := hzy.fr k_th hrc.1.1 hrc.1.2.1 x374 f374 (by decide +kernel)
    have hcy := hcy.fr x374 f374 (by decide +kernel)
    have hci := hci.fr x374 f374 (by decide +kernel)
    have h3 := (f374.2 th 12 k_th 3 rfl).trans h3
    have hl := (f374.2 rd 7 k_rd 1 rfl).trans hl
    have hm := hP
    have hp := (f374.2 th 12 k_th 2 rfl).trans hp
    have hg := (f374.2 am 13 k_am 3 rfl).trans hg
    have htC := htC.fr k_rd x374 f374 (by decide +kernel)
    have htM := (htM.fr k_am x374 f374 (by decide +kernel)).le (Nat.zero_le _)
    have hrc := hrc.fr k_th x374 f374 (by decide +kernel)
    have ho := (f374.2 out 31 k_out 0 rfl).trans ho
    have k_th := x374 _ _ k_th
    have k_am := x374 _ _ k_am
    have k_out := x374 _ _ k_out
    have k_rd := x374 _ _ k_rd
    have hry := hry0.xs hHo x374 hxf (hrc.2.2 (0, 0) (by decide)).1 (fun b j t kb hs => by rcases hs with ⟨ea, ej⟩ | ⟨ea, ej⟩ <;> subst ea <;> first | (rw [k_am1] at kb; cases kb; exact ryS.r _ (by decide) (by decide)) | (rw [hrm0.1.1] at kb; cases kb; exact ⟨by decide, fun h => absurd h (by decide), fun h => absurd h (by decide), fun _ => by have z0_ : cn (0, 0).2 = cn 0 := rfl; have z1_ : cn (7, 1).2 = cn 1 := rfl; have z2_ : cn (9, 2).2 = cn 2 := rfl; omega, fun h => absurd h (by decide)⟩))
    have hty := hty0.xs hHo x374 hxf (fun b j t kb hs => by rcases hs with ⟨ea, ej⟩ | ⟨ea, ej⟩ <;> subst ea <;> first | (rw [k_am1] at kb; cases kb; exact tyS.r _ (by decide) (by decide)) | (rw [hrm0.1.1] at kb; cases kb; exact ⟨by decide, fun h => absurd h (by decide), fun h => absurd h (by decide), fun _ => by have z0_ : cn (0, 0).2 = cn 0 := rfl; have z1_ : cn (7, 1).2 = cn 1 := rfl; have z2_ : cn (9, 2).2 = cn 2 := rfl; omega, fun h => absurd h (by decide)⟩))
    rcases hQ with ⟨cx2, ev2, ht, z0⟩ | ⟨cx2, sq2, ev2, ht, z0⟩ | ⟨cx2, r4, sq2, ev2, ht, z0⟩ | ⟨cx2, f2, sq2, r4, ev2, ht, z0, -⟩
    · exact absurd cx cx2
    · (rw [sq2] at sq; cases sq)
    · exact absurd c4 (by omega)
    · cases ev2
      have hrm := hrm0.up hH1 k_am1 x374 hxf (fun a j t ha hs => by rcases hs with ⟨ea, ej⟩ | ⟨ea, ej⟩ <;> rw [ea] at ha <;> first | (rw [k_am1] at ha; cases ha; exact ⟨fun _ => by omega, fun h => absurd h (by decide), by decide⟩) | (rw [hrm0.1.1] at ha; cases ha; exact ⟨fun h => absurd h (by decide), fun _ => by omega, by decide⟩)) z0 (by decide)
      have hbc := rc_upb (k := 2) (v := cn 2 + 1) hbc (by omega)
      show et_go _ _ 1000 377 [some (.ref 150), some (.ref th), some (.ref am), some (.ref out), some (.int (Int32.ofNat i)), some (.int (Int32.ofNat 0)), x6] [.int (Int32.ofNat (cn 2))] _ (ck + c356) (sk + s356) _
      refine ls_istore (i := 6) (p := 379) (by decide +kernel) (Nat.le_of_ble_eq_true rfl) ?_
      refine ls_goto (p := 1656) (by decide +kernel) ?_
      exact hN _ _ 0 h _ _ _ _ _ _ ⟨⟨hH, hci, k_th, k_am, k_out, h3, k_rd, hl, hm, (by decide)⟩, ⟨hh1, hp, hg⟩, hrc, hrm, hbc, hbi, ⟨hry, hcy, hty, hzy, hsy, hfy⟩, _, htC, htM, fun i hi => absurd hi (Nat.not_lt_zero i)⟩ (by omega) (by omega)
set_option maxHeartbeats 2000000 in
theorem lw_c5 (hI : lw_I K G th am out rd s0 s1 aw ai tp ba na tm c h cn im) (hi : i + 6 ≤ n) (hn : n ≤ 3072) (hN : ∀ (K' : et_K) (G' : eg_G) (c' h' : Nat) (cn' im' : Nat → Nat) (ck' sk' : Nat) (y5 y6 : Option Value), lw_I K' G' th am out rd s0 s1 aw ai tp ba na tm c' h' cn' im' → ck' ≤ ck + 841 → sk' ≤ sk + 7168 → et_go (some (n, f)) (d + 41) 1000 1656 [some (.ref 150), some (.ref th), some (.ref am), some (.ref out), some (.int (Int32.ofNat i)), y5, y6] [] G' ck' sk' Z) : et_go (some (n, f)) (d + 41) 1000 382 [some (.ref 150), some (.ref th), some (.ref am), some (.ref out), some (.int (Int32.ofNat i)), x5, x6] [] G ck sk Z := by
  obtain ⟨⟨hH, hci, k_th, k_am, k_out, h3, k_rd, hl, hm, hc⟩, ⟨hh1, hp, hg⟩, hrc, hrm, hbc, hbi, ⟨hry, hcy, hty, hzy, hsy, hfy⟩, tb, htC, htM, htb⟩ := hI
  refine ls_aload (i := 1) (p := 383) (by decide +kernel) rfl ?_
  refine lt_callv (T := et_TT) (t := 12) (mi := 118) (na := 0) (ci := 10) (lk := 7) (lm := 1) (L0 := eg_en (eg_mL 118) [.ref th]) (by decide +kernel) rfl hH k_th rfl rfl rfl rfl rfl (by rw [show eg_mL 118 = 1 from by decide +kernel]; first | done | rfl) ?_
  have hHo := hH
  refine (ek_p118_ok (K, [], G) [.ref th] _ hH (by omega) rfl (ht_ac (.inr ⟨by decide, _, rfl, k_th⟩) ht_an)).mono (fun u hu => ls_cbv hu (fun v383 K383 G383 c383 s383 x383 f383 hH hv383 cl383 sl383 => ?_))
  have hfy := hfy.fr k_th hrc.1.1 x383 f383 (by decide +kernel)
  have hsy := hsy.fr k_th x383 f383 (by decide +kernel)
  have hzy := hzy.fr k_th hrc.1.1 hrc.1.2.1 x383 f383 (by decide +kernel)
  have hty := hty.fr x383 hHo f383 (by decide +kernel)
  have hcy := hcy.fr x383 f383 (by decide +kernel)
  have hry := hry.fr hHo x383 f383 (by decide +kernel)
  have hci := hci.fr x383 f383 (by decide +kernel)
  have h3 := (f383.2 th 12 k_th 3 rfl).trans h3
  have hl := (f383.2 rd 7 k_rd 1 rfl).trans hl
  have hm := (f383.2 am 13 k_am 5 rfl).trans hm
  have hp := (f383.2 th 12 k_th 2 rfl).trans hp
  have hg := (f383.2 am 13 k_am 3 rfl).trans hg
  have htC := htC.fr k_rd x383 f383 (by decide +kernel)
  have htM := htM.fr k_am x383 f383 (by decide +kernel)
  have hrc := hrc.fr k_th x383 f383 (by decide +kernel)
  have hrm := hrm.fr k_am x383 f383 (by decide +kernel)
  have k_th := x383 _ _ k_th
  have k_am := x383 _ _ k_am
  have k_out := x383 _ _ k_out
  have k_rd := x383 _ _ k_rd
  obtain ⟨v383, rfl, -⟩ := hv383
  show et_go _ _ 1000 386 [some (.ref 150), some (.ref th), some (.ref am), some (.ref out), some (.int (Int32.ofNat i)), x5, x6] [.int v383] _ (ck + c383) (sk + s383) _
  refine ls_pop (p := 387) (by decide +kernel) ?_
  refine ls_aload (i := 2) (p := 388) (by decide +kernel) rfl ?_
  refine lt_callv (T := et_TT) (t := 13) (mi := 179) (na := 0) (ci := 11) (lk := 7) (lm := 1) (L0 := eg_en (eg_mL 179) [.ref am]) (by decide +kernel) rfl hH k_am rfl rfl rfl rfl rfl (by rw [show eg_mL 179 = 1 from by decide +kernel]; first | done | rfl) ?_
  have hHo := hH
  refine (er_p179_ok (K383, [], G383) [.ref am] _ hH (by omega) rfl (ht_ac (.inr ⟨by decide, _, rfl, k_am⟩) ht_an)).mono (fun u hu => ls_cbv hu (fun v388 K388 G388 c388 s388 x388 f388 hH hv388 cl388 sl388 => ?_))
  have hfy := hfy.fr k_th hrc.1.1 x388 f388 (by decide +kernel)
  have hsy := hsy.fr k_th x388 f388 (by decide +kernel)
  have hzy := hzy.fr k_th hrc.1.1 hrc.1.2.1 x388 f388 (by decide +kernel)
  have hty := hty.fr x388 hHo f388 (by decide +kernel)
  have hcy := hcy.fr x388 f388 (by decide +kernel)
  have hry := hry.fr hHo x388 f388 (by decide +kernel)
  have hci := hci.fr x388 f388 (by decide +kernel)
  have h3 := (f388.2 th 12 k_th 3 rfl).trans h3
  have hl := (f388.2 rd 7 k_rd 1 rfl).trans hl
  have hm := (f388.2 am 13 k_am 5 rfl).trans hm
  have hp := (f388.2 th 12 k_th 2 rfl).trans hp
  have hg := (f388.2 am 13 k_am 3 rfl).trans hg
  have htC := htC.fr k_rd x388 f388 (by decide +kernel)
  have htM := htM.fr k_am x388 f388 (by decide +kernel)
  have hrc := hrc.fr k_th x388 f388 (by decide +kernel)
  have hrm := hrm.fr k_am x388 f388 (by decide +kernel)
  have k_th := x388 _ _ k_th
  have k_am := x388 _ _ k_am
  have k_out := x388 _ _ k_out
  have k_rd := x388 _ _ k_rd
  obtain ⟨v388, rfl, -⟩ := hv388
  show et_go _ _ 1000 391 [some (.ref 150), some (.ref th), some (.ref am), some (.ref out), some (.int (Int32.ofNat i)), x5, x6] [.int v388] _ ((ck + c383) + c388) ((sk + s383) + s388) _
  refine ls_pop (p := 392) (by decide +kernel) ?_
  refine ls_goto (p := 1656) (by decide +kernel) ?_
  exact hN _ _ c h _ _ _ _ _ _ ⟨⟨hH, hci, k_th, k_am, k_out, h3, k_rd, hl, hm, hc⟩, ⟨hh1, hp, hg⟩, hrc, hrm, hbc, hbi, ⟨hry, hcy, hty, hzy, hsy, hfy⟩, _, htC, htM, htb⟩ (by omega) (by omega)
set_option maxHeartbeats 2000000 in
theorem lw_c6 (hI : lw_I K G th am out rd s0 s1 aw ai tp ba na tm c h cn im) (hi : i + 6 ≤ n) (hn : n ≤ 3072) (hN : ∀ (K' : et_K) (G' : eg_G) (c' h' : Nat) (cn' im' : Nat → Nat) (ck' sk' : Nat) (y5 y6 : Option Value), lw_I K' G' th am out rd s0 s1 aw ai tp ba na tm c' h' cn' im' → ck' ≤ ck + 841 → sk' ≤ sk + 7168 → et_go (some (n, f)) (d + 41) 1000 1656 [some (.ref 150), some (.ref th), some (.ref am), some (.ref out), some (.int (Int32.ofNat i)), y5, y6] [] G' ck' sk' Z) : et_go (some (n, f)) (d + 41) 1000 395 [some (.ref 150), some (.ref th), some (.ref am), some (.ref out), some (.int (Int32.ofNat i)), x5, x6] [] G ck sk Z := by
  obtain ⟨⟨hH, hci, k_th, k_am, k_out, h3, k_rd, hl, hm, hc⟩, ⟨hh1, hp, hg⟩, hrc, hrm, hbc, hbi, ⟨hry, hcy, hty, hzy, hsy, hfy⟩, tb, htC, htM, htb⟩ := hI
  refine ls_aload (i := 1) (p := 396) (by decide +kernel) rfl ?_
  refine ls_arg (j := 1) (by decide +kernel) (by omega) hn ?_
  refine ls_arg (j := 2) (by decide +kernel) (by omega) hn ?_
  refine ls_aload (i := 3) (p := 409) (by decide +kernel) rfl ?_
  refine ls_calls (mi := 3) (na := 4) (lk := 7) (lm := 5) (L0 := eg_en (eg_mL 3) [.ref th, .int (f (i + 1)), .int (f (i + 2)), .ref out]) (by decide +kernel) rfl rfl rfl rfl rfl rfl (by rw [show eg_mL 3 = 5 from by decide +kernel]; first | done | rfl) ?_
  have hHo := hH
  obtain ⟨D_, φ_, R0_, R1_, r0_, r1_, fo_, t_, kk_, hx_, ho_⟩ := hry
  have hR_ := fun (k : Nat) (hk : k < cn 0) => And.intro (ho_.2.1 k hk).1 (ho_.2.1 k hk).2.1
  have hT_ := fun (k : Nat) (hk : k < cn 0) => (ho_.2.1 k hk).2.2
  refine ((hh_c3 (K, [], G) [.ref th, .int (f (i + 1)), .int (f (i + 2)), .ref out] _ hH (by omega) rfl (ht_ac (.inr ⟨by decide, _, rfl, k_th⟩) (ht_ac hi_any (ht_ac hi_any (ht_ac (.inr ⟨by decide, _, rfl, k_out⟩) ht_an))))).and (fh_right (R0 := R0_) t_ hH hx_ hR_ k_out (by omega))).mono (fun u hu => ls_cbvQ (Q := fun u => ((¬ xr (f (i + 1)) (cn 0) ∧ u.1 = .inl (some (.int (Int32.ofNat 1)))) ∨ (xr (f (i + 1)) (cn 0) ∧ ¬ (0 ≤ (f (i + 2)).toInt ∧ (f (i + 2)).toInt < 65536) ∧ u.1 = .inl (some (.int (Int32.ofNat 2)))) ∨ ∃ n, (f (i + 1)) = Int32.ofNat n ∧ n < cn 0 ∧ (0 ≤ (f (i + 2)).toInt ∧ (f (i + 2)).toInt < 65536) ∧ u.1 = .inl (some (.int (Int32.ofNat 0))) ∧ et_pl (eg_at u.2.1 out) 0 = some (.long (Int64.ofNat (if φ_ (R0_ n) (feE (fun _ => (f (i + 2)))) = true then 1 else 0))))) hu (fun v409 K409 G409 c409 s409 x409 f409 hH hv409 cl409 sl409 hQ => ?_))
  have hx2_ := hx_.fr t_ hHo f409 (by decide +kernel)
  have ho2_ := ho_.fr kk_ f409 (by decide +kernel)
  have hry : ry K409 G409 th s0 s1 aw ai (cn 0) (im 0) := ⟨D_, φ_, R0_, R1_, r0_, r1_, fo_, t_.ex x409, kk_.ex x409, hx2_, ho2_⟩
  have hT_ := fun (k : Nat) (hk : k < cn 0) => (ho2_.2.1 k hk).2.2
  have hfy := hfy.fr k_th hrc.1.1 x409 f409 (by decide +kernel)
  have hsy := hsy.fr k_th x409 f409 (by decide +kernel)
  have hzy := hzy.fr k_th hrc.1.1 hrc.1.2.1 x409 f409 (by decide +kernel)
  have hty := hty.fr x409 hHo f409 (by decide +kernel)
  have hcy := hcy.fr x409 f409 (by decide +kernel)
  have hci := hci.fr x409 f409 (by decide +kernel)
  have h3 := (f409.2 th 12 k_th 3 rfl).trans h3
  have hl := (f409.2 rd 7 k_rd 1 rfl).trans hl
  have hm := (f409.2 am 13 k_am 5 rfl).trans hm
  have hp := (f409.2 th 12 k_th 2 rfl).trans hp
  have hg := (f409.2 am 13 k_am 3 rfl).trans hg
  have htC := htC.fr k_rd x409 f409 (by decide +kernel)
  have htM := htM.fr k_am x409 f409 (by decide +kernel)
  have hrc := hrc.fr k_th x409 f409 (by decide +kernel)
  have hrm := hrm.fr k_am x409 f409 (by decide +kernel)
  have k_th := x409 _ _ k_th
  have k_am := x409 _ _ k_am
  have k_out := x409 _ _ k_out
  have k_rd := x409 _ _ k_rd
  rcases hQ with ⟨cx, ev⟩ | ⟨cx, cy, ev⟩ | ⟨n0, cn0, hn0, cy, ev, ho⟩
  · cases ev
    show et_go _ _ 1000 412 [some (.ref 150), some (.ref th), some (.ref am), some (.ref out), some (.int (Int32.ofNat i)), x5, x6] [.int (Int32.ofNat 1)] _ (ck + c409) (sk + s409) _
    refine ls_istore (i := 5) (p := 414) (by decide +kernel) (Nat.le_of_ble_eq_true rfl) ?_
    refine ls_aload (i := 2) (p := 415) (by decide +kernel) rfl ?_
    refine ls_arg (j := 1) (by decide +kernel) (by omega) hn ?_
    refine ls_arg (j := 2) (by decide +kernel) (by omega) hn ?_
    refine lt_callv (T := et_TT) (t := 13) (mi := 211) (na := 2) (ci := 11) (lk := 7) (lm := 3) (L0 := eg_en (eg_mL 211) [.ref am, .int (f (i + 1)), .int (f (i + 2))]) (by decide +kernel) rfl hH k_am rfl rfl rfl rfl rfl (by rw [show eg_mL 211 = 3 from by decide +kernel]; first | done | rfl) ?_
    have hHo := hH
    have b0 : cn 0 ≤ 4 := Int.ofNat_le.mp (hf_bd (t := 10) hH hrc.1.1 rfl rfl (hrc.2.2 (0, 0) (by decide)).1 (hbc 0))
    refine ((er_p211_ok (K409, [], G409) [.ref am, .int (f (i + 1)), .int (f (i + 2))] _ hH (by omega) rfl (ht_ac (.inr ⟨by decide, _, rfl, k_am⟩) (ht_ac hi_any (ht_ac hi_any ht_an)))).and (fm_right (g := fun n => φ_ (R0_ n)) hH k_am hrm.1.1 hrm.2.1.1 (hrm.2.2 (0, 0) (by decide)).1 b0 hT_ (by omega))).mono (fun u hu => ls_cbvQ (Q := fun u => (¬ xr (f (i + 1)) (cn 0) ∧ u.1 = .inl (some (.int (Int32.ofNat 0))) ∧ et_pl (eg_at u.2.1 am) 0 = some (.int (Int32.ofNat 1))) ∨ (xr (f (i + 1)) (cn 0) ∧ ¬ (0 ≤ (f (i + 2)).toInt ∧ (f (i + 2)).toInt < 65536) ∧ u.1 = .inl (some (.int (Int32.ofNat 0))) ∧ et_pl (eg_at u.2.1 am) 0 = some (.int (Int32.ofNat 2))) ∨ ∃ n, (f (i + 1)) = Int32.ofNat n ∧ n < cn 0 ∧ (0 ≤ (f (i + 2)).toInt ∧ (f (i + 2)).toInt < 65536) ∧ u.1 = .inl (some (.int (Int32.ofNat (if φ_ (R0_ n) (feE (fun _ => (f (i + 2)))) = true then 1 else 0)))) ∧ et_pl (eg_at u.2.1 am) 0 = some (.int (Int32.ofNat 0))) hu (fun v427 K427 G427 c427 s427 x427 f427 hH hv427 cl427 sl427 hQ => ?_))
    have hfy := hfy.fr k_th hrc.1.1 x427 f427 (by decide +kernel)
    have hsy := hsy.fr k_th x427 f427 (by decide +kernel)
    have hzy := hzy.fr k_th hrc.1.1 hrc.1.2.1 x427 f427 (by decide +kernel)
    have hty := hty.fr x427 hHo f427 (by decide +kernel)
    have hcy := hcy.fr x427 f427 (by decide +kernel)
    have hry := hry.fr hHo x427 f427 (by decide +kernel)
    have hci := hci.fr x427 f427 (by decide +kernel)
    have h3 := (f427.2 th 12 k_th 3 rfl).trans h3
    have hl := (f427.2 rd 7 k_rd 1 rfl).trans hl
    have hm := (f427.2 am 13 k_am 5 rfl).trans hm
    have hp := (f427.2 th 12 k_th 2 rfl).trans hp
    have hg := (f427.2 am 13 k_am 3 rfl).trans hg
    have htC := htC.fr k_rd x427 f427 (by decide +kernel)
    have htM := htM.fr k_am x427 f427 (by decide +kernel)
    have hrc := hrc.fr k_th x427 f427 (by decide +kernel)
    have hrm := hrm.fr k_am x427 f427 (by decide +kernel)
    have k_th := x427 _ _ k_th
    have k_am := x427 _ _ k_am
    have k_out := x427 _ _ k_out
    have k_rd := x427 _ _ k_rd
    rcases hQ with ⟨cx2, ev2, ht⟩ | ⟨cx2, cy2, ev2, ht⟩ | ⟨n1, cn1, hn1, cy2, ev2, ht⟩
    · cases ev2
      show et_go _ _ 1000 430 [some (.ref 150), some (.ref th), some (.ref am), some (.ref out), some (.int (Int32.ofNat i)), some (.int (Int32.ofNat 1)), x6] [.int (Int32.ofNat 0)] _ ((ck + c409) + c427) ((sk + s409) + s427) _
      refine ls_istore (i := 6) (p := 432) (by decide +kernel) (Nat.le_of_ble_eq_true rfl) ?_
      refine ls_goto (p := 1656) (by decide +kernel) ?_
      exact hN _ _ c h _ _ _ _ _ _ ⟨⟨hH, hci, k_th, k_am, k_out, h3, k_rd, hl, hm, hc⟩, ⟨hh1, hp, hg⟩, hrc, hrm, hbc, hbi, ⟨hry, hcy, hty, hzy, hsy, hfy⟩, _, htC, htM, htb⟩ (by omega) (by omega)
    · exact absurd cx2 cx
    · exact absurd (by rw [cn1]; unfold xr; rw [hs_nint (by omega)]; omega) cx
  · cases ev
    show et_go _ _ 1000 412 [some (.ref 150), some (.ref th), some (.ref am), some (.ref out), some (.int (Int32.ofNat i)), x5, x6] [.int (Int32.ofNat 2)] _ (ck + c409) (sk + s409) _
    refine ls_istore (i := 5) (p := 414) (by decide +kernel) (Nat.le_of_ble_eq_true rfl) ?_
    refine ls_aload (i := 2) (p := 415) (by decide +kernel) rfl ?_
    refine ls_arg (j := 1) (by decide +kernel) (by omega) hn ?_
    refine ls_arg (j := 2) (by decide +kernel) (by omega) hn ?_
    refine lt_callv (T := et_TT) (t := 13) (mi := 211) (na := 2) (ci := 11) (lk := 7) (lm := 3) (L0 := eg_en (eg_mL 211) [.ref am, .int (f (i + 1)), .int (f (i + 2))]) (by decide +kernel) rfl hH k_am rfl rfl rfl rfl rfl (by rw [show eg_mL 211 = 3 from by decide +kernel]; first | done | rfl) ?_
    have hHo := hH
    have b0 : cn 0 ≤ 4 := Int.ofNat_le.mp (hf_bd (t := 10) hH hrc.1.1 rfl rfl (hrc.2.2 (0, 0) (by decide)).1 (hbc 0))
    refine ((er_p211_ok (K409, [], G409) [.ref am, .int (f (i + 1)), .int (f (i + 2))] _ hH (by omega) rfl (ht_ac (.inr ⟨by decide, _, rfl, k_am⟩) (ht_ac hi_any (ht_ac hi_any ht_an)))).and (fm_right (g := fun n => φ_ (R0_ n)) hH k_am hrm.1.1 hrm.2.1.1 (hrm.2.2 (0, 0) (by decide)).1 b0 hT_ (by omega))).mono (fun u hu => ls_cbvQ (Q := fun u => (¬ xr (f (i + 1)) (cn 0) ∧ u.1 = .inl (some (.int (Int32.ofNat 0))) ∧ et_pl (eg_at u.2.1 am) 0 = some (.int (Int32.ofNat 1))) ∨ (xr (f (i + 1)) (cn 0) ∧ ¬ (0 ≤ (f (i + 2)).toInt ∧ (f (i + 2)).toInt < 65536) ∧ u.1 = .inl (some (.int (Int32.ofNat 0))) ∧ et_pl (eg_at u.2.1 am) 0 = some (.int (Int32.ofNat 2))) ∨ ∃ n, (f (i + 1)) = Int32.ofNat n ∧ n < cn 0 ∧ (0 ≤ (f (i + 2)).toInt ∧ (f (i + 2)).toInt < 65536) ∧ u.1 = .inl (some (.int (Int32.ofNat (if φ_ (R0_ n) (feE (fun _ => (f (i + 2)))) = true then 1 else 0)))) ∧ et_pl (eg_at u.2.1 am) 0 = some (.int (Int32.ofNat 0))) hu (fun v427 K427 G427 c427 s427 x427 f427 hH hv427 cl427 sl427 hQ => ?_))
    have hfy := hfy.fr k_th hrc.1.1 x427 f427 (by decide +kernel)
    have hsy := hsy.fr k_th x427 f427 (by decide +kernel)
    have hzy := hzy.fr k_th hrc.1.1 hrc.1.2.1 x427 f427 (by decide +kernel)
    have hty := hty.fr x427 hHo f427 (by decide +kernel)
    have hcy := hcy.fr x427 f427 (by decide +kernel)
    have hry := hry.fr hHo x427 f427 (by decide +kernel)
    have hci := hci.fr x427 f427 (by decide +kernel)
    have h3 := (f427.2 th 12 k_th 3 rfl).trans h3
    have hl := (f427.2 rd 7 k_rd 1 rfl).trans hl
    have hm := (f427.2 am 13 k_am 5 rfl).trans hm
    have hp := (f427.2 th 12 k_th 2 rfl).trans hp
    have hg := (f427.2 am 13 k_am 3 rfl).trans hg
    have htC := htC.fr k_rd x427 f427 (by decide +kernel)
    have htM := htM.fr k_am x427 f427 (by decide +kernel)
    have hrc := hrc.fr k_th x427 f427 (by decide +kernel)
    have hrm := hrm.fr k_am x427 f427 (by decide +kernel)
    have k_th := x427 _ _ k_th
    have k_am := x427 _ _ k_am
    have k_out := x427 _ _ k_out
    have k_rd := x427 _ _ k_rd
    rcases hQ with ⟨cx2, ev2, ht⟩ | ⟨cx2, cy2, ev2, ht⟩ | ⟨n1, cn1, hn1, cy2, ev2, ht⟩
    · exact absurd cx cx2
    · cases ev2
      show et_go _ _ 1000 430 [some (.ref 150), some (.ref th), some (.ref am), some (.ref out), some (.int (Int32.ofNat i)), some (.int (Int32.ofNat 2)), x6] [.int (Int32.ofNat 0)] _ ((ck + c409) + c427) ((sk + s409) + s427) _
      refine ls_istore (i := 6) (p := 432) (by decide +kernel) (Nat.le_of_ble_eq_true rfl) ?_
      refine ls_goto (p := 1656) (by decide +kernel) ?_
      exact hN _ _ c h _ _ _ _ _ _ ⟨⟨hH, hci, k_th, k_am, k_out, h3, k_rd, hl, hm, hc⟩, ⟨hh1, hp, hg⟩, hrc, hrm, hbc, hbi, ⟨hry, hcy, hty, hzy, hsy, hfy⟩, _, htC, htM, htb⟩ (by omega) (by omega)
    · exact absurd cy2 cy
  · cases ev
    show et_go _ _ 1000 412 [some (.ref 150), some (.ref th), some (.ref am), some (.ref out), some (.int (Int32.ofNat i)), x5, x6] [.int (Int32.ofNat 0)] _ (ck + c409) (sk + s409) _
    refine ls_istore (i := 5) (p := 414) (by decide +kernel) (Nat.le_of_ble_eq_true rfl) ?_
    refine ls_aload (i := 2) (p := 415) (by decide +kernel) rfl ?_
    refine ls_arg (j := 1) (by decide +kernel) (by omega) hn ?_
    refine ls_arg (j := 2) (by decide +kernel) (by omega) hn ?_
    refine lt_callv (T := et_TT) (t := 13) (mi := 211) (na := 2) (ci := 11) (lk := 7) (lm := 3) (L0 := eg_en (eg_mL 211) [.ref am, .int (f (i + 1)), .int (f (i + 2))]) (by decide +kernel) rfl hH k_am rfl rfl rfl rfl rfl (by rw [show eg_mL 211 = 3 from by decide +kernel]; first | done | rfl) ?_
    have hHo := hH
    have b0 : cn 0 ≤ 4 := Int.ofNat_le.mp (hf_bd (t := 10) hH hrc.1.1 rfl rfl (hrc.2.2 (0, 0) (by decide)).1 (hbc 0))
    refine ((er_p211_ok (K409, [], G409) [.ref am, .int (f (i + 1)), .int (f (i + 2))] _ hH (by omega) rfl (ht_ac (.inr ⟨by decide, _, rfl, k_am⟩) (ht_ac hi_any (ht_ac hi_any ht_an)))).and (fm_right (g := fun n => φ_ (R0_ n)) hH k_am hrm.1.1 hrm.2.1.1 (hrm.2.2 (0, 0) (by decide)).1 b0 hT_ (by omega))).mono (fun u hu => ls_cbvQ (Q := fun u => (¬ xr (f (i + 1)) (cn 0) ∧ u.1 = .inl (some (.int (Int32.ofNat 0))) ∧ et_pl (eg_at u.2.1 am) 0 = some (.int (Int32.ofNat 1))) ∨ (xr (f (i + 1)) (cn 0) ∧ ¬ (0 ≤ (f (i + 2)).toInt ∧ (f (i + 2)).toInt < 65536) ∧ u.1 = .inl (some (.int (Int32.ofNat 0))) ∧ et_pl (eg_at u.2.1 am) 0 = some (.int (Int32.ofNat 2))) ∨ ∃ n, (f (i + 1)) = Int32.ofNat n ∧ n < cn 0 ∧ (0 ≤ (f (i + 2)).toInt ∧ (f (i + 2)).toInt < 65536) ∧ u.1 = .inl (some (.int (Int32.ofNat (if φ_ (R0_ n) (feE (fun _ => (f (i + 2)))) = true then 1 else 0)))) ∧ et_pl (eg_at u.2.1 am) 0 = some (.int (Int32.ofNat 0))) hu (fun v427 K427 G427 c427 s427 x427 f427 hH hv427 cl427 sl427 hQ => ?_))
    have hfy := hfy.fr k_th hrc.1.1 x427 f427 (by decide +kernel)
    have hsy := hsy.fr k_th x427 f427 (by decide +kernel)
    have hzy := hzy.fr k_th hrc.1.1 hrc.1.2.1 x427 f427 (by decide +kernel)
    have hty := hty.fr x427 hHo f427 (by decide +kernel)
    have hcy := hcy.fr x427 f427 (by decide +kernel)
    have hry := hry.fr hHo x427 f427 (by decide +kernel)
    have hci := hci.fr x427 f427 (by decide +kernel)
    have h3 := (f427.2 th 12 k_th 3 rfl).trans h3
    have hl := (f427.2 rd 7 k_rd 1 rfl).trans hl
    have hm := (f427.2 am 13 k_am 5 rfl).trans hm
    have hp := (f427.2 th 12 k_th 2 rfl).trans hp
    have hg := (f427.2 am 13 k_am 3 rfl).trans hg
    have htC := htC.fr k_rd x427 f427 (by decide +kernel)
    have htM := htM.fr k_am x427 f427 (by decide +kernel)
    have hrc := hrc.fr k_th x427 f427 (by decide +kernel)
    have hrm := hrm.fr k_am x427 f427 (by decide +kernel)
    have ho := (f427.2 out 31 k_out 0 rfl).trans ho
    have k_th := x427 _ _ k_th
    have k_am := x427 _ _ k_am
    have k_out := x427 _ _ k_out
    have k_rd := x427 _ _ k_rd
    rcases hQ with ⟨cx2, ev2, ht⟩ | ⟨cx2, cy2, ev2, ht⟩ | ⟨n1, cn1, hn1, cy2, ev2, ht⟩
    · exact absurd (by rw [cn0]; unfold xr; rw [hs_nint (by omega)]; omega) cx2
    · exact absurd cy cy2
    · cases ev2
      obtain rfl : n0 = n1 := (hs_neq (by omega) (by omega)).mp (cn0.symm.trans cn1)
      show et_go _ _ 1000 430 [some (.ref 150), some (.ref th), some (.ref am), some (.ref out), some (.int (Int32.ofNat i)), some (.int (Int32.ofNat 0)), x6] [.int (Int32.ofNat (if φ_ (R0_ n0) (feE (fun _ => (f (i + 2)))) = true then 1 else 0))] _ ((ck + c409) + c427) ((sk + s409) + s427) _
      refine ls_istore (i := 6) (p := 432) (by decide +kernel) (Nat.le_of_ble_eq_true rfl) ?_
      refine ls_goto (p := 1656) (by decide +kernel) ?_
      exact hN _ _ c h _ _ _ _ _ _ ⟨⟨hH, hci, k_th, k_am, k_out, h3, k_rd, hl, hm, hc⟩, ⟨hh1, hp, hg⟩, hrc, hrm, hbc, hbi, ⟨hry, hcy, hty, hzy, hsy, hfy⟩, _, htC, htM, htb⟩ (by omega) (by omega)
set_option maxHeartbeats 2000000 in
theorem lw_c7 (hI : lw_I K G th am out rd s0 s1 aw ai tp ba na tm c h cn im) (hi : i + 6 ≤ n) (hn : n ≤ 3072) (hN : ∀ (K' : et_K) (G' : eg_G) (c' h' : Nat) (cn' im' : Nat → Nat) (ck' sk' : Nat) (y5 y6 : Option Value), lw_I K' G' th am out rd s0 s1 aw ai tp ba na tm c' h' cn' im' → ck' ≤ ck + 841 → sk' ≤ sk + 7168 → et_go (some (n, f)) (d + 41) 1000 1656 [some (.ref 150), some (.ref th), some (.ref am), some (.ref out), some (.int (Int32.ofNat i)), y5, y6] [] G' ck' sk' Z) : et_go (some (n, f)) (d + 41) 1000 435 [some (.ref 150), some (.ref th), some (.ref am), some (.ref out), some (.int (Int32.ofNat i)), x5, x6] [] G ck sk Z := by
  obtain ⟨⟨hH, hci, k_th, k_am, k_out, h3, k_rd, hl, hm, hc⟩, ⟨hh1, hp, hg⟩, hrc, hrm, hbc, hbi, ⟨hry, hcy, hty, hzy, hsy, hfy⟩, tb, htC, htM, htb⟩ := hI
  refine ls_aload (i := 1) (p := 436) (by decide +kernel) rfl ?_
  refine ls_arg (j := 1) (by decide +kernel) (by omega) hn ?_
  refine ls_arg (j := 2) (by decide +kernel) (by omega) hn ?_
  refine ls_bool (by decide +kernel) (fun b448 hb448 hbe448 => ?_)
  refine ls_aload (i := 3) (p := 457) (by decide +kernel) rfl ?_
  refine ls_calls (mi := 4) (na := 4) (lk := 7) (lm := 5) (L0 := eg_en (eg_mL 4) [.ref th, .int (f (i + 1)), .int (Int32.ofNat b448), .ref out]) (by decide +kernel) rfl rfl rfl rfl rfl rfl (by rw [show eg_mL 4 = 5 from by decide +kernel]; first | done | rfl) ?_
  have hHo := hH
  have b3 : cn 3 ≤ 20 := Int.ofNat_le.mp (hf_bd (t := 10) hH hrc.1.1 rfl rfl (hrc.2.2 (2, 3) (by decide)).1 (hbc 3))
  have hH0 := hH
  have k_th0 := k_th
  have k_out0 := k_out
  have k_rd0 := k_rd
  have k_am0 := k_am
  have hrc0 := hrc
  have hrm0 := hrm
  obtain ⟨la, g3, k_la⟩ := hf_ref (t := 10) (f := 3) (u := 17) hH hrc.1.1 rfl rfl (.inr trivial)
  obtain ⟨ya, g4, k_ya⟩ := hf_ref (t := 10) (f := 4) (u := 27) hH hrc.1.1 rfl rfl (.inr trivial)
  have hcy0 := hcy
  have hyy : (Int32.ofNat b448) = Int32.ofNat 0 ∨ (Int32.ofNat b448) = Int32.ofNat 1 := (show b448 = 0 ∨ b448 = 1 by omega).elim (fun h => .inl (by rw [h])) (fun h => .inr (by rw [h]))
  have hfy9 := hfy
  refine ((hh_c4 (K, [], G) [.ref th, .int (f (i + 1)), .int (Int32.ofNat b448), .ref out] _ hH (by omega) rfl (ht_ac (.inr ⟨by decide, _, rfl, k_th⟩) (ht_ac hi_any (ht_ac (hi_nv (by omega) (by omega)) (ht_ac (.inr ⟨by decide, _, rfl, k_out⟩) ht_an))))).and ((fh_card hH k_th hrc.2.1.1 hrc.1.1 (hrc.2.2 (2, 3) (by decide)).1 b3 g3 k_la g4 k_ya hyy k_out (by omega)).and ((fq_4_6 hH k_th k_out (by omega) (by omega)).and (fq_4_7 hH k_th k_out (by omega) (by omega))))).mono (fun u hu => ls_cbvQ (Q := fun u => xe_Z _ _ _ _ u ∧ (fgZ G th 6 (Int32.ofNat 0) u ∧ fgZ G th 7 (Int32.ofNat 0) u)) hu (fun v457 K457 G457 c457 s457 x457 f457 hH hv457 cl457 sl457 hQ => ?_))
  obtain ⟨⟨_, _, _, _, eu, -, hxf, hQ⟩, hf6_, hf7_⟩ := hQ
  cases eu
  have hsy := hsy.fr k_th x457 f457 (by decide +kernel)
  have hzy := hzy.fr k_th hrc.1.1 hrc.1.2.1 x457 f457 (by decide +kernel)
  have hty := hty.fr x457 hHo f457 (by decide +kernel)
  have hry := hry.fr hHo x457 f457 (by decide +kernel)
  have hci := hci.fr x457 f457 (by decide +kernel)
  have h3 := (f457.2 th 12 k_th 3 rfl).trans h3
  have hl := (f457.2 rd 7 k_rd 1 rfl).trans hl
  have hm := (f457.2 am 13 k_am 5 rfl).trans hm
  have hp := (f457.2 th 12 k_th 2 rfl).trans hp
  have hg := (f457.2 am 13 k_am 3 rfl).trans hg
  have htC := htC.fr k_rd x457 f457 (by decide +kernel)
  have htM := htM.fr k_am x457 f457 (by decide +kernel)
  have hrm := hrm.fr k_am x457 f457 (by decide +kernel)
  have k_th := x457 _ _ k_th
  have k_am := x457 _ _ k_am
  have k_out := x457 _ _ k_out
  have k_rd := x457 _ _ k_rd
  have k_z := hrc0.1.2.1
  have w1 : et_pl (eg_at G457 s1) 2 = some (.int (Int32.ofNat (im 3))) := (hxf.2 s1 2 (hH0.2.2 _ _ hrc0.1.2.1).1 (fun h => by rcases h with h | h | h | h | h <;> first | exact hrc0.1.2.2 h.1.symm | (have h := h.1; rw [h] at k_z; first | (rw [k_th0] at k_z; cases k_z) | (rw [k_la] at k_z; cases k_z) | (rw [k_ya] at k_z; cases k_z) | (rw [k_out0] at k_z; cases k_z)))).trans (hrc0.2.2 (2, 3) (by decide)).2
  rcases hQ with ⟨cx, ev, q0⟩ | ⟨cx, c4, ev, q0⟩ | ⟨cx, c4, ev, ho, q0, qa_, qb_⟩
  · cases ev
    have hrc := hrc0.upf k_th0 x457 f457 q0 w1 (by decide +kernel)
    have hcy := hcy0.c0 hrc0.1.2.2 hHo x457 hxf (fun b j t kb hs => by rcases hs with h | h | h | h | h <;> obtain ⟨h1, h2⟩ := h <;> subst h1 <;> first | (rw [k_th0] at kb; cases kb; exact cyS.r _ (by decide)) | (rw [k_out0] at kb; cases kb; exact cyS.r _ (by decide)) | (rw [hrc0.1.1] at kb; cases kb; exact ⟨fun _ => ⟨rfl, h2⟩, fun h => absurd h (by decide), fun h => absurd h (by decide), by decide, by decide⟩) | (rw [k_la] at kb; cases kb; exact ⟨fun h => absurd h (by decide), fun _ => ⟨g3, h2⟩, fun h => absurd h (by decide), by decide, by decide⟩) | (rw [k_ya] at kb; cases kb; exact ⟨fun h => absurd h (by decide), fun h => absurd h (by decide), fun _ => ⟨g4, h2⟩, by decide, by decide⟩))
    have hfy : fyR K457 G457 th s0 (cn 3) := hfy9.xs k_th0 hrc0.1.1 hHo x457 hxf (fun b j t kb hs => by rcases hs with h | h | h | h | h <;> obtain ⟨h1, h2⟩ := h <;> subst h1 <;> first | (rw [k_th0] at kb; cases kb; exact ⟨by decide, fun h => absurd h (by decide), fun _ => by omega, fun h => absurd h (by decide), fun h => absurd h (by decide)⟩) | (rw [hrc0.1.1] at kb; cases kb; exact ⟨by decide, fun _ => h2, fun h => absurd h (by decide), fun h => absurd h (by decide), fun h => absurd h (by decide)⟩) | (rw [k_la] at kb; cases kb; exact ⟨by decide, fun h => absurd h (by decide), fun h => absurd h (by decide), fun _ => by have z2_ : cn (2, 3).2 = cn 3 := rfl; omega, fun h => absurd h (by decide)⟩) | (rw [k_ya] at kb; cases kb; exact ⟨by decide, fun h => absurd h (by decide), fun h => absurd h (by decide), fun h => absurd h (by decide), fun _ => by have z2_ : cn (2, 3).2 = cn 3 := rfl; omega⟩) | (rw [k_out0] at kb; cases kb; exact ⟨by decide, fun h => absurd h (by decide), fun h => absurd h (by decide), fun h => absurd h (by decide), fun h => absurd h (by decide)⟩)) (fun j hj => by rcases hj with rfl | rfl; exact hf6_.n (fun q => absurd (Value.int.inj (Option.some.inj (Sum.inl.inj q))) (by decide)); exact hf7_.n (fun q => absurd (Value.int.inj (Option.some.inj (Sum.inl.inj q))) (by decide)))
    show et_go _ _ 1000 460 [some (.ref 150), some (.ref th), some (.ref am), some (.ref out), some (.int (Int32.ofNat i)), x5, x6] [.int (Int32.ofNat 1)] _ (ck + c457) (sk + s457) _
    refine ls_istore (i := 5) (p := 462) (by decide +kernel) (Nat.le_of_ble_eq_true rfl) ?_
    refine ls_aload (i := 2) (p := 463) (by decide +kernel) rfl ?_
    refine ls_arg (j := 1) (by decide +kernel) (by omega) hn ?_
    refine ls_arg (j := 2) (by decide +kernel) (by omega) hn ?_
    refine ls_bool (by decide +kernel) (fun b475 hb475 hbe475 => ?_)
    refine lt_callv (T := et_TT) (t := 13) (mi := 217) (na := 2) (ci := 11) (lk := 7) (lm := 3) (L0 := eg_en (eg_mL 217) [.ref am, .int (f (i + 1)), .int (Int32.ofNat b475)]) (by decide +kernel) rfl hH k_am rfl rfl rfl rfl rfl (by rw [show eg_mL 217 = 3 from by decide +kernel]; first | done | rfl) ?_
    have hHo := hH
    have k_am1 := k_am
    have hrm0 := hrm
    refine ((er_p217_ok (K457, [], G457) [.ref am, .int (f (i + 1)), .int (Int32.ofNat b475)] _ hH (by omega) rfl (ht_ac (.inr ⟨by decide, _, rfl, k_am⟩) (ht_ac hi_any (ht_ac (hi_nv (by omega) (by omega)) ht_an)))).and (fm_card hH k_am hrm.1.1 hrm.2.1.1 (hrm.2.2 (2, 3) (by decide)).1 b3 (by omega))).mono (fun u hu => ls_cbvQ hu (fun v483 K483 G483 c483 s483 x483 f483 hH hv483 cl483 sl483 hQ => ?_))
    obtain ⟨_, _, eu, -, hxf, hQ⟩ := hQ
    cases eu
    have hfy := hfy.fr k_th hrc.1.1 x483 f483 (by decide +kernel)
    have hsy := hsy.fr k_th x483 f483 (by decide +kernel)
    have hzy := hzy.fr k_th hrc.1.1 hrc.1.2.1 x483 f483 (by decide +kernel)
    have hty := hty.fr x483 hHo f483 (by decide +kernel)
    have hry := hry.fr hHo x483 f483 (by decide +kernel)
    have hci := hci.fr x483 f483 (by decide +kernel)
    have h3 := (f483.2 th 12 k_th 3 rfl).trans h3
    have hl := (f483.2 rd 7 k_rd 1 rfl).trans hl
    have hm := (f483.2 am 13 k_am 5 rfl).trans hm
    have hp := (f483.2 th 12 k_th 2 rfl).trans hp
    have hg := (f483.2 am 13 k_am 3 rfl).trans hg
    have htC := htC.fr k_rd x483 f483 (by decide +kernel)
    have htM := htM.fr k_am x483 f483 (by decide +kernel)
    have hrc := hrc.fr k_th x483 f483 (by decide +kernel)
    have k_th := x483 _ _ k_th
    have k_am := x483 _ _ k_am
    have k_out := x483 _ _ k_out
    have k_rd := x483 _ _ k_rd
    have hmf := (mdF.rf.xs (c := cn 3) hHo et_ex.rf hxf (fun b j t kb hs ht => by rcases hs with ⟨ea, e2⟩ | ⟨ea, e2⟩ | ⟨ea, e2⟩ <;> first | exact ⟨ea, by have z2_ : cn (2, 3).2 = cn 3 := rfl; omega⟩ | (rw [ea, k_am1] at kb; cases kb; rcases ht with ht | ht <;> cases ht)))
    rcases hQ with ⟨cx2, ev2, ht, z0⟩ | ⟨cx2, r4, ev2, ht, z0⟩ | ⟨cx2, r4, ev2, ht, z0, za_, zb_⟩
    · cases ev2
      have hrm := hrm0.upf k_am1 x483 f483 z0 (by decide +kernel)
      have hbc := rc_upb (k := 3) (v := cn 3) hbc (by omega)
      have hcy := hcy.m0 x483 f483 (by decide +kernel) hmf (hi_ne hrm0.1.1 hrm0.1.2 (by decide))
      show et_go _ _ 1000 486 [some (.ref 150), some (.ref th), some (.ref am), some (.ref out), some (.int (Int32.ofNat i)), some (.int (Int32.ofNat 1)), x6] [.int (Int32.ofNat 0)] _ (ck + c457) (sk + s457) _
      refine ls_istore (i := 6) (p := 488) (by decide +kernel) (Nat.le_of_ble_eq_true rfl) ?_
      refine ls_goto (p := 1656) (by decide +kernel) ?_
      exact hN _ _ c h _ _ _ _ _ _ ⟨⟨hH, hci, k_th, k_am, k_out, h3, k_rd, hl, hm, hc⟩, ⟨hh1, hp, hg⟩, hrc, hrm, hbc, hbi, ⟨hry, hcy, hty, hzy, hsy, hfy⟩, _, htC, htM, htb⟩ (by omega) (by omega)
    · exact absurd cx2 cx
    · exact absurd cx2 cx
  · cases ev
    have hrc := hrc0.upf k_th0 x457 f457 q0 w1 (by decide +kernel)
    have hcy := hcy0.c0 hrc0.1.2.2 hHo x457 hxf (fun b j t kb hs => by rcases hs with h | h | h | h | h <;> obtain ⟨h1, h2⟩ := h <;> subst h1 <;> first | (rw [k_th0] at kb; cases kb; exact cyS.r _ (by decide)) | (rw [k_out0] at kb; cases kb; exact cyS.r _ (by decide)) | (rw [hrc0.1.1] at kb; cases kb; exact ⟨fun _ => ⟨rfl, h2⟩, fun h => absurd h (by decide), fun h => absurd h (by decide), by decide, by decide⟩) | (rw [k_la] at kb; cases kb; exact ⟨fun h => absurd h (by decide), fun _ => ⟨g3, h2⟩, fun h => absurd h (by decide), by decide, by decide⟩) | (rw [k_ya] at kb; cases kb; exact ⟨fun h => absurd h (by decide), fun h => absurd h (by decide), fun _ => ⟨g4, h2⟩, by decide, by decide⟩))
    have hfy : fyR K457 G457 th s0 (cn 3) := hfy9.xs k_th0 hrc0.1.1 hHo x457 hxf (fun b j t kb hs => by rcases hs with h | h | h | h | h <;> obtain ⟨h1, h2⟩ := h <;> subst h1 <;> first | (rw [k_th0] at kb; cases kb; exact ⟨by decide, fun h => absurd h (by decide), fun _ => by omega, fun h => absurd h (by decide), fun h => absurd h (by decide)⟩) | (rw [hrc0.1.1] at kb; cases kb; exact ⟨by decide, fun _ => h2, fun h => absurd h (by decide), fun h => absurd h (by decide), fun h => absurd h (by decide)⟩) | (rw [k_la] at kb; cases kb; exact ⟨by decide, fun h => absurd h (by decide), fun h => absurd h (by decide), fun _ => by have z2_ : cn (2, 3).2 = cn 3 := rfl; omega, fun h => absurd h (by decide)⟩) | (rw [k_ya] at kb; cases kb; exact ⟨by decide, fun h => absurd h (by decide), fun h => absurd h (by decide), fun h => absurd h (by decide), fun _ => by have z2_ : cn (2, 3).2 = cn 3 := rfl; omega⟩) | (rw [k_out0] at kb; cases kb; exact ⟨by decide, fun h => absurd h (by decide), fun h => absurd h (by decide), fun h => absurd h (by decide), fun h => absurd h (by decide)⟩)) (fun j hj => by rcases hj with rfl | rfl; exact hf6_.n (fun q => absurd (Value.int.inj (Option.some.inj (Sum.inl.inj q))) (by decide)); exact hf7_.n (fun q => absurd (Value.int.inj (Option.some.inj (Sum.inl.inj q))) (by decide)))
    show et_go _ _ 1000 460 [some (.ref 150), some (.ref th), some (.ref am), some (.ref out), some (.int (Int32.ofNat i)), x5, x6] [.int (Int32.ofNat 2)] _ (ck + c457) (sk + s457) _
    refine ls_istore (i := 5) (p := 462) (by decide +kernel) (Nat.le_of_ble_eq_true rfl) ?_
    refine ls_aload (i := 2) (p := 463) (by decide +kernel) rfl ?_
    refine ls_arg (j := 1) (by decide +kernel) (by omega) hn ?_
    refine ls_arg (j := 2) (by decide +kernel) (by omega) hn ?_
    refine ls_bool (by decide +kernel) (fun b475 hb475 hbe475 => ?_)
    refine lt_callv (T := et_TT) (t := 13) (mi := 217) (na := 2) (ci := 11) (lk := 7) (lm := 3) (L0 := eg_en (eg_mL 217) [.ref am, .int (f (i + 1)), .int (Int32.ofNat b475)]) (by decide +kernel) rfl hH k_am rfl rfl rfl rfl rfl (by rw [show eg_mL 217 = 3 from by decide +kernel]; first | done | rfl) ?_
    have hHo := hH
    have k_am1 := k_am
    have hrm0 := hrm
    refine ((er_p217_ok (K457, [], G457) [.ref am, .int (f (i + 1)), .int (Int32.ofNat b475)] _ hH (by omega) rfl (ht_ac (.inr ⟨by decide, _, rfl, k_am⟩) (ht_ac hi_any (ht_ac (hi_nv (by omega) (by omega)) ht_an)))).and (fm_card hH k_am hrm.1.1 hrm.2.1.1 (hrm.2.2 (2, 3) (by decide)).1 b3 (by omega))).mono (fun u hu => ls_cbvQ hu (fun v483 K483 G483 c483 s483 x483 f483 hH hv483 cl483 sl483 hQ => ?_))
    obtain ⟨_, _, eu, -, hxf, hQ⟩ := hQ
    cases eu
    have hfy := hfy.fr k_th hrc.1.1 x483 f483 (by decide +kernel)
    have hsy := hsy.fr k_th x483 f483 (by decide +kernel)
    have hzy := hzy.fr k_th hrc.1.1 hrc.1.2.1 x483 f483 (by decide +kernel)
    have hty := hty.fr x483 hHo f483 (by decide +kernel)
    have hry := hry.fr hHo x483 f483 (by decide +kernel)
    have hci := hci.fr x483 f483 (by decide +kernel)
    have h3 := (f483.2 th 12 k_th 3 rfl).trans h3
    have hl := (f483.2 rd 7 k_rd 1 rfl).trans hl
    have hm := (f483.2 am 13 k_am 5 rfl).trans hm
    have hp := (f483.2 th 12 k_th 2 rfl).trans hp
    have hg := (f483.2 am 13 k_am 3 rfl).trans hg
    have htC := htC.fr k_rd x483 f483 (by decide +kernel)
    have htM := htM.fr k_am x483 f483 (by decide +kernel)
    have hrc := hrc.fr k_th x483 f483 (by decide +kernel)
    have k_th := x483 _ _ k_th
    have k_am := x483 _ _ k_am
    have k_out := x483 _ _ k_out
    have k_rd := x483 _ _ k_rd
    have hmf := (mdF.rf.xs (c := cn 3) hHo et_ex.rf hxf (fun b j t kb hs ht => by rcases hs with ⟨ea, e2⟩ | ⟨ea, e2⟩ | ⟨ea, e2⟩ <;> first | exact ⟨ea, by have z2_ : cn (2, 3).2 = cn 3 := rfl; omega⟩ | (rw [ea, k_am1] at kb; cases kb; rcases ht with ht | ht <;> cases ht)))
    rcases hQ with ⟨cx2, ev2, ht, z0⟩ | ⟨cx2, r4, ev2, ht, z0⟩ | ⟨cx2, r4, ev2, ht, z0, za_, zb_⟩
    · exact absurd cx cx2
    · cases ev2
      have hrm := hrm0.upf k_am1 x483 f483 z0 (by decide +kernel)
      have hbc := rc_upb (k := 3) (v := cn 3) hbc (by omega)
      have hcy := hcy.m0 x483 f483 (by decide +kernel) hmf (hi_ne hrm0.1.1 hrm0.1.2 (by decide))
      show et_go _ _ 1000 486 [some (.ref 150), some (.ref th), some (.ref am), some (.ref out), some (.int (Int32.ofNat i)), some (.int (Int32.ofNat 2)), x6] [.int (Int32.ofNat 0)] _ (ck + c457) (sk + s457) _
      refine ls_istore (i := 6) (p := 488) (by decide +kernel) (Nat.le_of_ble_eq_true rfl) ?_
      refine ls_goto (p := 1656) (by decide +kernel) ?_
      exact hN _ _ c h _ _ _ _ _ _ ⟨⟨hH, hci, k_th, k_am, k_out, h3, k_rd, hl, hm, hc⟩, ⟨hh1, hp, hg⟩, hrc, hrm, hbc, hbi, ⟨hry, hcy, hty, hzy, hsy, hfy⟩, _, htC, htM, htb⟩ (by omega) (by omega)
    · exact absurd c4 (by omega)
  · cases ev
    have hrc := hrc0.upf k_th0 x457 f457 q0 w1 (by decide +kernel)
    have hcyA := hcy0.c1 (x := (f (i + 1))) (y := b448) hrc0.1.2.2 hHo x457 hxf (fun b j t kb hs => by rcases hs with h | h | h | h | h <;> obtain ⟨h1, h2⟩ := h <;> subst h1 <;> first | (rw [k_th0] at kb; cases kb; exact cyS.r _ (by decide)) | (rw [k_out0] at kb; cases kb; exact cyS.r _ (by decide)) | (rw [hrc0.1.1] at kb; cases kb; exact ⟨fun _ => ⟨rfl, h2⟩, fun h => absurd h (by decide), fun h => absurd h (by decide), by decide, by decide⟩) | (rw [k_la] at kb; cases kb; exact ⟨fun h => absurd h (by decide), fun _ => ⟨g3, h2⟩, fun h => absurd h (by decide), by decide, by decide⟩) | (rw [k_ya] at kb; cases kb; exact ⟨fun h => absurd h (by decide), fun h => absurd h (by decide), fun _ => ⟨g4, h2⟩, by decide, by decide⟩)) c4 (by omega) g3 g4 qa_ qb_
    have hfy : fyR K457 G457 th s0 (cn 3 + 1) := .inl (hf6_.y rfl)
    show et_go _ _ 1000 460 [some (.ref 150), some (.ref th), some (.ref am), some (.ref out), some (.int (Int32.ofNat i)), x5, x6] [.int (Int32.ofNat 0)] _ (ck + c457) (sk + s457) _
    refine ls_istore (i := 5) (p := 462) (by decide +kernel) (Nat.le_of_ble_eq_true rfl) ?_
    refine ls_aload (i := 2) (p := 463) (by decide +kernel) rfl ?_
    refine ls_arg (j := 1) (by decide +kernel) (by omega) hn ?_
    refine ls_arg (j := 2) (by decide +kernel) (by omega) hn ?_
    refine ls_bool (by decide +kernel) (fun b475 hb475 hbe475 => ?_)
    refine lt_callv (T := et_TT) (t := 13) (mi := 217) (na := 2) (ci := 11) (lk := 7) (lm := 3) (L0 := eg_en (eg_mL 217) [.ref am, .int (f (i + 1)), .int (Int32.ofNat b475)]) (by decide +kernel) rfl hH k_am rfl rfl rfl rfl rfl (by rw [show eg_mL 217 = 3 from by decide +kernel]; first | done | rfl) ?_
    have hHo := hH
    have k_am1 := k_am
    have hrm0 := hrm
    refine ((er_p217_ok (K457, [], G457) [.ref am, .int (f (i + 1)), .int (Int32.ofNat b475)] _ hH (by omega) rfl (ht_ac (.inr ⟨by decide, _, rfl, k_am⟩) (ht_ac hi_any (ht_ac (hi_nv (by omega) (by omega)) ht_an)))).and (fm_card hH k_am hrm.1.1 hrm.2.1.1 (hrm.2.2 (2, 3) (by decide)).1 b3 (by omega))).mono (fun u hu => ls_cbvQ hu (fun v483 K483 G483 c483 s483 x483 f483 hH hv483 cl483 sl483 hQ => ?_))
    obtain ⟨_, _, eu, -, hxf, hQ⟩ := hQ
    cases eu
    have hfy := hfy.fr k_th hrc.1.1 x483 f483 (by decide +kernel)
    have hsy := hsy.fr k_th x483 f483 (by decide +kernel)
    have hzy := hzy.fr k_th hrc.1.1 hrc.1.2.1 x483 f483 (by decide +kernel)
    have hty := hty.fr x483 hHo f483 (by decide +kernel)
    have hry := hry.fr hHo x483 f483 (by decide +kernel)
    have hci := hci.fr x483 f483 (by decide +kernel)
    have h3 := (f483.2 th 12 k_th 3 rfl).trans h3
    have hl := (f483.2 rd 7 k_rd 1 rfl).trans hl
    have hm := (f483.2 am 13 k_am 5 rfl).trans hm
    have hp := (f483.2 th 12 k_th 2 rfl).trans hp
    have hg := (f483.2 am 13 k_am 3 rfl).trans hg
    have htC := htC.fr k_rd x483 f483 (by decide +kernel)
    have htM := htM.fr k_am x483 f483 (by decide +kernel)
    have hrc := hrc.fr k_th x483 f483 (by decide +kernel)
    have ho := (f483.2 out 31 k_out 0 rfl).trans ho
    have k_th := x483 _ _ k_th
    have k_am := x483 _ _ k_am
    have k_out := x483 _ _ k_out
    have k_rd := x483 _ _ k_rd
    have hmf := (mdF.rf.xs (c := cn 3) hHo et_ex.rf hxf (fun b j t kb hs ht => by rcases hs with ⟨ea, e2⟩ | ⟨ea, e2⟩ | ⟨ea, e2⟩ <;> first | exact ⟨ea, by have z2_ : cn (2, 3).2 = cn 3 := rfl; omega⟩ | (rw [ea, k_am1] at kb; cases kb; rcases ht with ht | ht <;> cases ht)))
    rcases hQ with ⟨cx2, ev2, ht, z0⟩ | ⟨cx2, r4, ev2, ht, z0⟩ | ⟨cx2, r4, ev2, ht, z0, za_, zb_⟩
    · exact absurd cx cx2
    · exact absurd c4 (by omega)
    · cases ev2
      have hrm := hrm0.upf k_am1 x483 f483 z0 (by decide +kernel)
      have hbc := rc_upb (k := 3) (v := cn 3 + 1) hbc (by omega)
      have hcy := hcyA.m1 x483 f483 (by decide +kernel) hmf (hi_ne hrm0.1.1 hrm0.1.2 (by decide)) za_ (pl_eq (zb_.trans (by have e9 : b448 = b475 := hbe448.trans hbe475.symm; rcases (show b475 = 0 ∨ b475 = 1 by omega) with h | h <;> rw [e9, h] <;> rfl)) (by have z2_ : cn (2, 3).2 = cn 3 := rfl; omega))
      show et_go _ _ 1000 486 [some (.ref 150), some (.ref th), some (.ref am), some (.ref out), some (.int (Int32.ofNat i)), some (.int (Int32.ofNat 0)), x6] [.int (Int32.ofNat (cn 3))] _ (ck + c457) (sk + s457) _
      refine ls_istore (i := 6) (p := 488) (by decide +kernel) (Nat.le_of_ble_eq_true rfl) ?_
      refine ls_goto (p := 1656) (by decide +kernel) ?_
      exact hN _ _ c h _ _ _ _ _ _ ⟨⟨hH, hci, k_th, k_am, k_out, h3, k_rd, hl, hm, hc⟩, ⟨hh1, hp, hg⟩, hrc, hrm, hbc, hbi, ⟨hry, hcy, hty, hzy, hsy, hfy⟩, _, htC, htM, htb⟩ (by omega) (by omega)
set_option maxHeartbeats 2000000 in
theorem lw_c8 (hI : lw_I K G th am out rd s0 s1 aw ai tp ba na tm c h cn im) (hi : i + 6 ≤ n) (hn : n ≤ 3072) (hN : ∀ (K' : et_K) (G' : eg_G) (c' h' : Nat) (cn' im' : Nat → Nat) (ck' sk' : Nat) (y5 y6 : Option Value), lw_I K' G' th am out rd s0 s1 aw ai tp ba na tm c' h' cn' im' → ck' ≤ ck + 841 → sk' ≤ sk + 7168 → et_go (some (n, f)) (d + 41) 1000 1656 [some (.ref 150), some (.ref th), some (.ref am), some (.ref out), some (.int (Int32.ofNat i)), y5, y6] [] G' ck' sk' Z) : et_go (some (n, f)) (d + 41) 1000 491 [some (.ref 150), some (.ref th), some (.ref am), some (.ref out), some (.int (Int32.ofNat i)), x5, x6] [] G ck sk Z := by
  obtain ⟨⟨hH, hci, k_th, k_am, k_out, h3, k_rd, hl, hm, hc⟩, ⟨hh1, hp, hg⟩, hrc, hrm, hbc, hbi, ⟨hry, hcy, hty, hzy, hsy, hfy⟩, tb, htC, htM, htb⟩ := hI
  refine ls_aload (i := 1) (p := 492) (by decide +kernel) rfl ?_
  refine ls_arg (j := 1) (by decide +kernel) (by omega) hn ?_
  refine ls_arg (j := 2) (by decide +kernel) (by omega) hn ?_
  refine ls_aload (i := 3) (p := 505) (by decide +kernel) rfl ?_
  refine ls_calls (mi := 5) (na := 4) (lk := 7) (lm := 5) (L0 := eg_en (eg_mL 5) [.ref th, .int (f (i + 1)), .int (f (i + 2)), .ref out]) (by decide +kernel) rfl rfl rfl rfl rfl rfl (by rw [show eg_mL 5 = 5 from by decide +kernel]; first | done | rfl) ?_
  have hHo := hH
  obtain ⟨t0, t1, ra0, ca0, rc0, ec0, cc0, ra1, ca1, rc1, ec1, cc1, hC⟩ := id hci
  obtain rfl : s0 = t0 := Value.ref.inj (Option.some.inj (hrc.2.1.1.symm.trans hC.2.1.1))
  obtain rfl : s1 = t1 := Value.ref.inj (Option.some.inj (hrc.2.1.2.symm.trans hC.2.1.2))
  have ee0 : ec0 = cn 4 := xi_inj (by have := hC.2.2.2.1.2.2.2.1.2.1; omega) (by have := hbc 4; omega) (hC.2.2.2.1.2.2.1.2.1.symm.trans (hrc.2.2 (5, 4) (by decide)).1)
  have ee1 : ec1 = im 4 := xi_inj (by have := hC.2.2.2.2.2.2.2.1.2.1; omega) (by have := hbi 4; omega) (hC.2.2.2.2.2.2.1.2.1.symm.trans (hrc.2.2 (5, 4) (by decide)).2)
  have er0 : rc0 = cn 0 := xi_inj (by have := hC.2.2.2.1.2.2.2.1.1; omega) (by have := hbc 0; omega) (hC.2.2.2.1.2.2.1.1.symm.trans (hrc.2.2 (0, 0) (by decide)).1)
  have b0 : cn 0 ≤ 4 := Int.ofNat_le.mp (hf_bd (t := 10) hH hrc.1.1 rfl rfl (hrc.2.2 (0, 0) (by decide)).1 (hbc 0))
  have b3 : cn 3 ≤ 20 := Int.ofNat_le.mp (hf_bd (t := 10) hH hrc.1.1 rfl rfl (hrc.2.2 (2, 3) (by decide)).1 (hbc 3))
  have hH0 := hH
  have k_th0 := k_th
  have k_out0 := k_out
  have k_rd0 := k_rd
  have k_am0 := k_am
  have hrc0 := hrc
  have hrm0 := hrm
  obtain ⟨la, g3, k_la⟩ := hf_ref (t := 10) (f := 3) (u := 17) hH hrc.1.1 rfl rfl (.inr trivial)
  obtain ⟨ya, g4, k_ya⟩ := hf_ref (t := 10) (f := 4) (u := 27) hH hrc.1.1 rfl rfl (.inr trivial)
  have hcy0 := hcy
  have hry0 := hry
  have hru : ∀ i, i < cn 0 → ∃ q, et_pl (eg_at G ra0) i = some (.ref q) := fun i hi => hC.2.2.2.1.2.2.2.2.1 i (by rw [er0]; exact hi)
  obtain ⟨D_, φ_, R0_, R1_, r0_, r1_, fo_, t_, kk_, hx_, ho_⟩ := hry
  have k_fo_ := t_.2.2.2.2
  have hR_ := fun (k : Nat) (hk : k < cn 0) => And.intro (ho_.2.1 k hk).1 (ho_.2.1 k hk).2.1
  have hfy9 := hfy
  refine ((hh_c5 (K, [], G) [.ref th, .int (f (i + 1)), .int (f (i + 2)), .ref out] _ hH (by omega) rfl (ht_ac (.inr ⟨by decide, _, rfl, k_th⟩) (ht_ac hi_any (ht_ac hi_any (ht_ac (.inr ⟨by decide, _, rfl, k_out⟩) ht_an))))).and (((fh_made hH k_th hrc.2.1.1 hrc.1.1 hrc.1.2.1 hrc.1.2.2 (hrc.2.2 (0, 0) (by decide)).1 b0 hC.2.2.2.1.2.1.1 hC.2.2.2.1.1.2.1 hru (hrc.2.2 (2, 3) (by decide)).1 b3 g3 k_la g4 k_ya (hrc.2.2 (2, 3) (by decide)).2 k_out (by omega)).and (fh_madeY (R0 := R0_) t_ hH hx_ hR_ (hrc.2.2 (2, 3) (by decide)).1 b3 g3 k_la g4 k_ya k_out (by omega))).and ((fq_5_6 hH k_th k_out (by omega)).and (fq_5_7 hH k_th k_out (by omega))))).mono (fun u hu => ls_cbvQ (Q := fun u => (xh_Z _ _ _ u ∧ (xf _ _ u.2.1 ∧ mdC _ _ _ _ _ _ _ u.2.1)) ∧ (fgZ G th 6 (Int32.ofNat 0) u ∧ fgZ G th 7 (Int32.ofNat 0) u)) hu (fun v505 K505 G505 c505 s505 x505 f505 hH hv505 cl505 sl505 hQ => ?_))
  obtain ⟨⟨⟨_, _, _, _, _, eu, -, -, hQ, w1⟩, hxf, hmd⟩, hf6_, hf7_⟩ := hQ
  cases eu
  have hry : ry K505 G505 th s0 s1 aw ai (cn 0) (im 0) := ⟨D_, φ_, R0_, R1_, r0_, r1_, fo_, t_.ex x505, kk_.ex x505, hx_.fr t_ hHo f505 (by decide +kernel), ho_.fr kk_ f505 (by decide +kernel)⟩
  have hT_ := fun (k : Nat) (hk : k < cn 0) => ((ho_.fr kk_ f505 (by decide +kernel)).2.1 k hk).2.2
  have hsy := hsy.fr k_th x505 f505 (by decide +kernel)
  have hzy := hzy.fr k_th hrc.1.1 hrc.1.2.1 x505 f505 (by decide +kernel)
  have hty := hty.fr x505 hHo f505 (by decide +kernel)
  have hci := hci.fr x505 f505 (by decide +kernel)
  have h3 := (f505.2 th 12 k_th 3 rfl).trans h3
  have hl := (f505.2 rd 7 k_rd 1 rfl).trans hl
  have hm := (f505.2 am 13 k_am 5 rfl).trans hm
  have hp := (f505.2 th 12 k_th 2 rfl).trans hp
  have hg := (f505.2 am 13 k_am 3 rfl).trans hg
  have htC := htC.fr k_rd x505 f505 (by decide +kernel)
  have htM := htM.fr k_am x505 f505 (by decide +kernel)
  have hrm := hrm.fr k_am x505 f505 (by decide +kernel)
  have k_th := x505 _ _ k_th
  have k_am := x505 _ _ k_am
  have k_out := x505 _ _ k_out
  have k_rd := x505 _ _ k_rd
  rcases hQ with ⟨cx, ev, q0⟩ | ⟨cx, cy, ev, q0⟩ | ⟨cx, cy, c4, ev, q0⟩ | ⟨cx, cy, c4, ev, ho, q0⟩
  · cases ev
    have hrc := hrc0.upf k_th0 x505 f505 q0 w1 (by decide +kernel)
    have hcy := hcy0.c0 hrc0.1.2.2 hHo x505 hxf (fun b j t kb hs => by rcases hs with h | h | h | h | h | h <;> obtain ⟨h1, h2⟩ := h <;> subst h1 <;> first | (rw [k_th0] at kb; cases kb; exact cyS.r _ (by decide)) | (rw [k_out0] at kb; cases kb; exact cyS.r _ (by decide)) | (rw [k_fo_] at kb; cases kb; exact cyS.r _ (by decide)) | (rw [hrc0.1.1] at kb; cases kb; exact ⟨fun _ => ⟨rfl, h2⟩, fun h => absurd h (by decide), fun h => absurd h (by decide), by decide, by decide⟩) | (rw [k_la] at kb; cases kb; exact ⟨fun h => absurd h (by decide), fun _ => ⟨g3, h2⟩, fun h => absurd h (by decide), by decide, by decide⟩) | (rw [k_ya] at kb; cases kb; exact ⟨fun h => absurd h (by decide), fun h => absurd h (by decide), fun _ => ⟨g4, h2⟩, by decide, by decide⟩))
    have hfy : fyR K505 G505 th s0 (cn 3) := hfy9.xs k_th0 hrc0.1.1 hHo x505 hxf (fun b j t kb hs => by rcases hs with h | h | h | h | h | h <;> obtain ⟨h1, h2⟩ := h <;> subst h1 <;> first | (rw [k_th0] at kb; cases kb; exact ⟨by decide, fun h => absurd h (by decide), fun _ => by omega, fun h => absurd h (by decide), fun h => absurd h (by decide)⟩) | (rw [hrc0.1.1] at kb; cases kb; exact ⟨by decide, fun _ => h2, fun h => absurd h (by decide), fun h => absurd h (by decide), fun h => absurd h (by decide)⟩) | (rw [k_la] at kb; cases kb; exact ⟨by decide, fun h => absurd h (by decide), fun h => absurd h (by decide), fun _ => by have z2_ : cn (2, 3).2 = cn 3 := rfl; omega, fun h => absurd h (by decide)⟩) | (rw [k_ya] at kb; cases kb; exact ⟨by decide, fun h => absurd h (by decide), fun h => absurd h (by decide), fun h => absurd h (by decide), fun _ => by have z2_ : cn (2, 3).2 = cn 3 := rfl; omega⟩) | (rw [k_out0] at kb; cases kb; exact ⟨by decide, fun h => absurd h (by decide), fun h => absurd h (by decide), fun h => absurd h (by decide), fun h => absurd h (by decide)⟩) | (rw [k_fo_] at kb; cases kb; exact ⟨by decide, fun h => absurd h (by decide), fun h => absurd h (by decide), fun h => absurd h (by decide), fun h => absurd h (by decide)⟩)) (fun j hj => by rcases hj with rfl | rfl; exact hf6_.n (fun q => absurd (Value.int.inj (Option.some.inj (Sum.inl.inj q))) (by decide)); exact hf7_.n (fun q => absurd (Value.int.inj (Option.some.inj (Sum.inl.inj q))) (by decide)))
    show et_go _ _ 1000 508 [some (.ref 150), some (.ref th), some (.ref am), some (.ref out), some (.int (Int32.ofNat i)), x5, x6] [.int (Int32.ofNat 1)] _ (ck + c505) (sk + s505) _
    refine ls_istore (i := 5) (p := 510) (by decide +kernel) (Nat.le_of_ble_eq_true rfl) ?_
    refine ls_aload (i := 2) (p := 511) (by decide +kernel) rfl ?_
    refine ls_arg (j := 1) (by decide +kernel) (by omega) hn ?_
    refine ls_arg (j := 2) (by decide +kernel) (by omega) hn ?_
    refine lt_callv (T := et_TT) (t := 13) (mi := 220) (na := 2) (ci := 11) (lk := 7) (lm := 3) (L0 := eg_en (eg_mL 220) [.ref am, .int (f (i + 1)), .int (f (i + 2))]) (by decide +kernel) rfl hH k_am rfl rfl rfl rfl rfl (by rw [show eg_mL 220 = 3 from by decide +kernel]; first | done | rfl) ?_
    have hHo := hH
    have k_am1 := k_am
    have hrm0 := hrm
    refine ((er_p220_ok (K505, [], G505) [.ref am, .int (f (i + 1)), .int (f (i + 2))] _ hH (by omega) rfl (ht_ac (.inr ⟨by decide, _, rfl, k_am⟩) (ht_ac hi_any (ht_ac hi_any ht_an)))).and ((fm_made hH k_am hrm.1.1 hrm.2.1.1 (hrm.2.2 (2, 3) (by decide)).1 b3 (hrm.2.2 (0, 0) (by decide)).1 b0 (by omega)).and (fm_madeY (g := fun n => φ_ (R0_ n)) hH k_am hrm.1.1 hrm.2.1.1 (hrm.2.2 (2, 3) (by decide)).1 b3 (hrm.2.2 (0, 0) (by decide)).1 b0 hT_ (by omega)))).mono (fun u hu => ls_cbvQ (Q := fun u => mdZ _ _ _ _ _ _ u ∧ (mdF _ _ _ _ u.2.1 ∧ mdM _ _ _ _ _ _ u.2.1)) hu (fun v523 K523 G523 c523 s523 x523 f523 hH hv523 cl523 sl523 hQ => ?_))
    obtain ⟨⟨w_, eu, hQ⟩, hmf, hmd2⟩ := hQ
    cases eu
    have hfy := hfy.fr k_th hrc.1.1 x523 f523 (by decide +kernel)
    have hsy := hsy.fr k_th x523 f523 (by decide +kernel)
    have hzy := hzy.fr k_th hrc.1.1 hrc.1.2.1 x523 f523 (by decide +kernel)
    have hty := hty.fr x523 hHo f523 (by decide +kernel)
    have hry := hry.fr hHo x523 f523 (by decide +kernel)
    have hci := hci.fr x523 f523 (by decide +kernel)
    have h3 := (f523.2 th 12 k_th 3 rfl).trans h3
    have hl := (f523.2 rd 7 k_rd 1 rfl).trans hl
    have hm := (f523.2 am 13 k_am 5 rfl).trans hm
    have hp := (f523.2 th 12 k_th 2 rfl).trans hp
    have hg := (f523.2 am 13 k_am 3 rfl).trans hg
    have htC := htC.fr k_rd x523 f523 (by decide +kernel)
    have htM := htM.fr k_am x523 f523 (by decide +kernel)
    have hrc := hrc.fr k_th x523 f523 (by decide +kernel)
    have k_th := x523 _ _ k_th
    have k_am := x523 _ _ k_am
    have k_out := x523 _ _ k_out
    have k_rd := x523 _ _ k_rd
    rcases hQ with ⟨cx2, ht, z0⟩ | ⟨cx2, cy2, ht, z0⟩ | ⟨cx2, cy2, r4, ht, z0⟩ | ⟨cx2, cy2, r4, ev2, ht, z0⟩
    · have hrm := hrm0.upf k_am1 x523 f523 z0 (by decide +kernel)
      have hbc := rc_upb (k := 3) (v := cn 3) hbc (by omega)
      have hcy := hcy.m0 x523 f523 (by decide +kernel) hmf (hi_ne hrm0.1.1 hrm0.1.2 (by decide))
      show et_go _ _ 1000 526 [some (.ref 150), some (.ref th), some (.ref am), some (.ref out), some (.int (Int32.ofNat i)), some (.int (Int32.ofNat 1)), x6] [.int w_] _ ((ck + c505) + c523) ((sk + s505) + s523) _
      refine ls_istore (i := 6) (p := 528) (by decide +kernel) (Nat.le_of_ble_eq_true rfl) ?_
      refine ls_goto (p := 1656) (by decide +kernel) ?_
      exact hN _ _ c h _ _ _ _ _ _ ⟨⟨hH, hci, k_th, k_am, k_out, h3, k_rd, hl, hm, hc⟩, ⟨hh1, hp, hg⟩, hrc, hrm, hbc, hbi, ⟨hry, hcy, hty, hzy, hsy, hfy⟩, _, htC, htM, htb⟩ (by omega) (by omega)
    · exact absurd cx2 cx
    · exact absurd cx2 cx
    · exact absurd cx2 cx
  · cases ev
    have hrc := hrc0.upf k_th0 x505 f505 q0 w1 (by decide +kernel)
    have hcy := hcy0.c0 hrc0.1.2.2 hHo x505 hxf (fun b j t kb hs => by rcases hs with h | h | h | h | h | h <;> obtain ⟨h1, h2⟩ := h <;> subst h1 <;> first | (rw [k_th0] at kb; cases kb; exact cyS.r _ (by decide)) | (rw [k_out0] at kb; cases kb; exact cyS.r _ (by decide)) | (rw [k_fo_] at kb; cases kb; exact cyS.r _ (by decide)) | (rw [hrc0.1.1] at kb; cases kb; exact ⟨fun _ => ⟨rfl, h2⟩, fun h => absurd h (by decide), fun h => absurd h (by decide), by decide, by decide⟩) | (rw [k_la] at kb; cases kb; exact ⟨fun h => absurd h (by decide), fun _ => ⟨g3, h2⟩, fun h => absurd h (by decide), by decide, by decide⟩) | (rw [k_ya] at kb; cases kb; exact ⟨fun h => absurd h (by decide), fun h => absurd h (by decide), fun _ => ⟨g4, h2⟩, by decide, by decide⟩))
    have hfy : fyR K505 G505 th s0 (cn 3) := hfy9.xs k_th0 hrc0.1.1 hHo x505 hxf (fun b j t kb hs => by rcases hs with h | h | h | h | h | h <;> obtain ⟨h1, h2⟩ := h <;> subst h1 <;> first | (rw [k_th0] at kb; cases kb; exact ⟨by decide, fun h => absurd h (by decide), fun _ => by omega, fun h => absurd h (by decide), fun h => absurd h (by decide)⟩) | (rw [hrc0.1.1] at kb; cases kb; exact ⟨by decide, fun _ => h2, fun h => absurd h (by decide), fun h => absurd h (by decide), fun h => absurd h (by decide)⟩) | (rw [k_la] at kb; cases kb; exact ⟨by decide, fun h => absurd h (by decide), fun h => absurd h (by decide), fun _ => by have z2_ : cn (2, 3).2 = cn 3 := rfl; omega, fun h => absurd h (by decide)⟩) | (rw [k_ya] at kb; cases kb; exact ⟨by decide, fun h => absurd h (by decide), fun h => absurd h (by decide), fun h => absurd h (by decide), fun _ => by have z2_ : cn (2, 3).2 = cn 3 := rfl; omega⟩) | (rw [k_out0] at kb; cases kb; exact ⟨by decide, fun h => absurd h (by decide), fun h => absurd h (by decide), fun h => absurd h (by decide), fun h => absurd h (by decide)⟩) | (rw [k_fo_] at kb; cases kb; exact ⟨by decide, fun h => absurd h (by decide), fun h => absurd h (by decide), fun h => absurd h (by decide), fun h => absurd h (by decide)⟩)) (fun j hj => by rcases hj with rfl | rfl; exact hf6_.n (fun q => absurd (Value.int.inj (Option.some.inj (Sum.inl.inj q))) (by decide)); exact hf7_.n (fun q => absurd (Value.int.inj (Option.some.inj (Sum.inl.inj q))) (by decide)))
    show et_go _ _ 1000 508 [some (.ref 150), some (.ref th), some (.ref am), some (.ref out), some (.int (Int32.ofNat i)), x5, x6] [.int (Int32.ofNat 2)] _ (ck + c505) (sk + s505) _
    refine ls_istore (i := 5) (p := 510) (by decide +kernel) (Nat.le_of_ble_eq_true rfl) ?_
    refine ls_aload (i := 2) (p := 511) (by decide +kernel) rfl ?_
    refine ls_arg (j := 1) (by decide +kernel) (by omega) hn ?_
    refine ls_arg (j := 2) (by decide +kernel) (by omega) hn ?_
    refine lt_callv (T := et_TT) (t := 13) (mi := 220) (na := 2) (ci := 11) (lk := 7) (lm := 3) (L0 := eg_en (eg_mL 220) [.ref am, .int (f (i + 1)), .int (f (i + 2))]) (by decide +kernel) rfl hH k_am rfl rfl rfl rfl rfl (by rw [show eg_mL 220 = 3 from by decide +kernel]; first | done | rfl) ?_
    have hHo := hH
    have k_am1 := k_am
    have hrm0 := hrm
    refine ((er_p220_ok (K505, [], G505) [.ref am, .int (f (i + 1)), .int (f (i + 2))] _ hH (by omega) rfl (ht_ac (.inr ⟨by decide, _, rfl, k_am⟩) (ht_ac hi_any (ht_ac hi_any ht_an)))).and ((fm_made hH k_am hrm.1.1 hrm.2.1.1 (hrm.2.2 (2, 3) (by decide)).1 b3 (hrm.2.2 (0, 0) (by decide)).1 b0 (by omega)).and (fm_madeY (g := fun n => φ_ (R0_ n)) hH k_am hrm.1.1 hrm.2.1.1 (hrm.2.2 (2, 3) (by decide)).1 b3 (hrm.2.2 (0, 0) (by decide)).1 b0 hT_ (by omega)))).mono (fun u hu => ls_cbvQ (Q := fun u => mdZ _ _ _ _ _ _ u ∧ (mdF _ _ _ _ u.2.1 ∧ mdM _ _ _ _ _ _ u.2.1)) hu (fun v523 K523 G523 c523 s523 x523 f523 hH hv523 cl523 sl523 hQ => ?_))
    obtain ⟨⟨w_, eu, hQ⟩, hmf, hmd2⟩ := hQ
    cases eu
    have hfy := hfy.fr k_th hrc.1.1 x523 f523 (by decide +kernel)
    have hsy := hsy.fr k_th x523 f523 (by decide +kernel)
    have hzy := hzy.fr k_th hrc.1.1 hrc.1.2.1 x523 f523 (by decide +kernel)
    have hty := hty.fr x523 hHo f523 (by decide +kernel)
    have hry := hry.fr hHo x523 f523 (by decide +kernel)
    have hci := hci.fr x523 f523 (by decide +kernel)
    have h3 := (f523.2 th 12 k_th 3 rfl).trans h3
    have hl := (f523.2 rd 7 k_rd 1 rfl).trans hl
    have hm := (f523.2 am 13 k_am 5 rfl).trans hm
    have hp := (f523.2 th 12 k_th 2 rfl).trans hp
    have hg := (f523.2 am 13 k_am 3 rfl).trans hg
    have htC := htC.fr k_rd x523 f523 (by decide +kernel)
    have htM := htM.fr k_am x523 f523 (by decide +kernel)
    have hrc := hrc.fr k_th x523 f523 (by decide +kernel)
    have k_th := x523 _ _ k_th
    have k_am := x523 _ _ k_am
    have k_out := x523 _ _ k_out
    have k_rd := x523 _ _ k_rd
    rcases hQ with ⟨cx2, ht, z0⟩ | ⟨cx2, cy2, ht, z0⟩ | ⟨cx2, cy2, r4, ht, z0⟩ | ⟨cx2, cy2, r4, ev2, ht, z0⟩
    · exact absurd cx cx2
    · have hrm := hrm0.upf k_am1 x523 f523 z0 (by decide +kernel)
      have hbc := rc_upb (k := 3) (v := cn 3) hbc (by omega)
      have hcy := hcy.m0 x523 f523 (by decide +kernel) hmf (hi_ne hrm0.1.1 hrm0.1.2 (by decide))
      show et_go _ _ 1000 526 [some (.ref 150), some (.ref th), some (.ref am), some (.ref out), some (.int (Int32.ofNat i)), some (.int (Int32.ofNat 2)), x6] [.int w_] _ ((ck + c505) + c523) ((sk + s505) + s523) _
      refine ls_istore (i := 6) (p := 528) (by decide +kernel) (Nat.le_of_ble_eq_true rfl) ?_
      refine ls_goto (p := 1656) (by decide +kernel) ?_
      exact hN _ _ c h _ _ _ _ _ _ ⟨⟨hH, hci, k_th, k_am, k_out, h3, k_rd, hl, hm, hc⟩, ⟨hh1, hp, hg⟩, hrc, hrm, hbc, hbi, ⟨hry, hcy, hty, hzy, hsy, hfy⟩, _, htC, htM, htb⟩ (by omega) (by omega)
    · exact absurd cy2 cy
    · exact absurd cy2 cy
  · cases ev
    have hrc := hrc0.upf k_th0 x505 f505 q0 w1 (by decide +kernel)
    have hcy := hcy0.c0 hrc0.1.2.2 hHo x505 hxf (fun b j t kb hs => by rcases hs with h | h | h | h | h | h <;> obtain ⟨h1, h2⟩ := h <;> subst h1 <;> first | (rw [k_th0] at kb; cases kb; exact cyS.r _ (by decide)) | (rw [k_out0] at kb; cases kb; exact cyS.r _ (by decide)) | (rw [k_fo_] at kb; cases kb; exact cyS.r _ (by decide)) | (rw [hrc0.1.1] at kb; cases kb; exact ⟨fun _ => ⟨rfl, h2⟩, fun h => absurd h (by decide), fun h => absurd h (by decide), by decide, by decide⟩) | (rw [k_la] at kb; cases kb; exact ⟨fun h => absurd h (by decide), fun _ => ⟨g3, h2⟩, fun h => absurd h (by decide), by decide, by decide⟩) | (rw [k_ya] at kb; cases kb; exact ⟨fun h => absurd h (by decide), fun h => absurd h (by decide), fun _ => ⟨g4, h2⟩, by decide, by decide⟩))
    have hfy : fyR K505 G505 th s0 (cn 3) := hfy9.xs k_th0 hrc0.1.1 hHo x505 hxf (fun b j t kb hs => by rcases hs with h | h | h | h | h | h <;> obtain ⟨h1, h2⟩ := h <;> subst h1 <;> first | (rw [k_th0] at kb; cases kb; exact ⟨by decide, fun h => absurd h (by decide), fun _ => by omega, fun h => absurd h (by decide), fun h => absurd h (by decide)⟩) | (rw [hrc0.1.1] at kb; cases kb; exact ⟨by decide, fun _ => h2, fun h => absurd h (by decide), fun h => absurd h (by decide), fun h => absurd h (by decide)⟩) | (rw [k_la] at kb; cases kb; exact ⟨by decide, fun h => absurd h (by decide), fun h => absurd h (by decide), fun _ => by have z2_ : cn (2, 3).2 = cn 3 := rfl; omega, fun h => absurd h (by decide)⟩) | (rw [k_ya] at kb; cases kb; exact ⟨by decide, fun h => absurd h (by decide), fun h => absurd h (by decide), fun h => absurd h (by decide), fun _ => by have z2_ : cn (2, 3).2 = cn 3 := rfl; omega⟩) | (rw [k_out0] at kb; cases kb; exact ⟨by decide, fun h => absurd h (by decide), fun h => absurd h (by decide), fun h => absurd h (by decide), fun h => absurd h (by decide)⟩) | (rw [k_fo_] at kb; cases kb; exact ⟨by decide, fun h => absurd h (by decide), fun h => absurd h (by decide), fun h => absurd h (by decide), fun h => absurd h (by decide)⟩)) (fun j hj => by rcases hj with rfl | rfl; exact hf6_.n (fun q => absurd (Value.int.inj (Option.some.inj (Sum.inl.inj q))) (by decide)); exact hf7_.n (fun q => absurd (Value.int.inj (Option.some.inj (Sum.inl.inj q))) (by decide)))
    show et_go _ _ 1000 508 [some (.ref 150), some (.ref th), some (.ref am), some (.ref out), some (.int (Int32.ofNat i)), x5, x6] [.int (Int32.ofNat 3)] _ (ck + c505) (sk + s505) _
    refine ls_istore (i := 5) (p := 510) (by decide +kernel) (Nat.le_of_ble_eq_true rfl) ?_
    refine ls_aload (i := 2) (p := 511) (by decide +kernel) rfl ?_
    refine ls_arg (j := 1) (by decide +kernel) (by omega) hn ?_
    refine ls_arg (j := 2) (by decide +kernel) (by omega) hn ?_
    refine lt_callv (T := et_TT) (t := 13) (mi := 220) (na := 2) (ci := 11) (lk := 7) (lm := 3) (L0 := eg_en (eg_mL 220) [.ref am, .int (f (i + 1)), .int (f (i + 2))]) (by decide +kernel) rfl hH k_am rfl rfl rfl rfl rfl (by rw [show eg_mL 220 = 3 from by decide +kernel]; first | done | rfl) ?_
    have hHo := hH
    have k_am1 := k_am
    have hrm0 := hrm
    refine ((er_p220_ok (K505, [], G505) [.ref am, .int (f (i + 1)), .int (f (i + 2))] _ hH (by omega) rfl (ht_ac (.inr ⟨by decide, _, rfl, k_am⟩) (ht_ac hi_any (ht_ac hi_any ht_an)))).and ((fm_made hH k_am hrm.1.1 hrm.2.1.1 (hrm.2.2 (2, 3) (by decide)).1 b3 (hrm.2.2 (0, 0) (by decide)).1 b0 (by omega)).and (fm_madeY (g := fun n => φ_ (R0_ n)) hH k_am hrm.1.1 hrm.2.1.1 (hrm.2.2 (2, 3) (by decide)).1 b3 (hrm.2.2 (0, 0) (by decide)).1 b0 hT_ (by omega)))).mono (fun u hu => ls_cbvQ (Q := fun u => mdZ _ _ _ _ _ _ u ∧ (mdF _ _ _ _ u.2.1 ∧ mdM _ _ _ _ _ _ u.2.1)) hu (fun v523 K523 G523 c523 s523 x523 f523 hH hv523 cl523 sl523 hQ => ?_))
    obtain ⟨⟨w_, eu, hQ⟩, hmf, hmd2⟩ := hQ
    cases eu
    have hfy := hfy.fr k_th hrc.1.1 x523 f523 (by decide +kernel)
    have hsy := hsy.fr k_th x523 f523 (by decide +kernel)
    have hzy := hzy.fr k_th hrc.1.1 hrc.1.2.1 x523 f523 (by decide +kernel)
    have hty := hty.fr x523 hHo f523 (by decide +kernel)
    have hry := hry.fr hHo x523 f523 (by decide +kernel)
    have hci := hci.fr x523 f523 (by decide +kernel)
    have h3 := (f523.2 th 12 k_th 3 rfl).trans h3
    have hl := (f523.2 rd 7 k_rd 1 rfl).trans hl
    have hm := (f523.2 am 13 k_am 5 rfl).trans hm
    have hp := (f523.2 th 12 k_th 2 rfl).trans hp
    have hg := (f523.2 am 13 k_am 3 rfl).trans hg
    have htC := htC.fr k_rd x523 f523 (by decide +kernel)
    have htM := htM.fr k_am x523 f523 (by decide +kernel)
    have hrc := hrc.fr k_th x523 f523 (by decide +kernel)
    have k_th := x523 _ _ k_th
    have k_am := x523 _ _ k_am
    have k_out := x523 _ _ k_out
    have k_rd := x523 _ _ k_rd
    rcases hQ with ⟨cx2, ht, z0⟩ | ⟨cx2, cy2, ht, z0⟩ | ⟨cx2, cy2, r4, ht, z0⟩ | ⟨cx2, cy2, r4, ev2, ht, z0⟩
    · exact absurd cx cx2
    · exact absurd cy cy2
    · have hrm := hrm0.upf k_am1 x523 f523 z0 (by decide +kernel)
      have hbc := rc_upb (k := 3) (v := cn 3) hbc (by omega)
      have hcy := hcy.m0 x523 f523 (by decide +kernel) hmf (hi_ne hrm0.1.1 hrm0.1.2 (by decide))
      show et_go _ _ 1000 526 [some (.ref 150), some (.ref th), some (.ref am), some (.ref out), some (.int (Int32.ofNat i)), some (.int (Int32.ofNat 3)), x6] [.int w_] _ ((ck + c505) + c523) ((sk + s505) + s523) _
      refine ls_istore (i := 6) (p := 528) (by decide +kernel) (Nat.le_of_ble_eq_true rfl) ?_
      refine ls_goto (p := 1656) (by decide +kernel) ?_
      exact hN _ _ c h _ _ _ _ _ _ ⟨⟨hH, hci, k_th, k_am, k_out, h3, k_rd, hl, hm, hc⟩, ⟨hh1, hp, hg⟩, hrc, hrm, hbc, hbi, ⟨hry, hcy, hty, hzy, hsy, hfy⟩, _, htC, htM, htb⟩ (by omega) (by omega)
    · exact absurd c4 (by omega)
  · cases ev
    have hrc := hrc0.upf k_th0 x505 f505 q0 w1 (by decide +kernel)
    obtain ⟨n0, hn0, cn0⟩ : ∃ n0, n0 < cn 0 ∧ (f (i + 2)) = Int32.ofNat n0 := ⟨((f (i + 2))).toInt.toNat, by have z0_ : cn (0, 0).2 = cn 0 := rfl; have := cx.1; have := cx.2; omega, hi_of (by have := cx.1; omega) (by have z0_ : cn (0, 0).2 = cn 0 := rfl; have := cx.1; have := cx.2; omega)⟩
    have hmd := hmd n0 cn0 hn0 cy c4
    have hcyA := hcy0.c1 (x := (f (i + 1))) (y := if φ_ (R0_ n0) (feE (fun _ => (f (i + 1)))) = true then 1 else 0) hrc0.1.2.2 hHo x505 hxf (fun b j t kb hs => by rcases hs with h | h | h | h | h | h <;> obtain ⟨h1, h2⟩ := h <;> subst h1 <;> first | (rw [k_th0] at kb; cases kb; exact cyS.r _ (by decide)) | (rw [k_out0] at kb; cases kb; exact cyS.r _ (by decide)) | (rw [k_fo_] at kb; cases kb; exact cyS.r _ (by decide)) | (rw [hrc0.1.1] at kb; cases kb; exact ⟨fun _ => ⟨rfl, h2⟩, fun h => absurd h (by decide), fun h => absurd h (by decide), by decide, by decide⟩) | (rw [k_la] at kb; cases kb; exact ⟨fun h => absurd h (by decide), fun _ => ⟨g3, h2⟩, fun h => absurd h (by decide), by decide, by decide⟩) | (rw [k_ya] at kb; cases kb; exact ⟨fun h => absurd h (by decide), fun h => absurd h (by decide), fun _ => ⟨g4, h2⟩, by decide, by decide⟩)) c4 (by split <;> decide) g3 g4 hmd.1 hmd.2
    have hfy : fyR K505 G505 th s0 (cn 3 + 1) := .inl (hf6_.y rfl)
    show et_go _ _ 1000 508 [some (.ref 150), some (.ref th), some (.ref am), some (.ref out), some (.int (Int32.ofNat i)), x5, x6] [.int (Int32.ofNat 0)] _ (ck + c505) (sk + s505) _
    refine ls_istore (i := 5) (p := 510) (by decide +kernel) (Nat.le_of_ble_eq_true rfl) ?_
    refine ls_aload (i := 2) (p := 511) (by decide +kernel) rfl ?_
    refine ls_arg (j := 1) (by decide +kernel) (by omega) hn ?_
    refine ls_arg (j := 2) (by decide +kernel) (by omega) hn ?_
    refine lt_callv (T := et_TT) (t := 13) (mi := 220) (na := 2) (ci := 11) (lk := 7) (lm := 3) (L0 := eg_en (eg_mL 220) [.ref am, .int (f (i + 1)), .int (f (i + 2))]) (by decide +kernel) rfl hH k_am rfl rfl rfl rfl rfl (by rw [show eg_mL 220 = 3 from by decide +kernel]; first | done | rfl) ?_
    have hHo := hH
    have k_am1 := k_am
    have hrm0 := hrm
    refine ((er_p220_ok (K505, [], G505) [.ref am, .int (f (i + 1)), .int (f (i + 2))] _ hH (by omega) rfl (ht_ac (.inr ⟨by decide, _, rfl, k_am⟩) (ht_ac hi_any (ht_ac hi_any ht_an)))).and ((fm_made hH k_am hrm.1.1 hrm.2.1.1 (hrm.2.2 (2, 3) (by decide)).1 b3 (hrm.2.2 (0, 0) (by decide)).1 b0 (by omega)).and (fm_madeY (g := fun n => φ_ (R0_ n)) hH k_am hrm.1.1 hrm.2.1.1 (hrm.2.2 (2, 3) (by decide)).1 b3 (hrm.2.2 (0, 0) (by decide)).1 b0 hT_ (by omega)))).mono (fun u hu => ls_cbvQ (Q := fun u => mdZ _ _ _ _ _ _ u ∧ (mdF _ _ _ _ u.2.1 ∧ mdM _ _ _ _ _ _ u.2.1)) hu (fun v523 K523 G523 c523 s523 x523 f523 hH hv523 cl523 sl523 hQ => ?_))
    obtain ⟨⟨w_, eu, hQ⟩, hmf, hmd2⟩ := hQ
    cases eu
    have hfy := hfy.fr k_th hrc.1.1 x523 f523 (by decide +kernel)
    have hsy := hsy.fr k_th x523 f523 (by decide +kernel)
    have hzy := hzy.fr k_th hrc.1.1 hrc.1.2.1 x523 f523 (by decide +kernel)
    have hty := hty.fr x523 hHo f523 (by decide +kernel)
    have hry := hry.fr hHo x523 f523 (by decide +kernel)
    have hci := hci.fr x523 f523 (by decide +kernel)
    have h3 := (f523.2 th 12 k_th 3 rfl).trans h3
    have hl := (f523.2 rd 7 k_rd 1 rfl).trans hl
    have hm := (f523.2 am 13 k_am 5 rfl).trans hm
    have hp := (f523.2 th 12 k_th 2 rfl).trans hp
    have hg := (f523.2 am 13 k_am 3 rfl).trans hg
    have htC := htC.fr k_rd x523 f523 (by decide +kernel)
    have htM := htM.fr k_am x523 f523 (by decide +kernel)
    have hrc := hrc.fr k_th x523 f523 (by decide +kernel)
    have ho := (f523.2 out 31 k_out 0 rfl).trans ho
    have k_th := x523 _ _ k_th
    have k_am := x523 _ _ k_am
    have k_out := x523 _ _ k_out
    have k_rd := x523 _ _ k_rd
    rcases hQ with ⟨cx2, ht, z0⟩ | ⟨cx2, cy2, ht, z0⟩ | ⟨cx2, cy2, r4, ht, z0⟩ | ⟨cx2, cy2, r4, ev2, ht, z0⟩
    · exact absurd cx cx2
    · exact absurd cy cy2
    · exact absurd c4 (by omega)
    · cases ev2
      have hrm := hrm0.upf k_am1 x523 f523 z0 (by decide +kernel)
      have hbc := rc_upb (k := 3) (v := cn 3 + 1) hbc (by omega)
      have hmd2 := hmd2 n0 cn0 hn0 cy c4
      have hcy := hcyA.m1 x523 f523 (by decide +kernel) hmf (hi_ne hrm0.1.1 hrm0.1.2 (by decide)) hmd2.1 hmd2.2
      show et_go _ _ 1000 526 [some (.ref 150), some (.ref th), some (.ref am), some (.ref out), some (.int (Int32.ofNat i)), some (.int (Int32.ofNat 0)), x6] [.int (Int32.ofNat (cn 3))] _ ((ck + c505) + c523) ((sk + s505) + s523) _
      refine ls_istore (i := 6) (p := 528) (by decide +kernel) (Nat.le_of_ble_eq_true rfl) ?_
      refine ls_goto (p := 1656) (by decide +kernel) ?_
      exact hN _ _ c h _ _ _ _ _ _ ⟨⟨hH, hci, k_th, k_am, k_out, h3, k_rd, hl, hm, hc⟩, ⟨hh1, hp, hg⟩, hrc, hrm, hbc, hbi, ⟨hry, hcy, hty, hzy, hsy, hfy⟩, _, htC, htM, htb⟩ (by omega) (by omega)
set_option maxHeartbeats 2000000 in
theorem lw_c9 (hI : lw_I K G th am out rd s0 s1 aw ai tp ba na tm c h cn im) (hi : i + 6 ≤ n) (hn : n ≤ 3072) (hN : ∀ (K' : et_K) (G' : eg_G) (c' h' : Nat) (cn' im' : Nat → Nat) (ck' sk' : Nat) (y5 y6 : Option Value), lw_I K' G' th am out rd s0 s1 aw ai tp ba na tm c' h' cn' im' → ck' ≤ ck + 841 → sk' ≤ sk + 7168 → et_go (some (n, f)) (d + 41) 1000 1656 [some (.ref 150), some (.ref th), some (.ref am), some (.ref out), some (.int (Int32.ofNat i)), y5, y6] [] G' ck' sk' Z) : et_go (some (n, f)) (d + 41) 1000 531 [some (.ref 150), some (.ref th), some (.ref am), some (.ref out), some (.int (Int32.ofNat i)), x5, x6] [] G ck sk Z := by
  obtain ⟨⟨hH, hci, k_th, k_am, k_out, h3, k_rd, hl, hm, hc⟩, ⟨hh1, hp, hg⟩, hrc, hrm, hbc, hbi, ⟨hry, hcy, hty, hzy, hsy, hfy⟩, tb, htC, htM, htb⟩ := hI
  refine ls_aload (i := 1) (p := 532) (by decide +kernel) rfl ?_
  refine lt_callv (T := et_TT) (t := 12) (mi := 119) (na := 0) (ci := 10) (lk := 7) (lm := 1) (L0 := eg_en (eg_mL 119) [.ref th]) (by decide +kernel) rfl hH k_th rfl rfl rfl rfl rfl (by rw [show eg_mL 119 = 1 from by decide +kernel]; first | done | rfl) ?_
  have hHo := hH
  have hfy9 := hfy
  have b3 : cn 3 ≤ 20 := Int.ofNat_le.mp (hf_bd (t := 10) hH hrc.1.1 rfl rfl (hrc.2.2 (2, 3) (by decide)).1 (hbc 3))
  have hH0 := hH
  have k_th0 := k_th
  have k_out0 := k_out
  have k_rd0 := k_rd
  have k_am0 := k_am
  have hrc0 := hrc
  have hrm0 := hrm
  refine ((ek_p119_ok (K, [], G) [.ref th] _ hH (by omega) rfl (ht_ac (.inr ⟨by decide, _, rfl, k_th⟩) ht_an)).and ((fc_away hH k_th hrc.2.1.1 hrc.1.1 (hrc.2.2 (2, 3) (by decide)).1 b3).and (fq_aw hH k_th hrc.2.1.1 hrc.1.1 (hrc.2.2 (2, 3) (by decide)).1 b3 (by omega)))).mono (fun u hu => ls_cbvQ (Q := fun u => xw_Z _ _ _ _ u ∧ ((cn 3 = 0 → u.2.1 = G) ∧ (¬ cn 3 = 0 → et_pl (eg_at u.2.1 th) 6 = some (.int (-1))))) hu (fun v532 K532 G532 c532 s532 x532 f532 hH hv532 cl532 sl532 hQ => ?_))
  obtain ⟨⟨_, _, eu, -, hxf, hQ⟩, hfa_⟩ := hQ
  cases eu
  have hsy := hsy.fr k_th x532 f532 (by decide +kernel)
  have hzy := hzy.fr k_th hrc.1.1 hrc.1.2.1 x532 f532 (by decide +kernel)
  have hty := hty.fr x532 hHo f532 (by decide +kernel)
  have hcy := hcy.fr x532 f532 (by decide +kernel)
  have hry := hry.fr hHo x532 f532 (by decide +kernel)
  have hci := hci.fr x532 f532 (by decide +kernel)
  have h3 := (f532.2 th 12 k_th 3 rfl).trans h3
  have hl := (f532.2 rd 7 k_rd 1 rfl).trans hl
  have hm := (f532.2 am 13 k_am 5 rfl).trans hm
  have hp := (f532.2 th 12 k_th 2 rfl).trans hp
  have hg := (f532.2 am 13 k_am 3 rfl).trans hg
  have htC := htC.fr k_rd x532 f532 (by decide +kernel)
  have htM := htM.fr k_am x532 f532 (by decide +kernel)
  have hrm := hrm.fr k_am x532 f532 (by decide +kernel)
  have k_th := x532 _ _ k_th
  have k_am := x532 _ _ k_am
  have k_out := x532 _ _ k_out
  have k_rd := x532 _ _ k_rd
  have k_z := hrc0.1.2.1
  have w1 : et_pl (eg_at G532 s1) 2 = some (.int (Int32.ofNat (im 3))) := (hxf.2 s1 2 (hH0.2.2 _ _ hrc0.1.2.1).1 (fun h => by rcases h with h | h <;> first | exact hrc0.1.2.2 h.1.symm | (have h := h.1; rw [h] at k_z; first | (rw [k_th0] at k_z; cases k_z)))).trans (hrc0.2.2 (2, 3) (by decide)).2
  rcases hQ with ⟨c4, ev, q0⟩ | ⟨c4, ev, q0⟩
  · cases ev
    have hrc := hrc0.upf k_th0 x532 f532 q0 w1 (by decide +kernel)
    have hfy : fyR K532 G532 th s0 (cn 3) := by rw [show G532 = G from hfa_.1 c4]; exact hfy9.ex x532
    show et_go _ _ 1000 535 [some (.ref 150), some (.ref th), some (.ref am), some (.ref out), some (.int (Int32.ofNat i)), x5, x6] [.int (-1)] _ ck sk _
    refine ls_pop (p := 536) (by decide +kernel) ?_
    refine ls_aload (i := 2) (p := 537) (by decide +kernel) rfl ?_
    refine lt_callv (T := et_TT) (t := 13) (mi := 221) (na := 0) (ci := 11) (lk := 7) (lm := 1) (L0 := eg_en (eg_mL 221) [.ref am]) (by decide +kernel) rfl hH k_am rfl rfl rfl rfl rfl (by rw [show eg_mL 221 = 1 from by decide +kernel]; first | done | rfl) ?_
    have hHo := hH
    have k_am1 := k_am
    have hrm0 := hrm
    refine ((er_p221_ok (K532, [], G532) [.ref am] _ hH (by omega) rfl (ht_ac (.inr ⟨by decide, _, rfl, k_am⟩) ht_an)).and (fm_away hH k_am hrm.1.1 hrm.2.1.1 (hrm.2.2 (2, 3) (by decide)).1 b3)).mono (fun u hu => ls_cbvQ hu (fun v537 K537 G537 c537 s537 x537 f537 hH hv537 cl537 sl537 hQ => ?_))
    obtain ⟨_, _, eu, -, hxf, ht, hQ⟩ := hQ
    cases eu
    have hfy := hfy.fr k_th hrc.1.1 x537 f537 (by decide +kernel)
    have hsy := hsy.fr k_th x537 f537 (by decide +kernel)
    have hzy := hzy.fr k_th hrc.1.1 hrc.1.2.1 x537 f537 (by decide +kernel)
    have hty := hty.fr x537 hHo f537 (by decide +kernel)
    have hcy := hcy.fr x537 f537 (by decide +kernel)
    have hry := hry.fr hHo x537 f537 (by decide +kernel)
    have hci := hci.fr x537 f537 (by decide +kernel)
    have h3 := (f537.2 th 12 k_th 3 rfl).trans h3
    have hl := (f537.2 rd 7 k_rd 1 rfl).trans hl
    have hm := (f537.2 am 13 k_am 5 rfl).trans hm
    have hp := (f537.2 th 12 k_th 2 rfl).trans hp
    have hg := (f537.2 am 13 k_am 3 rfl).trans hg
    have htC := htC.fr k_rd x537 f537 (by decide +kernel)
    have htM := htM.fr k_am x537 f537 (by decide +kernel)
    have hrc := hrc.fr k_th x537 f537 (by decide +kernel)
    have k_th := x537 _ _ k_th
    have k_am := x537 _ _ k_am
    have k_out := x537 _ _ k_out
    have k_rd := x537 _ _ k_rd
    rcases hQ with ⟨r4, ev2, z0⟩ | ⟨r4, ev2, z0⟩
    · cases ev2
      have hrm := hrm0.upf k_am1 x537 f537 z0 (by decide +kernel)
      have hbc := rc_upb (k := 3) (v := cn 3) hbc (by omega)
      show et_go _ _ 1000 540 [some (.ref 150), some (.ref th), some (.ref am), some (.ref out), some (.int (Int32.ofNat i)), x5, x6] [.int (-1)] _ ck sk _
      refine ls_pop (p := 541) (by decide +kernel) ?_
      refine ls_goto (p := 1656) (by decide +kernel) ?_
      exact hN _ _ c h _ _ _ _ _ _ ⟨⟨hH, hci, k_th, k_am, k_out, h3, k_rd, hl, hm, hc⟩, ⟨hh1, hp, hg⟩, hrc, hrm, hbc, hbi, ⟨hry, hcy, hty, hzy, hsy, hfy⟩, _, htC, htM, htb⟩ (by omega) (by omega)
    · exact absurd c4 r4
  · cases ev
    have hrc := hrc0.upf k_th0 x532 f532 q0 w1 (by decide +kernel)
    have hfy : fyR K532 G532 th s0 (cn 3 - 1) := .inl (hfa_.2 c4)
    show et_go _ _ 1000 535 [some (.ref 150), some (.ref th), some (.ref am), some (.ref out), some (.int (Int32.ofNat i)), x5, x6] [.int (Int32.ofNat (cn 3 - 1))] _ ck sk _
    refine ls_pop (p := 536) (by decide +kernel) ?_
    refine ls_aload (i := 2) (p := 537) (by decide +kernel) rfl ?_
    refine lt_callv (T := et_TT) (t := 13) (mi := 221) (na := 0) (ci := 11) (lk := 7) (lm := 1) (L0 := eg_en (eg_mL 221) [.ref am]) (by decide +kernel) rfl hH k_am rfl rfl rfl rfl rfl (by rw [show eg_mL 221 = 1 from by decide +kernel]; first | done | rfl) ?_
    have hHo := hH
    have k_am1 := k_am
    have hrm0 := hrm
    refine ((er_p221_ok (K532, [], G532) [.ref am] _ hH (by omega) rfl (ht_ac (.inr ⟨by decide, _, rfl, k_am⟩) ht_an)).and (fm_away hH k_am hrm.1.1 hrm.2.1.1 (hrm.2.2 (2, 3) (by decide)).1 b3)).mono (fun u hu => ls_cbvQ hu (fun v537 K537 G537 c537 s537 x537 f537 hH hv537 cl537 sl537 hQ => ?_))
    obtain ⟨_, _, eu, -, hxf, ht, hQ⟩ := hQ
    cases eu
    have hfy := hfy.fr k_th hrc.1.1 x537 f537 (by decide +kernel)
    have hsy := hsy.fr k_th x537 f537 (by decide +kernel)
    have hzy := hzy.fr k_th hrc.1.1 hrc.1.2.1 x537 f537 (by decide +kernel)
    have hty := hty.fr x537 hHo f537 (by decide +kernel)
    have hcy := hcy.fr x537 f537 (by decide +kernel)
    have hry := hry.fr hHo x537 f537 (by decide +kernel)
    have hci := hci.fr x537 f537 (by decide +kernel)
    have h3 := (f537.2 th 12 k_th 3 rfl).trans h3
    have hl := (f537.2 rd 7 k_rd 1 rfl).trans hl
    have hm := (f537.2 am 13 k_am 5 rfl).trans hm
    have hp := (f537.2 th 12 k_th 2 rfl).trans hp
    have hg := (f537.2 am 13 k_am 3 rfl).trans hg
    have htC := htC.fr k_rd x537 f537 (by decide +kernel)
    have htM := htM.fr k_am x537 f537 (by decide +kernel)
    have hrc := hrc.fr k_th x537 f537 (by decide +kernel)
    have k_th := x537 _ _ k_th
    have k_am := x537 _ _ k_am
    have k_out := x537 _ _ k_out
    have k_rd := x537 _ _ k_rd
    rcases hQ with ⟨r4, ev2, z0⟩ | ⟨r4, ev2, z0⟩
    · exact absurd r4 c4
    · cases ev2
      have hrm := hrm0.upf k_am1 x537 f537 z0 (by decide +kernel)
      have hbc := rc_upb (k := 3) (v := cn 3 - 1) hbc (by omega)
      have hcy := hcy.le (Nat.sub_le (cn 3) 1)
      show et_go _ _ 1000 540 [some (.ref 150), some (.ref th), some (.ref am), some (.ref out), some (.int (Int32.ofNat i)), x5, x6] [.int (Int32.ofNat (cn 3 - 1))] _ ck sk _
      refine ls_pop (p := 541) (by decide +kernel) ?_
      refine ls_goto (p := 1656) (by decide +kernel) ?_
      exact hN _ _ c h _ _ _ _ _ _ ⟨⟨hH, hci, k_th, k_am, k_out, h3, k_rd, hl, hm, hc⟩, ⟨hh1, hp, hg⟩, hrc, hrm, hbc, hbi, ⟨hry, hcy, hty, hzy, hsy, hfy⟩, _, htC, htM, htb⟩ (by omega) (by omega)
set_option maxHeartbeats 2000000 in
theorem lw_c10 (hI : lw_I K G th am out rd s0 s1 aw ai tp ba na tm c h cn im) (hi : i + 6 ≤ n) (hn : n ≤ 3072) (hN : ∀ (K' : et_K) (G' : eg_G) (c' h' : Nat) (cn' im' : Nat → Nat) (ck' sk' : Nat) (y5 y6 : Option Value), lw_I K' G' th am out rd s0 s1 aw ai tp ba na tm c' h' cn' im' → ck' ≤ ck + 841 → sk' ≤ sk + 7168 → et_go (some (n, f)) (d + 41) 1000 1656 [some (.ref 150), some (.ref th), some (.ref am), some (.ref out), some (.int (Int32.ofNat i)), y5, y6] [] G' ck' sk' Z) : et_go (some (n, f)) (d + 41) 1000 544 [some (.ref 150), some (.ref th), some (.ref am), some (.ref out), some (.int (Int32.ofNat i)), x5, x6] [] G ck sk Z := by
  obtain ⟨⟨hH, hci, k_th, k_am, k_out, h3, k_rd, hl, hm, hc⟩, ⟨hh1, hp, hg⟩, hrc, hrm, hbc, hbi, ⟨hry, hcy, hty, hzy, hsy, hfy⟩, tb, htC, htM, htb⟩ := hI
  refine ls_aload (i := 1) (p := 545) (by decide +kernel) rfl ?_
  refine ls_aload (i := 3) (p := 546) (by decide +kernel) rfl ?_
  refine ls_calls (mi := 6) (na := 2) (lk := 7) (lm := 3) (L0 := eg_en (eg_mL 6) [.ref th, .ref out]) (by decide +kernel) rfl rfl rfl rfl rfl rfl (by rw [show eg_mL 6 = 3 from by decide +kernel]; first | done | rfl) ?_
  have hHo := hH
  have h5 : et_pl (eg_at G s0) 5 = some (.int (Int32.ofNat (cn 4))) := (hrc.2.2 (5, 4) (by decide)).1
  have he : cn 4 ≤ 3 := Int.ofNat_le.mp (hf_bd (t := 10) hH hrc.1.1 rfl rfl h5 (hbc 4))
  have hH0 := hH
  have k_th0 := k_th
  have k_out0 := k_out
  refine ((hh_i6 hH hci k_th k_out (by omega)).and (fh_eye hH k_th k_out hrc.2.1.1 hrc.1.1 h5 he (by omega))).mono (fun u hu => ls_cbrQ hu (fun v546 K546 G546 c546 s546 x546 f546 hH hci hP cl546 sl546 hQ => ?_))
  obtain ⟨_, _, _, _, eu, -, hxf, hQ⟩ := hQ
  cases eu
  have hfy := hfy.fr k_th hrc.1.1 x546 f546 (by decide +kernel)
  have hsy := hsy.fr k_th x546 f546 (by decide +kernel)
  have hzy := hzy.fr k_th hrc.1.1 hrc.1.2.1 x546 f546 (by decide +kernel)
  have hty := hty.fr x546 hHo f546 (by decide +kernel)
  have hcy := hcy.fr x546 f546 (by decide +kernel)
  have hry := hry.fr hHo x546 f546 (by decide +kernel)
  have h3 := (f546.2 th 12 k_th 3 rfl).trans h3
  have hl := (f546.2 rd 7 k_rd 1 rfl).trans hl
  have hm := (f546.2 am 13 k_am 5 rfl).trans hm
  have hp := (f546.2 th 12 k_th 2 rfl).trans hp
  have hg := (f546.2 am 13 k_am 3 rfl).trans hg
  have htC := htC.fr k_rd x546 f546 (by decide +kernel)
  have htM := htM.fr k_am x546 f546 (by decide +kernel)
  have hrm := hrm.fr k_am x546 f546 (by decide +kernel)
  have k_th := x546 _ _ k_th
  have k_am := x546 _ _ k_am
  have k_out := x546 _ _ k_out
  have k_rd := x546 _ _ k_rd
  have hS0 : ∀ a j t, K a = some t → ((a = s0 ∧ j = 5) ∨ (a = out ∧ j = 0)) → (t = 12 → 2 ≤ j) ∧ (t = 10 → a = s0 ∧ j = 5) := by
    intro a j t ha h
    rcases h with ⟨ea, ej⟩ | ⟨ea, ej⟩
    · rw [ea, hrc.1.1] at ha; cases ha; exact ⟨fun h => absurd h (by decide), fun _ => ⟨ea, ej⟩⟩
    · rw [ea, k_out0] at ha; cases ha; exact ⟨fun h => absurd h (by decide), fun h => absurd h (by decide)⟩
  rcases hQ with ⟨he1, ev, ho, h5⟩ | ⟨he1, ev, h5⟩
  · cases ev
    have hrc := hrc.up hH0 k_th0 x546 hxf hS0 h5 (k0 := 4) (by decide)
    show et_go _ _ 1000 549 [some (.ref 150), some (.ref th), some (.ref am), some (.ref out), some (.int (Int32.ofNat i)), x5, x6] [.int (Int32.ofNat 0)] _ (ck + c546) (sk + s546) _
    refine ls_istore (i := 5) (p := 551) (by decide +kernel) (Nat.le_of_ble_eq_true rfl) ?_
    refine ls_aload (i := 2) (p := 552) (by decide +kernel) rfl ?_
    refine lt_callv (T := et_TT) (t := 13) (mi := 222) (na := 0) (ci := 11) (lk := 7) (lm := 3) (L0 := eg_en (eg_mL 222) [.ref am]) (by decide +kernel) rfl hH k_am rfl rfl rfl rfl rfl (by rw [show eg_mL 222 = 3 from by decide +kernel]; first | done | rfl) ?_
    have hHo := hH
    obtain ⟨ya_, yb_, O_, A_, V_, ⟨zk_, zka_, zki_⟩, zz_, zo_, zm_, zi_⟩ := hzy
    have h4 : et_pl (eg_at G546 aw) 4 = some (.int (Int32.ofNat (cn 4))) := (hrm.2.2 (5, 4) (by decide)).1
    have hH1 := hH
    have k_am0 := k_am
    refine ((er_p222_ok (K546, [], G546) [.ref am] _ hH (by omega) rfl (ht_ac (.inr ⟨by decide, _, rfl, k_am⟩) ht_an)).and ((fm_eye hH k_am hrm.1.1 hrm.2.1.1 h4 he (by omega)).and (gz_eye hH k_am hrm.1.1 hrm.2.1.1 h4 he zm_ (fun n hn => zo_ n (by omega)) (by omega)))).mono (fun u hu => ls_cbvQ (Q := fun u => xw_Z _ _ _ _ u ∧ ((cn 4 < 3 → zyM u.2.1 aw (cn 4 + 1) V_) ∧ (cn 4 = 3 → zyM u.2.1 aw (cn 4) V_))) hu (fun v552 K552 G552 c552 s552 x552 f552 hH hv552 cl552 sl552 hQ => ?_))
    obtain ⟨⟨_, _, eu, -, hxf, hQ⟩, hQZ⟩ := hQ
    cases eu
    have zz_ := zz_.fr zk_ k_th hrc.1.1 hrc.1.2.1 f552 (by decide +kernel)
    have zi_ := zi_.fr (fun n hn => zo_ (3 + n) (by omega)) zki_ f552 (by decide +kernel)
    have zk_ := zk_.ex x552
    have zka_ := x552 _ _ zka_
    have zki_ := x552 _ _ zki_
    obtain ⟨hze, hzf⟩ := hQZ
    have hfy := hfy.fr k_th hrc.1.1 x552 f552 (by decide +kernel)
    have hsy := hsy.fr k_th x552 f552 (by decide +kernel)
    have hty := hty.fr x552 hHo f552 (by decide +kernel)
    have hcy := hcy.fr x552 f552 (by decide +kernel)
    have hry := hry.fr hHo x552 f552 (by decide +kernel)
    have hci := hci.fr x552 f552 (by decide +kernel)
    have h3 := (f552.2 th 12 k_th 3 rfl).trans h3
    have hl := (f552.2 rd 7 k_rd 1 rfl).trans hl
    have hm := (f552.2 am 13 k_am 5 rfl).trans hm
    have hp := (f552.2 th 12 k_th 2 rfl).trans hp
    have hg := (f552.2 am 13 k_am 3 rfl).trans hg
    have htC := htC.fr k_rd x552 f552 (by decide +kernel)
    have htM := htM.fr k_am x552 f552 (by decide +kernel)
    have hrc := hrc.fr k_th x552 f552 (by decide +kernel)
    have ho := (f552.2 out 31 k_out 0 rfl).trans ho
    have k_th := x552 _ _ k_th
    have k_am := x552 _ _ k_am
    have k_out := x552 _ _ k_out
    have k_rd := x552 _ _ k_rd
    have hS1 : ∀ a j t, K546 a = some t → ((a = am ∧ j = 0) ∨ (a = aw ∧ j = 4) ∨ (a = aw ∧ 45 ≤ j ∧ j ≤ 113)) → (t = 13 → j = 0 ∨ 3 ≤ j) ∧ ((t = 46 → j = 4 ∨ 5 ≤ j) ∧ ¬ t = 47) := by
      intro a j t ha h
      rcases h with ⟨ea, ej⟩ | ⟨ea, ej⟩ | ⟨ea, ej⟩
      · rw [ea, k_am0] at ha; cases ha; exact ⟨fun _ => .inl ej, fun h => absurd h (by decide), by decide⟩
      · rw [ea, hrm.1.1] at ha; cases ha; exact ⟨fun h => absurd h (by decide), fun _ => .inl ej, by decide⟩
      · rw [ea, hrm.1.1] at ha; cases ha; exact ⟨fun h => absurd h (by decide), fun _ => .inr (by omega), by decide⟩
    rcases hQ with ⟨he2, ev, ht, h4⟩ | ⟨he2, ht, h4⟩
    · cases ev
      have hrm := hrm.up hH1 k_am0 x552 hxf hS1 h4 (by decide)
      have hbc := rc_upb (k := 4) (v := cn 4 + 1) hbc (by omega)
      have zm_ := hze (by omega)
      have hzy : zy K552 G552 th s0 s1 aw ai (cn 4 + 1) (im 4) := ⟨ya_, yb_, O_, A_, V_, ⟨zk_, zka_, zki_⟩, zz_, zo_, zm_, zi_⟩
      show et_go _ _ 1000 555 [some (.ref 150), some (.ref th), some (.ref am), some (.ref out), some (.int (Int32.ofNat i)), some (.int (Int32.ofNat 0)), x6] [.int (Int32.ofNat (cn 4))] _ (ck + c546) (sk + s546) _
      refine ls_istore (i := 6) (p := 557) (by decide +kernel) (Nat.le_of_ble_eq_true rfl) ?_
      refine ls_goto (p := 1656) (by decide +kernel) ?_
      exact hN _ _ c h _ _ _ _ _ _ ⟨⟨hH, hci, k_th, k_am, k_out, h3, k_rd, hl, hm, hc⟩, ⟨hh1, hp, hg⟩, hrc, hrm, hbc, hbi, ⟨hry, hcy, hty, hzy, hsy, hfy⟩, _, htC, htM, htb⟩ (by omega) (by omega)
    · exact absurd he1 he2
  · cases ev
    have hrc := hrc.up hH0 k_th0 x546 hxf hS0 h5 (k0 := 4) (by decide)
    show et_go _ _ 1000 549 [some (.ref 150), some (.ref th), some (.ref am), some (.ref out), some (.int (Int32.ofNat i)), x5, x6] [.int (Int32.ofNat 1)] _ (ck + c546) (sk + s546) _
    refine ls_istore (i := 5) (p := 551) (by decide +kernel) (Nat.le_of_ble_eq_true rfl) ?_
    refine ls_aload (i := 2) (p := 552) (by decide +kernel) rfl ?_
    refine lt_callv (T := et_TT) (t := 13) (mi := 222) (na := 0) (ci := 11) (lk := 7) (lm := 3) (L0 := eg_en (eg_mL 222) [.ref am]) (by decide +kernel) rfl hH k_am rfl rfl rfl rfl rfl (by rw [show eg_mL 222 = 3 from by decide +kernel]; first | done | rfl) ?_
    have hHo := hH
    obtain ⟨ya_, yb_, O_, A_, V_, ⟨zk_, zka_, zki_⟩, zz_, zo_, zm_, zi_⟩ := hzy
    have h4 : et_pl (eg_at G546 aw) 4 = some (.int (Int32.ofNat (cn 4))) := (hrm.2.2 (5, 4) (by decide)).1
    have hH1 := hH
    have k_am0 := k_am
    refine ((er_p222_ok (K546, [], G546) [.ref am] _ hH (by omega) rfl (ht_ac (.inr ⟨by decide, _, rfl, k_am⟩) ht_an)).and ((fm_eye hH k_am hrm.1.1 hrm.2.1.1 h4 he (by omega)).and (gz_eye hH k_am hrm.1.1 hrm.2.1.1 h4 he zm_ (fun n hn => zo_ n (by omega)) (by omega)))).mono (fun u hu => ls_cbvQ (Q := fun u => xw_Z _ _ _ _ u ∧ ((cn 4 < 3 → zyM u.2.1 aw (cn 4 + 1) V_) ∧ (cn 4 = 3 → zyM u.2.1 aw (cn 4) V_))) hu (fun v552 K552 G552 c552 s552 x552 f552 hH hv552 cl552 sl552 hQ => ?_))
    obtain ⟨⟨_, _, eu, -, hxf, hQ⟩, hQZ⟩ := hQ
    cases eu
    have zz_ := zz_.fr zk_ k_th hrc.1.1 hrc.1.2.1 f552 (by decide +kernel)
    have zi_ := zi_.fr (fun n hn => zo_ (3 + n) (by omega)) zki_ f552 (by decide +kernel)
    have zk_ := zk_.ex x552
    have zka_ := x552 _ _ zka_
    have zki_ := x552 _ _ zki_
    obtain ⟨hze, hzf⟩ := hQZ
    have hfy := hfy.fr k_th hrc.1.1 x552 f552 (by decide +kernel)
    have hsy := hsy.fr k_th x552 f552 (by decide +kernel)
    have hty := hty.fr x552 hHo f552 (by decide +kernel)
    have hcy := hcy.fr x552 f552 (by decide +kernel)
    have hry := hry.fr hHo x552 f552 (by decide +kernel)
    have hci := hci.fr x552 f552 (by decide +kernel)
    have h3 := (f552.2 th 12 k_th 3 rfl).trans h3
    have hl := (f552.2 rd 7 k_rd 1 rfl).trans hl
    have hm := (f552.2 am 13 k_am 5 rfl).trans hm
    have hp := (f552.2 th 12 k_th 2 rfl).trans hp
    have hg := (f552.2 am 13 k_am 3 rfl).trans hg
    have htC := htC.fr k_rd x552 f552 (by decide +kernel)
    have htM := htM.fr k_am x552 f552 (by decide +kernel)
    have hrc := hrc.fr k_th x552 f552 (by decide +kernel)
    have k_th := x552 _ _ k_th
    have k_am := x552 _ _ k_am
    have k_out := x552 _ _ k_out
    have k_rd := x552 _ _ k_rd
    have hS1 : ∀ a j t, K546 a = some t → ((a = am ∧ j = 0) ∨ (a = aw ∧ j = 4) ∨ (a = aw ∧ 45 ≤ j ∧ j ≤ 113)) → (t = 13 → j = 0 ∨ 3 ≤ j) ∧ ((t = 46 → j = 4 ∨ 5 ≤ j) ∧ ¬ t = 47) := by
      intro a j t ha h
      rcases h with ⟨ea, ej⟩ | ⟨ea, ej⟩ | ⟨ea, ej⟩
      · rw [ea, k_am0] at ha; cases ha; exact ⟨fun _ => .inl ej, fun h => absurd h (by decide), by decide⟩
      · rw [ea, hrm.1.1] at ha; cases ha; exact ⟨fun h => absurd h (by decide), fun _ => .inl ej, by decide⟩
      · rw [ea, hrm.1.1] at ha; cases ha; exact ⟨fun h => absurd h (by decide), fun _ => .inr (by omega), by decide⟩
    rcases hQ with ⟨he2, ev, ht, h4⟩ | ⟨he2, ht, h4⟩
    · exact absurd he2 he1
    · obtain ⟨v552, rfl, -⟩ := hv552
      have hrm := hrm.up hH1 k_am0 x552 hxf hS1 h4 (by decide)
      have hbc := rc_upb (k := 4) (v := cn 4) hbc (by omega)
      have zm_ := hzf (by omega)
      have hzy : zy K552 G552 th s0 s1 aw ai (cn 4) (im 4) := ⟨ya_, yb_, O_, A_, V_, ⟨zk_, zka_, zki_⟩, zz_, zo_, zm_, zi_⟩
      show et_go _ _ 1000 555 [some (.ref 150), some (.ref th), some (.ref am), some (.ref out), some (.int (Int32.ofNat i)), some (.int (Int32.ofNat 1)), x6] [.int v552] _ (ck + c546) (sk + s546) _
      refine ls_istore (i := 6) (p := 557) (by decide +kernel) (Nat.le_of_ble_eq_true rfl) ?_
      refine ls_goto (p := 1656) (by decide +kernel) ?_
      exact hN _ _ c h _ _ _ _ _ _ ⟨⟨hH, hci, k_th, k_am, k_out, h3, k_rd, hl, hm, hc⟩, ⟨hh1, hp, hg⟩, hrc, hrm, hbc, hbi, ⟨hry, hcy, hty, hzy, hsy, hfy⟩, _, htC, htM, htb⟩ (by omega) (by omega)
set_option maxHeartbeats 2000000 in
theorem lw_c11 (hI : lw_I K G th am out rd s0 s1 aw ai tp ba na tm c h cn im) (hi : i + 6 ≤ n) (hn : n ≤ 3072) (hN : ∀ (K' : et_K) (G' : eg_G) (c' h' : Nat) (cn' im' : Nat → Nat) (ck' sk' : Nat) (y5 y6 : Option Value), lw_I K' G' th am out rd s0 s1 aw ai tp ba na tm c' h' cn' im' → ck' ≤ ck + 841 → sk' ≤ sk + 7168 → et_go (some (n, f)) (d + 41) 1000 1656 [some (.ref 150), some (.ref th), some (.ref am), some (.ref out), some (.int (Int32.ofNat i)), y5, y6] [] G' ck' sk' Z) : et_go (some (n, f)) (d + 41) 1000 560 [some (.ref 150), some (.ref th), some (.ref am), some (.ref out), some (.int (Int32.ofNat i)), x5, x6] [] G ck sk Z := by
  obtain ⟨⟨hH, hci, k_th, k_am, k_out, h3, k_rd, hl, hm, hc⟩, ⟨hh1, hp, hg⟩, hrc, hrm, hbc, hbi, ⟨hry, hcy, hty, hzy, hsy, hfy⟩, tb, htC, htM, htb⟩ := hI
  refine ls_aload (i := 1) (p := 561) (by decide +kernel) rfl ?_
  refine ls_arg (j := 1) (by decide +kernel) (by omega) hn ?_
  refine ls_arg (j := 2) (by decide +kernel) (by omega) hn ?_
  refine ls_arg (j := 3) (by decide +kernel) (by omega) hn ?_
  refine ls_aload (i := 3) (p := 580) (by decide +kernel) rfl ?_
  refine ls_calls (mi := 7) (na := 5) (lk := 7) (lm := 6) (L0 := eg_en (eg_mL 7) [.ref th, .int (f (i + 1)), .int (f (i + 2)), .int (f (i + 3)), .ref out]) (by decide +kernel) rfl rfl rfl rfl rfl rfl (by rw [show eg_mL 7 = 6 from by decide +kernel]; first | done | rfl) ?_
  have hHo := hH
  have b4 : cn 4 ≤ 3 := Int.ofNat_le.mp (hf_bd (t := 10) hH hrc.1.1 rfl rfl (hrc.2.2 (5, 4) (by decide)).1 (hbc 4))
  obtain ⟨ya_, yb_, O_, A_, V_, ⟨zk_, zka_, zki_⟩, zz_, zo_, zm_, zi_⟩ := hzy
  have zz9 := zz_
  have hfy9 := hfy
  have ks9 := hrc.1.1
  have kt9 := k_th
  have ko9 := k_out
  refine ((hh_c7 (K, [], G) [.ref th, .int (f (i + 1)), .int (f (i + 2)), .int (f (i + 3)), .ref out] _ hH (by omega) rfl (ht_ac (.inr ⟨by decide, _, rfl, k_th⟩) (ht_ac hi_any (ht_ac hi_any (ht_ac hi_any (ht_ac (.inr ⟨by decide, _, rfl, k_out⟩) ht_an)))))).and ((fz_wire hH k_th hrc.2.1.1 hrc.1.1 hrc.1.2.1 (hrc.2.2 (5, 4) (by decide)).1 b4 zk_ zz_ zo_ k_out (by omega)).and ((fq_7_6 hH k_th k_out (by omega)).and (fq_7_7 hH k_th k_out (by omega))))).mono (fun u hu => ls_cbvQ (Q := fun u => ((¬ xr (f (i + 1)) (cn 4) ∧ u.1 = .inl (some (.int (Int32.ofNat 1))) ∧ ez u.2.1 th s0 s1 ya_ yb_ O_ A_ V_) ∨ ∃ n, ((f (i + 1)) = Int32.ofNat n ∧ n < cn 4) ∧ ((¬ (0 < (f (i + 2)).toInt ∧ (f (i + 2)).toInt < 65536 ∧ 0 ≤ (f (i + 3)).toInt ∧ (f (i + 3)).toInt ≤ 2) ∧ u.1 = .inl (some (.int (Int32.ofNat 2))) ∧ ez u.2.1 th s0 s1 ya_ yb_ O_ A_ V_) ∨ ((0 < (f (i + 2)).toInt ∧ (f (i + 2)).toInt < 65536 ∧ 0 ≤ (f (i + 3)).toInt ∧ (f (i + 3)).toInt ≤ 2) ∧ (V_ n).1 = 6 ∧ u.1 = .inl (some (.int (Int32.ofNat 3))) ∧ ez u.2.1 th s0 s1 ya_ yb_ O_ A_ V_) ∨ ∃ k, (((f (i + 3)) = Int32.ofNat k ∧ k ≤ 2) ∧ (0 < (f (i + 2)).toInt ∧ (f (i + 2)).toInt < 65536) ∧ (V_ n).1 < 6) ∧ u.1 = .inl (some (.int (Int32.ofNat 0))) ∧ et_pl (eg_at u.2.1 out) 0 = some (.long (Int32.ofNat (V_ n).1).toInt64) ∧ ez u.2.1 th s0 s1 ya_ yb_ O_ A_ (vup V_ n (wiV (V_ n) (f (i + 2)) k)))) ∧ (fgZ G th 6 (Int32.ofNat 0) u ∧ fgZ G th 7 (Int32.ofNat 0) u)) hu (fun v580 K580 G580 c580 s580 x580 f580 hH hv580 cl580 sl580 hQ => ?_))
  have zm_ := zm_.fr (fun n hn => zo_ n (by omega)) zka_ f580 (by decide +kernel)
  have zi_ := zi_.fr (fun n hn => zo_ (3 + n) (by omega)) zki_ f580 (by decide +kernel)
  have zk_ := zk_.ex x580
  have zka_ := x580 _ _ zka_
  have zki_ := x580 _ _ zki_
  have hsy := hsy.fr k_th x580 f580 (by decide +kernel)
  have hty := hty.fr x580 hHo f580 (by decide +kernel)
  have hcy := hcy.fr x580 f580 (by decide +kernel)
  have hry := hry.fr hHo x580 f580 (by decide +kernel)
  have hci := hci.fr x580 f580 (by decide +kernel)
  have h3 := (f580.2 th 12 k_th 3 rfl).trans h3
  have hl := (f580.2 rd 7 k_rd 1 rfl).trans hl
  have hm := (f580.2 am 13 k_am 5 rfl).trans hm
  have hp := (f580.2 th 12 k_th 2 rfl).trans hp
  have hg := (f580.2 am 13 k_am 3 rfl).trans hg
  have htC := htC.fr k_rd x580 f580 (by decide +kernel)
  have htM := htM.fr k_am x580 f580 (by decide +kernel)
  have hrc := hrc.fr k_th x580 f580 (by decide +kernel)
  have hrm := hrm.fr k_am x580 f580 (by decide +kernel)
  have k_th := x580 _ _ k_th
  have k_am := x580 _ _ k_am
  have k_out := x580 _ _ k_out
  have k_rd := x580 _ _ k_rd
  obtain ⟨hQ, hf6_, hf7_⟩ := hQ
  rcases hQ with ⟨cx, ev, zz_⟩ | ⟨n0, ⟨en0, hn0⟩, ⟨cw, ev, zz_⟩ | ⟨cw, c6, ev, zz_⟩ | ⟨k0, ⟨⟨ek0, hk0⟩, cy0, c6⟩, ev, ho, zz_⟩⟩
  · cases ev
    have hfy : fyR K580 G580 th s0 (cn 3) := hfy9.uz x580 ks9 zz9 zo_ zz_ (fun n hn => coreE.rf) f580 (by decide +kernel) (fun j hj => by rcases hj with rfl | rfl | rfl; exact f580.2 th 12 kt9 _ rfl; exact hf6_.n (fun q => absurd (Value.int.inj (Option.some.inj (Sum.inl.inj q))) (by decide)); exact hf7_.n (fun q => absurd (Value.int.inj (Option.some.inj (Sum.inl.inj q))) (by decide)))
    show et_go _ _ 1000 583 [some (.ref 150), some (.ref th), some (.ref am), some (.ref out), some (.int (Int32.ofNat i)), x5, x6] [.int (Int32.ofNat 1)] _ (ck + c580) (sk + s580) _
    refine ls_istore (i := 5) (p := 585) (by decide +kernel) (Nat.le_of_ble_eq_true rfl) ?_
    refine ls_aload (i := 2) (p := 586) (by decide +kernel) rfl ?_
    refine ls_arg (j := 1) (by decide +kernel) (by omega) hn ?_
    refine ls_arg (j := 2) (by decide +kernel) (by omega) hn ?_
    refine ls_arg (j := 3) (by decide +kernel) (by omega) hn ?_
    refine lt_callv (T := et_TT) (t := 13) (mi := 223) (na := 3) (ci := 11) (lk := 7) (lm := 5) (L0 := eg_en (eg_mL 223) [.ref am, .int (f (i + 1)), .int (f (i + 2)), .int (f (i + 3))]) (by decide +kernel) rfl hH k_am rfl rfl rfl rfl rfl (by rw [show eg_mL 223 = 5 from by decide +kernel]; first | done | rfl) ?_
    have hHo := hH
    refine ((er_p223_ok (K580, [], G580) [.ref am, .int (f (i + 1)), .int (f (i + 2)), .int (f (i + 3))] _ hH (by omega) rfl (ht_ac (.inr ⟨by decide, _, rfl, k_am⟩) (ht_ac hi_any (ht_ac hi_any (ht_ac hi_any ht_an))))).and (gz_wire hH k_am hrm.1.1 hrm.2.1.1 (hrm.2.2 (5, 4) (by decide)).1 b4 zm_ (fun n hn => zo_ n (by omega)) (by omega))).mono (fun u hu => ls_cbvQ (Q := fun u => (¬ xr (f (i + 1)) (cn 4) ∧ u.1 = .inl (some (.int (Int32.ofNat 0))) ∧ et_pl (eg_at u.2.1 am) 0 = some (.int (Int32.ofNat 1)) ∧ zyM u.2.1 aw (cn 4) V_) ∨ ∃ n, ((f (i + 1)) = Int32.ofNat n ∧ n < cn 4) ∧ ((¬ (0 < (f (i + 2)).toInt ∧ (f (i + 2)).toInt < 65536 ∧ 0 ≤ (f (i + 3)).toInt ∧ (f (i + 3)).toInt ≤ 2) ∧ u.1 = .inl (some (.int (Int32.ofNat 0))) ∧ et_pl (eg_at u.2.1 am) 0 = some (.int (Int32.ofNat 2)) ∧ zyM u.2.1 aw (cn 4) V_) ∨ ((0 < (f (i + 2)).toInt ∧ (f (i + 2)).toInt < 65536 ∧ 0 ≤ (f (i + 3)).toInt ∧ (f (i + 3)).toInt ≤ 2) ∧ (V_ n).1 = 6 ∧ u.1 = .inl (some (.int (Int32.ofNat 0))) ∧ et_pl (eg_at u.2.1 am) 0 = some (.int (Int32.ofNat 3)) ∧ zyM u.2.1 aw (cn 4) V_) ∨ ∃ k, (((f (i + 3)) = Int32.ofNat k ∧ k ≤ 2) ∧ (0 < (f (i + 2)).toInt ∧ (f (i + 2)).toInt < 65536) ∧ (V_ n).1 < 6) ∧ u.1 = .inl (some (.int (Int32.ofNat (V_ n).1))) ∧ et_pl (eg_at u.2.1 am) 0 = some (.int (Int32.ofNat 0)) ∧ zyM u.2.1 aw (cn 4) (vup V_ n (wiV (V_ n) (f (i + 2)) k)))) hu (fun v604 K604 G604 c604 s604 x604 f604 hH hv604 cl604 sl604 hQ => ?_))
    have zz_ := zz_.fr zk_ k_th hrc.1.1 hrc.1.2.1 f604 (by decide +kernel)
    have zi_ := zi_.fr (fun n hn => zo_ (3 + n) (by omega)) zki_ f604 (by decide +kernel)
    have zk_ := zk_.ex x604
    have zka_ := x604 _ _ zka_
    have zki_ := x604 _ _ zki_
    have hfy := hfy.fr k_th hrc.1.1 x604 f604 (by decide +kernel)
    have hsy := hsy.fr k_th x604 f604 (by decide +kernel)
    have hty := hty.fr x604 hHo f604 (by decide +kernel)
    have hcy := hcy.fr x604 f604 (by decide +kernel)
    have hry := hry.fr hHo x604 f604 (by decide +kernel)
    have hci := hci.fr x604 f604 (by decide +kernel)
    have h3 := (f604.2 th 12 k_th 3 rfl).trans h3
    have hl := (f604.2 rd 7 k_rd 1 rfl).trans hl
    have hm := (f604.2 am 13 k_am 5 rfl).trans hm
    have hp := (f604.2 th 12 k_th 2 rfl).trans hp
    have hg := (f604.2 am 13 k_am 3 rfl).trans hg
    have htC := htC.fr k_rd x604 f604 (by decide +kernel)
    have htM := htM.fr k_am x604 f604 (by decide +kernel)
    have hrc := hrc.fr k_th x604 f604 (by decide +kernel)
    have hrm := hrm.fr k_am x604 f604 (by decide +kernel)
    have k_th := x604 _ _ k_th
    have k_am := x604 _ _ k_am
    have k_out := x604 _ _ k_out
    have k_rd := x604 _ _ k_rd
    rcases hQ with ⟨dx, ev2, ht, zm_⟩ | ⟨n1, ⟨en1, hn1⟩, ⟨dw, ev2, ht, zm_⟩ | ⟨dw, d6, ev2, ht, zm_⟩ | ⟨k1, ⟨⟨ek1, hk1⟩, cy1, d6⟩, ev2, ht, zm_⟩⟩
    · cases ev2
      have hzy : zy K604 G604 th s0 s1 aw ai (cn 4) (im 4) := ⟨ya_, yb_, O_, A_, V_, ⟨zk_, zka_, zki_⟩, zz_, zo_, zm_, zi_⟩
      show et_go _ _ 1000 607 [some (.ref 150), some (.ref th), some (.ref am), some (.ref out), some (.int (Int32.ofNat i)), some (.int (Int32.ofNat 1)), x6] [.int (Int32.ofNat 0)] _ ((ck + c580) + c604) ((sk + s580) + s604) _
      refine ls_istore (i := 6) (p := 609) (by decide +kernel) (Nat.le_of_ble_eq_true rfl) ?_
      refine ls_goto (p := 1656) (by decide +kernel) ?_
      exact hN _ _ c h _ _ _ _ _ _ ⟨⟨hH, hci, k_th, k_am, k_out, h3, k_rd, hl, hm, hc⟩, ⟨hh1, hp, hg⟩, hrc, hrm, hbc, hbi, ⟨hry, hcy, hty, hzy, hsy, hfy⟩, _, htC, htM, htb⟩ (by omega) (by omega)
    · exact absurd (xr_m en1 hn1 (by omega)) cx
    · exact absurd (xr_m en1 hn1 (by omega)) cx
    · exact absurd (xr_m en1 hn1 (by omega)) cx
  · cases ev
    have hfy : fyR K580 G580 th s0 (cn 3) := hfy9.uz x580 ks9 zz9 zo_ zz_ (fun n hn => coreE.rf) f580 (by decide +kernel) (fun j hj => by rcases hj with rfl | rfl | rfl; exact f580.2 th 12 kt9 _ rfl; exact hf6_.n (fun q => absurd (Value.int.inj (Option.some.inj (Sum.inl.inj q))) (by decide)); exact hf7_.n (fun q => absurd (Value.int.inj (Option.some.inj (Sum.inl.inj q))) (by decide)))
    show et_go _ _ 1000 583 [some (.ref 150), some (.ref th), some (.ref am), some (.ref out), some (.int (Int32.ofNat i)), x5, x6] [.int (Int32.ofNat 2)] _ (ck + c580) (sk + s580) _
    refine ls_istore (i := 5) (p := 585) (by decide +kernel) (Nat.le_of_ble_eq_true rfl) ?_
    refine ls_aload (i := 2) (p := 586) (by decide +kernel) rfl ?_
    refine ls_arg (j := 1) (by decide +kernel) (by omega) hn ?_
    refine ls_arg (j := 2) (by decide +kernel) (by omega) hn ?_
    refine ls_arg (j := 3) (by decide +kernel) (by omega) hn ?_
    refine lt_callv (T := et_TT) (t := 13) (mi := 223) (na := 3) (ci := 11) (lk := 7) (lm := 5) (L0 := eg_en (eg_mL 223) [.ref am, .int (f (i + 1)), .int (f (i + 2)), .int (f (i + 3))]) (by decide +kernel) rfl hH k_am rfl rfl rfl rfl rfl (by rw [show eg_mL 223 = 5 from by decide +kernel]; first | done | rfl) ?_
    have hHo := hH
    refine ((er_p223_ok (K580, [], G580) [.ref am, .int (f (i + 1)), .int (f (i + 2)), .int (f (i + 3))] _ hH (by omega) rfl (ht_ac (.inr ⟨by decide, _, rfl, k_am⟩) (ht_ac hi_any (ht_ac hi_any (ht_ac hi_any ht_an))))).and (gz_wire hH k_am hrm.1.1 hrm.2.1.1 (hrm.2.2 (5, 4) (by decide)).1 b4 zm_ (fun n hn => zo_ n (by omega)) (by omega))).mono (fun u hu => ls_cbvQ (Q := fun u => (¬ xr (f (i + 1)) (cn 4) ∧ u.1 = .inl (some (.int (Int32.ofNat 0))) ∧ et_pl (eg_at u.2.1 am) 0 = some (.int (Int32.ofNat 1)) ∧ zyM u.2.1 aw (cn 4) V_) ∨ ∃ n, ((f (i + 1)) = Int32.ofNat n ∧ n < cn 4) ∧ ((¬ (0 < (f (i + 2)).toInt ∧ (f (i + 2)).toInt < 65536 ∧ 0 ≤ (f (i + 3)).toInt ∧ (f (i + 3)).toInt ≤ 2) ∧ u.1 = .inl (some (.int (Int32.ofNat 0))) ∧ et_pl (eg_at u.2.1 am) 0 = some (.int (Int32.ofNat 2)) ∧ zyM u.2.1 aw (cn 4) V_) ∨ ((0 < (f (i + 2)).toInt ∧ (f (i + 2)).toInt < 65536 ∧ 0 ≤ (f (i + 3)).toInt ∧ (f (i + 3)).toInt ≤ 2) ∧ (V_ n).1 = 6 ∧ u.1 = .inl (some (.int (Int32.ofNat 0))) ∧ et_pl (eg_at u.2.1 am) 0 = some (.int (Int32.ofNat 3)) ∧ zyM u.2.1 aw (cn 4) V_) ∨ ∃ k, (((f (i + 3)) = Int32.ofNat k ∧ k ≤ 2) ∧ (0 < (f (i + 2)).toInt ∧ (f (i + 2)).toInt < 65536) ∧ (V_ n).1 < 6) ∧ u.1 = .inl (some (.int (Int32.ofNat (V_ n).1))) ∧ et_pl (eg_at u.2.1 am) 0 = some (.int (Int32.ofNat 0)) ∧ zyM u.2.1 aw (cn 4) (vup V_ n (wiV (V_ n) (f (i + 2)) k)))) hu (fun v604 K604 G604 c604 s604 x604 f604 hH hv604 cl604 sl604 hQ => ?_))
    have zz_ := zz_.fr zk_ k_th hrc.1.1 hrc.1.2.1 f604 (by decide +kernel)
    have zi_ := zi_.fr (fun n hn => zo_ (3 + n) (by omega)) zki_ f604 (by decide +kernel)
    have zk_ := zk_.ex x604
    have zka_ := x604 _ _ zka_
    have zki_ := x604 _ _ zki_
    have hfy := hfy.fr k_th hrc.1.1 x604 f604 (by decide +kernel)
    have hsy := hsy.fr k_th x604 f604 (by decide +kernel)
    have hty := hty.fr x604 hHo f604 (by decide +kernel)
    have hcy := hcy.fr x604 f604 (by decide +kernel)
    have hry := hry.fr hHo x604 f604 (by decide +kernel)
    have hci := hci.fr x604 f604 (by decide +kernel)
    have h3 := (f604.2 th 12 k_th 3 rfl).trans h3
    have hl := (f604.2 rd 7 k_rd 1 rfl).trans hl
    have hm := (f604.2 am 13 k_am 5 rfl).trans hm
    have hp := (f604.2 th 12 k_th 2 rfl).trans hp
    have hg := (f604.2 am 13 k_am 3 rfl).trans hg
    have htC := htC.fr k_rd x604 f604 (by decide +kernel)
    have htM := htM.fr k_am x604 f604 (by decide +kernel)
    have hrc := hrc.fr k_th x604 f604 (by decide +kernel)
    have hrm := hrm.fr k_am x604 f604 (by decide +kernel)
    have k_th := x604 _ _ k_th
    have k_am := x604 _ _ k_am
    have k_out := x604 _ _ k_out
    have k_rd := x604 _ _ k_rd
    rcases hQ with ⟨dx, ev2, ht, zm_⟩ | ⟨n1, ⟨en1, hn1⟩, ⟨dw, ev2, ht, zm_⟩ | ⟨dw, d6, ev2, ht, zm_⟩ | ⟨k1, ⟨⟨ek1, hk1⟩, cy1, d6⟩, ev2, ht, zm_⟩⟩
    · exact absurd (xr_m en0 hn0 (by omega)) dx
    · obtain rfl : n0 = n1 := (hs_neq (by have h9_ := (zo_ n0 (by omega)).1.1; omega) (by have h9_ := (zo_ n0 (by omega)).1.1; omega)).mp (en0.symm.trans en1)
      cases ev2
      have hzy : zy K604 G604 th s0 s1 aw ai (cn 4) (im 4) := ⟨ya_, yb_, O_, A_, V_, ⟨zk_, zka_, zki_⟩, zz_, zo_, zm_, zi_⟩
      show et_go _ _ 1000 607 [some (.ref 150), some (.ref th), some (.ref am), some (.ref out), some (.int (Int32.ofNat i)), some (.int (Int32.ofNat 2)), x6] [.int (Int32.ofNat 0)] _ ((ck + c580) + c604) ((sk + s580) + s604) _
      refine ls_istore (i := 6) (p := 609) (by decide +kernel) (Nat.le_of_ble_eq_true rfl) ?_
      refine ls_goto (p := 1656) (by decide +kernel) ?_
      exact hN _ _ c h _ _ _ _ _ _ ⟨⟨hH, hci, k_th, k_am, k_out, h3, k_rd, hl, hm, hc⟩, ⟨hh1, hp, hg⟩, hrc, hrm, hbc, hbi, ⟨hry, hcy, hty, hzy, hsy, hfy⟩, _, htC, htM, htb⟩ (by omega) (by omega)
    · obtain rfl : n0 = n1 := (hs_neq (by have h9_ := (zo_ n0 (by omega)).1.1; omega) (by have h9_ := (zo_ n0 (by omega)).1.1; omega)).mp (en0.symm.trans en1)
      exact absurd dw cw
    · obtain rfl : n0 = n1 := (hs_neq (by have h9_ := (zo_ n0 (by omega)).1.1; omega) (by have h9_ := (zo_ n0 (by omega)).1.1; omega)).mp (en0.symm.trans en1)
      exact absurd (show _ ∧ _ ∧ _ ∧ _ from ⟨cy1.1, cy1.2, by rw [ek1, hs_nint (by omega)]; omega, by rw [ek1, hs_nint (by omega)]; omega⟩) cw
  · cases ev
    have hfy : fyR K580 G580 th s0 (cn 3) := hfy9.uz x580 ks9 zz9 zo_ zz_ (fun n hn => coreE.rf) f580 (by decide +kernel) (fun j hj => by rcases hj with rfl | rfl | rfl; exact f580.2 th 12 kt9 _ rfl; exact hf6_.n (fun q => absurd (Value.int.inj (Option.some.inj (Sum.inl.inj q))) (by decide)); exact hf7_.n (fun q => absurd (Value.int.inj (Option.some.inj (Sum.inl.inj q))) (by decide)))
    show et_go _ _ 1000 583 [some (.ref 150), some (.ref th), some (.ref am), some (.ref out), some (.int (Int32.ofNat i)), x5, x6] [.int (Int32.ofNat 3)] _ (ck + c580) (sk + s580) _
    refine ls_istore (i := 5) (p := 585) (by decide +kernel) (Nat.le_of_ble_eq_true rfl) ?_
    refine ls_aload (i := 2) (p := 586) (by decide +kernel) rfl ?_
    refine ls_arg (j := 1) (by decide +kernel) (by omega) hn ?_
    refine ls_arg (j := 2) (by decide +kernel) (by omega) hn ?_
    refine ls_arg (j := 3) (by decide +kernel) (by omega) hn ?_
    refine lt_callv (T := et_TT) (t := 13) (mi := 223) (na := 3) (ci := 11) (lk := 7) (lm := 5) (L0 := eg_en (eg_mL 223) [.ref am, .int (f (i + 1)), .int (f (i + 2)), .int (f (i + 3))]) (by decide +kernel) rfl hH k_am rfl rfl rfl rfl rfl (by rw [show eg_mL 223 = 5 from by decide +kernel]; first | done | rfl) ?_
    have hHo := hH
    refine ((er_p223_ok (K580, [], G580) [.ref am, .int (f (i + 1)), .int (f (i + 2)), .int (f (i + 3))] _ hH (by omega) rfl (ht_ac (.inr ⟨by decide, _, rfl, k_am⟩) (ht_ac hi_any (ht_ac hi_any (ht_ac hi_any ht_an))))).and (gz_wire hH k_am hrm.1.1 hrm.2.1.1 (hrm.2.2 (5, 4) (by decide)).1 b4 zm_ (fun n hn => zo_ n (by omega)) (by omega))).mono (fun u hu => ls_cbvQ (Q := fun u => (¬ xr (f (i + 1)) (cn 4) ∧ u.1 = .inl (some (.int (Int32.ofNat 0))) ∧ et_pl (eg_at u.2.1 am) 0 = some (.int (Int32.ofNat 1)) ∧ zyM u.2.1 aw (cn 4) V_) ∨ ∃ n, ((f (i + 1)) = Int32.ofNat n ∧ n < cn 4) ∧ ((¬ (0 < (f (i + 2)).toInt ∧ (f (i + 2)).toInt < 65536 ∧ 0 ≤ (f (i + 3)).toInt ∧ (f (i + 3)).toInt ≤ 2) ∧ u.1 = .inl (some (.int (Int32.ofNat 0))) ∧ et_pl (eg_at u.2.1 am) 0 = some (.int (Int32.ofNat 2)) ∧ zyM u.2.1 aw (cn 4) V_) ∨ ((0 < (f (i + 2)).toInt ∧ (f (i + 2)).toInt < 65536 ∧ 0 ≤ (f (i + 3)).toInt ∧ (f (i + 3)).toInt ≤ 2) ∧ (V_ n).1 = 6 ∧ u.1 = .inl (some (.int (Int32.ofNat 0))) ∧ et_pl (eg_at u.2.1 am) 0 = some (.int (Int32.ofNat 3)) ∧ zyM u.2.1 aw (cn 4) V_) ∨ ∃ k, (((f (i + 3)) = Int32.ofNat k ∧ k ≤ 2) ∧ (0 < (f (i + 2)).toInt ∧ (f (i + 2)).toInt < 65536) ∧ (V_ n).1 < 6) ∧ u.1 = .inl (some (.int (Int32.ofNat (V_ n).1))) ∧ et_pl (eg_at u.2.1 am) 0 = some (.int (Int32.ofNat 0)) ∧ zyM u.2.1 aw (cn 4) (vup V_ n (wiV (V_ n) (f (i + 2)) k)))) hu (fun v604 K604 G604 c604 s604 x604 f604 hH hv604 cl604 sl604 hQ => ?_))
    have zz_ := zz_.fr zk_ k_th hrc.1.1 hrc.1.2.1 f604 (by decide +kernel)
    have zi_ := zi_.fr (fun n hn => zo_ (3 + n) (by omega)) zki_ f604 (by decide +kernel)
    have zk_ := zk_.ex x604
    have zka_ := x604 _ _ zka_
    have zki_ := x604 _ _ zki_
    have hfy := hfy.fr k_th hrc.1.1 x604 f604 (by decide +kernel)
    have hsy := hsy.fr k_th x604 f604 (by decide +kernel)
    have hty := hty.fr x604 hHo f604 (by decide +kernel)
    have hcy := hcy.fr x604 f604 (by decide +kernel)
    have hry := hry.fr hHo x604 f604 (by decide +kernel)
    have hci := hci.fr x604 f604 (by decide +kernel)
    have h3 := (f604.2 th 12 k_th 3 rfl).trans h3
    have hl := (f604.2 rd 7 k_rd 1 rfl).trans hl
    have hm := (f604.2 am 13 k_am 5 rfl).trans hm
    have hp := (f604.2 th 12 k_th 2 rfl).trans hp
    have hg := (f604.2 am 13 k_am 3 rfl).trans hg
    have htC := htC.fr k_rd x604 f604 (by decide +kernel)
    have htM := htM.fr k_am x604 f604 (by decide +kernel)
    have hrc := hrc.fr k_th x604 f604 (by decide +kernel)
    have hrm := hrm.fr k_am x604 f604 (by decide +kernel)
    have k_th := x604 _ _ k_th
    have k_am := x604 _ _ k_am
    have k_out := x604 _ _ k_out
    have k_rd := x604 _ _ k_rd
    rcases hQ with ⟨dx, ev2, ht, zm_⟩ | ⟨n1, ⟨en1, hn1⟩, ⟨dw, ev2, ht, zm_⟩ | ⟨dw, d6, ev2, ht, zm_⟩ | ⟨k1, ⟨⟨ek1, hk1⟩, cy1, d6⟩, ev2, ht, zm_⟩⟩
    · exact absurd (xr_m en0 hn0 (by omega)) dx
    · obtain rfl : n0 = n1 := (hs_neq (by have h9_ := (zo_ n0 (by omega)).1.1; omega) (by have h9_ := (zo_ n0 (by omega)).1.1; omega)).mp (en0.symm.trans en1)
      exact absurd cw dw
    · obtain rfl : n0 = n1 := (hs_neq (by have h9_ := (zo_ n0 (by omega)).1.1; omega) (by have h9_ := (zo_ n0 (by omega)).1.1; omega)).mp (en0.symm.trans en1)
      cases ev2
      have hzy : zy K604 G604 th s0 s1 aw ai (cn 4) (im 4) := ⟨ya_, yb_, O_, A_, V_, ⟨zk_, zka_, zki_⟩, zz_, zo_, zm_, zi_⟩
      show et_go _ _ 1000 607 [some (.ref 150), some (.ref th), some (.ref am), some (.ref out), some (.int (Int32.ofNat i)), some (.int (Int32.ofNat 3)), x6] [.int (Int32.ofNat 0)] _ ((ck + c580) + c604) ((sk + s580) + s604) _
      refine ls_istore (i := 6) (p := 609) (by decide +kernel) (Nat.le_of_ble_eq_true rfl) ?_
      refine ls_goto (p := 1656) (by decide +kernel) ?_
      exact hN _ _ c h _ _ _ _ _ _ ⟨⟨hH, hci, k_th, k_am, k_out, h3, k_rd, hl, hm, hc⟩, ⟨hh1, hp, hg⟩, hrc, hrm, hbc, hbi, ⟨hry, hcy, hty, hzy, hsy, hfy⟩, _, htC, htM, htb⟩ (by omega) (by omega)
    · obtain rfl : n0 = n1 := (hs_neq (by have h9_ := (zo_ n0 (by omega)).1.1; omega) (by have h9_ := (zo_ n0 (by omega)).1.1; omega)).mp (en0.symm.trans en1)
      exact absurd c6 (Nat.ne_of_lt d6)
  · cases ev
    have hfy : fyR K580 G580 th s0 (cn 3) := .inl (hf6_.y rfl)
    show et_go _ _ 1000 583 [some (.ref 150), some (.ref th), some (.ref am), some (.ref out), some (.int (Int32.ofNat i)), x5, x6] [.int (Int32.ofNat 0)] _ (ck + c580) (sk + s580) _
    refine ls_istore (i := 5) (p := 585) (by decide +kernel) (Nat.le_of_ble_eq_true rfl) ?_
    refine ls_aload (i := 2) (p := 586) (by decide +kernel) rfl ?_
    refine ls_arg (j := 1) (by decide +kernel) (by omega) hn ?_
    refine ls_arg (j := 2) (by decide +kernel) (by omega) hn ?_
    refine ls_arg (j := 3) (by decide +kernel) (by omega) hn ?_
    refine lt_callv (T := et_TT) (t := 13) (mi := 223) (na := 3) (ci := 11) (lk := 7) (lm := 5) (L0 := eg_en (eg_mL 223) [.ref am, .int (f (i + 1)), .int (f (i + 2)), .int (f (i + 3))]) (by decide +kernel) rfl hH k_am rfl rfl rfl rfl rfl (by rw [show eg_mL 223 = 5 from by decide +kernel]; first | done | rfl) ?_
    have hHo := hH
    refine ((er_p223_ok (K580, [], G580) [.ref am, .int (f (i + 1)), .int (f (i + 2)), .int (f (i + 3))] _ hH (by omega) rfl (ht_ac (.inr ⟨by decide, _, rfl, k_am⟩) (ht_ac hi_any (ht_ac hi_any (ht_ac hi_any ht_an))))).and (gz_wire hH k_am hrm.1.1 hrm.2.1.1 (hrm.2.2 (5, 4) (by decide)).1 b4 zm_ (fun n hn => zo_ n (by omega)) (by omega))).mono (fun u hu => ls_cbvQ (Q := fun u => (¬ xr (f (i + 1)) (cn 4) ∧ u.1 = .inl (some (.int (Int32.ofNat 0))) ∧ et_pl (eg_at u.2.1 am) 0 = some (.int (Int32.ofNat 1)) ∧ zyM u.2.1 aw (cn 4) V_) ∨ ∃ n, ((f (i + 1)) = Int32.ofNat n ∧ n < cn 4) ∧ ((¬ (0 < (f (i + 2)).toInt ∧ (f (i + 2)).toInt < 65536 ∧ 0 ≤ (f (i + 3)).toInt ∧ (f (i + 3)).toInt ≤ 2) ∧ u.1 = .inl (some (.int (Int32.ofNat 0))) ∧ et_pl (eg_at u.2.1 am) 0 = some (.int (Int32.ofNat 2)) ∧ zyM u.2.1 aw (cn 4) V_) ∨ ((0 < (f (i + 2)).toInt ∧ (f (i + 2)).toInt < 65536 ∧ 0 ≤ (f (i + 3)).toInt ∧ (f (i + 3)).toInt ≤ 2) ∧ (V_ n).1 = 6 ∧ u.1 = .inl (some (.int (Int32.ofNat 0))) ∧ et_pl (eg_at u.2.1 am) 0 = some (.int (Int32.ofNat 3)) ∧ zyM u.2.1 aw (cn 4) V_) ∨ ∃ k, (((f (i + 3)) = Int32.ofNat k ∧ k ≤ 2) ∧ (0 < (f (i + 2)).toInt ∧ (f (i + 2)).toInt < 65536) ∧ (V_ n).1 < 6) ∧ u.1 = .inl (some (.int (Int32.ofNat (V_ n).1))) ∧ et_pl (eg_at u.2.1 am) 0 = some (.int (Int32.ofNat 0)) ∧ zyM u.2.1 aw (cn 4) (vup V_ n (wiV (V_ n) (f (i + 2)) k)))) hu (fun v604 K604 G604 c604 s604 x604 f604 hH hv604 cl604 sl604 hQ => ?_))
    have zz_ := zz_.fr zk_ k_th hrc.1.1 hrc.1.2.1 f604 (by decide +kernel)
    have zi_ := zi_.fr (fun n hn => zo_ (3 + n) (by omega)) zki_ f604 (by decide +kernel)
    have zk_ := zk_.ex x604
    have zka_ := x604 _ _ zka_
    have zki_ := x604 _ _ zki_
    have hfy := hfy.fr k_th hrc.1.1 x604 f604 (by decide +kernel)
    have hsy := hsy.fr k_th x604 f604 (by decide +kernel)
    have hty := hty.fr x604 hHo f604 (by decide +kernel)
    have hcy := hcy.fr x604 f604 (by decide +kernel)
    have hry := hry.fr hHo x604 f604 (by decide +kernel)
    have hci := hci.fr x604 f604 (by decide +kernel)
    have h3 := (f604.2 th 12 k_th 3 rfl).trans h3
    have hl := (f604.2 rd 7 k_rd 1 rfl).trans hl
    have hm := (f604.2 am 13 k_am 5 rfl).trans hm
    have hp := (f604.2 th 12 k_th 2 rfl).trans hp
    have hg := (f604.2 am 13 k_am 3 rfl).trans hg
    have htC := htC.fr k_rd x604 f604 (by decide +kernel)
    have htM := htM.fr k_am x604 f604 (by decide +kernel)
    have hrc := hrc.fr k_th x604 f604 (by decide +kernel)
    have hrm := hrm.fr k_am x604 f604 (by decide +kernel)
    have ho := (f604.2 out 31 k_out 0 rfl).trans ho
    have k_th := x604 _ _ k_th
    have k_am := x604 _ _ k_am
    have k_out := x604 _ _ k_out
    have k_rd := x604 _ _ k_rd
    rcases hQ with ⟨dx, ev2, ht, zm_⟩ | ⟨n1, ⟨en1, hn1⟩, ⟨dw, ev2, ht, zm_⟩ | ⟨dw, d6, ev2, ht, zm_⟩ | ⟨k1, ⟨⟨ek1, hk1⟩, cy1, d6⟩, ev2, ht, zm_⟩⟩
    · exact absurd (xr_m en0 hn0 (by omega)) dx
    · obtain rfl : n0 = n1 := (hs_neq (by have h9_ := (zo_ n0 (by omega)).1.1; omega) (by have h9_ := (zo_ n0 (by omega)).1.1; omega)).mp (en0.symm.trans en1)
      exact absurd (show _ ∧ _ ∧ _ ∧ _ from ⟨cy0.1, cy0.2, by rw [ek0, hs_nint (by omega)]; omega, by rw [ek0, hs_nint (by omega)]; omega⟩) dw
    · obtain rfl : n0 = n1 := (hs_neq (by have h9_ := (zo_ n0 (by omega)).1.1; omega) (by have h9_ := (zo_ n0 (by omega)).1.1; omega)).mp (en0.symm.trans en1)
      exact absurd d6 (Nat.ne_of_lt c6)
    · obtain rfl : n0 = n1 := (hs_neq (by have h9_ := (zo_ n0 (by omega)).1.1; omega) (by have h9_ := (zo_ n0 (by omega)).1.1; omega)).mp (en0.symm.trans en1)
      obtain rfl : k0 = k1 := (hs_neq (by have h9_ := (zo_ n0 (by omega)).1.1; omega) (by have h9_ := (zo_ n0 (by omega)).1.1; omega)).mp (ek0.symm.trans ek1)
      cases ev2
      have hzy : zy K604 G604 th s0 s1 aw ai (cn 4) (im 4) := ⟨ya_, yb_, O_, A_, (vup V_ n0 (wiV (V_ n0) (f (i + 2)) k0)), ⟨zk_, zka_, zki_⟩, zz_, (vup_o zo_ (wiV_o (zo_ n0 (by omega)) c6 hk0)), zm_, (vup_3 zi_ (by omega))⟩
      show et_go _ _ 1000 607 [some (.ref 150), some (.ref th), some (.ref am), some (.ref out), some (.int (Int32.ofNat i)), some (.int (Int32.ofNat 0)), x6] [.int (Int32.ofNat (V_ n0).1)] _ ((ck + c580) + c604) ((sk + s580) + s604) _
      refine ls_istore (i := 6) (p := 609) (by decide +kernel) (Nat.le_of_ble_eq_true rfl) ?_
      refine ls_goto (p := 1656) (by decide +kernel) ?_
      exact hN _ _ c h _ _ _ _ _ _ ⟨⟨hH, hci, k_th, k_am, k_out, h3, k_rd, hl, hm, hc⟩, ⟨hh1, hp, hg⟩, hrc, hrm, hbc, hbi, ⟨hry, hcy, hty, hzy, hsy, hfy⟩, _, htC, htM, htb⟩ (by omega) (by omega)
set_option maxHeartbeats 2000000 in
theorem lw_c12 (hI : lw_I K G th am out rd s0 s1 aw ai tp ba na tm c h cn im) (hi : i + 6 ≤ n) (hn : n ≤ 3072) (hN : ∀ (K' : et_K) (G' : eg_G) (c' h' : Nat) (cn' im' : Nat → Nat) (ck' sk' : Nat) (y5 y6 : Option Value), lw_I K' G' th am out rd s0 s1 aw ai tp ba na tm c' h' cn' im' → ck' ≤ ck + 841 → sk' ≤ sk + 7168 → et_go (some (n, f)) (d + 41) 1000 1656 [some (.ref 150), some (.ref th), some (.ref am), some (.ref out), some (.int (Int32.ofNat i)), y5, y6] [] G' ck' sk' Z) : et_go (some (n, f)) (d + 41) 1000 612 [some (.ref 150), some (.ref th), some (.ref am), some (.ref out), some (.int (Int32.ofNat i)), x5, x6] [] G ck sk Z := by
  obtain ⟨⟨hH, hci, k_th, k_am, k_out, h3, k_rd, hl, hm, hc⟩, ⟨hh1, hp, hg⟩, hrc, hrm, hbc, hbi, ⟨hry, hcy, hty, hzy, hsy, hfy⟩, tb, htC, htM, htb⟩ := hI
  refine ls_aload (i := 1) (p := 613) (by decide +kernel) rfl ?_
  refine ls_arg (j := 1) (by decide +kernel) (by omega) hn ?_
  refine ls_arg (j := 2) (by decide +kernel) (by omega) hn ?_
  refine ls_arg (j := 3) (by decide +kernel) (by omega) hn ?_
  refine ls_aload (i := 3) (p := 632) (by decide +kernel) rfl ?_
  refine ls_calls (mi := 8) (na := 5) (lk := 7) (lm := 6) (L0 := eg_en (eg_mL 8) [.ref th, .int (f (i + 1)), .int (f (i + 2)), .int (f (i + 3)), .ref out]) (by decide +kernel) rfl rfl rfl rfl rfl rfl (by rw [show eg_mL 8 = 6 from by decide +kernel]; first | done | rfl) ?_
  have hHo := hH
  have b4 : cn 4 ≤ 3 := Int.ofNat_le.mp (hf_bd (t := 10) hH hrc.1.1 rfl rfl (hrc.2.2 (5, 4) (by decide)).1 (hbc 4))
  obtain ⟨ya_, yb_, O_, A_, V_, ⟨zk_, zka_, zki_⟩, zz_, zo_, zm_, zi_⟩ := hzy
  have zz9 := zz_
  have hfy9 := hfy
  have ks9 := hrc.1.1
  have kt9 := k_th
  have ko9 := k_out
  refine ((hh_c8 (K, [], G) [.ref th, .int (f (i + 1)), .int (f (i + 2)), .int (f (i + 3)), .ref out] _ hH (by omega) rfl (ht_ac (.inr ⟨by decide, _, rfl, k_th⟩) (ht_ac hi_any (ht_ac hi_any (ht_ac hi_any (ht_ac (.inr ⟨by decide, _, rfl, k_out⟩) ht_an)))))).and (fz_knob hH k_th hrc.2.1.1 hrc.1.1 hrc.1.2.1 (hrc.2.2 (5, 4) (by decide)).1 b4 zk_ zz_ zo_ k_out (by omega))).mono (fun u hu => ls_cbvQ (Q := fun u => (¬ xr (f (i + 1)) (cn 4) ∧ u.1 = .inl (some (.int (Int32.ofNat 1))) ∧ ez u.2.1 th s0 s1 ya_ yb_ O_ A_ V_) ∨ ∃ n, ((f (i + 1)) = Int32.ofNat n ∧ n < cn 4) ∧ ((¬ (f (i + 2)) = (-1) ∧ ¬ xr (f (i + 2)) (V_ n).1 ∧ u.1 = .inl (some (.int (Int32.ofNat 1))) ∧ ez u.2.1 th s0 s1 ya_ yb_ O_ A_ V_) ∨ ((f (i + 2)) = (-1) ∧ ¬ (-2000 ≤ (f (i + 3)).toInt ∧ (f (i + 3)).toInt ≤ 2000) ∧ u.1 = .inl (some (.int (Int32.ofNat 2))) ∧ ez u.2.1 th s0 s1 ya_ yb_ O_ A_ V_) ∨ ((f (i + 2)) = (-1) ∧ (-2000 ≤ (f (i + 3)).toInt ∧ (f (i + 3)).toInt ≤ 2000) ∧ u.1 = .inl (some (.int (Int32.ofNat 0))) ∧ et_pl (eg_at u.2.1 out) 0 = some (.long (Int64.ofNat (if (V_ n).2.2.2.2.1 = (f (i + 3)) then 0 else 1))) ∧ ez u.2.1 th s0 s1 ya_ yb_ O_ A_ (vup V_ n (klV (V_ n) (f (i + 3))))) ∨ ∃ m, ((f (i + 2)) = Int32.ofNat m ∧ m < (V_ n).1) ∧ ((¬ (-200 ≤ (f (i + 3)).toInt ∧ (f (i + 3)).toInt ≤ 200) ∧ u.1 = .inl (some (.int (Int32.ofNat 2))) ∧ ez u.2.1 th s0 s1 ya_ yb_ O_ A_ V_) ∨ ((-200 ≤ (f (i + 3)).toInt ∧ (f (i + 3)).toInt ≤ 200) ∧ u.1 = .inl (some (.int (Int32.ofNat 0))) ∧ et_pl (eg_at u.2.1 out) 0 = some (.long (Int64.ofNat (if (V_ n).2.2.2.1 m = (f (i + 3)) then 0 else 1))) ∧ ez u.2.1 th s0 s1 ya_ yb_ O_ A_ (vup V_ n (kkV (V_ n) m (f (i + 3)))))))) hu (fun v632 K632 G632 c632 s632 x632 f632 hH hv632 cl632 sl632 hQ => ?_))
  have zm_ := zm_.fr (fun n hn => zo_ n (by omega)) zka_ f632 (by decide +kernel)
  have zi_ := zi_.fr (fun n hn => zo_ (3 + n) (by omega)) zki_ f632 (by decide +kernel)
  have zk_ := zk_.ex x632
  have zka_ := x632 _ _ zka_
  have zki_ := x632 _ _ zki_
  have hsy := hsy.fr k_th x632 f632 (by decide +kernel)
  have hty := hty.fr x632 hHo f632 (by decide +kernel)
  have hcy := hcy.fr x632 f632 (by decide +kernel)
  have hry := hry.fr hHo x632 f632 (by decide +kernel)
  have hci := hci.fr x632 f632 (by decide +kernel)
  have h3 := (f632.2 th 12 k_th 3 rfl).trans h3
  have hl := (f632.2 rd 7 k_rd 1 rfl).trans hl
  have hm := (f632.2 am 13 k_am 5 rfl).trans hm
  have hp := (f632.2 th 12 k_th 2 rfl).trans hp
  have hg := (f632.2 am 13 k_am 3 rfl).trans hg
  have htC := htC.fr k_rd x632 f632 (by decide +kernel)
  have htM := htM.fr k_am x632 f632 (by decide +kernel)
  have hrc := hrc.fr k_th x632 f632 (by decide +kernel)
  have hrm := hrm.fr k_am x632 f632 (by decide +kernel)
  have k_th := x632 _ _ k_th
  have k_am := x632 _ _ k_am
  have k_out := x632 _ _ k_out
  have k_rd := x632 _ _ k_rd
  rcases hQ with ⟨cx, ev, zz_⟩ | ⟨n0, ⟨en0, hn0⟩, ⟨cy1, cy2, ev, zz_⟩ | ⟨cy1, cl, ev, zz_⟩ | ⟨cy1, cl, ev, ho, zz_⟩ | ⟨m0, ⟨em0, hm0⟩, ⟨ckn, ev, zz_⟩ | ⟨ckn, ev, ho, zz_⟩⟩⟩
  · cases ev
    have hfy : fyR K632 G632 th s0 (cn 3) := hfy9.uz x632 ks9 zz9 zo_ zz_ (fun n hn => coreE.rf) f632 (by decide +kernel) (fun j hj => by rcases hj with rfl | rfl | rfl <;> exact f632.2 th 12 kt9 _ rfl)
    show et_go _ _ 1000 635 [some (.ref 150), some (.ref th), some (.ref am), some (.ref out), some (.int (Int32.ofNat i)), x5, x6] [.int (Int32.ofNat 1)] _ (ck + c632) (sk + s632) _
    refine ls_istore (i := 5) (p := 637) (by decide +kernel) (Nat.le_of_ble_eq_true rfl) ?_
    refine ls_aload (i := 2) (p := 638) (by decide +kernel) rfl ?_
    refine ls_arg (j := 1) (by decide +kernel) (by omega) hn ?_
    refine ls_arg (j := 2) (by decide +kernel) (by omega) hn ?_
    refine ls_arg (j := 3) (by decide +kernel) (by omega) hn ?_
    refine lt_callv (T := et_TT) (t := 13) (mi := 227) (na := 3) (ci := 11) (lk := 7) (lm := 6) (L0 := eg_en (eg_mL 227) [.ref am, .int (f (i + 1)), .int (f (i + 2)), .int (f (i + 3))]) (by decide +kernel) rfl hH k_am rfl rfl rfl rfl rfl (by rw [show eg_mL 227 = 6 from by decide +kernel]; first | done | rfl) ?_
    have hHo := hH
    refine ((er_p227_ok (K632, [], G632) [.ref am, .int (f (i + 1)), .int (f (i + 2)), .int (f (i + 3))] _ hH (by omega) rfl (ht_ac (.inr ⟨by decide, _, rfl, k_am⟩) (ht_ac hi_any (ht_ac hi_any (ht_ac hi_any ht_an))))).and (gz_knob hH k_am hrm.1.1 hrm.2.1.1 (hrm.2.2 (5, 4) (by decide)).1 b4 zm_ (fun n hn => zo_ n (by omega)) (by omega))).mono (fun u hu => ls_cbvQ (Q := fun u => (¬ xr (f (i + 1)) (cn 4) ∧ u.1 = .inl (some (.int (Int32.ofNat 0))) ∧ et_pl (eg_at u.2.1 am) 0 = some (.int (Int32.ofNat 1)) ∧ zyM u.2.1 aw (cn 4) V_) ∨ ∃ n, ((f (i + 1)) = Int32.ofNat n ∧ n < cn 4) ∧ ((¬ (f (i + 2)) = (-1) ∧ ¬ xr (f (i + 2)) (V_ n).1 ∧ u.1 = .inl (some (.int (Int32.ofNat 0))) ∧ et_pl (eg_at u.2.1 am) 0 = some (.int (Int32.ofNat 1)) ∧ zyM u.2.1 aw (cn 4) V_) ∨ ((f (i + 2)) = (-1) ∧ ¬ (-2000 ≤ (f (i + 3)).toInt ∧ (f (i + 3)).toInt ≤ 2000) ∧ u.1 = .inl (some (.int (Int32.ofNat 0))) ∧ et_pl (eg_at u.2.1 am) 0 = some (.int (Int32.ofNat 2)) ∧ zyM u.2.1 aw (cn 4) V_) ∨ ((f (i + 2)) = (-1) ∧ (-2000 ≤ (f (i + 3)).toInt ∧ (f (i + 3)).toInt ≤ 2000) ∧ u.1 = .inl (some (.int (Int32.ofNat (if (V_ n).2.2.2.2.1 = (f (i + 3)) then 0 else 1)))) ∧ et_pl (eg_at u.2.1 am) 0 = some (.int (Int32.ofNat 0)) ∧ zyM u.2.1 aw (cn 4) (vup V_ n (klV (V_ n) (f (i + 3))))) ∨ ∃ m, ((f (i + 2)) = Int32.ofNat m ∧ m < (V_ n).1) ∧ ((¬ (-200 ≤ (f (i + 3)).toInt ∧ (f (i + 3)).toInt ≤ 200) ∧ u.1 = .inl (some (.int (Int32.ofNat 0))) ∧ et_pl (eg_at u.2.1 am) 0 = some (.int (Int32.ofNat 2)) ∧ zyM u.2.1 aw (cn 4) V_) ∨ ((-200 ≤ (f (i + 3)).toInt ∧ (f (i + 3)).toInt ≤ 200) ∧ u.1 = .inl (some (.int (Int32.ofNat (if (V_ n).2.2.2.1 m = (f (i + 3)) then 0 else 1)))) ∧ et_pl (eg_at u.2.1 am) 0 = some (.int (Int32.ofNat 0)) ∧ zyM u.2.1 aw (cn 4) (vup V_ n (kkV (V_ n) m (f (i + 3)))))))) hu (fun v656 K656 G656 c656 s656 x656 f656 hH hv656 cl656 sl656 hQ => ?_))
    have zz_ := zz_.fr zk_ k_th hrc.1.1 hrc.1.2.1 f656 (by decide +kernel)
    have zi_ := zi_.fr (fun n hn => zo_ (3 + n) (by omega)) zki_ f656 (by decide +kernel)
    have zk_ := zk_.ex x656
    have zka_ := x656 _ _ zka_
    have zki_ := x656 _ _ zki_
    have hfy := hfy.fr k_th hrc.1.1 x656 f656 (by decide +kernel)
    have hsy := hsy.fr k_th x656 f656 (by decide +kernel)
    have hty := hty.fr x656 hHo f656 (by decide +kernel)
    have hcy := hcy.fr x656 f656 (by decide +kernel)
    have hry := hry.fr hHo x656 f656 (by decide +kernel)
    have hci := hci.fr x656 f656 (by decide +kernel)
    have h3 := (f656.2 th 12 k_th 3 rfl).trans h3
    have hl := (f656.2 rd 7 k_rd 1 rfl).trans hl
    have hm := (f656.2 am 13 k_am 5 rfl).trans hm
    have hp := (f656.2 th 12 k_th 2 rfl).trans hp
    have hg := (f656.2 am 13 k_am 3 rfl).trans hg
    have htC := htC.fr k_rd x656 f656 (by decide +kernel)
    have htM := htM.fr k_am x656 f656 (by decide +kernel)
    have hrc := hrc.fr k_th x656 f656 (by decide +kernel)
    have hrm := hrm.fr k_am x656 f656 (by decide +kernel)
    have k_th := x656 _ _ k_th
    have k_am := x656 _ _ k_am
    have k_out := x656 _ _ k_out
    have k_rd := x656 _ _ k_rd
    rcases hQ with ⟨dx, ev2, ht, zm_⟩ | ⟨n1, ⟨en1, hn1⟩, ⟨dy1, dy2, ev2, ht, zm_⟩ | ⟨dy1, dl, ev2, ht, zm_⟩ | ⟨dy1, dl, ev2, ht, zm_⟩ | ⟨m1, ⟨em1, hm1⟩, ⟨dkn, ev2, ht, zm_⟩ | ⟨dkn, ev2, ht, zm_⟩⟩⟩
    · cases ev2
      have hzy : zy K656 G656 th s0 s1 aw ai (cn 4) (im 4) := ⟨ya_, yb_, O_, A_, V_, ⟨zk_, zka_, zki_⟩, zz_, zo_, zm_, zi_⟩
      show et_go _ _ 1000 659 [some (.ref 150), some (.ref th), some (.ref am), some (.ref out), some (.int (Int32.ofNat i)), some (.int (Int32.ofNat 1)), x6] [.int (Int32.ofNat 0)] _ ((ck + c632) + c656) ((sk + s632) + s656) _
      refine ls_istore (i := 6) (p := 661) (by decide +kernel) (Nat.le_of_ble_eq_true rfl) ?_
      refine ls_goto (p := 1656) (by decide +kernel) ?_
      exact hN _ _ c h _ _ _ _ _ _ ⟨⟨hH, hci, k_th, k_am, k_out, h3, k_rd, hl, hm, hc⟩, ⟨hh1, hp, hg⟩, hrc, hrm, hbc, hbi, ⟨hry, hcy, hty, hzy, hsy, hfy⟩, _, htC, htM, htb⟩ (by omega) (by omega)
    · exact absurd (xr_m en1 hn1 (by omega)) cx
    · exact absurd (xr_m en1 hn1 (by omega)) cx
    · exact absurd (xr_m en1 hn1 (by omega)) cx
    · exact absurd (xr_m en1 hn1 (by omega)) cx
    · exact absurd (xr_m en1 hn1 (by omega)) cx
  · cases ev
    have hfy : fyR K632 G632 th s0 (cn 3) := hfy9.uz x632 ks9 zz9 zo_ zz_ (fun n hn => coreE.rf) f632 (by decide +kernel) (fun j hj => by rcases hj with rfl | rfl | rfl <;> exact f632.2 th 12 kt9 _ rfl)
    show et_go _ _ 1000 635 [some (.ref 150), some (.ref th), some (.ref am), some (.ref out), some (.int (Int32.ofNat i)), x5, x6] [.int (Int32.ofNat 1)] _ (ck + c632) (sk + s632) _
    refine ls_istore (i := 5) (p := 637) (by decide +kernel) (Nat.le_of_ble_eq_true rfl) ?_
    refine ls_aload (i := 2) (p := 638) (by decide +kernel) rfl ?_
    refine ls_arg (j := 1) (by decide +kernel) (by omega) hn ?_
    refine ls_arg (j := 2) (by decide +kernel) (by omega) hn ?_
    refine ls_arg (j := 3) (by decide +kernel) (by omega) hn ?_
    refine lt_callv (T := et_TT) (t := 13) (mi := 227) (na := 3) (ci := 11) (lk := 7) (lm := 6) (L0 := eg_en (eg_mL 227) [.ref am, .int (f (i + 1)), .int (f (i + 2)), .int (f (i + 3))]) (by decide +kernel) rfl hH k_am rfl rfl rfl rfl rfl (by rw [show eg_mL 227 = 6 from by decide +kernel]; first | done | rfl) ?_
    have hHo := hH
    refine ((er_p227_ok (K632, [], G632) [.ref am, .int (f (i + 1)), .int (f (i + 2)), .int (f (i + 3))] _ hH (by omega) rfl (ht_ac (.inr ⟨by decide, _, rfl, k_am⟩) (ht_ac hi_any (ht_ac hi_any (ht_ac hi_any ht_an))))).and (gz_knob hH k_am hrm.1.1 hrm.2.1.1 (hrm.2.2 (5, 4) (by decide)).1 b4 zm_ (fun n hn => zo_ n (by omega)) (by omega))).mono (fun u hu => ls_cbvQ (Q := fun u => (¬ xr (f (i + 1)) (cn 4) ∧ u.1 = .inl (some (.int (Int32.ofNat 0))) ∧ et_pl (eg_at u.2.1 am) 0 = some (.int (Int32.ofNat 1)) ∧ zyM u.2.1 aw (cn 4) V_) ∨ ∃ n, ((f (i + 1)) = Int32.ofNat n ∧ n < cn 4) ∧ ((¬ (f (i + 2)) = (-1) ∧ ¬ xr (f (i + 2)) (V_ n).1 ∧ u.1 = .inl (some (.int (Int32.ofNat 0))) ∧ et_pl (eg_at u.2.1 am) 0 = some (.int (Int32.ofNat 1)) ∧ zyM u.2.1 aw (cn 4) V_) ∨ ((f (i + 2)) = (-1) ∧ ¬ (-2000 ≤ (f (i + 3)).toInt ∧ (f (i + 3)).toInt ≤ 2000) ∧ u.1 = .inl (some (.int (Int32.ofNat 0))) ∧ et_pl (eg_at u.2.1 am) 0 = some (.int (Int32.ofNat 2)) ∧ zyM u.2.1 aw (cn 4) V_) ∨ ((f (i + 2)) = (-1) ∧ (-2000 ≤ (f (i + 3)).toInt ∧ (f (i + 3)).toInt ≤ 2000) ∧ u.1 = .inl (some (.int (Int32.ofNat (if (V_ n).2.2.2.2.1 = (f (i + 3)) then 0 else 1)))) ∧ et_pl (eg_at u.2.1 am) 0 = some (.int (Int32.ofNat 0)) ∧ zyM u.2.1 aw (cn 4) (vup V_ n (klV (V_ n) (f (i + 3))))) ∨ ∃ m, ((f (i + 2)) = Int32.ofNat m ∧ m < (V_ n).1) ∧ ((¬ (-200 ≤ (f (i + 3)).toInt ∧ (f (i + 3)).toInt ≤ 200) ∧ u.1 = .inl (some (.int (Int32.ofNat 0))) ∧ et_pl (eg_at u.2.1 am) 0 = some (.int (Int32.ofNat 2)) ∧ zyM u.2.1 aw (cn 4) V_) ∨ ((-200 ≤ (f (i + 3)).toInt ∧ (f (i + 3)).toInt ≤ 200) ∧ u.1 = .inl (some (.int (Int32.ofNat (if (V_ n).2.2.2.1 m = (f (i + 3)) then 0 else 1)))) ∧ et_pl (eg_at u.2.1 am) 0 = some (.int (Int32.ofNat 0)) ∧ zyM u.2.1 aw (cn 4) (vup V_ n (kkV (V_ n) m (f (i + 3)))))))) hu (fun v656 K656 G656 c656 s656 x656 f656 hH hv656 cl656 sl656 hQ => ?_))
    have zz_ := zz_.fr zk_ k_th hrc.1.1 hrc.1.2.1 f656 (by decide +kernel)
    have zi_ := zi_.fr (fun n hn => zo_ (3 + n) (by omega)) zki_ f656 (by decide +kernel)
    have zk_ := zk_.ex x656
    have zka_ := x656 _ _ zka_
    have zki_ := x656 _ _ zki_
    have hfy := hfy.fr k_th hrc.1.1 x656 f656 (by decide +kernel)
    have hsy := hsy.fr k_th x656 f656 (by decide +kernel)
    have hty := hty.fr x656 hHo f656 (by decide +kernel)
    have hcy := hcy.fr x656 f656 (by decide +kernel)
    have hry := hry.fr hHo x656 f656 (by decide +kernel)
    have hci := hci.fr x656 f656 (by decide +kernel)
    have h3 := (f656.2 th 12 k_th 3 rfl).trans h3
    have hl := (f656.2 rd 7 k_rd 1 rfl).trans hl
    have hm := (f656.2 am 13 k_am 5 rfl).trans hm
    have hp := (f656.2 th 12 k_th 2 rfl).trans hp
    have hg := (f656.2 am 13 k_am 3 rfl).trans hg
    have htC := htC.fr k_rd x656 f656 (by decide +kernel)
    have htM := htM.fr k_am x656 f656 (by decide +kernel)
    have hrc := hrc.fr k_th x656 f656 (by decide +kernel)
    have hrm := hrm.fr k_am x656 f656 (by decide +kernel)
    have k_th := x656 _ _ k_th
    have k_am := x656 _ _ k_am
    have k_out := x656 _ _ k_out
    have k_rd := x656 _ _ k_rd
    rcases hQ with ⟨dx, ev2, ht, zm_⟩ | ⟨n1, ⟨en1, hn1⟩, ⟨dy1, dy2, ev2, ht, zm_⟩ | ⟨dy1, dl, ev2, ht, zm_⟩ | ⟨dy1, dl, ev2, ht, zm_⟩ | ⟨m1, ⟨em1, hm1⟩, ⟨dkn, ev2, ht, zm_⟩ | ⟨dkn, ev2, ht, zm_⟩⟩⟩
    · exact absurd (xr_m en0 hn0 (by omega)) dx
    · obtain rfl : n0 = n1 := (hs_neq (by have h9_ := (zo_ n0 (by omega)).1.1; omega) (by have h9_ := (zo_ n0 (by omega)).1.1; omega)).mp (en0.symm.trans en1)
      cases ev2
      have hzy : zy K656 G656 th s0 s1 aw ai (cn 4) (im 4) := ⟨ya_, yb_, O_, A_, V_, ⟨zk_, zka_, zki_⟩, zz_, zo_, zm_, zi_⟩
      show et_go _ _ 1000 659 [some (.ref 150), some (.ref th), some (.ref am), some (.ref out), some (.int (Int32.ofNat i)), some (.int (Int32.ofNat 1)), x6] [.int (Int32.ofNat 0)] _ ((ck + c632) + c656) ((sk + s632) + s656) _
      refine ls_istore (i := 6) (p := 661) (by decide +kernel) (Nat.le_of_ble_eq_true rfl) ?_
      refine ls_goto (p := 1656) (by decide +kernel) ?_
      exact hN _ _ c h _ _ _ _ _ _ ⟨⟨hH, hci, k_th, k_am, k_out, h3, k_rd, hl, hm, hc⟩, ⟨hh1, hp, hg⟩, hrc, hrm, hbc, hbi, ⟨hry, hcy, hty, hzy, hsy, hfy⟩, _, htC, htM, htb⟩ (by omega) (by omega)
    · obtain rfl : n0 = n1 := (hs_neq (by have h9_ := (zo_ n0 (by omega)).1.1; omega) (by have h9_ := (zo_ n0 (by omega)).1.1; omega)).mp (en0.symm.trans en1)
      exact absurd dy1 cy1
    · obtain rfl : n0 = n1 := (hs_neq (by have h9_ := (zo_ n0 (by omega)).1.1; omega) (by have h9_ := (zo_ n0 (by omega)).1.1; omega)).mp (en0.symm.trans en1)
      exact absurd dy1 cy1
    · obtain rfl : n0 = n1 := (hs_neq (by have h9_ := (zo_ n0 (by omega)).1.1; omega) (by have h9_ := (zo_ n0 (by omega)).1.1; omega)).mp (en0.symm.trans en1)
      exact absurd (xr_m em1 hm1 (Nat.le_trans (zo_ n0 (by omega)).1.1 (by decide))) cy2
    · obtain rfl : n0 = n1 := (hs_neq (by have h9_ := (zo_ n0 (by omega)).1.1; omega) (by have h9_ := (zo_ n0 (by omega)).1.1; omega)).mp (en0.symm.trans en1)
      exact absurd (xr_m em1 hm1 (Nat.le_trans (zo_ n0 (by omega)).1.1 (by decide))) cy2
  · cases ev
    have hfy : fyR K632 G632 th s0 (cn 3) := hfy9.uz x632 ks9 zz9 zo_ zz_ (fun n hn => coreE.rf) f632 (by decide +kernel) (fun j hj => by rcases hj with rfl | rfl | rfl <;> exact f632.2 th 12 kt9 _ rfl)
    show et_go _ _ 1000 635 [some (.ref 150), some (.ref th), some (.ref am), some (.ref out), some (.int (Int32.ofNat i)), x5, x6] [.int (Int32.ofNat 2)] _ (ck + c632) (sk + s632) _
    refine ls_istore (i := 5) (p := 637) (by decide +kernel) (Nat.le_of_ble_eq_true rfl) ?_
    refine ls_aload (i := 2) (p := 638) (by decide +kernel) rfl ?_
    refine ls_arg (j := 1) (by decide +kernel) (by omega) hn ?_
    refine ls_arg (j := 2) (by decide +kernel) (by omega) hn ?_
    refine ls_arg (j := 3) (by decide +kernel) (by omega) hn ?_
    refine lt_callv (T := et_TT) (t := 13) (mi := 227) (na := 3) (ci := 11) (lk := 7) (lm := 6) (L0 := eg_en (eg_mL 227) [.ref am, .int (f (i + 1)), .int (f (i + 2)), .int (f (i + 3))]) (by decide +kernel) rfl hH k_am rfl rfl rfl rfl rfl (by rw [show eg_mL 227 = 6 from by decide +kernel]; first | done | rfl) ?_
    have hHo := hH
    refine ((er_p227_ok (K632, [], G632) [.ref am, .int (f (i + 1)), .int (f (i + 2)), .int (f (i + 3))] _ hH (by omega) rfl (ht_ac (.inr ⟨by decide, _, rfl, k_am⟩) (ht_ac hi_any (ht_ac hi_any (ht_ac hi_any ht_an))))).and (gz_knob hH k_am hrm.1.1 hrm.2.1.1 (hrm.2.2 (5, 4) (by decide)).1 b4 zm_ (fun n hn => zo_ n (by omega)) (by omega))).mono (fun u hu => ls_cbvQ (Q := fun u => (¬ xr (f (i + 1)) (cn 4) ∧ u.1 = .inl (some (.int (Int32.ofNat 0))) ∧ et_pl (eg_at u.2.1 am) 0 = some (.int (Int32.ofNat 1)) ∧ zyM u.2.1 aw (cn 4) V_) ∨ ∃ n, ((f (i + 1)) = Int32.ofNat n ∧ n < cn 4) ∧ ((¬ (f (i + 2)) = (-1) ∧ ¬ xr (f (i + 2)) (V_ n).1 ∧ u.1 = .inl (some (.int (Int32.ofNat 0))) ∧ et_pl (eg_at u.2.1 am) 0 = some (.int (Int32.ofNat 1)) ∧ zyM u.2.1 aw (cn 4) V_) ∨ ((f (i + 2)) = (-1) ∧ ¬ (-2000 ≤ (f (i + 3)).toInt ∧ (f (i + 3)).toInt ≤ 2000) ∧ u.1 = .inl (some (.int (Int32.ofNat 0))) ∧ et_pl (eg_at u.2.1 am) 0 = some (.int (Int32.ofNat 2)) ∧ zyM u.2.1 aw (cn 4) V_) ∨ ((f (i + 2)) = (-1) ∧ (-2000 ≤ (f (i + 3)).toInt ∧ (f (i + 3)).toInt ≤ 2000) ∧ u.1 = .inl (some (.int (Int32.ofNat (if (V_ n).2.2.2.2.1 = (f (i + 3)) then 0 else 1)))) ∧ et_pl (eg_at u.2.1 am) 0 = some (.int (Int32.ofNat 0)) ∧ zyM u.2.1 aw (cn 4) (vup V_ n (klV (V_ n) (f (i + 3))))) ∨ ∃ m, ((f (i + 2)) = Int32.ofNat m ∧ m < (V_ n).1) ∧ ((¬ (-200 ≤ (f (i + 3)).toInt ∧ (f (i + 3)).toInt ≤ 200) ∧ u.1 = .inl (some (.int (Int32.ofNat 0))) ∧ et_pl (eg_at u.2.1 am) 0 = some (.int (Int32.ofNat 2)) ∧ zyM u.2.1 aw (cn 4) V_) ∨ ((-200 ≤ (f (i + 3)).toInt ∧ (f (i + 3)).toInt ≤ 200) ∧ u.1 = .inl (some (.int (Int32.ofNat (if (V_ n).2.2.2.1 m = (f (i + 3)) then 0 else 1)))) ∧ et_pl (eg_at u.2.1 am) 0 = some (.int (Int32.ofNat 0)) ∧ zyM u.2.1 aw (cn 4) (vup V_ n (kkV (V_ n) m (f (i + 3)))))))) hu (fun v656 K656 G656 c656 s656 x656 f656 hH hv656 cl656 sl656 hQ => ?_))
    have zz_ := zz_.fr zk_ k_th hrc.1.1 hrc.1.2.1 f656 (by decide +kernel)
    have zi_ := zi_.fr (fun n hn => zo_ (3 + n) (by omega)) zki_ f656 (by decide +kernel)
    have zk_ := zk_.ex x656
    have zka_ := x656 _ _ zka_
    have zki_ := x656 _ _ zki_
    have hfy := hfy.fr k_th hrc.1.1 x656 f656 (by decide +kernel)
    have hsy := hsy.fr k_th x656 f656 (by decide +kernel)
    have hty := hty.fr x656 hHo f656 (by decide +kernel)
    have hcy := hcy.fr x656 f656 (by decide +kernel)
    have hry := hry.fr hHo x656 f656 (by decide +kernel)
    have hci := hci.fr x656 f656 (by decide +kernel)
    have h3 := (f656.2 th 12 k_th 3 rfl).trans h3
    have hl := (f656.2 rd 7 k_rd 1 rfl).trans hl
    have hm := (f656.2 am 13 k_am 5 rfl).trans hm
    have hp := (f656.2 th 12 k_th 2 rfl).trans hp
    have hg := (f656.2 am 13 k_am 3 rfl).trans hg
    have htC := htC.fr k_rd x656 f656 (by decide +kernel)
    have htM := htM.fr k_am x656 f656 (by decide +kernel)
    have hrc := hrc.fr k_th x656 f656 (by decide +kernel)
    have hrm := hrm.fr k_am x656 f656 (by decide +kernel)
    have k_th := x656 _ _ k_th
    have k_am := x656 _ _ k_am
    have k_out := x656 _ _ k_out
    have k_rd := x656 _ _ k_rd
    rcases hQ with ⟨dx, ev2, ht, zm_⟩ | ⟨n1, ⟨en1, hn1⟩, ⟨dy1, dy2, ev2, ht, zm_⟩ | ⟨dy1, dl, ev2, ht, zm_⟩ | ⟨dy1, dl, ev2, ht, zm_⟩ | ⟨m1, ⟨em1, hm1⟩, ⟨dkn, ev2, ht, zm_⟩ | ⟨dkn, ev2, ht, zm_⟩⟩⟩
    · exact absurd (xr_m en0 hn0 (by omega)) dx
    · obtain rfl : n0 = n1 := (hs_neq (by have h9_ := (zo_ n0 (by omega)).1.1; omega) (by have h9_ := (zo_ n0 (by omega)).1.1; omega)).mp (en0.symm.trans en1)
      exact absurd cy1 dy1
    · obtain rfl : n0 = n1 := (hs_neq (by have h9_ := (zo_ n0 (by omega)).1.1; omega) (by have h9_ := (zo_ n0 (by omega)).1.1; omega)).mp (en0.symm.trans en1)
      cases ev2
      have hzy : zy K656 G656 th s0 s1 aw ai (cn 4) (im 4) := ⟨ya_, yb_, O_, A_, V_, ⟨zk_, zka_, zki_⟩, zz_, zo_, zm_, zi_⟩
      show et_go _ _ 1000 659 [some (.ref 150), some (.ref th), some (.ref am), some (.ref out), some (.int (Int32.ofNat i)), some (.int (Int32.ofNat 2)), x6] [.int (Int32.ofNat 0)] _ ((ck + c632) + c656) ((sk + s632) + s656) _
      refine ls_istore (i := 6) (p := 661) (by decide +kernel) (Nat.le_of_ble_eq_true rfl) ?_
      refine ls_goto (p := 1656) (by decide +kernel) ?_
      exact hN _ _ c h _ _ _ _ _ _ ⟨⟨hH, hci, k_th, k_am, k_out, h3, k_rd, hl, hm, hc⟩, ⟨hh1, hp, hg⟩, hrc, hrm, hbc, hbi, ⟨hry, hcy, hty, hzy, hsy, hfy⟩, _, htC, htM, htb⟩ (by omega) (by omega)
    · obtain rfl : n0 = n1 := (hs_neq (by have h9_ := (zo_ n0 (by omega)).1.1; omega) (by have h9_ := (zo_ n0 (by omega)).1.1; omega)).mp (en0.symm.trans en1)
      exact absurd dl cl
    · obtain rfl : n0 = n1 := (hs_neq (by have h9_ := (zo_ n0 (by omega)).1.1; omega) (by have h9_ := (zo_ n0 (by omega)).1.1; omega)).mp (en0.symm.trans en1)
      exact absurd cy1 (fun h => xi_nm1 (by have := (zo_ n0 (by omega)).1.1; omega) (em1.symm.trans h))
    · obtain rfl : n0 = n1 := (hs_neq (by have h9_ := (zo_ n0 (by omega)).1.1; omega) (by have h9_ := (zo_ n0 (by omega)).1.1; omega)).mp (en0.symm.trans en1)
      exact absurd cy1 (fun h => xi_nm1 (by have := (zo_ n0 (by omega)).1.1; omega) (em1.symm.trans h))
  · cases ev
    have hfy : fyR K632 G632 th s0 (cn 3) := hfy9.uz x632 ks9 zz9 zo_ zz_ (fun n hn => coreE.up (by exact ⟨rfl, fun _ _ => ⟨rfl, rfl⟩⟩) n) f632 (by decide +kernel) (fun j hj => by rcases hj with rfl | rfl | rfl <;> exact f632.2 th 12 kt9 _ rfl)
    show et_go _ _ 1000 635 [some (.ref 150), some (.ref th), some (.ref am), some (.ref out), some (.int (Int32.ofNat i)), x5, x6] [.int (Int32.ofNat 0)] _ (ck + c632) (sk + s632) _
    refine ls_istore (i := 5) (p := 637) (by decide +kernel) (Nat.le_of_ble_eq_true rfl) ?_
    refine ls_aload (i := 2) (p := 638) (by decide +kernel) rfl ?_
    refine ls_arg (j := 1) (by decide +kernel) (by omega) hn ?_
    refine ls_arg (j := 2) (by decide +kernel) (by omega) hn ?_
    refine ls_arg (j := 3) (by decide +kernel) (by omega) hn ?_
    refine lt_callv (T := et_TT) (t := 13) (mi := 227) (na := 3) (ci := 11) (lk := 7) (lm := 6) (L0 := eg_en (eg_mL 227) [.ref am, .int (f (i + 1)), .int (f (i + 2)), .int (f (i + 3))]) (by decide +kernel) rfl hH k_am rfl rfl rfl rfl rfl (by rw [show eg_mL 227 = 6 from by decide +kernel]; first | done | rfl) ?_
    have hHo := hH
    refine ((er_p227_ok (K632, [], G632) [.ref am, .int (f (i + 1)), .int (f (i + 2)), .int (f (i + 3))] _ hH (by omega) rfl (ht_ac (.inr ⟨by decide, _, rfl, k_am⟩) (ht_ac hi_any (ht_ac hi_any (ht_ac hi_any ht_an))))).and (gz_knob hH k_am hrm.1.1 hrm.2.1.1 (hrm.2.2 (5, 4) (by decide)).1 b4 zm_ (fun n hn => zo_ n (by omega)) (by omega))).mono (fun u hu => ls_cbvQ (Q := fun u => (¬ xr (f (i + 1)) (cn 4) ∧ u.1 = .inl (some (.int (Int32.ofNat 0))) ∧ et_pl (eg_at u.2.1 am) 0 = some (.int (Int32.ofNat 1)) ∧ zyM u.2.1 aw (cn 4) V_) ∨ ∃ n, ((f (i + 1)) = Int32.ofNat n ∧ n < cn 4) ∧ ((¬ (f (i + 2)) = (-1) ∧ ¬ xr (f (i + 2)) (V_ n).1 ∧ u.1 = .inl (some (.int (Int32.ofNat 0))) ∧ et_pl (eg_at u.2.1 am) 0 = some (.int (Int32.ofNat 1)) ∧ zyM u.2.1 aw (cn 4) V_) ∨ ((f (i + 2)) = (-1) ∧ ¬ (-2000 ≤ (f (i + 3)).toInt ∧ (f (i + 3)).toInt ≤ 2000) ∧ u.1 = .inl (some (.int (Int32.ofNat 0))) ∧ et_pl (eg_at u.2.1 am) 0 = some (.int (Int32.ofNat 2)) ∧ zyM u.2.1 aw (cn 4) V_) ∨ ((f (i + 2)) = (-1) ∧ (-2000 ≤ (f (i + 3)).toInt ∧ (f (i + 3)).toInt ≤ 2000) ∧ u.1 = .inl (some (.int (Int32.ofNat (if (V_ n).2.2.2.2.1 = (f (i + 3)) then 0 else 1)))) ∧ et_pl (eg_at u.2.1 am) 0 = some (.int (Int32.ofNat 0)) ∧ zyM u.2.1 aw (cn 4) (vup V_ n (klV (V_ n) (f (i + 3))))) ∨ ∃ m, ((f (i + 2)) = Int32.ofNat m ∧ m < (V_ n).1) ∧ ((¬ (-200 ≤ (f (i + 3)).toInt ∧ (f (i + 3)).toInt ≤ 200) ∧ u.1 = .inl (some (.int (Int32.ofNat 0))) ∧ et_pl (eg_at u.2.1 am) 0 = some (.int (Int32.ofNat 2)) ∧ zyM u.2.1 aw (cn 4) V_) ∨ ((-200 ≤ (f (i + 3)).toInt ∧ (f (i + 3)).toInt ≤ 200) ∧ u.1 = .inl (some (.int (Int32.ofNat (if (V_ n).2.2.2.1 m = (f (i + 3)) then 0 else 1)))) ∧ et_pl (eg_at u.2.1 am) 0 = some (.int (Int32.ofNat 0)) ∧ zyM u.2.1 aw (cn 4) (vup V_ n (kkV (V_ n) m (f (i + 3)))))))) hu (fun v656 K656 G656 c656 s656 x656 f656 hH hv656 cl656 sl656 hQ => ?_))
    have zz_ := zz_.fr zk_ k_th hrc.1.1 hrc.1.2.1 f656 (by decide +kernel)
    have zi_ := zi_.fr (fun n hn => zo_ (3 + n) (by omega)) zki_ f656 (by decide +kernel)
    have zk_ := zk_.ex x656
    have zka_ := x656 _ _ zka_
    have zki_ := x656 _ _ zki_
    have hfy := hfy.fr k_th hrc.1.1 x656 f656 (by decide +kernel)
    have hsy := hsy.fr k_th x656 f656 (by decide +kernel)
    have hty := hty.fr x656 hHo f656 (by decide +kernel)
    have hcy := hcy.fr x656 f656 (by decide +kernel)
    have hry := hry.fr hHo x656 f656 (by decide +kernel)
    have hci := hci.fr x656 f656 (by decide +kernel)
    have h3 := (f656.2 th 12 k_th 3 rfl).trans h3
    have hl := (f656.2 rd 7 k_rd 1 rfl).trans hl
    have hm := (f656.2 am 13 k_am 5 rfl).trans hm
    have hp := (f656.2 th 12 k_th 2 rfl).trans hp
    have hg := (f656.2 am 13 k_am 3 rfl).trans hg
    have htC := htC.fr k_rd x656 f656 (by decide +kernel)
    have htM := htM.fr k_am x656 f656 (by decide +kernel)
    have hrc := hrc.fr k_th x656 f656 (by decide +kernel)
    have hrm := hrm.fr k_am x656 f656 (by decide +kernel)
    have ho := (f656.2 out 31 k_out 0 rfl).trans ho
    have k_th := x656 _ _ k_th
    have k_am := x656 _ _ k_am
    have k_out := x656 _ _ k_out
    have k_rd := x656 _ _ k_rd
    rcases hQ with ⟨dx, ev2, ht, zm_⟩ | ⟨n1, ⟨en1, hn1⟩, ⟨dy1, dy2, ev2, ht, zm_⟩ | ⟨dy1, dl, ev2, ht, zm_⟩ | ⟨dy1, dl, ev2, ht, zm_⟩ | ⟨m1, ⟨em1, hm1⟩, ⟨dkn, ev2, ht, zm_⟩ | ⟨dkn, ev2, ht, zm_⟩⟩⟩
    · exact absurd (xr_m en0 hn0 (by omega)) dx
    · obtain rfl : n0 = n1 := (hs_neq (by have h9_ := (zo_ n0 (by omega)).1.1; omega) (by have h9_ := (zo_ n0 (by omega)).1.1; omega)).mp (en0.symm.trans en1)
      exact absurd cy1 dy1
    · obtain rfl : n0 = n1 := (hs_neq (by have h9_ := (zo_ n0 (by omega)).1.1; omega) (by have h9_ := (zo_ n0 (by omega)).1.1; omega)).mp (en0.symm.trans en1)
      exact absurd cl dl
    · obtain rfl : n0 = n1 := (hs_neq (by have h9_ := (zo_ n0 (by omega)).1.1; omega) (by have h9_ := (zo_ n0 (by omega)).1.1; omega)).mp (en0.symm.trans en1)
      cases ev2
      have hzy : zy K656 G656 th s0 s1 aw ai (cn 4) (im 4) := ⟨ya_, yb_, O_, A_, (vup V_ n0 (klV (V_ n0) (f (i + 3)))), ⟨zk_, zka_, zki_⟩, zz_, (vup_o zo_ (klV_o (zo_ n0 (by omega)))), zm_, (vup_3 zi_ (by omega))⟩
      show et_go _ _ 1000 659 [some (.ref 150), some (.ref th), some (.ref am), some (.ref out), some (.int (Int32.ofNat i)), some (.int (Int32.ofNat 0)), x6] [.int (Int32.ofNat (if (V_ n0).2.2.2.2.1 = (f (i + 3)) then 0 else 1))] _ ((ck + c632) + c656) ((sk + s632) + s656) _
      refine ls_istore (i := 6) (p := 661) (by decide +kernel) (Nat.le_of_ble_eq_true rfl) ?_
      refine ls_goto (p := 1656) (by decide +kernel) ?_
      exact hN _ _ c h _ _ _ _ _ _ ⟨⟨hH, hci, k_th, k_am, k_out, h3, k_rd, hl, hm, hc⟩, ⟨hh1, hp, hg⟩, hrc, hrm, hbc, hbi, ⟨hry, hcy, hty, hzy, hsy, hfy⟩, _, htC, htM, htb⟩ (by omega) (by omega)
    · obtain rfl : n0 = n1 := (hs_neq (by have h9_ := (zo_ n0 (by omega)).1.1; omega) (by have h9_ := (zo_ n0 (by omega)).1.1; omega)).mp (en0.symm.trans en1)
      exact absurd cy1 (fun h => xi_nm1 (by have := (zo_ n0 (by omega)).1.1; omega) (em1.symm.trans h))
    · obtain rfl : n0 = n1 := (hs_neq (by have h9_ := (zo_ n0 (by omega)).1.1; omega) (by have h9_ := (zo_ n0 (by omega)).1.1; omega)).mp (en0.symm.trans en1)
      exact absurd cy1 (fun h => xi_nm1 (by have := (zo_ n0 (by omega)).1.1; omega) (em1.symm.trans h))
  · cases ev
    have hfy : fyR K632 G632 th s0 (cn 3) := hfy9.uz x632 ks9 zz9 zo_ zz_ (fun n hn => coreE.rf) f632 (by decide +kernel) (fun j hj => by rcases hj with rfl | rfl | rfl <;> exact f632.2 th 12 kt9 _ rfl)
    show et_go _ _ 1000 635 [some (.ref 150), some (.ref th), some (.ref am), some (.ref out), some (.int (Int32.ofNat i)), x5, x6] [.int (Int32.ofNat 2)] _ (ck + c632) (sk + s632) _
    refine ls_istore (i := 5) (p := 637) (by decide +kernel) (Nat.le_of_ble_eq_true rfl) ?_
    refine ls_aload (i := 2) (p := 638) (by decide +kernel) rfl ?_
    refine ls_arg (j := 1) (by decide +kernel) (by omega) hn ?_
    refine ls_arg (j := 2) (by decide +kernel) (by omega) hn ?_
    refine ls_arg (j := 3) (by decide +kernel) (by omega) hn ?_
    refine lt_callv (T := et_TT) (t := 13) (mi := 227) (na := 3) (ci := 11) (lk := 7) (lm := 6) (L0 := eg_en (eg_mL 227) [.ref am, .int (f (i + 1)), .int (f (i + 2)), .int (f (i + 3))]) (by decide +kernel) rfl hH k_am rfl rfl rfl rfl rfl (by rw [show eg_mL 227 = 6 from by decide +kernel]; first | done | rfl) ?_
    have hHo := hH
    refine ((er_p227_ok (K632, [], G632) [.ref am, .int (f (i + 1)), .int (f (i + 2)), .int (f (i + 3))] _ hH (by omega) rfl (ht_ac (.inr ⟨by decide, _, rfl, k_am⟩) (ht_ac hi_any (ht_ac hi_any (ht_ac hi_any ht_an))))).and (gz_knob hH k_am hrm.1.1 hrm.2.1.1 (hrm.2.2 (5, 4) (by decide)).1 b4 zm_ (fun n hn => zo_ n (by omega)) (by omega))).mono (fun u hu => ls_cbvQ (Q := fun u => (¬ xr (f (i + 1)) (cn 4) ∧ u.1 = .inl (some (.int (Int32.ofNat 0))) ∧ et_pl (eg_at u.2.1 am) 0 = some (.int (Int32.ofNat 1)) ∧ zyM u.2.1 aw (cn 4) V_) ∨ ∃ n, ((f (i + 1)) = Int32.ofNat n ∧ n < cn 4) ∧ ((¬ (f (i + 2)) = (-1) ∧ ¬ xr (f (i + 2)) (V_ n).1 ∧ u.1 = .inl (some (.int (Int32.ofNat 0))) ∧ et_pl (eg_at u.2.1 am) 0 = some (.int (Int32.ofNat 1)) ∧ zyM u.2.1 aw (cn 4) V_) ∨ ((f (i + 2)) = (-1) ∧ ¬ (-2000 ≤ (f (i + 3)).toInt ∧ (f (i + 3)).toInt ≤ 2000) ∧ u.1 = .inl (some (.int (Int32.ofNat 0))) ∧ et_pl (eg_at u.2.1 am) 0 = some (.int (Int32.ofNat 2)) ∧ zyM u.2.1 aw (cn 4) V_) ∨ ((f (i + 2)) = (-1) ∧ (-2000 ≤ (f (i + 3)).toInt ∧ (f (i + 3)).toInt ≤ 2000) ∧ u.1 = .inl (some (.int (Int32.ofNat (if (V_ n).2.2.2.2.1 = (f (i + 3)) then 0 else 1)))) ∧ et_pl (eg_at u.2.1 am) 0 = some (.int (Int32.ofNat 0)) ∧ zyM u.2.1 aw (cn 4) (vup V_ n (klV (V_ n) (f (i + 3))))) ∨ ∃ m, ((f (i + 2)) = Int32.ofNat m ∧ m < (V_ n).1) ∧ ((¬ (-200 ≤ (f (i + 3)).toInt ∧ (f (i + 3)).toInt ≤ 200) ∧ u.1 = .inl (some (.int (Int32.ofNat 0))) ∧ et_pl (eg_at u.2.1 am) 0 = some (.int (Int32.ofNat 2)) ∧ zyM u.2.1 aw (cn 4) V_) ∨ ((-200 ≤ (f (i + 3)).toInt ∧ (f (i + 3)).toInt ≤ 200) ∧ u.1 = .inl (some (.int (Int32.ofNat (if (V_ n).2.2.2.1 m = (f (i + 3)) then 0 else 1)))) ∧ et_pl (eg_at u.2.1 am) 0 = some (.int (Int32.ofNat 0)) ∧ zyM u.2.1 aw (cn 4) (vup V_ n (kkV (V_ n) m (f (i + 3)))))))) hu (fun v656 K656 G656 c656 s656 x656 f656 hH hv656 cl656 sl656 hQ => ?_))
    have zz_ := zz_.fr zk_ k_th hrc.1.1 hrc.1.2.1 f656 (by decide +kernel)
    have zi_ := zi_.fr (fun n hn => zo_ (3 + n) (by omega)) zki_ f656 (by decide +kernel)
    have zk_ := zk_.ex x656
    have zka_ := x656 _ _ zka_
    have zki_ := x656 _ _ zki_
    have hfy := hfy.fr k_th hrc.1.1 x656 f656 (by decide +kernel)
    have hsy := hsy.fr k_th x656 f656 (by decide +kernel)
    have hty := hty.fr x656 hHo f656 (by decide +kernel)
    have hcy := hcy.fr x656 f656 (by decide +kernel)
    have hry := hry.fr hHo x656 f656 (by decide +kernel)
    have hci := hci.fr x656 f656 (by decide +kernel)
    have h3 := (f656.2 th 12 k_th 3 rfl).trans h3
    have hl := (f656.2 rd 7 k_rd 1 rfl).trans hl
    have hm := (f656.2 am 13 k_am 5 rfl).trans hm
    have hp := (f656.2 th 12 k_th 2 rfl).trans hp
    have hg := (f656.2 am 13 k_am 3 rfl).trans hg
    have htC := htC.fr k_rd x656 f656 (by decide +kernel)
    have htM := htM.fr k_am x656 f656 (by decide +kernel)
    have hrc := hrc.fr k_th x656 f656 (by decide +kernel)
    have hrm := hrm.fr k_am x656 f656 (by decide +kernel)
    have k_th := x656 _ _ k_th
    have k_am := x656 _ _ k_am
    have k_out := x656 _ _ k_out
    have k_rd := x656 _ _ k_rd
    rcases hQ with ⟨dx, ev2, ht, zm_⟩ | ⟨n1, ⟨en1, hn1⟩, ⟨dy1, dy2, ev2, ht, zm_⟩ | ⟨dy1, dl, ev2, ht, zm_⟩ | ⟨dy1, dl, ev2, ht, zm_⟩ | ⟨m1, ⟨em1, hm1⟩, ⟨dkn, ev2, ht, zm_⟩ | ⟨dkn, ev2, ht, zm_⟩⟩⟩
    · exact absurd (xr_m en0 hn0 (by omega)) dx
    · obtain rfl : n0 = n1 := (hs_neq (by have h9_ := (zo_ n0 (by omega)).1.1; omega) (by have h9_ := (zo_ n0 (by omega)).1.1; omega)).mp (en0.symm.trans en1)
      exact absurd (xr_m em0 hm0 (Nat.le_trans (zo_ n0 (by omega)).1.1 (by decide))) dy2
    · obtain rfl : n0 = n1 := (hs_neq (by have h9_ := (zo_ n0 (by omega)).1.1; omega) (by have h9_ := (zo_ n0 (by omega)).1.1; omega)).mp (en0.symm.trans en1)
      exact absurd dy1 (fun h => xi_nm1 (by have := (zo_ n0 (by omega)).1.1; omega) (em0.symm.trans h))
    · obtain rfl : n0 = n1 := (hs_neq (by have h9_ := (zo_ n0 (by omega)).1.1; omega) (by have h9_ := (zo_ n0 (by omega)).1.1; omega)).mp (en0.symm.trans en1)
      exact absurd dy1 (fun h => xi_nm1 (by have := (zo_ n0 (by omega)).1.1; omega) (em0.symm.trans h))
    · obtain rfl : n0 = n1 := (hs_neq (by have h9_ := (zo_ n0 (by omega)).1.1; omega) (by have h9_ := (zo_ n0 (by omega)).1.1; omega)).mp (en0.symm.trans en1)
      obtain rfl : m0 = m1 := (hs_neq (by have h9_ := (zo_ n0 (by omega)).1.1; omega) (by have h9_ := (zo_ n0 (by omega)).1.1; omega)).mp (em0.symm.trans em1)
      cases ev2
      have hzy : zy K656 G656 th s0 s1 aw ai (cn 4) (im 4) := ⟨ya_, yb_, O_, A_, V_, ⟨zk_, zka_, zki_⟩, zz_, zo_, zm_, zi_⟩
      show et_go _ _ 1000 659 [some (.ref 150), some (.ref th), some (.ref am), some (.ref out), some (.int (Int32.ofNat i)), some (.int (Int32.ofNat 2)), x6] [.int (Int32.ofNat 0)] _ ((ck + c632) + c656) ((sk + s632) + s656) _
      refine ls_istore (i := 6) (p := 661) (by decide +kernel) (Nat.le_of_ble_eq_true rfl) ?_
      refine ls_goto (p := 1656) (by decide +kernel) ?_
      exact hN _ _ c h _ _ _ _ _ _ ⟨⟨hH, hci, k_th, k_am, k_out, h3, k_rd, hl, hm, hc⟩, ⟨hh1, hp, hg⟩, hrc, hrm, hbc, hbi, ⟨hry, hcy, hty, hzy, hsy, hfy⟩, _, htC, htM, htb⟩ (by omega) (by omega)
    · obtain rfl : n0 = n1 := (hs_neq (by have h9_ := (zo_ n0 (by omega)).1.1; omega) (by have h9_ := (zo_ n0 (by omega)).1.1; omega)).mp (en0.symm.trans en1)
      obtain rfl : m0 = m1 := (hs_neq (by have h9_ := (zo_ n0 (by omega)).1.1; omega) (by have h9_ := (zo_ n0 (by omega)).1.1; omega)).mp (em0.symm.trans em1)
      exact absurd dkn ckn
  · cases ev
    have hfy : fyR K632 G632 th s0 (cn 3) := hfy9.uz x632 ks9 zz9 zo_ zz_ (fun n hn => coreE.up (by exact ⟨rfl, fun _ _ => ⟨rfl, rfl⟩⟩) n) f632 (by decide +kernel) (fun j hj => by rcases hj with rfl | rfl | rfl <;> exact f632.2 th 12 kt9 _ rfl)
    show et_go _ _ 1000 635 [some (.ref 150), some (.ref th), some (.ref am), some (.ref out), some (.int (Int32.ofNat i)), x5, x6] [.int (Int32.ofNat 0)] _ (ck + c632) (sk + s632) _
    refine ls_istore (i := 5) (p := 637) (by decide +kernel) (Nat.le_of_ble_eq_true rfl) ?_
    refine ls_aload (i := 2) (p := 638) (by decide +kernel) rfl ?_
    refine ls_arg (j := 1) (by decide +kernel) (by omega) hn ?_
    refine ls_arg (j := 2) (by decide +kernel) (by omega) hn ?_
    refine ls_arg (j := 3) (by decide +kernel) (by omega) hn ?_
    refine lt_callv (T := et_TT) (t := 13) (mi := 227) (na := 3) (ci := 11) (lk := 7) (lm := 6) (L0 := eg_en (eg_mL 227) [.ref am, .int (f (i + 1)), .int (f (i + 2)), .int (f (i + 3))]) (by decide +kernel) rfl hH k_am rfl rfl rfl rfl rfl (by rw [show eg_mL 227 = 6 from by decide +kernel]; first | done | rfl) ?_
    have hHo := hH
    refine ((er_p227_ok (K632, [], G632) [.ref am, .int (f (i + 1)), .int (f (i + 2)), .int (f (i + 3))] _ hH (by omega) rfl (ht_ac (.inr ⟨by decide, _, rfl, k_am⟩) (ht_ac hi_any (ht_ac hi_any (ht_ac hi_any ht_an))))).and (gz_knob hH k_am hrm.1.1 hrm.2.1.1 (hrm.2.2 (5, 4) (by decide)).1 b4 zm_ (fun n hn => zo_ n (by omega)) (by omega))).mono (fun u hu => ls_cbvQ (Q := fun u => (¬ xr (f (i + 1)) (cn 4) ∧ u.1 = .inl (some (.int (Int32.ofNat 0))) ∧ et_pl (eg_at u.2.1 am) 0 = some (.int (Int32.ofNat 1)) ∧ zyM u.2.1 aw (cn 4) V_) ∨ ∃ n, ((f (i + 1)) = Int32.ofNat n ∧ n < cn 4) ∧ ((¬ (f (i + 2)) = (-1) ∧ ¬ xr (f (i + 2)) (V_ n).1 ∧ u.1 = .inl (some (.int (Int32.ofNat 0))) ∧ et_pl (eg_at u.2.1 am) 0 = some (.int (Int32.ofNat 1)) ∧ zyM u.2.1 aw (cn 4) V_) ∨ ((f (i + 2)) = (-1) ∧ ¬ (-2000 ≤ (f (i + 3)).toInt ∧ (f (i + 3)).toInt ≤ 2000) ∧ u.1 = .inl (some (.int (Int32.ofNat 0))) ∧ et_pl (eg_at u.2.1 am) 0 = some (.int (Int32.ofNat 2)) ∧ zyM u.2.1 aw (cn 4) V_) ∨ ((f (i + 2)) = (-1) ∧ (-2000 ≤ (f (i + 3)).toInt ∧ (f (i + 3)).toInt ≤ 2000) ∧ u.1 = .inl (some (.int (Int32.ofNat (if (V_ n).2.2.2.2.1 = (f (i + 3)) then 0 else 1)))) ∧ et_pl (eg_at u.2.1 am) 0 = some (.int (Int32.ofNat 0)) ∧ zyM u.2.1 aw (cn 4) (vup V_ n (klV (V_ n) (f (i + 3))))) ∨ ∃ m, ((f (i + 2)) = Int32.ofNat m ∧ m < (V_ n).1) ∧ ((¬ (-200 ≤ (f (i + 3)).toInt ∧ (f (i + 3)).toInt ≤ 200) ∧ u.1 = .inl (some (.int (Int32.ofNat 0))) ∧ et_pl (eg_at u.2.1 am) 0 = some (.int (Int32.ofNat 2)) ∧ zyM u.2.1 aw (cn 4) V_) ∨ ((-200 ≤ (f (i + 3)).toInt ∧ (f (i + 3)).toInt ≤ 200) ∧ u.1 = .inl (some (.int (Int32.ofNat (if (V_ n).2.2.2.1 m = (f (i + 3)) then 0 else 1)))) ∧ et_pl (eg_at u.2.1 am) 0 = some (.int (Int32.ofNat 0)) ∧ zyM u.2.1 aw (cn 4) (vup V_ n (kkV (V_ n) m (f (i + 3)))))))) hu (fun v656 K656 G656 c656 s656 x656 f656 hH hv656 cl656 sl656 hQ => ?_))
    have zz_ := zz_.fr zk_ k_th hrc.1.1 hrc.1.2.1 f656 (by decide +kernel)
    have zi_ := zi_.fr (fun n hn => zo_ (3 + n) (by omega)) zki_ f656 (by decide +kernel)
    have zk_ := zk_.ex x656
    have zka_ := x656 _ _ zka_
    have zki_ := x656 _ _ zki_
    have hfy := hfy.fr k_th hrc.1.1 x656 f656 (by decide +kernel)
    have hsy := hsy.fr k_th x656 f656 (by decide +kernel)
    have hty := hty.fr x656 hHo f656 (by decide +kernel)
    have hcy := hcy.fr x656 f656 (by decide +kernel)
    have hry := hry.fr hHo x656 f656 (by decide +kernel)
    have hci := hci.fr x656 f656 (by decide +kernel)
    have h3 := (f656.2 th 12 k_th 3 rfl).trans h3
    have hl := (f656.2 rd 7 k_rd 1 rfl).trans hl
    have hm := (f656.2 am 13 k_am 5 rfl).trans hm
    have hp := (f656.2 th 12 k_th 2 rfl).trans hp
    have hg := (f656.2 am 13 k_am 3 rfl).trans hg
    have htC := htC.fr k_rd x656 f656 (by decide +kernel)
    have htM := htM.fr k_am x656 f656 (by decide +kernel)
    have hrc := hrc.fr k_th x656 f656 (by decide +kernel)
    have hrm := hrm.fr k_am x656 f656 (by decide +kernel)
    have ho := (f656.2 out 31 k_out 0 rfl).trans ho
    have k_th := x656 _ _ k_th
    have k_am := x656 _ _ k_am
    have k_out := x656 _ _ k_out
    have k_rd := x656 _ _ k_rd
    rcases hQ with ⟨dx, ev2, ht, zm_⟩ | ⟨n1, ⟨en1, hn1⟩, ⟨dy1, dy2, ev2, ht, zm_⟩ | ⟨dy1, dl, ev2, ht, zm_⟩ | ⟨dy1, dl, ev2, ht, zm_⟩ | ⟨m1, ⟨em1, hm1⟩, ⟨dkn, ev2, ht, zm_⟩ | ⟨dkn, ev2, ht, zm_⟩⟩⟩
    · exact absurd (xr_m en0 hn0 (by omega)) dx
    · obtain rfl : n0 = n1 := (hs_neq (by have h9_ := (zo_ n0 (by omega)).1.1; omega) (by have h9_ := (zo_ n0 (by omega)).1.1; omega)).mp (en0.symm.trans en1)
      exact absurd (xr_m em0 hm0 (Nat.le_trans (zo_ n0 (by omega)).1.1 (by decide))) dy2
    · obtain rfl : n0 = n1 := (hs_neq (by have h9_ := (zo_ n0 (by omega)).1.1; omega) (by have h9_ := (zo_ n0 (by omega)).1.1; omega)).mp (en0.symm.trans en1)
      exact absurd dy1 (fun h => xi_nm1 (by have := (zo_ n0 (by omega)).1.1; omega) (em0.symm.trans h))
    · obtain rfl : n0 = n1 := (hs_neq (by have h9_ := (zo_ n0 (by omega)).1.1; omega) (by have h9_ := (zo_ n0 (by omega)).1.1; omega)).mp (en0.symm.trans en1)
      exact absurd dy1 (fun h => xi_nm1 (by have := (zo_ n0 (by omega)).1.1; omega) (em0.symm.trans h))
    · obtain rfl : n0 = n1 := (hs_neq (by have h9_ := (zo_ n0 (by omega)).1.1; omega) (by have h9_ := (zo_ n0 (by omega)).1.1; omega)).mp (en0.symm.trans en1)
      obtain rfl : m0 = m1 := (hs_neq (by have h9_ := (zo_ n0 (by omega)).1.1; omega) (by have h9_ := (zo_ n0 (by omega)).1.1; omega)).mp (em0.symm.trans em1)
      exact absurd ckn dkn
    · obtain rfl : n0 = n1 := (hs_neq (by have h9_ := (zo_ n0 (by omega)).1.1; omega) (by have h9_ := (zo_ n0 (by omega)).1.1; omega)).mp (en0.symm.trans en1)
      obtain rfl : m0 = m1 := (hs_neq (by have h9_ := (zo_ n0 (by omega)).1.1; omega) (by have h9_ := (zo_ n0 (by omega)).1.1; omega)).mp (em0.symm.trans em1)
      cases ev2
      have hzy : zy K656 G656 th s0 s1 aw ai (cn 4) (im 4) := ⟨ya_, yb_, O_, A_, (vup V_ n0 (kkV (V_ n0) m0 (f (i + 3)))), ⟨zk_, zka_, zki_⟩, zz_, (vup_o zo_ (kkV_o (zo_ n0 (by omega)) hm0)), zm_, (vup_3 zi_ (by omega))⟩
      show et_go _ _ 1000 659 [some (.ref 150), some (.ref th), some (.ref am), some (.ref out), some (.int (Int32.ofNat i)), some (.int (Int32.ofNat 0)), x6] [.int (Int32.ofNat (if (V_ n0).2.2.2.1 m0 = (f (i + 3)) then 0 else 1))] _ ((ck + c632) + c656) ((sk + s632) + s656) _
      refine ls_istore (i := 6) (p := 661) (by decide +kernel) (Nat.le_of_ble_eq_true rfl) ?_
      refine ls_goto (p := 1656) (by decide +kernel) ?_
      exact hN _ _ c h _ _ _ _ _ _ ⟨⟨hH, hci, k_th, k_am, k_out, h3, k_rd, hl, hm, hc⟩, ⟨hh1, hp, hg⟩, hrc, hrm, hbc, hbi, ⟨hry, hcy, hty, hzy, hsy, hfy⟩, _, htC, htM, htb⟩ (by omega) (by omega)
set_option maxHeartbeats 2000000 in
theorem lw_c13 (hI : lw_I K G th am out rd s0 s1 aw ai tp ba na tm c h cn im) (hi : i + 6 ≤ n) (hn : n ≤ 3072) (hN : ∀ (K' : et_K) (G' : eg_G) (c' h' : Nat) (cn' im' : Nat → Nat) (ck' sk' : Nat) (y5 y6 : Option Value), lw_I K' G' th am out rd s0 s1 aw ai tp ba na tm c' h' cn' im' → ck' ≤ ck + 841 → sk' ≤ sk + 7168 → et_go (some (n, f)) (d + 41) 1000 1656 [some (.ref 150), some (.ref th), some (.ref am), some (.ref out), some (.int (Int32.ofNat i)), y5, y6] [] G' ck' sk' Z) : et_go (some (n, f)) (d + 41) 1000 664 [some (.ref 150), some (.ref th), some (.ref am), some (.ref out), some (.int (Int32.ofNat i)), x5, x6] [] G ck sk Z := by
  obtain ⟨⟨hH, hci, k_th, k_am, k_out, h3, k_rd, hl, hm, hc⟩, ⟨hh1, hp, hg⟩, hrc, hrm, hbc, hbi, ⟨hry, hcy, hty, hzy, hsy, hfy⟩, tb, htC, htM, htb⟩ := hI
  refine ls_aload (i := 1) (p := 665) (by decide +kernel) rfl ?_
  refine ls_arg (j := 1) (by decide +kernel) (by omega) hn ?_
  refine ls_arg (j := 2) (by decide +kernel) (by omega) hn ?_
  refine ls_arg (j := 3) (by decide +kernel) (by omega) hn ?_
  refine ls_calls (mi := 9) (na := 4) (lk := 7) (lm := 5) (L0 := eg_en (eg_mL 9) [.ref th, .int (f (i + 1)), .int (f (i + 2)), .int (f (i + 3))]) (by decide +kernel) rfl rfl rfl rfl rfl rfl (by rw [show eg_mL 9 = 5 from by decide +kernel]; first | done | rfl) ?_
  have hHo := hH
  have b4 : cn 4 ≤ 3 := Int.ofNat_le.mp (hf_bd (t := 10) hH hrc.1.1 rfl rfl (hrc.2.2 (5, 4) (by decide)).1 (hbc 4))
  obtain ⟨ya_, yb_, O_, A_, V_, ⟨zk_, zka_, zki_⟩, zz_, zo_, zm_, zi_⟩ := hzy
  refine ((hh_c9 (K, [], G) [.ref th, .int (f (i + 1)), .int (f (i + 2)), .int (f (i + 3))] _ hH (by omega) rfl (ht_ac (.inr ⟨by decide, _, rfl, k_th⟩) (ht_ac hi_any (ht_ac hi_any (ht_ac hi_any ht_an))))).and (fz_stuck hH k_th hrc.2.1.1 hrc.1.1 hrc.1.2.1 (hrc.2.2 (5, 4) (by decide)).1 b4 zk_ zz_ zo_ (by omega))).mono (fun u hu => ls_cbvQ (Q := fun u => (¬ xr (f (i + 1)) (cn 4) ∧ u.1 = .inl (some (.int (Int32.ofNat 1))) ∧ ez u.2.1 th s0 s1 ya_ yb_ O_ A_ V_) ∨ ∃ n, ((f (i + 1)) = Int32.ofNat n ∧ n < cn 4) ∧ ((¬ (0 ≤ (f (i + 2)).toInt ∧ (f (i + 2)).toInt ≤ 127 ∧ 0 ≤ (f (i + 3)).toInt ∧ (f (i + 3)).toInt ≤ 50) ∧ u.1 = .inl (some (.int (Int32.ofNat 2))) ∧ ez u.2.1 th s0 s1 ya_ yb_ O_ A_ V_) ∨ ((0 ≤ (f (i + 2)).toInt ∧ (f (i + 2)).toInt ≤ 127 ∧ 0 ≤ (f (i + 3)).toInt ∧ (f (i + 3)).toInt ≤ 50) ∧ u.1 = .inl (some (.int (Int32.ofNat 0))) ∧ ez u.2.1 th s0 s1 ya_ yb_ O_ A_ (vup V_ n (skV (V_ n) (f (i + 2)) (f (i + 3))))))) hu (fun v683 K683 G683 c683 s683 x683 f683 hH hv683 cl683 sl683 hQ => ?_))
  have zm_ := zm_.fr (fun n hn => zo_ n (by omega)) zka_ f683 (by decide +kernel)
  have zi_ := zi_.fr (fun n hn => zo_ (3 + n) (by omega)) zki_ f683 (by decide +kernel)
  have zk_ := zk_.ex x683
  have zka_ := x683 _ _ zka_
  have zki_ := x683 _ _ zki_
  have hfy := hfy.fr k_th hrc.1.1 x683 f683 (by decide +kernel)
  have hsy := hsy.fr k_th x683 f683 (by decide +kernel)
  have hty := hty.fr x683 hHo f683 (by decide +kernel)
  have hcy := hcy.fr x683 f683 (by decide +kernel)
  have hry := hry.fr hHo x683 f683 (by decide +kernel)
  have hci := hci.fr x683 f683 (by decide +kernel)
  have h3 := (f683.2 th 12 k_th 3 rfl).trans h3
  have hl := (f683.2 rd 7 k_rd 1 rfl).trans hl
  have hm := (f683.2 am 13 k_am 5 rfl).trans hm
  have hp := (f683.2 th 12 k_th 2 rfl).trans hp
  have hg := (f683.2 am 13 k_am 3 rfl).trans hg
  have htC := htC.fr k_rd x683 f683 (by decide +kernel)
  have htM := htM.fr k_am x683 f683 (by decide +kernel)
  have hrc := hrc.fr k_th x683 f683 (by decide +kernel)
  have hrm := hrm.fr k_am x683 f683 (by decide +kernel)
  have k_th := x683 _ _ k_th
  have k_am := x683 _ _ k_am
  have k_out := x683 _ _ k_out
  have k_rd := x683 _ _ k_rd
  rcases hQ with ⟨cx, ev, zz_⟩ | ⟨n0, ⟨en0, hn0⟩, ⟨cs, ev, zz_⟩ | ⟨cs, ev, zz_⟩⟩
  · cases ev
    show et_go _ _ 1000 686 [some (.ref 150), some (.ref th), some (.ref am), some (.ref out), some (.int (Int32.ofNat i)), x5, x6] [.int (Int32.ofNat 1)] _ (ck + c683) (sk + s683) _
    refine ls_istore (i := 5) (p := 688) (by decide +kernel) (Nat.le_of_ble_eq_true rfl) ?_
    refine ls_aload (i := 2) (p := 689) (by decide +kernel) rfl ?_
    refine ls_arg (j := 1) (by decide +kernel) (by omega) hn ?_
    refine ls_arg (j := 2) (by decide +kernel) (by omega) hn ?_
    refine ls_arg (j := 3) (by decide +kernel) (by omega) hn ?_
    refine lt_callv (T := et_TT) (t := 13) (mi := 229) (na := 3) (ci := 11) (lk := 7) (lm := 4) (L0 := eg_en (eg_mL 229) [.ref am, .int (f (i + 1)), .int (f (i + 2)), .int (f (i + 3))]) (by decide +kernel) rfl hH k_am rfl rfl rfl rfl rfl (by rw [show eg_mL 229 = 4 from by decide +kernel]; first | done | rfl) ?_
    have hHo := hH
    refine ((er_p229_ok (K683, [], G683) [.ref am, .int (f (i + 1)), .int (f (i + 2)), .int (f (i + 3))] _ hH (by omega) rfl (ht_ac (.inr ⟨by decide, _, rfl, k_am⟩) (ht_ac hi_any (ht_ac hi_any (ht_ac hi_any ht_an))))).and (gz_stuck hH k_am hrm.1.1 hrm.2.1.1 (hrm.2.2 (5, 4) (by decide)).1 b4 zm_ (fun n hn => zo_ n (by omega)) (by omega))).mono (fun u hu => ls_cbnQ (Q := fun u => (¬ xr (f (i + 1)) (cn 4) ∧ u.1 = .inl none ∧ et_pl (eg_at u.2.1 am) 0 = some (.int (Int32.ofNat 1)) ∧ zyM u.2.1 aw (cn 4) V_) ∨ ∃ n, ((f (i + 1)) = Int32.ofNat n ∧ n < cn 4) ∧ ((¬ (0 ≤ (f (i + 2)).toInt ∧ (f (i + 2)).toInt ≤ 127 ∧ 0 ≤ (f (i + 3)).toInt ∧ (f (i + 3)).toInt ≤ 50) ∧ u.1 = .inl none ∧ et_pl (eg_at u.2.1 am) 0 = some (.int (Int32.ofNat 2)) ∧ zyM u.2.1 aw (cn 4) V_) ∨ ((0 ≤ (f (i + 2)).toInt ∧ (f (i + 2)).toInt ≤ 127 ∧ 0 ≤ (f (i + 3)).toInt ∧ (f (i + 3)).toInt ≤ 50) ∧ u.1 = .inl none ∧ et_pl (eg_at u.2.1 am) 0 = some (.int (Int32.ofNat 0)) ∧ zyM u.2.1 aw (cn 4) (vup V_ n (skV (V_ n) (f (i + 2)) (f (i + 3))))))) hu (fun K707 G707 c707 s707 x707 f707 hH cl707 sl707 hQ => ?_))
    have zz_ := zz_.fr zk_ k_th hrc.1.1 hrc.1.2.1 f707 (by decide +kernel)
    have zi_ := zi_.fr (fun n hn => zo_ (3 + n) (by omega)) zki_ f707 (by decide +kernel)
    have zk_ := zk_.ex x707
    have zka_ := x707 _ _ zka_
    have zki_ := x707 _ _ zki_
    have hfy := hfy.fr k_th hrc.1.1 x707 f707 (by decide +kernel)
    have hsy := hsy.fr k_th x707 f707 (by decide +kernel)
    have hty := hty.fr x707 hHo f707 (by decide +kernel)
    have hcy := hcy.fr x707 f707 (by decide +kernel)
    have hry := hry.fr hHo x707 f707 (by decide +kernel)
    have hci := hci.fr x707 f707 (by decide +kernel)
    have h3 := (f707.2 th 12 k_th 3 rfl).trans h3
    have hl := (f707.2 rd 7 k_rd 1 rfl).trans hl
    have hm := (f707.2 am 13 k_am 5 rfl).trans hm
    have hp := (f707.2 th 12 k_th 2 rfl).trans hp
    have hg := (f707.2 am 13 k_am 3 rfl).trans hg
    have htC := htC.fr k_rd x707 f707 (by decide +kernel)
    have htM := htM.fr k_am x707 f707 (by decide +kernel)
    have hrc := hrc.fr k_th x707 f707 (by decide +kernel)
    have hrm := hrm.fr k_am x707 f707 (by decide +kernel)
    have k_th := x707 _ _ k_th
    have k_am := x707 _ _ k_am
    have k_out := x707 _ _ k_out
    have k_rd := x707 _ _ k_rd
    rcases hQ with ⟨dx, -, ht, zm_⟩ | ⟨n1, ⟨en1, hn1⟩, ⟨ds, -, ht, zm_⟩ | ⟨ds, -, ht, zm_⟩⟩
    · have hzy : zy K707 G707 th s0 s1 aw ai (cn 4) (im 4) := ⟨ya_, yb_, O_, A_, V_, ⟨zk_, zka_, zki_⟩, zz_, zo_, zm_, zi_⟩
      show et_go _ _ 1000 710 [some (.ref 150), some (.ref th), some (.ref am), some (.ref out), some (.int (Int32.ofNat i)), some (.int (Int32.ofNat 1)), x6] [] _ ((ck + c683) + c707) ((sk + s683) + s707) _
      refine ls_goto (p := 1656) (by decide +kernel) ?_
      exact hN _ _ c h _ _ _ _ _ _ ⟨⟨hH, hci, k_th, k_am, k_out, h3, k_rd, hl, hm, hc⟩, ⟨hh1, hp, hg⟩, hrc, hrm, hbc, hbi, ⟨hry, hcy, hty, hzy, hsy, hfy⟩, _, htC, htM, htb⟩ (by omega) (by omega)
    · exact absurd (xr_m en1 hn1 (by omega)) cx
    · exact absurd (xr_m en1 hn1 (by omega)) cx
  · cases ev
    show et_go _ _ 1000 686 [some (.ref 150), some (.ref th), some (.ref am), some (.ref out), some (.int (Int32.ofNat i)), x5, x6] [.int (Int32.ofNat 2)] _ (ck + c683) (sk + s683) _
    refine ls_istore (i := 5) (p := 688) (by decide +kernel) (Nat.le_of_ble_eq_true rfl) ?_
    refine ls_aload (i := 2) (p := 689) (by decide +kernel) rfl ?_
    refine ls_arg (j := 1) (by decide +kernel) (by omega) hn ?_
    refine ls_arg (j := 2) (by decide +kernel) (by omega) hn ?_
    refine ls_arg (j := 3) (by decide +kernel) (by omega) hn ?_
    refine lt_callv (T := et_TT) (t := 13) (mi := 229) (na := 3) (ci := 11) (lk := 7) (lm := 4) (L0 := eg_en (eg_mL 229) [.ref am, .int (f (i + 1)), .int (f (i + 2)), .int (f (i + 3))]) (by decide +kernel) rfl hH k_am rfl rfl rfl rfl rfl (by rw [show eg_mL 229 = 4 from by decide +kernel]; first | done | rfl) ?_
    have hHo := hH
    refine ((er_p229_ok (K683, [], G683) [.ref am, .int (f (i + 1)), .int (f (i + 2)), .int (f (i + 3))] _ hH (by omega) rfl (ht_ac (.inr ⟨by decide, _, rfl, k_am⟩) (ht_ac hi_any (ht_ac hi_any (ht_ac hi_any ht_an))))).and (gz_stuck hH k_am hrm.1.1 hrm.2.1.1 (hrm.2.2 (5, 4) (by decide)).1 b4 zm_ (fun n hn => zo_ n (by omega)) (by omega))).mono (fun u hu => ls_cbnQ (Q := fun u => (¬ xr (f (i + 1)) (cn 4) ∧ u.1 = .inl none ∧ et_pl (eg_at u.2.1 am) 0 = some (.int (Int32.ofNat 1)) ∧ zyM u.2.1 aw (cn 4) V_) ∨ ∃ n, ((f (i + 1)) = Int32.ofNat n ∧ n < cn 4) ∧ ((¬ (0 ≤ (f (i + 2)).toInt ∧ (f (i + 2)).toInt ≤ 127 ∧ 0 ≤ (f (i + 3)).toInt ∧ (f (i + 3)).toInt ≤ 50) ∧ u.1 = .inl none ∧ et_pl (eg_at u.2.1 am) 0 = some (.int (Int32.ofNat 2)) ∧ zyM u.2.1 aw (cn 4) V_) ∨ ((0 ≤ (f (i + 2)).toInt ∧ (f (i + 2)).toInt ≤ 127 ∧ 0 ≤ (f (i + 3)).toInt ∧ (f (i + 3)).toInt ≤ 50) ∧ u.1 = .inl none ∧ et_pl (eg_at u.2.1 am) 0 = some (.int (Int32.ofNat 0)) ∧ zyM u.2.1 aw (cn 4) (vup V_ n (skV (V_ n) (f (i + 2)) (f (i + 3))))))) hu (fun K707 G707 c707 s707 x707 f707 hH cl707 sl707 hQ => ?_))
    have zz_ := zz_.fr zk_ k_th hrc.1.1 hrc.1.2.1 f707 (by decide +kernel)
    have zi_ := zi_.fr (fun n hn => zo_ (3 + n) (by omega)) zki_ f707 (by decide +kernel)
    have zk_ := zk_.ex x707
    have zka_ := x707 _ _ zka_
    have zki_ := x707 _ _ zki_
    have hfy := hfy.fr k_th hrc.1.1 x707 f707 (by decide +kernel)
    have hsy := hsy.fr k_th x707 f707 (by decide +kernel)
    have hty := hty.fr x707 hHo f707 (by decide +kernel)
    have hcy := hcy.fr x707 f707 (by decide +kernel)
    have hry := hry.fr hHo x707 f707 (by decide +kernel)
    have hci := hci.fr x707 f707 (by decide +kernel)
    have h3 := (f707.2 th 12 k_th 3 rfl).trans h3
    have hl := (f707.2 rd 7 k_rd 1 rfl).trans hl
    have hm := (f707.2 am 13 k_am 5 rfl).trans hm
    have hp := (f707.2 th 12 k_th 2 rfl).trans hp
    have hg := (f707.2 am 13 k_am 3 rfl).trans hg
    have htC := htC.fr k_rd x707 f707 (by decide +kernel)
    have htM := htM.fr k_am x707 f707 (by decide +kernel)
    have hrc := hrc.fr k_th x707 f707 (by decide +kernel)
    have hrm := hrm.fr k_am x707 f707 (by decide +kernel)
    have k_th := x707 _ _ k_th
    have k_am := x707 _ _ k_am
    have k_out := x707 _ _ k_out
    have k_rd := x707 _ _ k_rd
    rcases hQ with ⟨dx, -, ht, zm_⟩ | ⟨n1, ⟨en1, hn1⟩, ⟨ds, -, ht, zm_⟩ | ⟨ds, -, ht, zm_⟩⟩
    · exact absurd (xr_m en0 hn0 (by omega)) dx
    · obtain rfl : n0 = n1 := (hs_neq (by have h9_ := (zo_ n0 (by omega)).1.1; omega) (by have h9_ := (zo_ n0 (by omega)).1.1; omega)).mp (en0.symm.trans en1)
      have hzy : zy K707 G707 th s0 s1 aw ai (cn 4) (im 4) := ⟨ya_, yb_, O_, A_, V_, ⟨zk_, zka_, zki_⟩, zz_, zo_, zm_, zi_⟩
      show et_go _ _ 1000 710 [some (.ref 150), some (.ref th), some (.ref am), some (.ref out), some (.int (Int32.ofNat i)), some (.int (Int32.ofNat 2)), x6] [] _ ((ck + c683) + c707) ((sk + s683) + s707) _
      refine ls_goto (p := 1656) (by decide +kernel) ?_
      exact hN _ _ c h _ _ _ _ _ _ ⟨⟨hH, hci, k_th, k_am, k_out, h3, k_rd, hl, hm, hc⟩, ⟨hh1, hp, hg⟩, hrc, hrm, hbc, hbi, ⟨hry, hcy, hty, hzy, hsy, hfy⟩, _, htC, htM, htb⟩ (by omega) (by omega)
    · obtain rfl : n0 = n1 := (hs_neq (by have h9_ := (zo_ n0 (by omega)).1.1; omega) (by have h9_ := (zo_ n0 (by omega)).1.1; omega)).mp (en0.symm.trans en1)
      exact absurd ds cs
  · cases ev
    show et_go _ _ 1000 686 [some (.ref 150), some (.ref th), some (.ref am), some (.ref out), some (.int (Int32.ofNat i)), x5, x6] [.int (Int32.ofNat 0)] _ (ck + c683) (sk + s683) _
    refine ls_istore (i := 5) (p := 688) (by decide +kernel) (Nat.le_of_ble_eq_true rfl) ?_
    refine ls_aload (i := 2) (p := 689) (by decide +kernel) rfl ?_
    refine ls_arg (j := 1) (by decide +kernel) (by omega) hn ?_
    refine ls_arg (j := 2) (by decide +kernel) (by omega) hn ?_
    refine ls_arg (j := 3) (by decide +kernel) (by omega) hn ?_
    refine lt_callv (T := et_TT) (t := 13) (mi := 229) (na := 3) (ci := 11) (lk := 7) (lm := 4) (L0 := eg_en (eg_mL 229) [.ref am, .int (f (i + 1)), .int (f (i + 2)), .int (f (i + 3))]) (by decide +kernel) rfl hH k_am rfl rfl rfl rfl rfl (by rw [show eg_mL 229 = 4 from by decide +kernel]; first | done | rfl) ?_
    have hHo := hH
    refine ((er_p229_ok (K683, [], G683) [.ref am, .int (f (i + 1)), .int (f (i + 2)), .int (f (i + 3))] _ hH (by omega) rfl (ht_ac (.inr ⟨by decide, _, rfl, k_am⟩) (ht_ac hi_any (ht_ac hi_any (ht_ac hi_any ht_an))))).and (gz_stuck hH k_am hrm.1.1 hrm.2.1.1 (hrm.2.2 (5, 4) (by decide)).1 b4 zm_ (fun n hn => zo_ n (by omega)) (by omega))).mono (fun u hu => ls_cbnQ (Q := fun u => (¬ xr (f (i + 1)) (cn 4) ∧ u.1 = .inl none ∧ et_pl (eg_at u.2.1 am) 0 = some (.int (Int32.ofNat 1)) ∧ zyM u.2.1 aw (cn 4) V_) ∨ ∃ n, ((f (i + 1)) = Int32.ofNat n ∧ n < cn 4) ∧ ((¬ (0 ≤ (f (i + 2)).toInt ∧ (f (i + 2)).toInt ≤ 127 ∧ 0 ≤ (f (i + 3)).toInt ∧ (f (i + 3)).toInt ≤ 50) ∧ u.1 = .inl none ∧ et_pl (eg_at u.2.1 am) 0 = some (.int (Int32.ofNat 2)) ∧ zyM u.2.1 aw (cn 4) V_) ∨ ((0 ≤ (f (i + 2)).toInt ∧ (f (i + 2)).toInt ≤ 127 ∧ 0 ≤ (f (i + 3)).toInt ∧ (f (i + 3)).toInt ≤ 50) ∧ u.1 = .inl none ∧ et_pl (eg_at u.2.1 am) 0 = some (.int (Int32.ofNat 0)) ∧ zyM u.2.1 aw (cn 4) (vup V_ n (skV (V_ n) (f (i + 2)) (f (i + 3))))))) hu (fun K707 G707 c707 s707 x707 f707 hH cl707 sl707 hQ => ?_))
    have zz_ := zz_.fr zk_ k_th hrc.1.1 hrc.1.2.1 f707 (by decide +kernel)
    have zi_ := zi_.fr (fun n hn => zo_ (3 + n) (by omega)) zki_ f707 (by decide +kernel)
    have zk_ := zk_.ex x707
    have zka_ := x707 _ _ zka_
    have zki_ := x707 _ _ zki_
    have hfy := hfy.fr k_th hrc.1.1 x707 f707 (by decide +kernel)
    have hsy := hsy.fr k_th x707 f707 (by decide +kernel)
    have hty := hty.fr x707 hHo f707 (by decide +kernel)
    have hcy := hcy.fr x707 f707 (by decide +kernel)
    have hry := hry.fr hHo x707 f707 (by decide +kernel)
    have hci := hci.fr x707 f707 (by decide +kernel)
    have h3 := (f707.2 th 12 k_th 3 rfl).trans h3
    have hl := (f707.2 rd 7 k_rd 1 rfl).trans hl
    have hm := (f707.2 am 13 k_am 5 rfl).trans hm
    have hp := (f707.2 th 12 k_th 2 rfl).trans hp
    have hg := (f707.2 am 13 k_am 3 rfl).trans hg
    have htC := htC.fr k_rd x707 f707 (by decide +kernel)
    have htM := htM.fr k_am x707 f707 (by decide +kernel)
    have hrc := hrc.fr k_th x707 f707 (by decide +kernel)
    have hrm := hrm.fr k_am x707 f707 (by decide +kernel)
    have k_th := x707 _ _ k_th
    have k_am := x707 _ _ k_am
    have k_out := x707 _ _ k_out
    have k_rd := x707 _ _ k_rd
    rcases hQ with ⟨dx, -, ht, zm_⟩ | ⟨n1, ⟨en1, hn1⟩, ⟨ds, -, ht, zm_⟩ | ⟨ds, -, ht, zm_⟩⟩
    · exact absurd (xr_m en0 hn0 (by omega)) dx
    · obtain rfl : n0 = n1 := (hs_neq (by have h9_ := (zo_ n0 (by omega)).1.1; omega) (by have h9_ := (zo_ n0 (by omega)).1.1; omega)).mp (en0.symm.trans en1)
      exact absurd cs ds
    · obtain rfl : n0 = n1 := (hs_neq (by have h9_ := (zo_ n0 (by omega)).1.1; omega) (by have h9_ := (zo_ n0 (by omega)).1.1; omega)).mp (en0.symm.trans en1)
      have hzy : zy K707 G707 th s0 s1 aw ai (cn 4) (im 4) := ⟨ya_, yb_, O_, A_, (vup V_ n0 (skV (V_ n0) (f (i + 2)) (f (i + 3)))), ⟨zk_, zka_, zki_⟩, zz_, (vup_o zo_ (skV_o (zo_ n0 (by omega)))), zm_, (vup_3 zi_ (by omega))⟩
      show et_go _ _ 1000 710 [some (.ref 150), some (.ref th), some (.ref am), some (.ref out), some (.int (Int32.ofNat i)), some (.int (Int32.ofNat 0)), x6] [] _ ((ck + c683) + c707) ((sk + s683) + s707) _
      refine ls_goto (p := 1656) (by decide +kernel) ?_
      exact hN _ _ c h _ _ _ _ _ _ ⟨⟨hH, hci, k_th, k_am, k_out, h3, k_rd, hl, hm, hc⟩, ⟨hh1, hp, hg⟩, hrc, hrm, hbc, hbi, ⟨hry, hcy, hty, hzy, hsy, hfy⟩, _, htC, htM, htb⟩ (by omega) (by omega)
set_option maxHeartbeats 2000000 in
theorem lw_c14 (hI : lw_I K G th am out rd s0 s1 aw ai tp ba na tm c h cn im) (hi : i + 6 ≤ n) (hn : n ≤ 3072) (hN : ∀ (K' : et_K) (G' : eg_G) (c' h' : Nat) (cn' im' : Nat → Nat) (ck' sk' : Nat) (y5 y6 : Option Value), lw_I K' G' th am out rd s0 s1 aw ai tp ba na tm c' h' cn' im' → ck' ≤ ck + 841 → sk' ≤ sk + 7168 → et_go (some (n, f)) (d + 41) 1000 1656 [some (.ref 150), some (.ref th), some (.ref am), some (.ref out), some (.int (Int32.ofNat i)), y5, y6] [] G' ck' sk' Z) : et_go (some (n, f)) (d + 41) 1000 713 [some (.ref 150), some (.ref th), some (.ref am), some (.ref out), some (.int (Int32.ofNat i)), x5, x6] [] G ck sk Z := by
  obtain ⟨⟨hH, hci, k_th, k_am, k_out, h3, k_rd, hl, hm, hc⟩, ⟨hh1, hp, hg⟩, hrc, hrm, hbc, hbi, ⟨hry, hcy, hty, hzy, hsy, hfy⟩, tb, htC, htM, htb⟩ := hI
  refine ls_aload (i := 1) (p := 714) (by decide +kernel) rfl ?_
  refine ls_arg (j := 1) (by decide +kernel) (by omega) hn ?_
  refine ls_arg (j := 2) (by decide +kernel) (by omega) hn ?_
  refine ls_aload (i := 3) (p := 727) (by decide +kernel) rfl ?_
  refine ls_calls (mi := 10) (na := 4) (lk := 7) (lm := 5) (L0 := eg_en (eg_mL 10) [.ref th, .int (f (i + 1)), .int (f (i + 2)), .ref out]) (by decide +kernel) rfl rfl rfl rfl rfl rfl (by rw [show eg_mL 10 = 5 from by decide +kernel]; first | done | rfl) ?_
  have hHo := hH
  refine (hh_c10 (K, [], G) [.ref th, .int (f (i + 1)), .int (f (i + 2)), .ref out] _ hH (by omega) rfl (ht_ac (.inr ⟨by decide, _, rfl, k_th⟩) (ht_ac hi_any (ht_ac hi_any (ht_ac (.inr ⟨by decide, _, rfl, k_out⟩) ht_an))))).mono (fun u hu => ls_cbv hu (fun v727 K727 G727 c727 s727 x727 f727 hH hv727 cl727 sl727 => ?_))
  have hfy := hfy.fr k_th hrc.1.1 x727 f727 (by decide +kernel)
  have hsy := hsy.fr k_th x727 f727 (by decide +kernel)
  have hzy := hzy.fr k_th hrc.1.1 hrc.1.2.1 x727 f727 (by decide +kernel)
  have hty := hty.fr x727 hHo f727 (by decide +kernel)
  have hcy := hcy.fr x727 f727 (by decide +kernel)
  have hry := hry.fr hHo x727 f727 (by decide +kernel)
  have hci := hci.fr x727 f727 (by decide +kernel)
  have h3 := (f727.2 th 12 k_th 3 rfl).trans h3
  have hl := (f727.2 rd 7 k_rd 1 rfl).trans hl
  have hm := (f727.2 am 13 k_am 5 rfl).trans hm
  have hp := (f727.2 th 12 k_th 2 rfl).trans hp
  have hg := (f727.2 am 13 k_am 3 rfl).trans hg
  have htC := htC.fr k_rd x727 f727 (by decide +kernel)
  have htM := htM.fr k_am x727 f727 (by decide +kernel)
  have hrc := hrc.fr k_th x727 f727 (by decide +kernel)
  have hrm := hrm.fr k_am x727 f727 (by decide +kernel)
  have k_th := x727 _ _ k_th
  have k_am := x727 _ _ k_am
  have k_out := x727 _ _ k_out
  have k_rd := x727 _ _ k_rd
  obtain ⟨v727, rfl, -⟩ := hv727
  show et_go _ _ 1000 730 [some (.ref 150), some (.ref th), some (.ref am), some (.ref out), some (.int (Int32.ofNat i)), x5, x6] [.int v727] _ (ck + c727) (sk + s727) _
  refine ls_istore (i := 5) (p := 732) (by decide +kernel) (Nat.le_of_ble_eq_true rfl) ?_
  refine ls_aload (i := 2) (p := 733) (by decide +kernel) rfl ?_
  refine ls_arg (j := 1) (by decide +kernel) (by omega) hn ?_
  refine ls_arg (j := 2) (by decide +kernel) (by omega) hn ?_
  refine lt_callv (T := et_TT) (t := 13) (mi := 230) (na := 2) (ci := 11) (lk := 7) (lm := 3) (L0 := eg_en (eg_mL 230) [.ref am, .int (f (i + 1)), .int (f (i + 2))]) (by decide +kernel) rfl hH k_am rfl rfl rfl rfl rfl (by rw [show eg_mL 230 = 3 from by decide +kernel]; first | done | rfl) ?_
  have hHo := hH
  refine (er_p230_ok (K727, [], G727) [.ref am, .int (f (i + 1)), .int (f (i + 2))] _ hH (by omega) rfl (ht_ac (.inr ⟨by decide, _, rfl, k_am⟩) (ht_ac hi_any (ht_ac hi_any ht_an)))).mono (fun u hu => ls_cbv hu (fun v745 K745 G745 c745 s745 x745 f745 hH hv745 cl745 sl745 => ?_))
  have hfy := hfy.fr k_th hrc.1.1 x745 f745 (by decide +kernel)
  have hsy := hsy.fr k_th x745 f745 (by decide +kernel)
  have hzy := hzy.fr k_th hrc.1.1 hrc.1.2.1 x745 f745 (by decide +kernel)
  have hty := hty.fr x745 hHo f745 (by decide +kernel)
  have hcy := hcy.fr x745 f745 (by decide +kernel)
  have hry := hry.fr hHo x745 f745 (by decide +kernel)
  have hci := hci.fr x745 f745 (by decide +kernel)
  have h3 := (f745.2 th 12 k_th 3 rfl).trans h3
  have hl := (f745.2 rd 7 k_rd 1 rfl).trans hl
  have hm := (f745.2 am 13 k_am 5 rfl).trans hm
  have hp := (f745.2 th 12 k_th 2 rfl).trans hp
  have hg := (f745.2 am 13 k_am 3 rfl).trans hg
  have htC := htC.fr k_rd x745 f745 (by decide +kernel)
  have htM := htM.fr k_am x745 f745 (by decide +kernel)
  have hrc := hrc.fr k_th x745 f745 (by decide +kernel)
  have hrm := hrm.fr k_am x745 f745 (by decide +kernel)
  have k_th := x745 _ _ k_th
  have k_am := x745 _ _ k_am
  have k_out := x745 _ _ k_out
  have k_rd := x745 _ _ k_rd
  obtain ⟨v745, rfl, -⟩ := hv745
  show et_go _ _ 1000 748 [some (.ref 150), some (.ref th), some (.ref am), some (.ref out), some (.int (Int32.ofNat i)), some (.int v727), x6] [.int v745] _ ((ck + c727) + c745) ((sk + s727) + s745) _
  refine ls_istore (i := 6) (p := 750) (by decide +kernel) (Nat.le_of_ble_eq_true rfl) ?_
  refine ls_goto (p := 1656) (by decide +kernel) ?_
  exact hN _ _ c h _ _ _ _ _ _ ⟨⟨hH, hci, k_th, k_am, k_out, h3, k_rd, hl, hm, hc⟩, ⟨hh1, hp, hg⟩, hrc, hrm, hbc, hbi, ⟨hry, hcy, hty, hzy, hsy, hfy⟩, _, htC, htM, htb⟩ (by omega) (by omega)
set_option maxHeartbeats 2000000 in
theorem lw_c15 (hI : lw_I K G th am out rd s0 s1 aw ai tp ba na tm c h cn im) (hi : i + 6 ≤ n) (hn : n ≤ 3072) (hN : ∀ (K' : et_K) (G' : eg_G) (c' h' : Nat) (cn' im' : Nat → Nat) (ck' sk' : Nat) (y5 y6 : Option Value), lw_I K' G' th am out rd s0 s1 aw ai tp ba na tm c' h' cn' im' → ck' ≤ ck + 841 → sk' ≤ sk + 7168 → et_go (some (n, f)) (d + 41) 1000 1656 [some (.ref 150), some (.ref th), some (.ref am), some (.ref out), some (.int (Int32.ofNat i)), y5, y6] [] G' ck' sk' Z) : et_go (some (n, f)) (d + 41) 1000 753 [some (.ref 150), some (.ref th), some (.ref am), some (.ref out), some (.int (Int32.ofNat i)), x5, x6] [] G ck sk Z := by
  obtain ⟨⟨hH, hci, k_th, k_am, k_out, h3, k_rd, hl, hm, hc⟩, ⟨hh1, hp, hg⟩, hrc, hrm, hbc, hbi, ⟨hry, hcy, hty, hzy, hsy, hfy⟩, tb, htC, htM, htb⟩ := hI
  refine ls_aload (i := 1) (p := 754) (by decide +kernel) rfl ?_
  refine ls_arg (j := 1) (by decide +kernel) (by omega) hn ?_
  refine ls_arg (j := 2) (by decide +kernel) (by omega) hn ?_
  refine ls_aload (i := 3) (p := 767) (by decide +kernel) rfl ?_
  refine ls_calls (mi := 11) (na := 4) (lk := 7) (lm := 5) (L0 := eg_en (eg_mL 11) [.ref th, .int (f (i + 1)), .int (f (i + 2)), .ref out]) (by decide +kernel) rfl rfl rfl rfl rfl rfl (by rw [show eg_mL 11 = 5 from by decide +kernel]; first | done | rfl) ?_
  have hHo := hH
  have b4 : cn 4 ≤ 3 := Int.ofNat_le.mp (hf_bd (t := 10) hH hrc.1.1 rfl rfl (hrc.2.2 (5, 4) (by decide)).1 (hbc 4))
  obtain ⟨ya_, yb_, O_, A_, V_, ⟨zk_, zka_, zki_⟩, zz_, zo_, zm_, zi_⟩ := hzy
  refine ((hh_c11 (K, [], G) [.ref th, .int (f (i + 1)), .int (f (i + 2)), .ref out] _ hH (by omega) rfl (ht_ac (.inr ⟨by decide, _, rfl, k_th⟩) (ht_ac hi_any (ht_ac hi_any (ht_ac (.inr ⟨by decide, _, rfl, k_out⟩) ht_an))))).and (fz_sees hH k_th hrc.2.1.1 hrc.1.1 hrc.1.2.1 (hrc.2.2 (5, 4) (by decide)).1 b4 zk_ zz_ zo_ k_out (by omega))).mono (fun u hu => ls_cbvQ (Q := fun u => (¬ xr (f (i + 1)) (cn 4) ∧ u.1 = .inl (some (.int (Int32.ofNat 1)))) ∨ ∃ n, ((f (i + 1)) = Int32.ofNat n ∧ n < cn 4) ∧ ((¬ (0 ≤ (f (i + 2)).toInt ∧ (f (i + 2)).toInt < 65536) ∧ u.1 = .inl (some (.int (Int32.ofNat 2)))) ∨ ((0 ≤ (f (i + 2)).toInt ∧ (f (i + 2)).toInt < 65536) ∧ u.1 = .inl (some (.int (Int32.ofNat 0))) ∧ et_pl (eg_at u.2.1 out) 0 = some (.long (suN (V_ n).2.1 (V_ n).2.2.1 (V_ n).2.2.2.1 (f (i + 2)) (V_ n).1).toInt64)))) hu (fun v767 K767 G767 c767 s767 x767 f767 hH hv767 cl767 sl767 hQ => ?_))
  have zz_ := zz_.fr zk_ k_th hrc.1.1 hrc.1.2.1 f767 (by decide +kernel)
  have zm_ := zm_.fr (fun n hn => zo_ n (by omega)) zka_ f767 (by decide +kernel)
  have zi_ := zi_.fr (fun n hn => zo_ (3 + n) (by omega)) zki_ f767 (by decide +kernel)
  have zk_ := zk_.ex x767
  have zka_ := x767 _ _ zka_
  have zki_ := x767 _ _ zki_
  have hfy := hfy.fr k_th hrc.1.1 x767 f767 (by decide +kernel)
  have hsy := hsy.fr k_th x767 f767 (by decide +kernel)
  have hty := hty.fr x767 hHo f767 (by decide +kernel)
  have hcy := hcy.fr x767 f767 (by decide +kernel)
  have hry := hry.fr hHo x767 f767 (by decide +kernel)
  have hci := hci.fr x767 f767 (by decide +kernel)
  have h3 := (f767.2 th 12 k_th 3 rfl).trans h3
  have hl := (f767.2 rd 7 k_rd 1 rfl).trans hl
  have hm := (f767.2 am 13 k_am 5 rfl).trans hm
  have hp := (f767.2 th 12 k_th 2 rfl).trans hp
  have hg := (f767.2 am 13 k_am 3 rfl).trans hg
  have htC := htC.fr k_rd x767 f767 (by decide +kernel)
  have htM := htM.fr k_am x767 f767 (by decide +kernel)
  have hrc := hrc.fr k_th x767 f767 (by decide +kernel)
  have hrm := hrm.fr k_am x767 f767 (by decide +kernel)
  have k_th := x767 _ _ k_th
  have k_am := x767 _ _ k_am
  have k_out := x767 _ _ k_out
  have k_rd := x767 _ _ k_rd
  rcases hQ with ⟨cx, ev⟩ | ⟨n0, ⟨en0, hn0⟩, ⟨cs, ev⟩ | ⟨cs, ev, ho⟩⟩
  · cases ev
    show et_go _ _ 1000 770 [some (.ref 150), some (.ref th), some (.ref am), some (.ref out), some (.int (Int32.ofNat i)), x5, x6] [.int (Int32.ofNat 1)] _ (ck + c767) (sk + s767) _
    refine ls_istore (i := 5) (p := 772) (by decide +kernel) (Nat.le_of_ble_eq_true rfl) ?_
    refine ls_aload (i := 2) (p := 773) (by decide +kernel) rfl ?_
    refine ls_arg (j := 1) (by decide +kernel) (by omega) hn ?_
    refine ls_arg (j := 2) (by decide +kernel) (by omega) hn ?_
    refine lt_callv (T := et_TT) (t := 13) (mi := 243) (na := 2) (ci := 11) (lk := 7) (lm := 3) (L0 := eg_en (eg_mL 243) [.ref am, .int (f (i + 1)), .int (f (i + 2))]) (by decide +kernel) rfl hH k_am rfl rfl rfl rfl rfl (by rw [show eg_mL 243 = 3 from by decide +kernel]; first | done | rfl) ?_
    have hHo := hH
    refine ((er_p243_ok (K767, [], G767) [.ref am, .int (f (i + 1)), .int (f (i + 2))] _ hH (by omega) rfl (ht_ac (.inr ⟨by decide, _, rfl, k_am⟩) (ht_ac hi_any (ht_ac hi_any ht_an)))).and (gz_sees hH k_am hrm.1.1 hrm.2.1.1 (hrm.2.2 (5, 4) (by decide)).1 b4 zm_ (fun n hn => zo_ n (by omega)) (by omega))).mono (fun u hu => ls_cbvQ (Q := fun u => (¬ xr (f (i + 1)) (cn 4) ∧ u.1 = .inl (some (.int (Int32.ofNat 0))) ∧ et_pl (eg_at u.2.1 am) 0 = some (.int (Int32.ofNat 1))) ∨ ∃ n, ((f (i + 1)) = Int32.ofNat n ∧ n < cn 4) ∧ ((¬ (0 ≤ (f (i + 2)).toInt ∧ (f (i + 2)).toInt < 65536) ∧ u.1 = .inl (some (.int (Int32.ofNat 0))) ∧ et_pl (eg_at u.2.1 am) 0 = some (.int (Int32.ofNat 2))) ∨ ((0 ≤ (f (i + 2)).toInt ∧ (f (i + 2)).toInt < 65536) ∧ u.1 = .inl (some (.int (suN (V_ n).2.1 (V_ n).2.2.1 (V_ n).2.2.2.1 (f (i + 2)) (V_ n).1))) ∧ et_pl (eg_at u.2.1 am) 0 = some (.int (Int32.ofNat 0))))) hu (fun v785 K785 G785 c785 s785 x785 f785 hH hv785 cl785 sl785 hQ => ?_))
    have zz_ := zz_.fr zk_ k_th hrc.1.1 hrc.1.2.1 f785 (by decide +kernel)
    have zm_ := zm_.fr (fun n hn => zo_ n (by omega)) zka_ f785 (by decide +kernel)
    have zi_ := zi_.fr (fun n hn => zo_ (3 + n) (by omega)) zki_ f785 (by decide +kernel)
    have zk_ := zk_.ex x785
    have zka_ := x785 _ _ zka_
    have zki_ := x785 _ _ zki_
    have hfy := hfy.fr k_th hrc.1.1 x785 f785 (by decide +kernel)
    have hsy := hsy.fr k_th x785 f785 (by decide +kernel)
    have hty := hty.fr x785 hHo f785 (by decide +kernel)
    have hcy := hcy.fr x785 f785 (by decide +kernel)
    have hry := hry.fr hHo x785 f785 (by decide +kernel)
    have hci := hci.fr x785 f785 (by decide +kernel)
    have h3 := (f785.2 th 12 k_th 3 rfl).trans h3
    have hl := (f785.2 rd 7 k_rd 1 rfl).trans hl
    have hm := (f785.2 am 13 k_am 5 rfl).trans hm
    have hp := (f785.2 th 12 k_th 2 rfl).trans hp
    have hg := (f785.2 am 13 k_am 3 rfl).trans hg
    have htC := htC.fr k_rd x785 f785 (by decide +kernel)
    have htM := htM.fr k_am x785 f785 (by decide +kernel)
    have hrc := hrc.fr k_th x785 f785 (by decide +kernel)
    have hrm := hrm.fr k_am x785 f785 (by decide +kernel)
    have k_th := x785 _ _ k_th
    have k_am := x785 _ _ k_am
    have k_out := x785 _ _ k_out
    have k_rd := x785 _ _ k_rd
    rcases hQ with ⟨dx, ev2, ht⟩ | ⟨n1, ⟨en1, hn1⟩, ⟨ds, ev2, ht⟩ | ⟨ds, ev2, ht⟩⟩
    · cases ev2
      have hzy : zy K785 G785 th s0 s1 aw ai (cn 4) (im 4) := ⟨ya_, yb_, O_, A_, V_, ⟨zk_, zka_, zki_⟩, zz_, zo_, zm_, zi_⟩
      show et_go _ _ 1000 788 [some (.ref 150), some (.ref th), some (.ref am), some (.ref out), some (.int (Int32.ofNat i)), some (.int (Int32.ofNat 1)), x6] [.int (Int32.ofNat 0)] _ ((ck + c767) + c785) ((sk + s767) + s785) _
      refine ls_istore (i := 6) (p := 790) (by decide +kernel) (Nat.le_of_ble_eq_true rfl) ?_
      refine ls_goto (p := 1656) (by decide +kernel) ?_
      exact hN _ _ c h _ _ _ _ _ _ ⟨⟨hH, hci, k_th, k_am, k_out, h3, k_rd, hl, hm, hc⟩, ⟨hh1, hp, hg⟩, hrc, hrm, hbc, hbi, ⟨hry, hcy, hty, hzy, hsy, hfy⟩, _, htC, htM, htb⟩ (by omega) (by omega)
    · exact absurd (xr_m en1 hn1 (by omega)) cx
    · exact absurd (xr_m en1 hn1 (by omega)) cx
  · cases ev
    show et_go _ _ 1000 770 [some (.ref 150), some (.ref th), some (.ref am), some (.ref out), some (.int (Int32.ofNat i)), x5, x6] [.int (Int32.ofNat 2)] _ (ck + c767) (sk + s767) _
    refine ls_istore (i := 5) (p := 772) (by decide +kernel) (Nat.le_of_ble_eq_true rfl) ?_
    refine ls_aload (i := 2) (p := 773) (by decide +kernel) rfl ?_
    refine ls_arg (j := 1) (by decide +kernel) (by omega) hn ?_
    refine ls_arg (j := 2) (by decide +kernel) (by omega) hn ?_
    refine lt_callv (T := et_TT) (t := 13) (mi := 243) (na := 2) (ci := 11) (lk := 7) (lm := 3) (L0 := eg_en (eg_mL 243) [.ref am, .int (f (i + 1)), .int (f (i + 2))]) (by decide +kernel) rfl hH k_am rfl rfl rfl rfl rfl (by rw [show eg_mL 243 = 3 from by decide +kernel]; first | done | rfl) ?_
    have hHo := hH
    refine ((er_p243_ok (K767, [], G767) [.ref am, .int (f (i + 1)), .int (f (i + 2))] _ hH (by omega) rfl (ht_ac (.inr ⟨by decide, _, rfl, k_am⟩) (ht_ac hi_any (ht_ac hi_any ht_an)))).and (gz_sees hH k_am hrm.1.1 hrm.2.1.1 (hrm.2.2 (5, 4) (by decide)).1 b4 zm_ (fun n hn => zo_ n (by omega)) (by omega))).mono (fun u hu => ls_cbvQ (Q := fun u => (¬ xr (f (i + 1)) (cn 4) ∧ u.1 = .inl (some (.int (Int32.ofNat 0))) ∧ et_pl (eg_at u.2.1 am) 0 = some (.int (Int32.ofNat 1))) ∨ ∃ n, ((f (i + 1)) = Int32.ofNat n ∧ n < cn 4) ∧ ((¬ (0 ≤ (f (i + 2)).toInt ∧ (f (i + 2)).toInt < 65536) ∧ u.1 = .inl (some (.int (Int32.ofNat 0))) ∧ et_pl (eg_at u.2.1 am) 0 = some (.int (Int32.ofNat 2))) ∨ ((0 ≤ (f (i + 2)).toInt ∧ (f (i + 2)).toInt < 65536) ∧ u.1 = .inl (some (.int (suN (V_ n).2.1 (V_ n).2.2.1 (V_ n).2.2.2.1 (f (i + 2)) (V_ n).1))) ∧ et_pl (eg_at u.2.1 am) 0 = some (.int (Int32.ofNat 0))))) hu (fun v785 K785 G785 c785 s785 x785 f785 hH hv785 cl785 sl785 hQ => ?_))
    have zz_ := zz_.fr zk_ k_th hrc.1.1 hrc.1.2.1 f785 (by decide +kernel)
    have zm_ := zm_.fr (fun n hn => zo_ n (by omega)) zka_ f785 (by decide +kernel)
    have zi_ := zi_.fr (fun n hn => zo_ (3 + n) (by omega)) zki_ f785 (by decide +kernel)
    have zk_ := zk_.ex x785
    have zka_ := x785 _ _ zka_
    have zki_ := x785 _ _ zki_
    have hfy := hfy.fr k_th hrc.1.1 x785 f785 (by decide +kernel)
    have hsy := hsy.fr k_th x785 f785 (by decide +kernel)
    have hty := hty.fr x785 hHo f785 (by decide +kernel)
    have hcy := hcy.fr x785 f785 (by decide +kernel)
    have hry := hry.fr hHo x785 f785 (by decide +kernel)
    have hci := hci.fr x785 f785 (by decide +kernel)
    have h3 := (f785.2 th 12 k_th 3 rfl).trans h3
    have hl := (f785.2 rd 7 k_rd 1 rfl).trans hl
    have hm := (f785.2 am 13 k_am 5 rfl).trans hm
    have hp := (f785.2 th 12 k_th 2 rfl).trans hp
    have hg := (f785.2 am 13 k_am 3 rfl).trans hg
    have htC := htC.fr k_rd x785 f785 (by decide +kernel)
    have htM := htM.fr k_am x785 f785 (by decide +kernel)
    have hrc := hrc.fr k_th x785 f785 (by decide +kernel)
    have hrm := hrm.fr k_am x785 f785 (by decide +kernel)
    have k_th := x785 _ _ k_th
    have k_am := x785 _ _ k_am
    have k_out := x785 _ _ k_out
    have k_rd := x785 _ _ k_rd
    rcases hQ with ⟨dx, ev2, ht⟩ | ⟨n1, ⟨en1, hn1⟩, ⟨ds, ev2, ht⟩ | ⟨ds, ev2, ht⟩⟩
    · exact absurd (xr_m en0 hn0 (by omega)) dx
    · obtain rfl : n0 = n1 := (hs_neq (by have h9_ := (zo_ n0 (by omega)).1.1; omega) (by have h9_ := (zo_ n0 (by omega)).1.1; omega)).mp (en0.symm.trans en1)
      cases ev2
      have hzy : zy K785 G785 th s0 s1 aw ai (cn 4) (im 4) := ⟨ya_, yb_, O_, A_, V_, ⟨zk_, zka_, zki_⟩, zz_, zo_, zm_, zi_⟩
      show et_go _ _ 1000 788 [some (.ref 150), some (.ref th), some (.ref am), some (.ref out), some (.int (Int32.ofNat i)), some (.int (Int32.ofNat 2)), x6] [.int (Int32.ofNat 0)] _ ((ck + c767) + c785) ((sk + s767) + s785) _
      refine ls_istore (i := 6) (p := 790) (by decide +kernel) (Nat.le_of_ble_eq_true rfl) ?_
      refine ls_goto (p := 1656) (by decide +kernel) ?_
      exact hN _ _ c h _ _ _ _ _ _ ⟨⟨hH, hci, k_th, k_am, k_out, h3, k_rd, hl, hm, hc⟩, ⟨hh1, hp, hg⟩, hrc, hrm, hbc, hbi, ⟨hry, hcy, hty, hzy, hsy, hfy⟩, _, htC, htM, htb⟩ (by omega) (by omega)
    · obtain rfl : n0 = n1 := (hs_neq (by have h9_ := (zo_ n0 (by omega)).1.1; omega) (by have h9_ := (zo_ n0 (by omega)).1.1; omega)).mp (en0.symm.trans en1)
      exact absurd ds cs
  · cases ev
    show et_go _ _ 1000 770 [some (.ref 150), some (.ref th), some (.ref am), some (.ref out), some (.int (Int32.ofNat i)), x5, x6] [.int (Int32.ofNat 0)] _ (ck + c767) (sk + s767) _
    refine ls_istore (i := 5) (p := 772) (by decide +kernel) (Nat.le_of_ble_eq_true rfl) ?_
    refine ls_aload (i := 2) (p := 773) (by decide +kernel) rfl ?_
    refine ls_arg (j := 1) (by decide +kernel) (by omega) hn ?_
    refine ls_arg (j := 2) (by decide +kernel) (by omega) hn ?_
    refine lt_callv (T := et_TT) (t := 13) (mi := 243) (na := 2) (ci := 11) (lk := 7) (lm := 3) (L0 := eg_en (eg_mL 243) [.ref am, .int (f (i + 1)), .int (f (i + 2))]) (by decide +kernel) rfl hH k_am rfl rfl rfl rfl rfl (by rw [show eg_mL 243 = 3 from by decide +kernel]; first | done | rfl) ?_
    have hHo := hH
    refine ((er_p243_ok (K767, [], G767) [.ref am, .int (f (i + 1)), .int (f (i + 2))] _ hH (by omega) rfl (ht_ac (.inr ⟨by decide, _, rfl, k_am⟩) (ht_ac hi_any (ht_ac hi_any ht_an)))).and (gz_sees hH k_am hrm.1.1 hrm.2.1.1 (hrm.2.2 (5, 4) (by decide)).1 b4 zm_ (fun n hn => zo_ n (by omega)) (by omega))).mono (fun u hu => ls_cbvQ (Q := fun u => (¬ xr (f (i + 1)) (cn 4) ∧ u.1 = .inl (some (.int (Int32.ofNat 0))) ∧ et_pl (eg_at u.2.1 am) 0 = some (.int (Int32.ofNat 1))) ∨ ∃ n, ((f (i + 1)) = Int32.ofNat n ∧ n < cn 4) ∧ ((¬ (0 ≤ (f (i + 2)).toInt ∧ (f (i + 2)).toInt < 65536) ∧ u.1 = .inl (some (.int (Int32.ofNat 0))) ∧ et_pl (eg_at u.2.1 am) 0 = some (.int (Int32.ofNat 2))) ∨ ((0 ≤ (f (i + 2)).toInt ∧ (f (i + 2)).toInt < 65536) ∧ u.1 = .inl (some (.int (suN (V_ n).2.1 (V_ n).2.2.1 (V_ n).2.2.2.1 (f (i + 2)) (V_ n).1))) ∧ et_pl (eg_at u.2.1 am) 0 = some (.int (Int32.ofNat 0))))) hu (fun v785 K785 G785 c785 s785 x785 f785 hH hv785 cl785 sl785 hQ => ?_))
    have zz_ := zz_.fr zk_ k_th hrc.1.1 hrc.1.2.1 f785 (by decide +kernel)
    have zm_ := zm_.fr (fun n hn => zo_ n (by omega)) zka_ f785 (by decide +kernel)
    have zi_ := zi_.fr (fun n hn => zo_ (3 + n) (by omega)) zki_ f785 (by decide +kernel)
    have zk_ := zk_.ex x785
    have zka_ := x785 _ _ zka_
    have zki_ := x785 _ _ zki_
    have hfy := hfy.fr k_th hrc.1.1 x785 f785 (by decide +kernel)
    have hsy := hsy.fr k_th x785 f785 (by decide +kernel)
    have hty := hty.fr x785 hHo f785 (by decide +kernel)
    have hcy := hcy.fr x785 f785 (by decide +kernel)
    have hry := hry.fr hHo x785 f785 (by decide +kernel)
    have hci := hci.fr x785 f785 (by decide +kernel)
    have h3 := (f785.2 th 12 k_th 3 rfl).trans h3
    have hl := (f785.2 rd 7 k_rd 1 rfl).trans hl
    have hm := (f785.2 am 13 k_am 5 rfl).trans hm
    have hp := (f785.2 th 12 k_th 2 rfl).trans hp
    have hg := (f785.2 am 13 k_am 3 rfl).trans hg
    have htC := htC.fr k_rd x785 f785 (by decide +kernel)
    have htM := htM.fr k_am x785 f785 (by decide +kernel)
    have hrc := hrc.fr k_th x785 f785 (by decide +kernel)
    have hrm := hrm.fr k_am x785 f785 (by decide +kernel)
    have ho := (f785.2 out 31 k_out 0 rfl).trans ho
    have k_th := x785 _ _ k_th
    have k_am := x785 _ _ k_am
    have k_out := x785 _ _ k_out
    have k_rd := x785 _ _ k_rd
    rcases hQ with ⟨dx, ev2, ht⟩ | ⟨n1, ⟨en1, hn1⟩, ⟨ds, ev2, ht⟩ | ⟨ds, ev2, ht⟩⟩
    · exact absurd (xr_m en0 hn0 (by omega)) dx
    · obtain rfl : n0 = n1 := (hs_neq (by have h9_ := (zo_ n0 (by omega)).1.1; omega) (by have h9_ := (zo_ n0 (by omega)).1.1; omega)).mp (en0.symm.trans en1)
      exact absurd cs ds
    · obtain rfl : n0 = n1 := (hs_neq (by have h9_ := (zo_ n0 (by omega)).1.1; omega) (by have h9_ := (zo_ n0 (by omega)).1.1; omega)).mp (en0.symm.trans en1)
      cases ev2
      have hzy : zy K785 G785 th s0 s1 aw ai (cn 4) (im 4) := ⟨ya_, yb_, O_, A_, V_, ⟨zk_, zka_, zki_⟩, zz_, zo_, zm_, zi_⟩
      show et_go _ _ 1000 788 [some (.ref 150), some (.ref th), some (.ref am), some (.ref out), some (.int (Int32.ofNat i)), some (.int (Int32.ofNat 0)), x6] [.int (suN (V_ n0).2.1 (V_ n0).2.2.1 (V_ n0).2.2.2.1 (f (i + 2)) (V_ n0).1)] _ ((ck + c767) + c785) ((sk + s767) + s785) _
      refine ls_istore (i := 6) (p := 790) (by decide +kernel) (Nat.le_of_ble_eq_true rfl) ?_
      refine ls_goto (p := 1656) (by decide +kernel) ?_
      exact hN _ _ c h _ _ _ _ _ _ ⟨⟨hH, hci, k_th, k_am, k_out, h3, k_rd, hl, hm, hc⟩, ⟨hh1, hp, hg⟩, hrc, hrm, hbc, hbi, ⟨hry, hcy, hty, hzy, hsy, hfy⟩, _, htC, htM, htb⟩ (by omega) (by omega)
set_option maxHeartbeats 2000000 in
theorem lw_c16 (hI : lw_I K G th am out rd s0 s1 aw ai tp ba na tm c h cn im) (hi : i + 6 ≤ n) (hn : n ≤ 3072) (hN : ∀ (K' : et_K) (G' : eg_G) (c' h' : Nat) (cn' im' : Nat → Nat) (ck' sk' : Nat) (y5 y6 : Option Value), lw_I K' G' th am out rd s0 s1 aw ai tp ba na tm c' h' cn' im' → ck' ≤ ck + 841 → sk' ≤ sk + 7168 → et_go (some (n, f)) (d + 41) 1000 1656 [some (.ref 150), some (.ref th), some (.ref am), some (.ref out), some (.int (Int32.ofNat i)), y5, y6] [] G' ck' sk' Z) : et_go (some (n, f)) (d + 41) 1000 793 [some (.ref 150), some (.ref th), some (.ref am), some (.ref out), some (.int (Int32.ofNat i)), x5, x6] [] G ck sk Z := by
  obtain ⟨⟨hH, hci, k_th, k_am, k_out, h3, k_rd, hl, hm, hc⟩, ⟨hh1, hp, hg⟩, hrc, hrm, hbc, hbi, ⟨hry, hcy, hty, hzy, hsy, hfy⟩, tb, htC, htM, htb⟩ := hI
  refine ls_aload (i := 1) (p := 794) (by decide +kernel) rfl ?_
  refine ls_arg (j := 1) (by decide +kernel) (by omega) hn ?_
  refine ls_arg (j := 2) (by decide +kernel) (by omega) hn ?_
  refine ls_arg (j := 3) (by decide +kernel) (by omega) hn ?_
  refine ls_aload (i := 3) (p := 813) (by decide +kernel) rfl ?_
  refine ls_calls (mi := 12) (na := 5) (lk := 7) (lm := 6) (L0 := eg_en (eg_mL 12) [.ref th, .int (f (i + 1)), .int (f (i + 2)), .int (f (i + 3)), .ref out]) (by decide +kernel) rfl rfl rfl rfl rfl rfl (by rw [show eg_mL 12 = 6 from by decide +kernel]; first | done | rfl) ?_
  have hHo := hH
  have b4 : cn 4 ≤ 3 := Int.ofNat_le.mp (hf_bd (t := 10) hH hrc.1.1 rfl rfl (hrc.2.2 (5, 4) (by decide)).1 (hbc 4))
  have b1 : cn 1 ≤ 4 := Int.ofNat_le.mp (hf_bd (t := 10) hH hrc.1.1 rfl rfl (hrc.2.2 (7, 1) (by decide)).1 (hbc 1))
  have b3 : cn 3 ≤ 20 := Int.ofNat_le.mp (hf_bd (t := 10) hH hrc.1.1 rfl rfl (hrc.2.2 (2, 3) (by decide)).1 (hbc 3))
  obtain ⟨t0_, t1_, T0_, T1_, L0_, L1_, tK_, ⟨tp0_, tp1_⟩, ⟨tc_, ti_⟩, ⟨tE_, tX_⟩, tF_, tY_⟩ := id hty
  obtain ⟨la0, ya0, la1, ya1, X_, X2_, Y_, Y2_, tk_, bk_, ⟨hcc_, hcr_⟩, hcd_, hcs_⟩ := id hcy
  obtain ⟨ya_, yb_, O_, A_, V_, ⟨zk_, zka_, zki_⟩, zz_, zo_, zm_, zi_⟩ := hzy
  have zz9 := zz_
  have hfy9 := hfy
  have ks9 := hrc.1.1
  have kt9 := k_th
  have ko9 := k_out
  refine ((hh_c12 (K, [], G) [.ref th, .int (f (i + 1)), .int (f (i + 2)), .int (f (i + 3)), .ref out] _ hH (by omega) rfl (ht_ac (.inr ⟨by decide, _, rfl, k_th⟩) (ht_ac hi_any (ht_ac hi_any (ht_ac hi_any (ht_ac (.inr ⟨by decide, _, rfl, k_out⟩) ht_an)))))).and (fz_show hH k_th hrc.2.1.1 hrc.1.1 hrc.1.2.1 (hrc.2.2 (5, 4) (by decide)).1 b4 zk_ zz_ zo_ (hrc.2.2 (7, 1) (by decide)).1 b1 tp0_ tK_.1.2.2.1 tE_ (hrc.2.2 (2, 3) (by decide)).1 b3 hcc_ tk_.2.1.1 tk_.2.1.2.1 k_out (by omega))).mono (fun u hu => ls_cbvQ (Q := fun u => (¬ (xr (f (i + 1)) (cn 4) ∧ xr (f (i + 2)) (cn 3) ∧ xr (f (i + 3)) (cn 1)) ∧ u.1 = .inl (some (.int (Int32.ofNat 1))) ∧ ez u.2.1 th s0 s1 ya_ yb_ O_ A_ V_) ∨ ∃ n c k, ((f (i + 1)) = Int32.ofNat n ∧ (f (i + 2)) = Int32.ofNat c ∧ (f (i + 3)) = Int32.ofNat k) ∧ (n < cn 4 ∧ c < cn 3 ∧ k < cn 1) ∧ u.1 = .inl (some (.int (Int32.ofNat 0))) ∧ et_pl (eg_at u.2.1 out) 0 = some (.long (Int64.ofNat (if shB (V_ n) (X_ c) (yB (Y_ c)) = true then 1 else 0))) ∧ ez u.2.1 th s0 s1 ya_ yb_ O_ A_ (vup V_ n (shV (V_ n) (X_ c) (yB (Y_ c)) (L0_ k)))) hu (fun v813 K813 G813 c813 s813 x813 f813 hH hv813 cl813 sl813 hQ => ?_))
  have zm_ := zm_.fr (fun n hn => zo_ n (by omega)) zka_ f813 (by decide +kernel)
  have zi_ := zi_.fr (fun n hn => zo_ (3 + n) (by omega)) zki_ f813 (by decide +kernel)
  have zk_ := zk_.ex x813
  have zka_ := x813 _ _ zka_
  have zki_ := x813 _ _ zki_
  have hcr_ := hcr_.fr bk_.1 tk_.2.2.1.1 f813 (by decide +kernel)
  have tX_ := tX_.fr tK_.2.1.1 tc_ f813 (by decide +kernel)
  have hsy := hsy.fr k_th x813 f813 (by decide +kernel)
  have hty := hty.fr x813 hHo f813 (by decide +kernel)
  have hcy := hcy.fr x813 f813 (by decide +kernel)
  have hry := hry.fr hHo x813 f813 (by decide +kernel)
  have hci := hci.fr x813 f813 (by decide +kernel)
  have h3 := (f813.2 th 12 k_th 3 rfl).trans h3
  have hl := (f813.2 rd 7 k_rd 1 rfl).trans hl
  have hm := (f813.2 am 13 k_am 5 rfl).trans hm
  have hp := (f813.2 th 12 k_th 2 rfl).trans hp
  have hg := (f813.2 am 13 k_am 3 rfl).trans hg
  have htC := htC.fr k_rd x813 f813 (by decide +kernel)
  have htM := htM.fr k_am x813 f813 (by decide +kernel)
  have hrc := hrc.fr k_th x813 f813 (by decide +kernel)
  have hrm := hrm.fr k_am x813 f813 (by decide +kernel)
  have k_th := x813 _ _ k_th
  have k_am := x813 _ _ k_am
  have k_out := x813 _ _ k_out
  have k_rd := x813 _ _ k_rd
  rcases hQ with ⟨cx, ev, zz_⟩ | ⟨n0, c0, k0, ⟨en0, ec0, ek0⟩, ⟨hn0, hc0, hk0⟩, ev, ho, zz_⟩
  · cases ev
    have hfy : fyR K813 G813 th s0 (cn 3) := hfy9.uz x813 ks9 zz9 zo_ zz_ (fun n hn => coreE.rf) f813 (by decide +kernel) (fun j hj => by rcases hj with rfl | rfl | rfl <;> exact f813.2 th 12 kt9 _ rfl)
    show et_go _ _ 1000 816 [some (.ref 150), some (.ref th), some (.ref am), some (.ref out), some (.int (Int32.ofNat i)), x5, x6] [.int (Int32.ofNat 1)] _ (ck + c813) (sk + s813) _
    refine ls_istore (i := 5) (p := 818) (by decide +kernel) (Nat.le_of_ble_eq_true rfl) ?_
    refine ls_aload (i := 2) (p := 819) (by decide +kernel) rfl ?_
    refine ls_arg (j := 1) (by decide +kernel) (by omega) hn ?_
    refine ls_arg (j := 2) (by decide +kernel) (by omega) hn ?_
    refine ls_arg (j := 3) (by decide +kernel) (by omega) hn ?_
    refine lt_callv (T := et_TT) (t := 13) (mi := 244) (na := 3) (ci := 11) (lk := 7) (lm := 4) (L0 := eg_en (eg_mL 244) [.ref am, .int (f (i + 1)), .int (f (i + 2)), .int (f (i + 3))]) (by decide +kernel) rfl hH k_am rfl rfl rfl rfl rfl (by rw [show eg_mL 244 = 4 from by decide +kernel]; first | done | rfl) ?_
    have hHo := hH
    refine ((er_p244_ok (K813, [], G813) [.ref am, .int (f (i + 1)), .int (f (i + 2)), .int (f (i + 3))] _ hH (by omega) rfl (ht_ac (.inr ⟨by decide, _, rfl, k_am⟩) (ht_ac hi_any (ht_ac hi_any (ht_ac hi_any ht_an))))).and (gz_show hH k_am hrm.1.1 hrm.2.1.1 (hrm.2.2 (5, 4) (by decide)).1 b4 zm_ (fun n hn => zo_ n (by omega)) (hrm.2.2 (2, 3) (by decide)).1 b3 hcr_ (hrm.2.2 (7, 1) (by decide)).1 b1 tX_ (fun k hk => (tE_ k hk).2) (by omega))).mono (fun u hu => ls_cbvQ (Q := fun u => (¬ (xr (f (i + 1)) (cn 4) ∧ xr (f (i + 2)) (cn 3) ∧ xr (f (i + 3)) (cn 1)) ∧ u.1 = .inl (some (.int (Int32.ofNat 0))) ∧ et_pl (eg_at u.2.1 am) 0 = some (.int (Int32.ofNat 1)) ∧ zyM u.2.1 aw (cn 4) V_) ∨ ∃ n c k, ((f (i + 1)) = Int32.ofNat n ∧ (f (i + 2)) = Int32.ofNat c ∧ (f (i + 3)) = Int32.ofNat k) ∧ (n < cn 4 ∧ c < cn 3 ∧ k < cn 1) ∧ u.1 = .inl (some (.int (Int32.ofNat (if shB (V_ n) (X_ c) (yB (Y_ c)) = true then 1 else 0)))) ∧ et_pl (eg_at u.2.1 am) 0 = some (.int (Int32.ofNat 0)) ∧ zyM u.2.1 aw (cn 4) (vup V_ n (shV (V_ n) (X_ c) (yB (Y_ c)) (L0_ k)))) hu (fun v837 K837 G837 c837 s837 x837 f837 hH hv837 cl837 sl837 hQ => ?_))
    have zz_ := zz_.fr zk_ k_th hrc.1.1 hrc.1.2.1 f837 (by decide +kernel)
    have zi_ := zi_.fr (fun n hn => zo_ (3 + n) (by omega)) zki_ f837 (by decide +kernel)
    have zk_ := zk_.ex x837
    have zka_ := x837 _ _ zka_
    have zki_ := x837 _ _ zki_
    have hfy := hfy.fr k_th hrc.1.1 x837 f837 (by decide +kernel)
    have hsy := hsy.fr k_th x837 f837 (by decide +kernel)
    have hty := hty.fr x837 hHo f837 (by decide +kernel)
    have hcy := hcy.fr x837 f837 (by decide +kernel)
    have hry := hry.fr hHo x837 f837 (by decide +kernel)
    have hci := hci.fr x837 f837 (by decide +kernel)
    have h3 := (f837.2 th 12 k_th 3 rfl).trans h3
    have hl := (f837.2 rd 7 k_rd 1 rfl).trans hl
    have hm := (f837.2 am 13 k_am 5 rfl).trans hm
    have hp := (f837.2 th 12 k_th 2 rfl).trans hp
    have hg := (f837.2 am 13 k_am 3 rfl).trans hg
    have htC := htC.fr k_rd x837 f837 (by decide +kernel)
    have htM := htM.fr k_am x837 f837 (by decide +kernel)
    have hrc := hrc.fr k_th x837 f837 (by decide +kernel)
    have hrm := hrm.fr k_am x837 f837 (by decide +kernel)
    have k_th := x837 _ _ k_th
    have k_am := x837 _ _ k_am
    have k_out := x837 _ _ k_out
    have k_rd := x837 _ _ k_rd
    rcases hQ with ⟨dx, ev2, ht, zm_⟩ | ⟨n1, c1, k1, ⟨en1, ec1, ek1⟩, ⟨hn1, hc1, hk1⟩, ev2, ht, zm_⟩
    · cases ev2
      have hzy : zy K837 G837 th s0 s1 aw ai (cn 4) (im 4) := ⟨ya_, yb_, O_, A_, V_, ⟨zk_, zka_, zki_⟩, zz_, zo_, zm_, zi_⟩
      show et_go _ _ 1000 840 [some (.ref 150), some (.ref th), some (.ref am), some (.ref out), some (.int (Int32.ofNat i)), some (.int (Int32.ofNat 1)), x6] [.int (Int32.ofNat 0)] _ ((ck + c813) + c837) ((sk + s813) + s837) _
      refine ls_istore (i := 6) (p := 842) (by decide +kernel) (Nat.le_of_ble_eq_true rfl) ?_
      refine ls_goto (p := 1656) (by decide +kernel) ?_
      exact hN _ _ c h _ _ _ _ _ _ ⟨⟨hH, hci, k_th, k_am, k_out, h3, k_rd, hl, hm, hc⟩, ⟨hh1, hp, hg⟩, hrc, hrm, hbc, hbi, ⟨hry, hcy, hty, hzy, hsy, hfy⟩, _, htC, htM, htb⟩ (by omega) (by omega)
    · exact absurd (show _ ∧ _ ∧ _ from ⟨(xr_m en1 hn1 (by omega)), (xr_m ec1 hc1 (by omega)), (xr_m ek1 hk1 (by omega))⟩) cx
  · cases ev
    have hfy : fyR K813 G813 th s0 (cn 3) := hfy9.uz x813 ks9 zz9 zo_ zz_ (fun n hn => coreE.up (by exact ⟨rfl, fun _ _ => ⟨rfl, rfl⟩⟩) n) f813 (by decide +kernel) (fun j hj => by rcases hj with rfl | rfl | rfl <;> exact f813.2 th 12 kt9 _ rfl)
    show et_go _ _ 1000 816 [some (.ref 150), some (.ref th), some (.ref am), some (.ref out), some (.int (Int32.ofNat i)), x5, x6] [.int (Int32.ofNat 0)] _ (ck + c813) (sk + s813) _
    refine ls_istore (i := 5) (p := 818) (by decide +kernel) (Nat.le_of_ble_eq_true rfl) ?_
    refine ls_aload (i := 2) (p := 819) (by decide +kernel) rfl ?_
    refine ls_arg (j := 1) (by decide +kernel) (by omega) hn ?_
    refine ls_arg (j := 2) (by decide +kernel) (by omega) hn ?_
    refine ls_arg (j := 3) (by decide +kernel) (by omega) hn ?_
    refine lt_callv (T := et_TT) (t := 13) (mi := 244) (na := 3) (ci := 11) (lk := 7) (lm := 4) (L0 := eg_en (eg_mL 244) [.ref am, .int (f (i + 1)), .int (f (i + 2)), .int (f (i + 3))]) (by decide +kernel) rfl hH k_am rfl rfl rfl rfl rfl (by rw [show eg_mL 244 = 4 from by decide +kernel]; first | done | rfl) ?_
    have hHo := hH
    refine ((er_p244_ok (K813, [], G813) [.ref am, .int (f (i + 1)), .int (f (i + 2)), .int (f (i + 3))] _ hH (by omega) rfl (ht_ac (.inr ⟨by decide, _, rfl, k_am⟩) (ht_ac hi_any (ht_ac hi_any (ht_ac hi_any ht_an))))).and (gz_show hH k_am hrm.1.1 hrm.2.1.1 (hrm.2.2 (5, 4) (by decide)).1 b4 zm_ (fun n hn => zo_ n (by omega)) (hrm.2.2 (2, 3) (by decide)).1 b3 hcr_ (hrm.2.2 (7, 1) (by decide)).1 b1 tX_ (fun k hk => (tE_ k hk).2) (by omega))).mono (fun u hu => ls_cbvQ (Q := fun u => (¬ (xr (f (i + 1)) (cn 4) ∧ xr (f (i + 2)) (cn 3) ∧ xr (f (i + 3)) (cn 1)) ∧ u.1 = .inl (some (.int (Int32.ofNat 0))) ∧ et_pl (eg_at u.2.1 am) 0 = some (.int (Int32.ofNat 1)) ∧ zyM u.2.1 aw (cn 4) V_) ∨ ∃ n c k, ((f (i + 1)) = Int32.ofNat n ∧ (f (i + 2)) = Int32.ofNat c ∧ (f (i + 3)) = Int32.ofNat k) ∧ (n < cn 4 ∧ c < cn 3 ∧ k < cn 1) ∧ u.1 = .inl (some (.int (Int32.ofNat (if shB (V_ n) (X_ c) (yB (Y_ c)) = true then 1 else 0)))) ∧ et_pl (eg_at u.2.1 am) 0 = some (.int (Int32.ofNat 0)) ∧ zyM u.2.1 aw (cn 4) (vup V_ n (shV (V_ n) (X_ c) (yB (Y_ c)) (L0_ k)))) hu (fun v837 K837 G837 c837 s837 x837 f837 hH hv837 cl837 sl837 hQ => ?_))
    have zz_ := zz_.fr zk_ k_th hrc.1.1 hrc.1.2.1 f837 (by decide +kernel)
    have zi_ := zi_.fr (fun n hn => zo_ (3 + n) (by omega)) zki_ f837 (by decide +kernel)
    have zk_ := zk_.ex x837
    have zka_ := x837 _ _ zka_
    have zki_ := x837 _ _ zki_
    have hfy := hfy.fr k_th hrc.1.1 x837 f837 (by decide +kernel)
    have hsy := hsy.fr k_th x837 f837 (by decide +kernel)
    have hty := hty.fr x837 hHo f837 (by decide +kernel)
    have hcy := hcy.fr x837 f837 (by decide +kernel)
    have hry := hry.fr hHo x837 f837 (by decide +kernel)
    have hci := hci.fr x837 f837 (by decide +kernel)
    have h3 := (f837.2 th 12 k_th 3 rfl).trans h3
    have hl := (f837.2 rd 7 k_rd 1 rfl).trans hl
    have hm := (f837.2 am 13 k_am 5 rfl).trans hm
    have hp := (f837.2 th 12 k_th 2 rfl).trans hp
    have hg := (f837.2 am 13 k_am 3 rfl).trans hg
    have htC := htC.fr k_rd x837 f837 (by decide +kernel)
    have htM := htM.fr k_am x837 f837 (by decide +kernel)
    have hrc := hrc.fr k_th x837 f837 (by decide +kernel)
    have hrm := hrm.fr k_am x837 f837 (by decide +kernel)
    have ho := (f837.2 out 31 k_out 0 rfl).trans ho
    have k_th := x837 _ _ k_th
    have k_am := x837 _ _ k_am
    have k_out := x837 _ _ k_out
    have k_rd := x837 _ _ k_rd
    rcases hQ with ⟨dx, ev2, ht, zm_⟩ | ⟨n1, c1, k1, ⟨en1, ec1, ek1⟩, ⟨hn1, hc1, hk1⟩, ev2, ht, zm_⟩
    · exact absurd (show _ ∧ _ ∧ _ from ⟨(xr_m en0 hn0 (by omega)), (xr_m ec0 hc0 (by omega)), (xr_m ek0 hk0 (by omega))⟩) dx
    · obtain rfl : n0 = n1 := (hs_neq (by have h9_ := (zo_ n0 (by omega)).1.1; omega) (by have h9_ := (zo_ n0 (by omega)).1.1; omega)).mp (en0.symm.trans en1)
      obtain rfl : c0 = c1 := (hs_neq (by have h9_ := (zo_ n0 (by omega)).1.1; omega) (by have h9_ := (zo_ n0 (by omega)).1.1; omega)).mp (ec0.symm.trans ec1)
      obtain rfl : k0 = k1 := (hs_neq (by have h9_ := (zo_ n0 (by omega)).1.1; omega) (by have h9_ := (zo_ n0 (by omega)).1.1; omega)).mp (ek0.symm.trans ek1)
      cases ev2
      have hzy : zy K837 G837 th s0 s1 aw ai (cn 4) (im 4) := ⟨ya_, yb_, O_, A_, (vup V_ n0 (shV (V_ n0) (X_ c0) (yB (Y_ c0)) (L0_ k0))), ⟨zk_, zka_, zki_⟩, zz_, (vup_o zo_ (shV_o (zo_ n0 (by omega)))), zm_, (vup_3 zi_ (by omega))⟩
      show et_go _ _ 1000 840 [some (.ref 150), some (.ref th), some (.ref am), some (.ref out), some (.int (Int32.ofNat i)), some (.int (Int32.ofNat 0)), x6] [.int (Int32.ofNat (if shB (V_ n0) (X_ c0) (yB (Y_ c0)) = true then 1 else 0))] _ ((ck + c813) + c837) ((sk + s813) + s837) _
      refine ls_istore (i := 6) (p := 842) (by decide +kernel) (Nat.le_of_ble_eq_true rfl) ?_
      refine ls_goto (p := 1656) (by decide +kernel) ?_
      exact hN _ _ c h _ _ _ _ _ _ ⟨⟨hH, hci, k_th, k_am, k_out, h3, k_rd, hl, hm, hc⟩, ⟨hh1, hp, hg⟩, hrc, hrm, hbc, hbi, ⟨hry, hcy, hty, hzy, hsy, hfy⟩, _, htC, htM, htb⟩ (by omega) (by omega)
set_option maxHeartbeats 2000000 in
theorem lw_c17 (hI : lw_I K G th am out rd s0 s1 aw ai tp ba na tm c h cn im) (hi : i + 6 ≤ n) (hn : n ≤ 3072) (hN : ∀ (K' : et_K) (G' : eg_G) (c' h' : Nat) (cn' im' : Nat → Nat) (ck' sk' : Nat) (y5 y6 : Option Value), lw_I K' G' th am out rd s0 s1 aw ai tp ba na tm c' h' cn' im' → ck' ≤ ck + 841 → sk' ≤ sk + 7168 → et_go (some (n, f)) (d + 41) 1000 1656 [some (.ref 150), some (.ref th), some (.ref am), some (.ref out), some (.int (Int32.ofNat i)), y5, y6] [] G' ck' sk' Z) : et_go (some (n, f)) (d + 41) 1000 845 [some (.ref 150), some (.ref th), some (.ref am), some (.ref out), some (.int (Int32.ofNat i)), x5, x6] [] G ck sk Z := by
  obtain ⟨⟨hH, hci, k_th, k_am, k_out, h3, k_rd, hl, hm, hc⟩, ⟨hh1, hp, hg⟩, hrc, hrm, hbc, hbi, ⟨hry, hcy, hty, hzy, hsy, hfy⟩, tb, htC, htM, htb⟩ := hI
  refine ls_aload (i := 1) (p := 846) (by decide +kernel) rfl ?_
  refine ls_arg (j := 1) (by decide +kernel) (by omega) hn ?_
  refine ls_arg (j := 2) (by decide +kernel) (by omega) hn ?_
  refine ls_arg (j := 3) (by decide +kernel) (by omega) hn ?_
  refine ls_aload (i := 3) (p := 865) (by decide +kernel) rfl ?_
  refine ls_calls (mi := 13) (na := 5) (lk := 7) (lm := 6) (L0 := eg_en (eg_mL 13) [.ref th, .int (f (i + 1)), .int (f (i + 2)), .int (f (i + 3)), .ref out]) (by decide +kernel) rfl rfl rfl rfl rfl rfl (by rw [show eg_mL 13 = 6 from by decide +kernel]; first | done | rfl) ?_
  have hHo := hH
  have b4 : cn 4 ≤ 3 := Int.ofNat_le.mp (hf_bd (t := 10) hH hrc.1.1 rfl rfl (hrc.2.2 (5, 4) (by decide)).1 (hbc 4))
  have b1 : cn 1 ≤ 4 := Int.ofNat_le.mp (hf_bd (t := 10) hH hrc.1.1 rfl rfl (hrc.2.2 (7, 1) (by decide)).1 (hbc 1))
  have b3 : cn 3 ≤ 20 := Int.ofNat_le.mp (hf_bd (t := 10) hH hrc.1.1 rfl rfl (hrc.2.2 (2, 3) (by decide)).1 (hbc 3))
  obtain ⟨t0_, t1_, T0_, T1_, L0_, L1_, tK_, ⟨tp0_, tp1_⟩, ⟨tc_, ti_⟩, ⟨tE_, tX_⟩, tF_, tY_⟩ := id hty
  obtain ⟨la0, ya0, la1, ya1, X_, X2_, Y_, Y2_, tk_, bk_, ⟨hcc_, hcr_⟩, hcd_, hcs_⟩ := id hcy
  obtain ⟨ya_, yb_, O_, A_, V_, ⟨zk_, zka_, zki_⟩, zz_, zo_, zm_, zi_⟩ := hzy
  have zz9 := zz_
  have hfy9 := hfy
  have ks9 := hrc.1.1
  have kt9 := k_th
  have ko9 := k_out
  refine ((hh_c13 (K, [], G) [.ref th, .int (f (i + 1)), .int (f (i + 2)), .int (f (i + 3)), .ref out] _ hH (by omega) rfl (ht_ac (.inr ⟨by decide, _, rfl, k_th⟩) (ht_ac hi_any (ht_ac hi_any (ht_ac hi_any (ht_ac (.inr ⟨by decide, _, rfl, k_out⟩) ht_an)))))).and (fz_turned hH k_th hrc.2.1.1 hrc.1.1 hrc.1.2.1 (hrc.2.2 (5, 4) (by decide)).1 b4 zk_ zz_ zo_ (hrc.2.2 (7, 1) (by decide)).1 b1 tp0_ tK_.1.2.2.1 tE_ (hrc.2.2 (2, 3) (by decide)).1 b3 hcc_ tk_.2.1.1 tk_.2.1.2.1 k_out (by omega))).mono (fun u hu => ls_cbvQ (Q := fun u => (¬ (xr (f (i + 1)) (cn 4) ∧ xr (f (i + 2)) (cn 1)) ∧ u.1 = .inl (some (.int (Int32.ofNat 1))) ∧ ez u.2.1 th s0 s1 ya_ yb_ O_ A_ V_) ∨ ((xr (f (i + 1)) (cn 4) ∧ xr (f (i + 2)) (cn 1)) ∧ ¬ (1 ≤ (f (i + 3)).toInt ∧ (f (i + 3)).toInt ≤ 60) ∧ u.1 = .inl (some (.int (Int32.ofNat 2))) ∧ ez u.2.1 th s0 s1 ya_ yb_ O_ A_ V_) ∨ ∃ n k m, ((f (i + 1)) = Int32.ofNat n ∧ (f (i + 2)) = Int32.ofNat k ∧ (f (i + 3)) = Int32.ofNat m) ∧ (n < cn 4 ∧ k < cn 1 ∧ 1 ≤ m ∧ m ≤ 60) ∧ u.1 = .inl (some (.int (Int32.ofNat 0))) ∧ et_pl (eg_at u.2.1 out) 0 = some (.long (tdR (V_ n) X_ (fun c => yB (Y_ c)) (L0_ k) (cn 3) m).2.toInt64) ∧ ez u.2.1 th s0 s1 ya_ yb_ O_ A_ (vup V_ n (tdV (V_ n) X_ (fun c => yB (Y_ c)) (L0_ k) (cn 3) m))) hu (fun v865 K865 G865 c865 s865 x865 f865 hH hv865 cl865 sl865 hQ => ?_))
  have zm_ := zm_.fr (fun n hn => zo_ n (by omega)) zka_ f865 (by decide +kernel)
  have zi_ := zi_.fr (fun n hn => zo_ (3 + n) (by omega)) zki_ f865 (by decide +kernel)
  have zk_ := zk_.ex x865
  have zka_ := x865 _ _ zka_
  have zki_ := x865 _ _ zki_
  have hcr_ := hcr_.fr bk_.1 tk_.2.2.1.1 f865 (by decide +kernel)
  have tX_ := tX_.fr tK_.2.1.1 tc_ f865 (by decide +kernel)
  have hsy := hsy.fr k_th x865 f865 (by decide +kernel)
  have hty := hty.fr x865 hHo f865 (by decide +kernel)
  have hcy := hcy.fr x865 f865 (by decide +kernel)
  have hry := hry.fr hHo x865 f865 (by decide +kernel)
  have hci := hci.fr x865 f865 (by decide +kernel)
  have h3 := (f865.2 th 12 k_th 3 rfl).trans h3
  have hl := (f865.2 rd 7 k_rd 1 rfl).trans hl
  have hm := (f865.2 am 13 k_am 5 rfl).trans hm
  have hp := (f865.2 th 12 k_th 2 rfl).trans hp
  have hg := (f865.2 am 13 k_am 3 rfl).trans hg
  have htC := htC.fr k_rd x865 f865 (by decide +kernel)
  have htM := htM.fr k_am x865 f865 (by decide +kernel)
  have hrc := hrc.fr k_th x865 f865 (by decide +kernel)
  have hrm := hrm.fr k_am x865 f865 (by decide +kernel)
  have k_th := x865 _ _ k_th
  have k_am := x865 _ _ k_am
  have k_out := x865 _ _ k_out
  have k_rd := x865 _ _ k_rd
  rcases hQ with ⟨cx, ev, zz_⟩ | ⟨cx, cz, ev, zz_⟩ | ⟨n0, k0, m0, ⟨en0, ek0, em0⟩, ⟨hn0, hk0, hm0, hl0⟩, ev, ho, zz_⟩
  · cases ev
    have hfy : fyR K865 G865 th s0 (cn 3) := hfy9.uz x865 ks9 zz9 zo_ zz_ (fun n hn => coreE.rf) f865 (by decide +kernel) (fun j hj => by rcases hj with rfl | rfl | rfl <;> exact f865.2 th 12 kt9 _ rfl)
    show et_go _ _ 1000 868 [some (.ref 150), some (.ref th), some (.ref am), some (.ref out), some (.int (Int32.ofNat i)), x5, x6] [.int (Int32.ofNat 1)] _ (ck + c865) (sk + s865) _
    refine ls_istore (i := 5) (p := 870) (by decide +kernel) (Nat.le_of_ble_eq_true rfl) ?_
    refine ls_aload (i := 2) (p := 871) (by decide +kernel) rfl ?_
    refine ls_arg (j := 1) (by decide +kernel) (by omega) hn ?_
    refine ls_arg (j := 2) (by decide +kernel) (by omega) hn ?_
    refine ls_arg (j := 3) (by decide +kernel) (by omega) hn ?_
    refine lt_callv (T := et_TT) (t := 13) (mi := 252) (na := 3) (ci := 11) (lk := 7) (lm := 7) (L0 := eg_en (eg_mL 252) [.ref am, .int (f (i + 1)), .int (f (i + 2)), .int (f (i + 3))]) (by decide +kernel) rfl hH k_am rfl rfl rfl rfl rfl (by rw [show eg_mL 252 = 7 from by decide +kernel]; first | done | rfl) ?_
    have hHo := hH
    refine ((er_p252_ok (K865, [], G865) [.ref am, .int (f (i + 1)), .int (f (i + 2)), .int (f (i + 3))] _ hH (by omega) rfl (ht_ac (.inr ⟨by decide, _, rfl, k_am⟩) (ht_ac hi_any (ht_ac hi_any (ht_ac hi_any ht_an))))).and (gz_turned hH k_am hrm.1.1 hrm.2.1.1 (hrm.2.2 (5, 4) (by decide)).1 b4 zm_ (fun n hn => zo_ n (by omega)) (hrm.2.2 (2, 3) (by decide)).1 b3 hcr_ (hrm.2.2 (7, 1) (by decide)).1 b1 tX_ (fun k hk => (tE_ k hk).2) (by omega))).mono (fun u hu => ls_cbvQ (Q := fun u => (¬ (xr (f (i + 1)) (cn 4) ∧ xr (f (i + 2)) (cn 1)) ∧ u.1 = .inl (some (.int (Int32.ofNat 0))) ∧ et_pl (eg_at u.2.1 am) 0 = some (.int (Int32.ofNat 1)) ∧ zyM u.2.1 aw (cn 4) V_) ∨ ((xr (f (i + 1)) (cn 4) ∧ xr (f (i + 2)) (cn 1)) ∧ ¬ (1 ≤ (f (i + 3)).toInt ∧ (f (i + 3)).toInt ≤ 60) ∧ u.1 = .inl (some (.int (Int32.ofNat 0))) ∧ et_pl (eg_at u.2.1 am) 0 = some (.int (Int32.ofNat 2)) ∧ zyM u.2.1 aw (cn 4) V_) ∨ ∃ n k m, ((f (i + 1)) = Int32.ofNat n ∧ (f (i + 2)) = Int32.ofNat k ∧ (f (i + 3)) = Int32.ofNat m) ∧ (n < cn 4 ∧ k < cn 1 ∧ 1 ≤ m ∧ m ≤ 60) ∧ u.1 = .inl (some (.int (tdR (V_ n) X_ (fun c => yB (Y_ c)) (L0_ k) (cn 3) m).2)) ∧ et_pl (eg_at u.2.1 am) 0 = some (.int (Int32.ofNat 0)) ∧ zyM u.2.1 aw (cn 4) (vup V_ n (tdV (V_ n) X_ (fun c => yB (Y_ c)) (L0_ k) (cn 3) m))) hu (fun v889 K889 G889 c889 s889 x889 f889 hH hv889 cl889 sl889 hQ => ?_))
    have zz_ := zz_.fr zk_ k_th hrc.1.1 hrc.1.2.1 f889 (by decide +kernel)
    have zi_ := zi_.fr (fun n hn => zo_ (3 + n) (by omega)) zki_ f889 (by decide +kernel)
    have zk_ := zk_.ex x889
    have zka_ := x889 _ _ zka_
    have zki_ := x889 _ _ zki_
    have hfy := hfy.fr k_th hrc.1.1 x889 f889 (by decide +kernel)
    have hsy := hsy.fr k_th x889 f889 (by decide +kernel)
    have hty := hty.fr x889 hHo f889 (by decide +kernel)
    have hcy := hcy.fr x889 f889 (by decide +kernel)
    have hry := hry.fr hHo x889 f889 (by decide +kernel)
    have hci := hci.fr x889 f889 (by decide +kernel)
    have h3 := (f889.2 th 12 k_th 3 rfl).trans h3
    have hl := (f889.2 rd 7 k_rd 1 rfl).trans hl
    have hm := (f889.2 am 13 k_am 5 rfl).trans hm
    have hp := (f889.2 th 12 k_th 2 rfl).trans hp
    have hg := (f889.2 am 13 k_am 3 rfl).trans hg
    have htC := htC.fr k_rd x889 f889 (by decide +kernel)
    have htM := htM.fr k_am x889 f889 (by decide +kernel)
    have hrc := hrc.fr k_th x889 f889 (by decide +kernel)
    have hrm := hrm.fr k_am x889 f889 (by decide +kernel)
    have k_th := x889 _ _ k_th
    have k_am := x889 _ _ k_am
    have k_out := x889 _ _ k_out
    have k_rd := x889 _ _ k_rd
    rcases hQ with ⟨dx, ev2, ht, zm_⟩ | ⟨dx, dz, ev2, ht, zm_⟩ | ⟨n1, k1, m1, ⟨en1, ek1, em1⟩, ⟨hn1, hk1, hm1, hl1⟩, ev2, ht, zm_⟩
    · cases ev2
      have hzy : zy K889 G889 th s0 s1 aw ai (cn 4) (im 4) := ⟨ya_, yb_, O_, A_, V_, ⟨zk_, zka_, zki_⟩, zz_, zo_, zm_, zi_⟩
      show et_go _ _ 1000 892 [some (.ref 150), some (.ref th), some (.ref am), some (.ref out), some (.int (Int32.ofNat i)), some (.int (Int32.ofNat 1)), x6] [.int (Int32.ofNat 0)] _ ((ck + c865) + c889) ((sk + s865) + s889) _
      refine ls_istore (i := 6) (p := 894) (by decide +kernel) (Nat.le_of_ble_eq_true rfl) ?_
      refine ls_goto (p := 1656) (by decide +kernel) ?_
      exact hN _ _ c h _ _ _ _ _ _ ⟨⟨hH, hci, k_th, k_am, k_out, h3, k_rd, hl, hm, hc⟩, ⟨hh1, hp, hg⟩, hrc, hrm, hbc, hbi, ⟨hry, hcy, hty, hzy, hsy, hfy⟩, _, htC, htM, htb⟩ (by omega) (by omega)
    · exact absurd dx cx
    · exact absurd (show _ ∧ _ from ⟨(xr_m en1 hn1 (by omega)), (xr_m ek1 hk1 (by omega))⟩) cx
  · cases ev
    have hfy : fyR K865 G865 th s0 (cn 3) := hfy9.uz x865 ks9 zz9 zo_ zz_ (fun n hn => coreE.rf) f865 (by decide +kernel) (fun j hj => by rcases hj with rfl | rfl | rfl <;> exact f865.2 th 12 kt9 _ rfl)
    show et_go _ _ 1000 868 [some (.ref 150), some (.ref th), some (.ref am), some (.ref out), some (.int (Int32.ofNat i)), x5, x6] [.int (Int32.ofNat 2)] _ (ck + c865) (sk + s865) _
    refine ls_istore (i := 5) (p := 870) (by decide +kernel) (Nat.le_of_ble_eq_true rfl) ?_
    refine ls_aload (i := 2) (p := 871) (by decide +kernel) rfl ?_
    refine ls_arg (j := 1) (by decide +kernel) (by omega) hn ?_
    refine ls_arg (j := 2) (by decide +kernel) (by omega) hn ?_
    refine ls_arg (j := 3) (by decide +kernel) (by omega) hn ?_
    refine lt_callv (T := et_TT) (t := 13) (mi := 252) (na := 3) (ci := 11) (lk := 7) (lm := 7) (L0 := eg_en (eg_mL 252) [.ref am, .int (f (i + 1)), .int (f (i + 2)), .int (f (i + 3))]) (by decide +kernel) rfl hH k_am rfl rfl rfl rfl rfl (by rw [show eg_mL 252 = 7 from by decide +kernel]; first | done | rfl) ?_
    have hHo := hH
    refine ((er_p252_ok (K865, [], G865) [.ref am, .int (f (i + 1)), .int (f (i + 2)), .int (f (i + 3))] _ hH (by omega) rfl (ht_ac (.inr ⟨by decide, _, rfl, k_am⟩) (ht_ac hi_any (ht_ac hi_any (ht_ac hi_any ht_an))))).and (gz_turned hH k_am hrm.1.1 hrm.2.1.1 (hrm.2.2 (5, 4) (by decide)).1 b4 zm_ (fun n hn => zo_ n (by omega)) (hrm.2.2 (2, 3) (by decide)).1 b3 hcr_ (hrm.2.2 (7, 1) (by decide)).1 b1 tX_ (fun k hk => (tE_ k hk).2) (by omega))).mono (fun u hu => ls_cbvQ (Q := fun u => (¬ (xr (f (i + 1)) (cn 4) ∧ xr (f (i + 2)) (cn 1)) ∧ u.1 = .inl (some (.int (Int32.ofNat 0))) ∧ et_pl (eg_at u.2.1 am) 0 = some (.int (Int32.ofNat 1)) ∧ zyM u.2.1 aw (cn 4) V_) ∨ ((xr (f (i + 1)) (cn 4) ∧ xr (f (i + 2)) (cn 1)) ∧ ¬ (1 ≤ (f (i + 3)).toInt ∧ (f (i + 3)).toInt ≤ 60) ∧ u.1 = .inl (some (.int (Int32.ofNat 0))) ∧ et_pl (eg_at u.2.1 am) 0 = some (.int (Int32.ofNat 2)) ∧ zyM u.2.1 aw (cn 4) V_) ∨ ∃ n k m, ((f (i + 1)) = Int32.ofNat n ∧ (f (i + 2)) = Int32.ofNat k ∧ (f (i + 3)) = Int32.ofNat m) ∧ (n < cn 4 ∧ k < cn 1 ∧ 1 ≤ m ∧ m ≤ 60) ∧ u.1 = .inl (some (.int (tdR (V_ n) X_ (fun c => yB (Y_ c)) (L0_ k) (cn 3) m).2)) ∧ et_pl (eg_at u.2.1 am) 0 = some (.int (Int32.ofNat 0)) ∧ zyM u.2.1 aw (cn 4) (vup V_ n (tdV (V_ n) X_ (fun c => yB (Y_ c)) (L0_ k) (cn 3) m))) hu (fun v889 K889 G889 c889 s889 x889 f889 hH hv889 cl889 sl889 hQ => ?_))
    have zz_ := zz_.fr zk_ k_th hrc.1.1 hrc.1.2.1 f889 (by decide +kernel)
    have zi_ := zi_.fr (fun n hn => zo_ (3 + n) (by omega)) zki_ f889 (by decide +kernel)
    have zk_ := zk_.ex x889
    have zka_ := x889 _ _ zka_
    have zki_ := x889 _ _ zki_
    have hfy := hfy.fr k_th hrc.1.1 x889 f889 (by decide +kernel)
    have hsy := hsy.fr k_th x889 f889 (by decide +kernel)
    have hty := hty.fr x889 hHo f889 (by decide +kernel)
    have hcy := hcy.fr x889 f889 (by decide +kernel)
    have hry := hry.fr hHo x889 f889 (by decide +kernel)
    have hci := hci.fr x889 f889 (by decide +kernel)
    have h3 := (f889.2 th 12 k_th 3 rfl).trans h3
    have hl := (f889.2 rd 7 k_rd 1 rfl).trans hl
    have hm := (f889.2 am 13 k_am 5 rfl).trans hm
    have hp := (f889.2 th 12 k_th 2 rfl).trans hp
    have hg := (f889.2 am 13 k_am 3 rfl).trans hg
    have htC := htC.fr k_rd x889 f889 (by decide +kernel)
    have htM := htM.fr k_am x889 f889 (by decide +kernel)
    have hrc := hrc.fr k_th x889 f889 (by decide +kernel)
    have hrm := hrm.fr k_am x889 f889 (by decide +kernel)
    have k_th := x889 _ _ k_th
    have k_am := x889 _ _ k_am
    have k_out := x889 _ _ k_out
    have k_rd := x889 _ _ k_rd
    rcases hQ with ⟨dx, ev2, ht, zm_⟩ | ⟨dx, dz, ev2, ht, zm_⟩ | ⟨n1, k1, m1, ⟨en1, ek1, em1⟩, ⟨hn1, hk1, hm1, hl1⟩, ev2, ht, zm_⟩
    · exact absurd cx dx
    · cases ev2
      have hzy : zy K889 G889 th s0 s1 aw ai (cn 4) (im 4) := ⟨ya_, yb_, O_, A_, V_, ⟨zk_, zka_, zki_⟩, zz_, zo_, zm_, zi_⟩
      show et_go _ _ 1000 892 [some (.ref 150), some (.ref th), some (.ref am), some (.ref out), some (.int (Int32.ofNat i)), some (.int (Int32.ofNat 2)), x6] [.int (Int32.ofNat 0)] _ ((ck + c865) + c889) ((sk + s865) + s889) _
      refine ls_istore (i := 6) (p := 894) (by decide +kernel) (Nat.le_of_ble_eq_true rfl) ?_
      refine ls_goto (p := 1656) (by decide +kernel) ?_
      exact hN _ _ c h _ _ _ _ _ _ ⟨⟨hH, hci, k_th, k_am, k_out, h3, k_rd, hl, hm, hc⟩, ⟨hh1, hp, hg⟩, hrc, hrm, hbc, hbi, ⟨hry, hcy, hty, hzy, hsy, hfy⟩, _, htC, htM, htb⟩ (by omega) (by omega)
    · exact absurd (show _ ∧ _ from ⟨by rw [em1, hs_nint (by omega)]; omega, by rw [em1, hs_nint (by omega)]; omega⟩) cz
  · cases ev
    have hfy : fyR K865 G865 th s0 (cn 3) := hfy9.uz x865 ks9 zz9 zo_ zz_ (fun n hn => coreE.up (by exact ⟨rfl, fun _ _ => ⟨rfl, rfl⟩⟩) n) f865 (by decide +kernel) (fun j hj => by rcases hj with rfl | rfl | rfl <;> exact f865.2 th 12 kt9 _ rfl)
    show et_go _ _ 1000 868 [some (.ref 150), some (.ref th), some (.ref am), some (.ref out), some (.int (Int32.ofNat i)), x5, x6] [.int (Int32.ofNat 0)] _ (ck + c865) (sk + s865) _
    refine ls_istore (i := 5) (p := 870) (by decide +kernel) (Nat.le_of_ble_eq_true rfl) ?_
    refine ls_aload (i := 2) (p := 871) (by decide +kernel) rfl ?_
    refine ls_arg (j := 1) (by decide +kernel) (by omega) hn ?_
    refine ls_arg (j := 2) (by decide +kernel) (by omega) hn ?_
    refine ls_arg (j := 3) (by decide +kernel) (by omega) hn ?_
    refine lt_callv (T := et_TT) (t := 13) (mi := 252) (na := 3) (ci := 11) (lk := 7) (lm := 7) (L0 := eg_en (eg_mL 252) [.ref am, .int (f (i + 1)), .int (f (i + 2)), .int (f (i + 3))]) (by decide +kernel) rfl hH k_am rfl rfl rfl rfl rfl (by rw [show eg_mL 252 = 7 from by decide +kernel]; first | done | rfl) ?_
    have hHo := hH
    refine ((er_p252_ok (K865, [], G865) [.ref am, .int (f (i + 1)), .int (f (i + 2)), .int (f (i + 3))] _ hH (by omega) rfl (ht_ac (.inr ⟨by decide, _, rfl, k_am⟩) (ht_ac hi_any (ht_ac hi_any (ht_ac hi_any ht_an))))).and (gz_turned hH k_am hrm.1.1 hrm.2.1.1 (hrm.2.2 (5, 4) (by decide)).1 b4 zm_ (fun n hn => zo_ n (by omega)) (hrm.2.2 (2, 3) (by decide)).1 b3 hcr_ (hrm.2.2 (7, 1) (by decide)).1 b1 tX_ (fun k hk => (tE_ k hk).2) (by omega))).mono (fun u hu => ls_cbvQ (Q := fun u => (¬ (xr (f (i + 1)) (cn 4) ∧ xr (f (i + 2)) (cn 1)) ∧ u.1 = .inl (some (.int (Int32.ofNat 0))) ∧ et_pl (eg_at u.2.1 am) 0 = some (.int (Int32.ofNat 1)) ∧ zyM u.2.1 aw (cn 4) V_) ∨ ((xr (f (i + 1)) (cn 4) ∧ xr (f (i + 2)) (cn 1)) ∧ ¬ (1 ≤ (f (i + 3)).toInt ∧ (f (i + 3)).toInt ≤ 60) ∧ u.1 = .inl (some (.int (Int32.ofNat 0))) ∧ et_pl (eg_at u.2.1 am) 0 = some (.int (Int32.ofNat 2)) ∧ zyM u.2.1 aw (cn 4) V_) ∨ ∃ n k m, ((f (i + 1)) = Int32.ofNat n ∧ (f (i + 2)) = Int32.ofNat k ∧ (f (i + 3)) = Int32.ofNat m) ∧ (n < cn 4 ∧ k < cn 1 ∧ 1 ≤ m ∧ m ≤ 60) ∧ u.1 = .inl (some (.int (tdR (V_ n) X_ (fun c => yB (Y_ c)) (L0_ k) (cn 3) m).2)) ∧ et_pl (eg_at u.2.1 am) 0 = some (.int (Int32.ofNat 0)) ∧ zyM u.2.1 aw (cn 4) (vup V_ n (tdV (V_ n) X_ (fun c => yB (Y_ c)) (L0_ k) (cn 3) m))) hu (fun v889 K889 G889 c889 s889 x889 f889 hH hv889 cl889 sl889 hQ => ?_))
    have zz_ := zz_.fr zk_ k_th hrc.1.1 hrc.1.2.1 f889 (by decide +kernel)
    have zi_ := zi_.fr (fun n hn => zo_ (3 + n) (by omega)) zki_ f889 (by decide +kernel)
    have zk_ := zk_.ex x889
    have zka_ := x889 _ _ zka_
    have zki_ := x889 _ _ zki_
    have hfy := hfy.fr k_th hrc.1.1 x889 f889 (by decide +kernel)
    have hsy := hsy.fr k_th x889 f889 (by decide +kernel)
    have hty := hty.fr x889 hHo f889 (by decide +kernel)
    have hcy := hcy.fr x889 f889 (by decide +kernel)
    have hry := hry.fr hHo x889 f889 (by decide +kernel)
    have hci := hci.fr x889 f889 (by decide +kernel)
    have h3 := (f889.2 th 12 k_th 3 rfl).trans h3
    have hl := (f889.2 rd 7 k_rd 1 rfl).trans hl
    have hm := (f889.2 am 13 k_am 5 rfl).trans hm
    have hp := (f889.2 th 12 k_th 2 rfl).trans hp
    have hg := (f889.2 am 13 k_am 3 rfl).trans hg
    have htC := htC.fr k_rd x889 f889 (by decide +kernel)
    have htM := htM.fr k_am x889 f889 (by decide +kernel)
    have hrc := hrc.fr k_th x889 f889 (by decide +kernel)
    have hrm := hrm.fr k_am x889 f889 (by decide +kernel)
    have ho := (f889.2 out 31 k_out 0 rfl).trans ho
    have k_th := x889 _ _ k_th
    have k_am := x889 _ _ k_am
    have k_out := x889 _ _ k_out
    have k_rd := x889 _ _ k_rd
    rcases hQ with ⟨dx, ev2, ht, zm_⟩ | ⟨dx, dz, ev2, ht, zm_⟩ | ⟨n1, k1, m1, ⟨en1, ek1, em1⟩, ⟨hn1, hk1, hm1, hl1⟩, ev2, ht, zm_⟩
    · exact absurd (show _ ∧ _ from ⟨(xr_m en0 hn0 (by omega)), (xr_m ek0 hk0 (by omega))⟩) dx
    · exact absurd (show _ ∧ _ from ⟨by rw [em0, hs_nint (by omega)]; omega, by rw [em0, hs_nint (by omega)]; omega⟩) dz
    · obtain rfl : n0 = n1 := (hs_neq (by have h9_ := (zo_ n0 (by omega)).1.1; omega) (by have h9_ := (zo_ n0 (by omega)).1.1; omega)).mp (en0.symm.trans en1)
      obtain rfl : k0 = k1 := (hs_neq (by have h9_ := (zo_ n0 (by omega)).1.1; omega) (by have h9_ := (zo_ n0 (by omega)).1.1; omega)).mp (ek0.symm.trans ek1)
      obtain rfl : m0 = m1 := (hs_neq (by have h9_ := (zo_ n0 (by omega)).1.1; omega) (by have h9_ := (zo_ n0 (by omega)).1.1; omega)).mp (em0.symm.trans em1)
      cases ev2
      have hzy : zy K889 G889 th s0 s1 aw ai (cn 4) (im 4) := ⟨ya_, yb_, O_, A_, (vup V_ n0 (tdV (V_ n0) X_ (fun c => yB (Y_ c)) (L0_ k0) (cn 3) m0)), ⟨zk_, zka_, zki_⟩, zz_, (vup_o zo_ (tdV_o (zo_ n0 (by omega)))), zm_, (vup_3 zi_ (by omega))⟩
      show et_go _ _ 1000 892 [some (.ref 150), some (.ref th), some (.ref am), some (.ref out), some (.int (Int32.ofNat i)), some (.int (Int32.ofNat 0)), x6] [.int ((tdR (V_ n0) X_ (fun c => yB (Y_ c)) (L0_ k0) (cn 3) m0).2)] _ ((ck + c865) + c889) ((sk + s865) + s889) _
      refine ls_istore (i := 6) (p := 894) (by decide +kernel) (Nat.le_of_ble_eq_true rfl) ?_
      refine ls_goto (p := 1656) (by decide +kernel) ?_
      exact hN _ _ c h _ _ _ _ _ _ ⟨⟨hH, hci, k_th, k_am, k_out, h3, k_rd, hl, hm, hc⟩, ⟨hh1, hp, hg⟩, hrc, hrm, hbc, hbi, ⟨hry, hcy, hty, hzy, hsy, hfy⟩, _, htC, htM, htb⟩ (by omega) (by omega)
set_option maxHeartbeats 2000000 in
theorem lw_c18 (hI : lw_I K G th am out rd s0 s1 aw ai tp ba na tm c h cn im) (hi : i + 6 ≤ n) (hn : n ≤ 3072) (hN : ∀ (K' : et_K) (G' : eg_G) (c' h' : Nat) (cn' im' : Nat → Nat) (ck' sk' : Nat) (y5 y6 : Option Value), lw_I K' G' th am out rd s0 s1 aw ai tp ba na tm c' h' cn' im' → ck' ≤ ck + 841 → sk' ≤ sk + 7168 → et_go (some (n, f)) (d + 41) 1000 1656 [some (.ref 150), some (.ref th), some (.ref am), some (.ref out), some (.int (Int32.ofNat i)), y5, y6] [] G' ck' sk' Z) : et_go (some (n, f)) (d + 41) 1000 897 [some (.ref 150), some (.ref th), some (.ref am), some (.ref out), some (.int (Int32.ofNat i)), x5, x6] [] G ck sk Z := by
  obtain ⟨⟨hH, hci, k_th, k_am, k_out, h3, k_rd, hl, hm, hc⟩, ⟨hh1, hp, hg⟩, hrc, hrm, hbc, hbi, ⟨hry, hcy, hty, hzy, hsy, hfy⟩, tb, htC, htM, htb⟩ := hI
  refine ls_aload (i := 1) (p := 898) (by decide +kernel) rfl ?_
  refine ls_arg (j := 1) (by decide +kernel) (by omega) hn ?_
  refine ls_arg (j := 2) (by decide +kernel) (by omega) hn ?_
  refine ls_aload (i := 3) (p := 911) (by decide +kernel) rfl ?_
  refine ls_calls (mi := 14) (na := 4) (lk := 7) (lm := 5) (L0 := eg_en (eg_mL 14) [.ref th, .int (f (i + 1)), .int (f (i + 2)), .ref out]) (by decide +kernel) rfl rfl rfl rfl rfl rfl (by rw [show eg_mL 14 = 5 from by decide +kernel]; first | done | rfl) ?_
  have hHo := hH
  have b4 : cn 4 ≤ 3 := Int.ofNat_le.mp (hf_bd (t := 10) hH hrc.1.1 rfl rfl (hrc.2.2 (5, 4) (by decide)).1 (hbc 4))
  have b3 : cn 3 ≤ 20 := Int.ofNat_le.mp (hf_bd (t := 10) hH hrc.1.1 rfl rfl (hrc.2.2 (2, 3) (by decide)).1 (hbc 3))
  obtain ⟨la0, ya0, la1, ya1, X_, X2_, Y_, Y2_, tk_, bk_, ⟨hcc_, hcr_⟩, hcd_, hcs_⟩ := id hcy
  obtain ⟨ya_, yb_, O_, A_, V_, ⟨zk_, zka_, zki_⟩, zz_, zo_, zm_, zi_⟩ := hzy
  have zz9 := zz_
  have hfy9 := hfy
  have ks9 := hrc.1.1
  have kt9 := k_th
  have ko9 := k_out
  refine ((hh_c14 (K, [], G) [.ref th, .int (f (i + 1)), .int (f (i + 2)), .ref out] _ hH (by omega) rfl (ht_ac (.inr ⟨by decide, _, rfl, k_th⟩) (ht_ac hi_any (ht_ac hi_any (ht_ac (.inr ⟨by decide, _, rfl, k_out⟩) ht_an))))).and (fz_can hH k_th hrc.2.1.1 hrc.1.1 hrc.1.2.1 (hrc.2.2 (5, 4) (by decide)).1 b4 zk_ zz_ zo_ (hrc.2.2 (2, 3) (by decide)).1 b3 hcc_ tk_.2.1.1 tk_.2.1.2.1 k_out hsy hfy (by omega))).mono (fun u hu => ls_cbvQ (Q := fun u => (¬ xr (f (i + 1)) (cn 4) ∧ u.1 = .inl (some (.int (Int32.ofNat 1))) ∧ u.2.1 = G) ∨ ∃ n, ((f (i + 1)) = Int32.ofNat n ∧ n < cn 4) ∧ ((¬ (1 ≤ (f (i + 2)).toInt ∧ (f (i + 2)).toInt ≤ 3) ∧ u.1 = .inl (some (.int (Int32.ofNat 2))) ∧ u.2.1 = G) ∨ ∃ k, ((f (i + 2)) = Int32.ofNat k ∧ 1 ≤ k ∧ k ≤ 3) ∧ u.1 = .inl (some (.int (Int32.ofNat 0))) ∧ et_pl (eg_at u.2.1 out) 0 = some (.long (Int64.ofNat (if (foA (V_ n).1 (V_ n).2.1 (V_ n).2.2.1 X_ Y_ (cn 3) k).isSome = true then 1 else 0))) ∧ fyQ K u.2.1 th n (V_ n).1 k (foA (V_ n).1 (V_ n).2.1 (V_ n).2.2.1 X_ Y_ (cn 3) k))) hu (fun v911 K911 G911 c911 s911 x911 f911 hH hv911 cl911 sl911 hQ => ?_))
  have zz_ := zz_.fr zk_ k_th hrc.1.1 hrc.1.2.1 f911 (by decide +kernel)
  have zm_ := zm_.fr (fun n hn => zo_ n (by omega)) zka_ f911 (by decide +kernel)
  have zi_ := zi_.fr (fun n hn => zo_ (3 + n) (by omega)) zki_ f911 (by decide +kernel)
  have zk_ := zk_.ex x911
  have zka_ := x911 _ _ zka_
  have zki_ := x911 _ _ zki_
  have hcr_ := hcr_.fr bk_.1 tk_.2.2.1.1 f911 (by decide +kernel)
  have hsy := hsy.fr k_th x911 f911 (by decide +kernel)
  have hty := hty.fr x911 hHo f911 (by decide +kernel)
  have hcy := hcy.fr x911 f911 (by decide +kernel)
  have hry := hry.fr hHo x911 f911 (by decide +kernel)
  have hci := hci.fr x911 f911 (by decide +kernel)
  have h3 := (f911.2 th 12 k_th 3 rfl).trans h3
  have hl := (f911.2 rd 7 k_rd 1 rfl).trans hl
  have hm := (f911.2 am 13 k_am 5 rfl).trans hm
  have hp := (f911.2 th 12 k_th 2 rfl).trans hp
  have hg := (f911.2 am 13 k_am 3 rfl).trans hg
  have htC := htC.fr k_rd x911 f911 (by decide +kernel)
  have htM := htM.fr k_am x911 f911 (by decide +kernel)
  have hrc := hrc.fr k_th x911 f911 (by decide +kernel)
  have hrm := hrm.fr k_am x911 f911 (by decide +kernel)
  have k_th := x911 _ _ k_th
  have k_am := x911 _ _ k_am
  have k_out := x911 _ _ k_out
  have k_rd := x911 _ _ k_rd
  rcases hQ with ⟨cx, ev, hg_⟩ | ⟨n0, ⟨en0, hn0⟩, ⟨cs, ev, hg_⟩ | ⟨k0, ⟨ek0, hk0, hl0⟩, ev, ho, hfq_⟩⟩
  · cases ev
    have hfy : fyR K911 G911 th s0 (cn 3) := by rw [show G911 = G from hg_]; exact hfy9.ex x911
    show et_go _ _ 1000 914 [some (.ref 150), some (.ref th), some (.ref am), some (.ref out), some (.int (Int32.ofNat i)), x5, x6] [.int (Int32.ofNat 1)] _ (ck + c911) (sk + s911) _
    refine ls_istore (i := 5) (p := 916) (by decide +kernel) (Nat.le_of_ble_eq_true rfl) ?_
    refine ls_aload (i := 2) (p := 917) (by decide +kernel) rfl ?_
    refine ls_arg (j := 1) (by decide +kernel) (by omega) hn ?_
    refine ls_arg (j := 2) (by decide +kernel) (by omega) hn ?_
    refine lt_callv (T := et_TT) (t := 13) (mi := 253) (na := 2) (ci := 11) (lk := 7) (lm := 3) (L0 := eg_en (eg_mL 253) [.ref am, .int (f (i + 1)), .int (f (i + 2))]) (by decide +kernel) rfl hH k_am rfl rfl rfl rfl rfl (by rw [show eg_mL 253 = 3 from by decide +kernel]; first | done | rfl) ?_
    have hHo := hH
    refine ((er_p253_ok (K911, [], G911) [.ref am, .int (f (i + 1)), .int (f (i + 2))] _ hH (by omega) rfl (ht_ac (.inr ⟨by decide, _, rfl, k_am⟩) (ht_ac hi_any (ht_ac hi_any ht_an)))).and (gz_can hH k_am hrm.1.1 hrm.2.1.1 (hrm.2.2 (5, 4) (by decide)).1 b4 zm_ (fun n hn => zo_ n (by omega)) (hrm.2.2 (2, 3) (by decide)).1 b3 hcr_ (by omega))).mono (fun u hu => ls_cbvQ (Q := fun u => (¬ xr (f (i + 1)) (cn 4) ∧ u.1 = .inl (some (.int (Int32.ofNat 0))) ∧ et_pl (eg_at u.2.1 am) 0 = some (.int (Int32.ofNat 1))) ∨ ∃ n, ((f (i + 1)) = Int32.ofNat n ∧ n < cn 4) ∧ ((¬ (1 ≤ (f (i + 2)).toInt ∧ (f (i + 2)).toInt ≤ 3) ∧ u.1 = .inl (some (.int (Int32.ofNat 0))) ∧ et_pl (eg_at u.2.1 am) 0 = some (.int (Int32.ofNat 2))) ∨ ∃ k, ((f (i + 2)) = Int32.ofNat k ∧ 1 ≤ k ∧ k ≤ 3) ∧ u.1 = .inl (some (.int (Int32.ofNat (if (foA (V_ n).1 (V_ n).2.1 (V_ n).2.2.1 X_ Y_ (cn 3) k).isSome = true then 1 else 0)))) ∧ et_pl (eg_at u.2.1 am) 0 = some (.int (Int32.ofNat 0)))) hu (fun v929 K929 G929 c929 s929 x929 f929 hH hv929 cl929 sl929 hQ => ?_))
    have zz_ := zz_.fr zk_ k_th hrc.1.1 hrc.1.2.1 f929 (by decide +kernel)
    have zm_ := zm_.fr (fun n hn => zo_ n (by omega)) zka_ f929 (by decide +kernel)
    have zi_ := zi_.fr (fun n hn => zo_ (3 + n) (by omega)) zki_ f929 (by decide +kernel)
    have zk_ := zk_.ex x929
    have zka_ := x929 _ _ zka_
    have zki_ := x929 _ _ zki_
    have hfy := hfy.fr k_th hrc.1.1 x929 f929 (by decide +kernel)
    have hsy := hsy.fr k_th x929 f929 (by decide +kernel)
    have hty := hty.fr x929 hHo f929 (by decide +kernel)
    have hcy := hcy.fr x929 f929 (by decide +kernel)
    have hry := hry.fr hHo x929 f929 (by decide +kernel)
    have hci := hci.fr x929 f929 (by decide +kernel)
    have h3 := (f929.2 th 12 k_th 3 rfl).trans h3
    have hl := (f929.2 rd 7 k_rd 1 rfl).trans hl
    have hm := (f929.2 am 13 k_am 5 rfl).trans hm
    have hp := (f929.2 th 12 k_th 2 rfl).trans hp
    have hg := (f929.2 am 13 k_am 3 rfl).trans hg
    have htC := htC.fr k_rd x929 f929 (by decide +kernel)
    have htM := htM.fr k_am x929 f929 (by decide +kernel)
    have hrc := hrc.fr k_th x929 f929 (by decide +kernel)
    have hrm := hrm.fr k_am x929 f929 (by decide +kernel)
    have k_th := x929 _ _ k_th
    have k_am := x929 _ _ k_am
    have k_out := x929 _ _ k_out
    have k_rd := x929 _ _ k_rd
    rcases hQ with ⟨dx, ev2, ht⟩ | ⟨n1, ⟨en1, hn1⟩, ⟨ds, ev2, ht⟩ | ⟨k1, ⟨ek1, hk1, hl1⟩, ev2, ht⟩⟩
    · cases ev2
      have hzy : zy K929 G929 th s0 s1 aw ai (cn 4) (im 4) := ⟨ya_, yb_, O_, A_, V_, ⟨zk_, zka_, zki_⟩, zz_, zo_, zm_, zi_⟩
      show et_go _ _ 1000 932 [some (.ref 150), some (.ref th), some (.ref am), some (.ref out), some (.int (Int32.ofNat i)), some (.int (Int32.ofNat 1)), x6] [.int (Int32.ofNat 0)] _ ((ck + c911) + c929) ((sk + s911) + s929) _
      refine ls_istore (i := 6) (p := 934) (by decide +kernel) (Nat.le_of_ble_eq_true rfl) ?_
      refine ls_goto (p := 1656) (by decide +kernel) ?_
      exact hN _ _ c h _ _ _ _ _ _ ⟨⟨hH, hci, k_th, k_am, k_out, h3, k_rd, hl, hm, hc⟩, ⟨hh1, hp, hg⟩, hrc, hrm, hbc, hbi, ⟨hry, hcy, hty, hzy, hsy, hfy⟩, _, htC, htM, htb⟩ (by omega) (by omega)
    · exact absurd (xr_m en1 hn1 (by omega)) cx
    · exact absurd (xr_m en1 hn1 (by omega)) cx
  · cases ev
    have hfy : fyR K911 G911 th s0 (cn 3) := by rw [show G911 = G from hg_]; exact hfy9.ex x911
    show et_go _ _ 1000 914 [some (.ref 150), some (.ref th), some (.ref am), some (.ref out), some (.int (Int32.ofNat i)), x5, x6] [.int (Int32.ofNat 2)] _ (ck + c911) (sk + s911) _
    refine ls_istore (i := 5) (p := 916) (by decide +kernel) (Nat.le_of_ble_eq_true rfl) ?_
    refine ls_aload (i := 2) (p := 917) (by decide +kernel) rfl ?_
    refine ls_arg (j := 1) (by decide +kernel) (by omega) hn ?_
    refine ls_arg (j := 2) (by decide +kernel) (by omega) hn ?_
    refine lt_callv (T := et_TT) (t := 13) (mi := 253) (na := 2) (ci := 11) (lk := 7) (lm := 3) (L0 := eg_en (eg_mL 253) [.ref am, .int (f (i + 1)), .int (f (i + 2))]) (by decide +kernel) rfl hH k_am rfl rfl rfl rfl rfl (by rw [show eg_mL 253 = 3 from by decide +kernel]; first | done | rfl) ?_
    have hHo := hH
    refine ((er_p253_ok (K911, [], G911) [.ref am, .int (f (i + 1)), .int (f (i + 2))] _ hH (by omega) rfl (ht_ac (.inr ⟨by decide, _, rfl, k_am⟩) (ht_ac hi_any (ht_ac hi_any ht_an)))).and (gz_can hH k_am hrm.1.1 hrm.2.1.1 (hrm.2.2 (5, 4) (by decide)).1 b4 zm_ (fun n hn => zo_ n (by omega)) (hrm.2.2 (2, 3) (by decide)).1 b3 hcr_ (by omega))).mono (fun u hu => ls_cbvQ (Q := fun u => (¬ xr (f (i + 1)) (cn 4) ∧ u.1 = .inl (some (.int (Int32.ofNat 0))) ∧ et_pl (eg_at u.2.1 am) 0 = some (.int (Int32.ofNat 1))) ∨ ∃ n, ((f (i + 1)) = Int32.ofNat n ∧ n < cn 4) ∧ ((¬ (1 ≤ (f (i + 2)).toInt ∧ (f (i + 2)).toInt ≤ 3) ∧ u.1 = .inl (some (.int (Int32.ofNat 0))) ∧ et_pl (eg_at u.2.1 am) 0 = some (.int (Int32.ofNat 2))) ∨ ∃ k, ((f (i + 2)) = Int32.ofNat k ∧ 1 ≤ k ∧ k ≤ 3) ∧ u.1 = .inl (some (.int (Int32.ofNat (if (foA (V_ n).1 (V_ n).2.1 (V_ n).2.2.1 X_ Y_ (cn 3) k).isSome = true then 1 else 0)))) ∧ et_pl (eg_at u.2.1 am) 0 = some (.int (Int32.ofNat 0)))) hu (fun v929 K929 G929 c929 s929 x929 f929 hH hv929 cl929 sl929 hQ => ?_))
    have zz_ := zz_.fr zk_ k_th hrc.1.1 hrc.1.2.1 f929 (by decide +kernel)
    have zm_ := zm_.fr (fun n hn => zo_ n (by omega)) zka_ f929 (by decide +kernel)
    have zi_ := zi_.fr (fun n hn => zo_ (3 + n) (by omega)) zki_ f929 (by decide +kernel)
    have zk_ := zk_.ex x929
    have zka_ := x929 _ _ zka_
    have zki_ := x929 _ _ zki_
    have hfy := hfy.fr k_th hrc.1.1 x929 f929 (by decide +kernel)
    have hsy := hsy.fr k_th x929 f929 (by decide +kernel)
    have hty := hty.fr x929 hHo f929 (by decide +kernel)
    have hcy := hcy.fr x929 f929 (by decide +kernel)
    have hry := hry.fr hHo x929 f929 (by decide +kernel)
    have hci := hci.fr x929 f929 (by decide +kernel)
    have h3 := (f929.2 th 12 k_th 3 rfl).trans h3
    have hl := (f929.2 rd 7 k_rd 1 rfl).trans hl
    have hm := (f929.2 am 13 k_am 5 rfl).trans hm
    have hp := (f929.2 th 12 k_th 2 rfl).trans hp
    have hg := (f929.2 am 13 k_am 3 rfl).trans hg
    have htC := htC.fr k_rd x929 f929 (by decide +kernel)
    have htM := htM.fr k_am x929 f929 (by decide +kernel)
    have hrc := hrc.fr k_th x929 f929 (by decide +kernel)
    have hrm := hrm.fr k_am x929 f929 (by decide +kernel)
    have k_th := x929 _ _ k_th
    have k_am := x929 _ _ k_am
    have k_out := x929 _ _ k_out
    have k_rd := x929 _ _ k_rd
    rcases hQ with ⟨dx, ev2, ht⟩ | ⟨n1, ⟨en1, hn1⟩, ⟨ds, ev2, ht⟩ | ⟨k1, ⟨ek1, hk1, hl1⟩, ev2, ht⟩⟩
    · exact absurd (xr_m en0 hn0 (by omega)) dx
    · obtain rfl : n0 = n1 := (hs_neq (by have h9_ := (zo_ n0 (by omega)).1.1; omega) (by have h9_ := (zo_ n0 (by omega)).1.1; omega)).mp (en0.symm.trans en1)
      cases ev2
      have hzy : zy K929 G929 th s0 s1 aw ai (cn 4) (im 4) := ⟨ya_, yb_, O_, A_, V_, ⟨zk_, zka_, zki_⟩, zz_, zo_, zm_, zi_⟩
      show et_go _ _ 1000 932 [some (.ref 150), some (.ref th), some (.ref am), some (.ref out), some (.int (Int32.ofNat i)), some (.int (Int32.ofNat 2)), x6] [.int (Int32.ofNat 0)] _ ((ck + c911) + c929) ((sk + s911) + s929) _
      refine ls_istore (i := 6) (p := 934) (by decide +kernel) (Nat.le_of_ble_eq_true rfl) ?_
      refine ls_goto (p := 1656) (by decide +kernel) ?_
      exact hN _ _ c h _ _ _ _ _ _ ⟨⟨hH, hci, k_th, k_am, k_out, h3, k_rd, hl, hm, hc⟩, ⟨hh1, hp, hg⟩, hrc, hrm, hbc, hbi, ⟨hry, hcy, hty, hzy, hsy, hfy⟩, _, htC, htM, htb⟩ (by omega) (by omega)
    · obtain rfl : n0 = n1 := (hs_neq (by have h9_ := (zo_ n0 (by omega)).1.1; omega) (by have h9_ := (zo_ n0 (by omega)).1.1; omega)).mp (en0.symm.trans en1)
      exact absurd (show _ ∧ _ from ⟨by rw [ek1, hs_nint (by omega)]; omega, by rw [ek1, hs_nint (by omega)]; omega⟩) cs
  · cases ev
    have hcc9 : ccP G911 s0 la0 ya0 (cn 3) X_ Y_ := hcc_.fr ks9 tk_.2.1.1 tk_.2.1.2.1 f911 (by decide +kernel)
    have tk9 := And.intro (x911 _ _ tk_.2.1.1) (x911 _ _ tk_.2.1.2.1)
    have hfy : fyR K911 G911 th s0 (cn 3) := (hfq_.ex x911).new zk_ zz_ zo_ hcc9 tk9.1 tk9.2 (by omega) (by omega) (by omega)
    show et_go _ _ 1000 914 [some (.ref 150), some (.ref th), some (.ref am), some (.ref out), some (.int (Int32.ofNat i)), x5, x6] [.int (Int32.ofNat 0)] _ (ck + c911) (sk + s911) _
    refine ls_istore (i := 5) (p := 916) (by decide +kernel) (Nat.le_of_ble_eq_true rfl) ?_
    refine ls_aload (i := 2) (p := 917) (by decide +kernel) rfl ?_
    refine ls_arg (j := 1) (by decide +kernel) (by omega) hn ?_
    refine ls_arg (j := 2) (by decide +kernel) (by omega) hn ?_
    refine lt_callv (T := et_TT) (t := 13) (mi := 253) (na := 2) (ci := 11) (lk := 7) (lm := 3) (L0 := eg_en (eg_mL 253) [.ref am, .int (f (i + 1)), .int (f (i + 2))]) (by decide +kernel) rfl hH k_am rfl rfl rfl rfl rfl (by rw [show eg_mL 253 = 3 from by decide +kernel]; first | done | rfl) ?_
    have hHo := hH
    refine ((er_p253_ok (K911, [], G911) [.ref am, .int (f (i + 1)), .int (f (i + 2))] _ hH (by omega) rfl (ht_ac (.inr ⟨by decide, _, rfl, k_am⟩) (ht_ac hi_any (ht_ac hi_any ht_an)))).and (gz_can hH k_am hrm.1.1 hrm.2.1.1 (hrm.2.2 (5, 4) (by decide)).1 b4 zm_ (fun n hn => zo_ n (by omega)) (hrm.2.2 (2, 3) (by decide)).1 b3 hcr_ (by omega))).mono (fun u hu => ls_cbvQ (Q := fun u => (¬ xr (f (i + 1)) (cn 4) ∧ u.1 = .inl (some (.int (Int32.ofNat 0))) ∧ et_pl (eg_at u.2.1 am) 0 = some (.int (Int32.ofNat 1))) ∨ ∃ n, ((f (i + 1)) = Int32.ofNat n ∧ n < cn 4) ∧ ((¬ (1 ≤ (f (i + 2)).toInt ∧ (f (i + 2)).toInt ≤ 3) ∧ u.1 = .inl (some (.int (Int32.ofNat 0))) ∧ et_pl (eg_at u.2.1 am) 0 = some (.int (Int32.ofNat 2))) ∨ ∃ k, ((f (i + 2)) = Int32.ofNat k ∧ 1 ≤ k ∧ k ≤ 3) ∧ u.1 = .inl (some (.int (Int32.ofNat (if (foA (V_ n).1 (V_ n).2.1 (V_ n).2.2.1 X_ Y_ (cn 3) k).isSome = true then 1 else 0)))) ∧ et_pl (eg_at u.2.1 am) 0 = some (.int (Int32.ofNat 0)))) hu (fun v929 K929 G929 c929 s929 x929 f929 hH hv929 cl929 sl929 hQ => ?_))
    have zz_ := zz_.fr zk_ k_th hrc.1.1 hrc.1.2.1 f929 (by decide +kernel)
    have zm_ := zm_.fr (fun n hn => zo_ n (by omega)) zka_ f929 (by decide +kernel)
    have zi_ := zi_.fr (fun n hn => zo_ (3 + n) (by omega)) zki_ f929 (by decide +kernel)
    have zk_ := zk_.ex x929
    have zka_ := x929 _ _ zka_
    have zki_ := x929 _ _ zki_
    have hfy := hfy.fr k_th hrc.1.1 x929 f929 (by decide +kernel)
    have hsy := hsy.fr k_th x929 f929 (by decide +kernel)
    have hty := hty.fr x929 hHo f929 (by decide +kernel)
    have hcy := hcy.fr x929 f929 (by decide +kernel)
    have hry := hry.fr hHo x929 f929 (by decide +kernel)
    have hci := hci.fr x929 f929 (by decide +kernel)
    have h3 := (f929.2 th 12 k_th 3 rfl).trans h3
    have hl := (f929.2 rd 7 k_rd 1 rfl).trans hl
    have hm := (f929.2 am 13 k_am 5 rfl).trans hm
    have hp := (f929.2 th 12 k_th 2 rfl).trans hp
    have hg := (f929.2 am 13 k_am 3 rfl).trans hg
    have htC := htC.fr k_rd x929 f929 (by decide +kernel)
    have htM := htM.fr k_am x929 f929 (by decide +kernel)
    have hrc := hrc.fr k_th x929 f929 (by decide +kernel)
    have hrm := hrm.fr k_am x929 f929 (by decide +kernel)
    have ho := (f929.2 out 31 k_out 0 rfl).trans ho
    have k_th := x929 _ _ k_th
    have k_am := x929 _ _ k_am
    have k_out := x929 _ _ k_out
    have k_rd := x929 _ _ k_rd
    rcases hQ with ⟨dx, ev2, ht⟩ | ⟨n1, ⟨en1, hn1⟩, ⟨ds, ev2, ht⟩ | ⟨k1, ⟨ek1, hk1, hl1⟩, ev2, ht⟩⟩
    · exact absurd (xr_m en0 hn0 (by omega)) dx
    · obtain rfl : n0 = n1 := (hs_neq (by have h9_ := (zo_ n0 (by omega)).1.1; omega) (by have h9_ := (zo_ n0 (by omega)).1.1; omega)).mp (en0.symm.trans en1)
      exact absurd (show _ ∧ _ from ⟨by rw [ek0, hs_nint (by omega)]; omega, by rw [ek0, hs_nint (by omega)]; omega⟩) ds
    · obtain rfl : n0 = n1 := (hs_neq (by have h9_ := (zo_ n0 (by omega)).1.1; omega) (by have h9_ := (zo_ n0 (by omega)).1.1; omega)).mp (en0.symm.trans en1)
      obtain rfl : k0 = k1 := (hs_neq (by have h9_ := (zo_ n0 (by omega)).1.1; omega) (by have h9_ := (zo_ n0 (by omega)).1.1; omega)).mp (ek0.symm.trans ek1)
      cases ev2
      have hzy : zy K929 G929 th s0 s1 aw ai (cn 4) (im 4) := ⟨ya_, yb_, O_, A_, V_, ⟨zk_, zka_, zki_⟩, zz_, zo_, zm_, zi_⟩
      show et_go _ _ 1000 932 [some (.ref 150), some (.ref th), some (.ref am), some (.ref out), some (.int (Int32.ofNat i)), some (.int (Int32.ofNat 0)), x6] [.int (Int32.ofNat (if (foA (V_ n0).1 (V_ n0).2.1 (V_ n0).2.2.1 X_ Y_ (cn 3) k0).isSome = true then 1 else 0))] _ ((ck + c911) + c929) ((sk + s911) + s929) _
      refine ls_istore (i := 6) (p := 934) (by decide +kernel) (Nat.le_of_ble_eq_true rfl) ?_
      refine ls_goto (p := 1656) (by decide +kernel) ?_
      exact hN _ _ c h _ _ _ _ _ _ ⟨⟨hH, hci, k_th, k_am, k_out, h3, k_rd, hl, hm, hc⟩, ⟨hh1, hp, hg⟩, hrc, hrm, hbc, hbi, ⟨hry, hcy, hty, hzy, hsy, hfy⟩, _, htC, htM, htb⟩ (by omega) (by omega)
set_option maxHeartbeats 2000000 in
theorem lw_c19 (hI : lw_I K G th am out rd s0 s1 aw ai tp ba na tm c h cn im) (hi : i + 6 ≤ n) (hn : n ≤ 3072) (hN : ∀ (K' : et_K) (G' : eg_G) (c' h' : Nat) (cn' im' : Nat → Nat) (ck' sk' : Nat) (y5 y6 : Option Value), lw_I K' G' th am out rd s0 s1 aw ai tp ba na tm c' h' cn' im' → ck' ≤ ck + 841 → sk' ≤ sk + 7168 → et_go (some (n, f)) (d + 41) 1000 1656 [some (.ref 150), some (.ref th), some (.ref am), some (.ref out), some (.int (Int32.ofNat i)), y5, y6] [] G' ck' sk' Z) : et_go (some (n, f)) (d + 41) 1000 937 [some (.ref 150), some (.ref th), some (.ref am), some (.ref out), some (.int (Int32.ofNat i)), x5, x6] [] G ck sk Z := by
  obtain ⟨⟨hH, hci, k_th, k_am, k_out, h3, k_rd, hl, hm, hc⟩, ⟨hh1, hp, hg⟩, hrc, hrm, hbc, hbi, ⟨hry, hcy, hty, hzy, hsy, hfy⟩, tb, htC, htM, htb⟩ := hI
  refine ls_aload (i := 1) (p := 938) (by decide +kernel) rfl ?_
  refine ls_arg (j := 1) (by decide +kernel) (by omega) hn ?_
  refine ls_arg (j := 2) (by decide +kernel) (by omega) hn ?_
  refine ls_arg (j := 3) (by decide +kernel) (by omega) hn ?_
  refine ls_aload (i := 3) (p := 957) (by decide +kernel) rfl ?_
  refine ls_calls (mi := 15) (na := 5) (lk := 7) (lm := 6) (L0 := eg_en (eg_mL 15) [.ref th, .int (f (i + 1)), .int (f (i + 2)), .int (f (i + 3)), .ref out]) (by decide +kernel) rfl rfl rfl rfl rfl rfl (by rw [show eg_mL 15 = 6 from by decide +kernel]; first | done | rfl) ?_
  have hHo := hH
  have b4 : cn 4 ≤ 3 := Int.ofNat_le.mp (hf_bd (t := 10) hH hrc.1.1 rfl rfl (hrc.2.2 (5, 4) (by decide)).1 (hbc 4))
  have b3 : cn 3 ≤ 20 := Int.ofNat_le.mp (hf_bd (t := 10) hH hrc.1.1 rfl rfl (hrc.2.2 (2, 3) (by decide)).1 (hbc 3))
  obtain ⟨la0, ya0, la1, ya1, X_, X2_, Y_, Y2_, tk_, bk_, ⟨hcc_, hcr_⟩, hcd_, hcs_⟩ := id hcy
  obtain ⟨ya_, yb_, O_, A_, V_, ⟨zk_, zka_, zki_⟩, zz_, zo_, zm_, zi_⟩ := hzy
  have zz9 := zz_
  have hfy9 := hfy
  have ks9 := hrc.1.1
  have kt9 := k_th
  have ko9 := k_out
  refine ((hh_c15 (K, [], G) [.ref th, .int (f (i + 1)), .int (f (i + 2)), .int (f (i + 3)), .ref out] _ hH (by omega) rfl (ht_ac (.inr ⟨by decide, _, rfl, k_th⟩) (ht_ac hi_any (ht_ac hi_any (ht_ac hi_any (ht_ac (.inr ⟨by decide, _, rfl, k_out⟩) ht_an)))))).and (fz_found hH k_th hrc.2.1.1 hrc.1.1 hrc.1.2.1 (hrc.2.2 (5, 4) (by decide)).1 b4 zk_ zz_ zo_ (hrc.2.2 (2, 3) (by decide)).1 b3 hcc_ tk_.2.1.1 tk_.2.1.2.1 k_out hsy hfy (by omega))).mono (fun u hu => ls_cbvQ (Q := fun u => (¬ xr (f (i + 1)) (cn 4) ∧ u.1 = .inl (some (.int (Int32.ofNat 1))) ∧ u.2.1 = G) ∨ ∃ n, ((f (i + 1)) = Int32.ofNat n ∧ n < cn 4) ∧ ((¬ (1 ≤ (f (i + 2)).toInt ∧ (f (i + 2)).toInt ≤ 3) ∧ u.1 = .inl (some (.int (Int32.ofNat 2))) ∧ u.2.1 = G) ∨ ∃ k, ((f (i + 2)) = Int32.ofNat k ∧ 1 ≤ k ∧ k ≤ 3) ∧ ((¬ (0 ≤ (f (i + 3)).toInt ∧ (f (i + 3)).toInt ≤ 7) ∧ u.1 = .inl (some (.int (Int32.ofNat 3))) ∧ u.2.1 = G) ∨ ∃ m, ((f (i + 3)) = Int32.ofNat m ∧ m ≤ 7) ∧ u.1 = .inl (some (.int (Int32.ofNat 0))) ∧ et_pl (eg_at u.2.1 out) 0 = some (.long (foW (V_ n) X_ Y_ (cn 3) k m (foA (V_ n).1 (V_ n).2.1 (V_ n).2.2.1 X_ Y_ (cn 3) k)).toInt64) ∧ fyQ K u.2.1 th n (V_ n).1 k (foA (V_ n).1 (V_ n).2.1 (V_ n).2.2.1 X_ Y_ (cn 3) k)))) hu (fun v957 K957 G957 c957 s957 x957 f957 hH hv957 cl957 sl957 hQ => ?_))
  have zz_ := zz_.fr zk_ k_th hrc.1.1 hrc.1.2.1 f957 (by decide +kernel)
  have zm_ := zm_.fr (fun n hn => zo_ n (by omega)) zka_ f957 (by decide +kernel)
  have zi_ := zi_.fr (fun n hn => zo_ (3 + n) (by omega)) zki_ f957 (by decide +kernel)
  have zk_ := zk_.ex x957
  have zka_ := x957 _ _ zka_
  have zki_ := x957 _ _ zki_
  have hcr_ := hcr_.fr bk_.1 tk_.2.2.1.1 f957 (by decide +kernel)
  have hsy := hsy.fr k_th x957 f957 (by decide +kernel)
  have hty := hty.fr x957 hHo f957 (by decide +kernel)
  have hcy := hcy.fr x957 f957 (by decide +kernel)
  have hry := hry.fr hHo x957 f957 (by decide +kernel)
  have hci := hci.fr x957 f957 (by decide +kernel)
  have h3 := (f957.2 th 12 k_th 3 rfl).trans h3
  have hl := (f957.2 rd 7 k_rd 1 rfl).trans hl
  have hm := (f957.2 am 13 k_am 5 rfl).trans hm
  have hp := (f957.2 th 12 k_th 2 rfl).trans hp
  have hg := (f957.2 am 13 k_am 3 rfl).trans hg
  have htC := htC.fr k_rd x957 f957 (by decide +kernel)
  have htM := htM.fr k_am x957 f957 (by decide +kernel)
  have hrc := hrc.fr k_th x957 f957 (by decide +kernel)
  have hrm := hrm.fr k_am x957 f957 (by decide +kernel)
  have k_th := x957 _ _ k_th
  have k_am := x957 _ _ k_am
  have k_out := x957 _ _ k_out
  have k_rd := x957 _ _ k_rd
  rcases hQ with ⟨cx, ev, hg_⟩ | ⟨n0, ⟨en0, hn0⟩, ⟨cs, ev, hg_⟩ | ⟨k0, ⟨ek0, hk0, hl0⟩, ⟨cw, ev, hg_⟩ | ⟨m0, ⟨em0, hm0⟩, ev, ho, hfq_⟩⟩⟩
  · cases ev
    have hfy : fyR K957 G957 th s0 (cn 3) := by rw [show G957 = G from hg_]; exact hfy9.ex x957
    show et_go _ _ 1000 960 [some (.ref 150), some (.ref th), some (.ref am), some (.ref out), some (.int (Int32.ofNat i)), x5, x6] [.int (Int32.ofNat 1)] _ (ck + c957) (sk + s957) _
    refine ls_istore (i := 5) (p := 962) (by decide +kernel) (Nat.le_of_ble_eq_true rfl) ?_
    refine ls_aload (i := 2) (p := 963) (by decide +kernel) rfl ?_
    refine ls_arg (j := 1) (by decide +kernel) (by omega) hn ?_
    refine ls_arg (j := 2) (by decide +kernel) (by omega) hn ?_
    refine ls_arg (j := 3) (by decide +kernel) (by omega) hn ?_
    refine lt_callv (T := et_TT) (t := 13) (mi := 259) (na := 3) (ci := 11) (lk := 7) (lm := 4) (L0 := eg_en (eg_mL 259) [.ref am, .int (f (i + 1)), .int (f (i + 2)), .int (f (i + 3))]) (by decide +kernel) rfl hH k_am rfl rfl rfl rfl rfl (by rw [show eg_mL 259 = 4 from by decide +kernel]; first | done | rfl) ?_
    have hHo := hH
    refine ((er_p259_ok (K957, [], G957) [.ref am, .int (f (i + 1)), .int (f (i + 2)), .int (f (i + 3))] _ hH (by omega) rfl (ht_ac (.inr ⟨by decide, _, rfl, k_am⟩) (ht_ac hi_any (ht_ac hi_any (ht_ac hi_any ht_an))))).and (gz_found hH k_am hrm.1.1 hrm.2.1.1 (hrm.2.2 (5, 4) (by decide)).1 b4 zm_ (fun n hn => zo_ n (by omega)) (hrm.2.2 (2, 3) (by decide)).1 b3 hcr_ (by omega))).mono (fun u hu => ls_cbvQ (Q := fun u => (¬ xr (f (i + 1)) (cn 4) ∧ u.1 = .inl (some (.int (Int32.ofNat 0))) ∧ et_pl (eg_at u.2.1 am) 0 = some (.int (Int32.ofNat 1))) ∨ ∃ n, ((f (i + 1)) = Int32.ofNat n ∧ n < cn 4) ∧ ((¬ (1 ≤ (f (i + 2)).toInt ∧ (f (i + 2)).toInt ≤ 3) ∧ u.1 = .inl (some (.int (Int32.ofNat 0))) ∧ et_pl (eg_at u.2.1 am) 0 = some (.int (Int32.ofNat 2))) ∨ ∃ k, ((f (i + 2)) = Int32.ofNat k ∧ 1 ≤ k ∧ k ≤ 3) ∧ ((¬ (0 ≤ (f (i + 3)).toInt ∧ (f (i + 3)).toInt ≤ 7) ∧ u.1 = .inl (some (.int (Int32.ofNat 0))) ∧ et_pl (eg_at u.2.1 am) 0 = some (.int (Int32.ofNat 3))) ∨ ∃ m, ((f (i + 3)) = Int32.ofNat m ∧ m ≤ 7) ∧ u.1 = .inl (some (.int (foW (V_ n) X_ Y_ (cn 3) k m (foA (V_ n).1 (V_ n).2.1 (V_ n).2.2.1 X_ Y_ (cn 3) k)))) ∧ et_pl (eg_at u.2.1 am) 0 = some (.int (Int32.ofNat 0))))) hu (fun v981 K981 G981 c981 s981 x981 f981 hH hv981 cl981 sl981 hQ => ?_))
    have zz_ := zz_.fr zk_ k_th hrc.1.1 hrc.1.2.1 f981 (by decide +kernel)
    have zm_ := zm_.fr (fun n hn => zo_ n (by omega)) zka_ f981 (by decide +kernel)
    have zi_ := zi_.fr (fun n hn => zo_ (3 + n) (by omega)) zki_ f981 (by decide +kernel)
    have zk_ := zk_.ex x981
    have zka_ := x981 _ _ zka_
    have zki_ := x981 _ _ zki_
    have hfy := hfy.fr k_th hrc.1.1 x981 f981 (by decide +kernel)
    have hsy := hsy.fr k_th x981 f981 (by decide +kernel)
    have hty := hty.fr x981 hHo f981 (by decide +kernel)
    have hcy := hcy.fr x981 f981 (by decide +kernel)
    have hry := hry.fr hHo x981 f981 (by decide +kernel)
    have hci := hci.fr x981 f981 (by decide +kernel)
    have h3 := (f981.2 th 12 k_th 3 rfl).trans h3
    have hl := (f981.2 rd 7 k_rd 1 rfl).trans hl
    have hm := (f981.2 am 13 k_am 5 rfl).trans hm
    have hp := (f981.2 th 12 k_th 2 rfl).trans hp
    have hg := (f981.2 am 13 k_am 3 rfl).trans hg
    have htC := htC.fr k_rd x981 f981 (by decide +kernel)
    have htM := htM.fr k_am x981 f981 (by decide +kernel)
    have hrc := hrc.fr k_th x981 f981 (by decide +kernel)
    have hrm := hrm.fr k_am x981 f981 (by decide +kernel)
    have k_th := x981 _ _ k_th
    have k_am := x981 _ _ k_am
    have k_out := x981 _ _ k_out
    have k_rd := x981 _ _ k_rd
    rcases hQ with ⟨dx, ev2, ht⟩ | ⟨n1, ⟨en1, hn1⟩, ⟨ds, ev2, ht⟩ | ⟨k1, ⟨ek1, hk1, hl1⟩, ⟨dw, ev2, ht⟩ | ⟨m1, ⟨em1, hm1⟩, ev2, ht⟩⟩⟩
    · cases ev2
      have hzy : zy K981 G981 th s0 s1 aw ai (cn 4) (im 4) := ⟨ya_, yb_, O_, A_, V_, ⟨zk_, zka_, zki_⟩, zz_, zo_, zm_, zi_⟩
      show et_go _ _ 1000 984 [some (.ref 150), some (.ref th), some (.ref am), some (.ref out), some (.int (Int32.ofNat i)), some (.int (Int32.ofNat 1)), x6] [.int (Int32.ofNat 0)] _ ((ck + c957) + c981) ((sk + s957) + s981) _
      refine ls_istore (i := 6) (p := 986) (by decide +kernel) (Nat.le_of_ble_eq_true rfl) ?_
      refine ls_goto (p := 1656) (by decide +kernel) ?_
      exact hN _ _ c h _ _ _ _ _ _ ⟨⟨hH, hci, k_th, k_am, k_out, h3, k_rd, hl, hm, hc⟩, ⟨hh1, hp, hg⟩, hrc, hrm, hbc, hbi, ⟨hry, hcy, hty, hzy, hsy, hfy⟩, _, htC, htM, htb⟩ (by omega) (by omega)
    · exact absurd (xr_m en1 hn1 (by omega)) cx
    · exact absurd (xr_m en1 hn1 (by omega)) cx
    · exact absurd (xr_m en1 hn1 (by omega)) cx
  · cases ev
    have hfy : fyR K957 G957 th s0 (cn 3) := by rw [show G957 = G from hg_]; exact hfy9.ex x957
    show et_go _ _ 1000 960 [some (.ref 150), some (.ref th), some (.ref am), some (.ref out), some (.int (Int32.ofNat i)), x5, x6] [.int (Int32.ofNat 2)] _ (ck + c957) (sk + s957) _
    refine ls_istore (i := 5) (p := 962) (by decide +kernel) (Nat.le_of_ble_eq_true rfl) ?_
    refine ls_aload (i := 2) (p := 963) (by decide +kernel) rfl ?_
    refine ls_arg (j := 1) (by decide +kernel) (by omega) hn ?_
    refine ls_arg (j := 2) (by decide +kernel) (by omega) hn ?_
    refine ls_arg (j := 3) (by decide +kernel) (by omega) hn ?_
    refine lt_callv (T := et_TT) (t := 13) (mi := 259) (na := 3) (ci := 11) (lk := 7) (lm := 4) (L0 := eg_en (eg_mL 259) [.ref am, .int (f (i + 1)), .int (f (i + 2)), .int (f (i + 3))]) (by decide +kernel) rfl hH k_am rfl rfl rfl rfl rfl (by rw [show eg_mL 259 = 4 from by decide +kernel]; first | done | rfl) ?_
    have hHo := hH
    refine ((er_p259_ok (K957, [], G957) [.ref am, .int (f (i + 1)), .int (f (i + 2)), .int (f (i + 3))] _ hH (by omega) rfl (ht_ac (.inr ⟨by decide, _, rfl, k_am⟩) (ht_ac hi_any (ht_ac hi_any (ht_ac hi_any ht_an))))).and (gz_found hH k_am hrm.1.1 hrm.2.1.1 (hrm.2.2 (5, 4) (by decide)).1 b4 zm_ (fun n hn => zo_ n (by omega)) (hrm.2.2 (2, 3) (by decide)).1 b3 hcr_ (by omega))).mono (fun u hu => ls_cbvQ (Q := fun u => (¬ xr (f (i + 1)) (cn 4) ∧ u.1 = .inl (some (.int (Int32.ofNat 0))) ∧ et_pl (eg_at u.2.1 am) 0 = some (.int (Int32.ofNat 1))) ∨ ∃ n, ((f (i + 1)) = Int32.ofNat n ∧ n < cn 4) ∧ ((¬ (1 ≤ (f (i + 2)).toInt ∧ (f (i + 2)).toInt ≤ 3) ∧ u.1 = .inl (some (.int (Int32.ofNat 0))) ∧ et_pl (eg_at u.2.1 am) 0 = some (.int (Int32.ofNat 2))) ∨ ∃ k, ((f (i + 2)) = Int32.ofNat k ∧ 1 ≤ k ∧ k ≤ 3) ∧ ((¬ (0 ≤ (f (i + 3)).toInt ∧ (f (i + 3)).toInt ≤ 7) ∧ u.1 = .inl (some (.int (Int32.ofNat 0))) ∧ et_pl (eg_at u.2.1 am) 0 = some (.int (Int32.ofNat 3))) ∨ ∃ m, ((f (i + 3)) = Int32.ofNat m ∧ m ≤ 7) ∧ u.1 = .inl (some (.int (foW (V_ n) X_ Y_ (cn 3) k m (foA (V_ n).1 (V_ n).2.1 (V_ n).2.2.1 X_ Y_ (cn 3) k)))) ∧ et_pl (eg_at u.2.1 am) 0 = some (.int (Int32.ofNat 0))))) hu (fun v981 K981 G981 c981 s981 x981 f981 hH hv981 cl981 sl981 hQ => ?_))
    have zz_ := zz_.fr zk_ k_th hrc.1.1 hrc.1.2.1 f981 (by decide +kernel)
    have zm_ := zm_.fr (fun n hn => zo_ n (by omega)) zka_ f981 (by decide +kernel)
    have zi_ := zi_.fr (fun n hn => zo_ (3 + n) (by omega)) zki_ f981 (by decide +kernel)
    have zk_ := zk_.ex x981
    have zka_ := x981 _ _ zka_
    have zki_ := x981 _ _ zki_
    have hfy := hfy.fr k_th hrc.1.1 x981 f981 (by decide +kernel)
    have hsy := hsy.fr k_th x981 f981 (by decide +kernel)
    have hty := hty.fr x981 hHo f981 (by decide +kernel)
    have hcy := hcy.fr x981 f981 (by decide +kernel)
    have hry := hry.fr hHo x981 f981 (by decide +kernel)
    have hci := hci.fr x981 f981 (by decide +kernel)
    have h3 := (f981.2 th 12 k_th 3 rfl).trans h3
    have hl := (f981.2 rd 7 k_rd 1 rfl).trans hl
    have hm := (f981.2 am 13 k_am 5 rfl).trans hm
    have hp := (f981.2 th 12 k_th 2 rfl).trans hp
    have hg := (f981.2 am 13 k_am 3 rfl).trans hg
    have htC := htC.fr k_rd x981 f981 (by decide +kernel)
    have htM := htM.fr k_am x981 f981 (by decide +kernel)
    have hrc := hrc.fr k_th x981 f981 (by decide +kernel)
    have hrm := hrm.fr k_am x981 f981 (by decide +kernel)
    have k_th := x981 _ _ k_th
    have k_am := x981 _ _ k_am
    have k_out := x981 _ _ k_out
    have k_rd := x981 _ _ k_rd
    rcases hQ with ⟨dx, ev2, ht⟩ | ⟨n1, ⟨en1, hn1⟩, ⟨ds, ev2, ht⟩ | ⟨k1, ⟨ek1, hk1, hl1⟩, ⟨dw, ev2, ht⟩ | ⟨m1, ⟨em1, hm1⟩, ev2, ht⟩⟩⟩
    · exact absurd (xr_m en0 hn0 (by omega)) dx
    · obtain rfl : n0 = n1 := (hs_neq (by have h9_ := (zo_ n0 (by omega)).1.1; omega) (by have h9_ := (zo_ n0 (by omega)).1.1; omega)).mp (en0.symm.trans en1)
      cases ev2
      have hzy : zy K981 G981 th s0 s1 aw ai (cn 4) (im 4) := ⟨ya_, yb_, O_, A_, V_, ⟨zk_, zka_, zki_⟩, zz_, zo_, zm_, zi_⟩
      show et_go _ _ 1000 984 [some (.ref 150), some (.ref th), some (.ref am), some (.ref out), some (.int (Int32.ofNat i)), some (.int (Int32.ofNat 2)), x6] [.int (Int32.ofNat 0)] _ ((ck + c957) + c981) ((sk + s957) + s981) _
      refine ls_istore (i := 6) (p := 986) (by decide +kernel) (Nat.le_of_ble_eq_true rfl) ?_
      refine ls_goto (p := 1656) (by decide +kernel) ?_
      exact hN _ _ c h _ _ _ _ _ _ ⟨⟨hH, hci, k_th, k_am, k_out, h3, k_rd, hl, hm, hc⟩, ⟨hh1, hp, hg⟩, hrc, hrm, hbc, hbi, ⟨hry, hcy, hty, hzy, hsy, hfy⟩, _, htC, htM, htb⟩ (by omega) (by omega)
    · obtain rfl : n0 = n1 := (hs_neq (by have h9_ := (zo_ n0 (by omega)).1.1; omega) (by have h9_ := (zo_ n0 (by omega)).1.1; omega)).mp (en0.symm.trans en1)
      exact absurd (show _ ∧ _ from ⟨by rw [ek1, hs_nint (by omega)]; omega, by rw [ek1, hs_nint (by omega)]; omega⟩) cs
    · obtain rfl : n0 = n1 := (hs_neq (by have h9_ := (zo_ n0 (by omega)).1.1; omega) (by have h9_ := (zo_ n0 (by omega)).1.1; omega)).mp (en0.symm.trans en1)
      exact absurd (show _ ∧ _ from ⟨by rw [ek1, hs_nint (by omega)]; omega, by rw [ek1, hs_nint (by omega)]; omega⟩) cs
  · cases ev
    have hfy : fyR K957 G957 th s0 (cn 3) := by rw [show G957 = G from hg_]; exact hfy9.ex x957
    show et_go _ _ 1000 960 [some (.ref 150), some (.ref th), some (.ref am), some (.ref out), some (.int (Int32.ofNat i)), x5, x6] [.int (Int32.ofNat 3)] _ (ck + c957) (sk + s957) _
    refine ls_istore (i := 5) (p := 962) (by decide +kernel) (Nat.le_of_ble_eq_true rfl) ?_
    refine ls_aload (i := 2) (p := 963) (by decide +kernel) rfl ?_
    refine ls_arg (j := 1) (by decide +kernel) (by omega) hn ?_
    refine ls_arg (j := 2) (by decide +kernel) (by omega) hn ?_
    refine ls_arg (j := 3) (by decide +kernel) (by omega) hn ?_
    refine lt_callv (T := et_TT) (t := 13) (mi := 259) (na := 3) (ci := 11) (lk := 7) (lm := 4) (L0 := eg_en (eg_mL 259) [.ref am, .int (f (i + 1)), .int (f (i + 2)), .int (f (i + 3))]) (by decide +kernel) rfl hH k_am rfl rfl rfl rfl rfl (by rw [show eg_mL 259 = 4 from by decide +kernel]; first | done | rfl) ?_
    have hHo := hH
    refine ((er_p259_ok (K957, [], G957) [.ref am, .int (f (i + 1)), .int (f (i + 2)), .int (f (i + 3))] _ hH (by omega) rfl (ht_ac (.inr ⟨by decide, _, rfl, k_am⟩) (ht_ac hi_any (ht_ac hi_any (ht_ac hi_any ht_an))))).and (gz_found hH k_am hrm.1.1 hrm.2.1.1 (hrm.2.2 (5, 4) (by decide)).1 b4 zm_ (fun n hn => zo_ n (by omega)) (hrm.2.2 (2, 3) (by decide)).1 b3 hcr_ (by omega))).mono (fun u hu => ls_cbvQ (Q := fun u => (¬ xr (f (i + 1)) (cn 4) ∧ u.1 = .inl (some (.int (Int32.ofNat 0))) ∧ et_pl (eg_at u.2.1 am) 0 = some (.int (Int32.ofNat 1))) ∨ ∃ n, ((f (i + 1)) = Int32.ofNat n ∧ n < cn 4) ∧ ((¬ (1 ≤ (f (i + 2)).toInt ∧ (f (i + 2)).toInt ≤ 3) ∧ u.1 = .inl (some (.int (Int32.ofNat 0))) ∧ et_pl (eg_at u.2.1 am) 0 = some (.int (Int32.ofNat 2))) ∨ ∃ k, ((f (i + 2)) = Int32.ofNat k ∧ 1 ≤ k ∧ k ≤ 3) ∧ ((¬ (0 ≤ (f (i + 3)).toInt ∧ (f (i + 3)).toInt ≤ 7) ∧ u.1 = .inl (some (.int (Int32.ofNat 0))) ∧ et_pl (eg_at u.2.1 am) 0 = some (.int (Int32.ofNat 3))) ∨ ∃ m, ((f (i + 3)) = Int32.ofNat m ∧ m ≤ 7) ∧ u.1 = .inl (some (.int (foW (V_ n) X_ Y_ (cn 3) k m (foA (V_ n).1 (V_ n).2.1 (V_ n).2.2.1 X_ Y_ (cn 3) k)))) ∧ et_pl (eg_at u.2.1 am) 0 = some (.int (Int32.ofNat 0))))) hu (fun v981 K981 G981 c981 s981 x981 f981 hH hv981 cl981 sl981 hQ => ?_))
    have zz_ := zz_.fr zk_ k_th hrc.1.1 hrc.1.2.1 f981 (by decide +kernel)
    have zm_ := zm_.fr (fun n hn => zo_ n (by omega)) zka_ f981 (by decide +kernel)
    have zi_ := zi_.fr (fun n hn => zo_ (3 + n) (by omega)) zki_ f981 (by decide +kernel)
    have zk_ := zk_.ex x981
    have zka_ := x981 _ _ zka_
    have zki_ := x981 _ _ zki_
    have hfy := hfy.fr k_th hrc.1.1 x981 f981 (by decide +kernel)
    have hsy := hsy.fr k_th x981 f981 (by decide +kernel)
    have hty := hty.fr x981 hHo f981 (by decide +kernel)
    have hcy := hcy.fr x981 f981 (by decide +kernel)
    have hry := hry.fr hHo x981 f981 (by decide +kernel)
    have hci := hci.fr x981 f981 (by decide +kernel)
    have h3 := (f981.2 th 12 k_th 3 rfl).trans h3
    have hl := (f981.2 rd 7 k_rd 1 rfl).trans hl
    have hm := (f981.2 am 13 k_am 5 rfl).trans hm
    have hp := (f981.2 th 12 k_th 2 rfl).trans hp
    have hg := (f981.2 am 13 k_am 3 rfl).trans hg
    have htC := htC.fr k_rd x981 f981 (by decide +kernel)
    have htM := htM.fr k_am x981 f981 (by decide +kernel)
    have hrc := hrc.fr k_th x981 f981 (by decide +kernel)
    have hrm := hrm.fr k_am x981 f981 (by decide +kernel)
    have k_th := x981 _ _ k_th
    have k_am := x981 _ _ k_am
    have k_out := x981 _ _ k_out
    have k_rd := x981 _ _ k_rd
    rcases hQ with ⟨dx, ev2, ht⟩ | ⟨n1, ⟨en1, hn1⟩, ⟨ds, ev2, ht⟩ | ⟨k1, ⟨ek1, hk1, hl1⟩, ⟨dw, ev2, ht⟩ | ⟨m1, ⟨em1, hm1⟩, ev2, ht⟩⟩⟩
    · exact absurd (xr_m en0 hn0 (by omega)) dx
    · obtain rfl : n0 = n1 := (hs_neq (by have h9_ := (zo_ n0 (by omega)).1.1; omega) (by have h9_ := (zo_ n0 (by omega)).1.1; omega)).mp (en0.symm.trans en1)
      exact absurd (show _ ∧ _ from ⟨by rw [ek0, hs_nint (by omega)]; omega, by rw [ek0, hs_nint (by omega)]; omega⟩) ds
    · obtain rfl : n0 = n1 := (hs_neq (by have h9_ := (zo_ n0 (by omega)).1.1; omega) (by have h9_ := (zo_ n0 (by omega)).1.1; omega)).mp (en0.symm.trans en1)
      obtain rfl : k0 = k1 := (hs_neq (by have h9_ := (zo_ n0 (by omega)).1.1; omega) (by have h9_ := (zo_ n0 (by omega)).1.1; omega)).mp (ek0.symm.trans ek1)
      cases ev2
      have hzy : zy K981 G981 th s0 s1 aw ai (cn 4) (im 4) := ⟨ya_, yb_, O_, A_, V_, ⟨zk_, zka_, zki_⟩, zz_, zo_, zm_, zi_⟩
      show et_go _ _ 1000 984 [some (.ref 150), some (.ref th), some (.ref am), some (.ref out), some (.int (Int32.ofNat i)), some (.int (Int32.ofNat 3)), x6] [.int (Int32.ofNat 0)] _ ((ck + c957) + c981) ((sk + s957) + s981) _
      refine ls_istore (i := 6) (p := 986) (by decide +kernel) (Nat.le_of_ble_eq_true rfl) ?_
      refine ls_goto (p := 1656) (by decide +kernel) ?_
      exact hN _ _ c h _ _ _ _ _ _ ⟨⟨hH, hci, k_th, k_am, k_out, h3, k_rd, hl, hm, hc⟩, ⟨hh1, hp, hg⟩, hrc, hrm, hbc, hbi, ⟨hry, hcy, hty, hzy, hsy, hfy⟩, _, htC, htM, htb⟩ (by omega) (by omega)
    · obtain rfl : n0 = n1 := (hs_neq (by have h9_ := (zo_ n0 (by omega)).1.1; omega) (by have h9_ := (zo_ n0 (by omega)).1.1; omega)).mp (en0.symm.trans en1)
      obtain rfl : k0 = k1 := (hs_neq (by have h9_ := (zo_ n0 (by omega)).1.1; omega) (by have h9_ := (zo_ n0 (by omega)).1.1; omega)).mp (ek0.symm.trans ek1)
      exact absurd (show _ ∧ _ from ⟨by rw [em1, hs_nint (by omega)]; omega, by rw [em1, hs_nint (by omega)]; omega⟩) cw
  · cases ev
    have hcc9 : ccP G957 s0 la0 ya0 (cn 3) X_ Y_ := hcc_.fr ks9 tk_.2.1.1 tk_.2.1.2.1 f957 (by decide +kernel)
    have tk9 := And.intro (x957 _ _ tk_.2.1.1) (x957 _ _ tk_.2.1.2.1)
    have hfy : fyR K957 G957 th s0 (cn 3) := (hfq_.ex x957).new zk_ zz_ zo_ hcc9 tk9.1 tk9.2 (by omega) (by omega) (by omega)
    show et_go _ _ 1000 960 [some (.ref 150), some (.ref th), some (.ref am), some (.ref out), some (.int (Int32.ofNat i)), x5, x6] [.int (Int32.ofNat 0)] _ (ck + c957) (sk + s957) _
    refine ls_istore (i := 5) (p := 962) (by decide +kernel) (Nat.le_of_ble_eq_true rfl) ?_
    refine ls_aload (i := 2) (p := 963) (by decide +kernel) rfl ?_
    refine ls_arg (j := 1) (by decide +kernel) (by omega) hn ?_
    refine ls_arg (j := 2) (by decide +kernel) (by omega) hn ?_
    refine ls_arg (j := 3) (by decide +kernel) (by omega) hn ?_
    refine lt_callv (T := et_TT) (t := 13) (mi := 259) (na := 3) (ci := 11) (lk := 7) (lm := 4) (L0 := eg_en (eg_mL 259) [.ref am, .int (f (i + 1)), .int (f (i + 2)), .int (f (i + 3))]) (by decide +kernel) rfl hH k_am rfl rfl rfl rfl rfl (by rw [show eg_mL 259 = 4 from by decide +kernel]; first | done | rfl) ?_
    have hHo := hH
    refine ((er_p259_ok (K957, [], G957) [.ref am, .int (f (i + 1)), .int (f (i + 2)), .int (f (i + 3))] _ hH (by omega) rfl (ht_ac (.inr ⟨by decide, _, rfl, k_am⟩) (ht_ac hi_any (ht_ac hi_any (ht_ac hi_any ht_an))))).and (gz_found hH k_am hrm.1.1 hrm.2.1.1 (hrm.2.2 (5, 4) (by decide)).1 b4 zm_ (fun n hn => zo_ n (by omega)) (hrm.2.2 (2, 3) (by decide)).1 b3 hcr_ (by omega))).mono (fun u hu => ls_cbvQ (Q := fun u => (¬ xr (f (i + 1)) (cn 4) ∧ u.1 = .inl (some (.int (Int32.ofNat 0))) ∧ et_pl (eg_at u.2.1 am) 0 = some (.int (Int32.ofNat 1))) ∨ ∃ n, ((f (i + 1)) = Int32.ofNat n ∧ n < cn 4) ∧ ((¬ (1 ≤ (f (i + 2)).toInt ∧ (f (i + 2)).toInt ≤ 3) ∧ u.1 = .inl (some (.int (Int32.ofNat 0))) ∧ et_pl (eg_at u.2.1 am) 0 = some (.int (Int32.ofNat 2))) ∨ ∃ k, ((f (i + 2)) = Int32.ofNat k ∧ 1 ≤ k ∧ k ≤ 3) ∧ ((¬ (0 ≤ (f (i + 3)).toInt ∧ (f (i + 3)).toInt ≤ 7) ∧ u.1 = .inl (some (.int (Int32.ofNat 0))) ∧ et_pl (eg_at u.2.1 am) 0 = some (.int (Int32.ofNat 3))) ∨ ∃ m, ((f (i + 3)) = Int32.ofNat m ∧ m ≤ 7) ∧ u.1 = .inl (some (.int (foW (V_ n) X_ Y_ (cn 3) k m (foA (V_ n).1 (V_ n).2.1 (V_ n).2.2.1 X_ Y_ (cn 3) k)))) ∧ et_pl (eg_at u.2.1 am) 0 = some (.int (Int32.ofNat 0))))) hu (fun v981 K981 G981 c981 s981 x981 f981 hH hv981 cl981 sl981 hQ => ?_))
    have zz_ := zz_.fr zk_ k_th hrc.1.1 hrc.1.2.1 f981 (by decide +kernel)
    have zm_ := zm_.fr (fun n hn => zo_ n (by omega)) zka_ f981 (by decide +kernel)
    have zi_ := zi_.fr (fun n hn => zo_ (3 + n) (by omega)) zki_ f981 (by decide +kernel)
    have zk_ := zk_.ex x981
    have zka_ := x981 _ _ zka_
    have zki_ := x981 _ _ zki_
    have hfy := hfy.fr k_th hrc.1.1 x981 f981 (by decide +kernel)
    have hsy := hsy.fr k_th x981 f981 (by decide +kernel)
    have hty := hty.fr x981 hHo f981 (by decide +kernel)
    have hcy := hcy.fr x981 f981 (by decide +kernel)
    have hry := hry.fr hHo x981 f981 (by decide +kernel)
    have hci := hci.fr x981 f981 (by decide +kernel)
    have h3 := (f981.2 th 12 k_th 3 rfl).trans h3
    have hl := (f981.2 rd 7 k_rd 1 rfl).trans hl
    have hm := (f981.2 am 13 k_am 5 rfl).trans hm
    have hp := (f981.2 th 12 k_th 2 rfl).trans hp
    have hg := (f981.2 am 13 k_am 3 rfl).trans hg
    have htC := htC.fr k_rd x981 f981 (by decide +kernel)
    have htM := htM.fr k_am x981 f981 (by decide +kernel)
    have hrc := hrc.fr k_th x981 f981 (by decide +kernel)
    have hrm := hrm.fr k_am x981 f981 (by decide +kernel)
    have ho := (f981.2 out 31 k_out 0 rfl).trans ho
    have k_th := x981 _ _ k_th
    have k_am := x981 _ _ k_am
    have k_out := x981 _ _ k_out
    have k_rd := x981 _ _ k_rd
    rcases hQ with ⟨dx, ev2, ht⟩ | ⟨n1, ⟨en1, hn1⟩, ⟨ds, ev2, ht⟩ | ⟨k1, ⟨ek1, hk1, hl1⟩, ⟨dw, ev2, ht⟩ | ⟨m1, ⟨em1, hm1⟩, ev2, ht⟩⟩⟩
    · exact absurd (xr_m en0 hn0 (by omega)) dx
    · obtain rfl : n0 = n1 := (hs_neq (by have h9_ := (zo_ n0 (by omega)).1.1; omega) (by have h9_ := (zo_ n0 (by omega)).1.1; omega)).mp (en0.symm.trans en1)
      exact absurd (show _ ∧ _ from ⟨by rw [ek0, hs_nint (by omega)]; omega, by rw [ek0, hs_nint (by omega)]; omega⟩) ds
    · obtain rfl : n0 = n1 := (hs_neq (by have h9_ := (zo_ n0 (by omega)).1.1; omega) (by have h9_ := (zo_ n0 (by omega)).1.1; omega)).mp (en0.symm.trans en1)
      obtain rfl : k0 = k1 := (hs_neq (by have h9_ := (zo_ n0 (by omega)).1.1; omega) (by have h9_ := (zo_ n0 (by omega)).1.1; omega)).mp (ek0.symm.trans ek1)
      exact absurd (show _ ∧ _ from ⟨by rw [em0, hs_nint (by omega)]; omega, by rw [em0, hs_nint (by omega)]; omega⟩) dw
    · obtain rfl : n0 = n1 := (hs_neq (by have h9_ := (zo_ n0 (by omega)).1.1; omega) (by have h9_ := (zo_ n0 (by omega)).1.1; omega)).mp (en0.symm.trans en1)
      obtain rfl : k0 = k1 := (hs_neq (by have h9_ := (zo_ n0 (by omega)).1.1; omega) (by have h9_ := (zo_ n0 (by omega)).1.1; omega)).mp (ek0.symm.trans ek1)
      obtain rfl : m0 = m1 := (hs_neq (by have h9_ := (zo_ n0 (by omega)).1.1; omega) (by have h9_ := (zo_ n0 (by omega)).1.1; omega)).mp (em0.symm.trans em1)
      cases ev2
      have hzy : zy K981 G981 th s0 s1 aw ai (cn 4) (im 4) := ⟨ya_, yb_, O_, A_, V_, ⟨zk_, zka_, zki_⟩, zz_, zo_, zm_, zi_⟩
      show et_go _ _ 1000 984 [some (.ref 150), some (.ref th), some (.ref am), some (.ref out), some (.int (Int32.ofNat i)), some (.int (Int32.ofNat 0)), x6] [.int (foW (V_ n0) X_ Y_ (cn 3) k0 m0 (foA (V_ n0).1 (V_ n0).2.1 (V_ n0).2.2.1 X_ Y_ (cn 3) k0))] _ ((ck + c957) + c981) ((sk + s957) + s981) _
      refine ls_istore (i := 6) (p := 986) (by decide +kernel) (Nat.le_of_ble_eq_true rfl) ?_
      refine ls_goto (p := 1656) (by decide +kernel) ?_
      exact hN _ _ c h _ _ _ _ _ _ ⟨⟨hH, hci, k_th, k_am, k_out, h3, k_rd, hl, hm, hc⟩, ⟨hh1, hp, hg⟩, hrc, hrm, hbc, hbi, ⟨hry, hcy, hty, hzy, hsy, hfy⟩, _, htC, htM, htb⟩ (by omega) (by omega)
set_option maxHeartbeats 2000000 in
theorem lw_c20 (hI : lw_I K G th am out rd s0 s1 aw ai tp ba na tm c h cn im) (hi : i + 6 ≤ n) (hn : n ≤ 3072) (hN : ∀ (K' : et_K) (G' : eg_G) (c' h' : Nat) (cn' im' : Nat → Nat) (ck' sk' : Nat) (y5 y6 : Option Value), lw_I K' G' th am out rd s0 s1 aw ai tp ba na tm c' h' cn' im' → ck' ≤ ck + 841 → sk' ≤ sk + 7168 → et_go (some (n, f)) (d + 41) 1000 1656 [some (.ref 150), some (.ref th), some (.ref am), some (.ref out), some (.int (Int32.ofNat i)), y5, y6] [] G' ck' sk' Z) : et_go (some (n, f)) (d + 41) 1000 989 [some (.ref 150), some (.ref th), some (.ref am), some (.ref out), some (.int (Int32.ofNat i)), x5, x6] [] G ck sk Z := by
  obtain ⟨⟨hH, hci, k_th, k_am, k_out, h3, k_rd, hl, hm, hc⟩, ⟨hh1, hp, hg⟩, hrc, hrm, hbc, hbi, ⟨hry, hcy, hty, hzy, hsy, hfy⟩, tb, htC, htM, htb⟩ := hI
  refine ls_aload (i := 1) (p := 990) (by decide +kernel) rfl ?_
  refine ls_arg (j := 1) (by decide +kernel) (by omega) hn ?_
  refine ls_arg (j := 2) (by decide +kernel) (by omega) hn ?_
  refine ls_aload (i := 3) (p := 1003) (by decide +kernel) rfl ?_
  refine ls_calls (mi := 16) (na := 4) (lk := 7) (lm := 5) (L0 := eg_en (eg_mL 16) [.ref th, .int (f (i + 1)), .int (f (i + 2)), .ref out]) (by decide +kernel) rfl rfl rfl rfl rfl rfl (by rw [show eg_mL 16 = 5 from by decide +kernel]; first | done | rfl) ?_
  have hHo := hH
  have b4 : cn 4 ≤ 3 := Int.ofNat_le.mp (hf_bd (t := 10) hH hrc.1.1 rfl rfl (hrc.2.2 (5, 4) (by decide)).1 (hbc 4))
  have b3 : cn 3 ≤ 20 := Int.ofNat_le.mp (hf_bd (t := 10) hH hrc.1.1 rfl rfl (hrc.2.2 (2, 3) (by decide)).1 (hbc 3))
  obtain ⟨la0, ya0, la1, ya1, X_, X2_, Y_, Y2_, tk_, bk_, ⟨hcc_, hcr_⟩, hcd_, hcs_⟩ := id hcy
  obtain ⟨ya_, yb_, O_, A_, V_, ⟨zk_, zka_, zki_⟩, zz_, zo_, zm_, zi_⟩ := hzy
  have zz9 := zz_
  have hfy9 := hfy
  have ks9 := hrc.1.1
  have kt9 := k_th
  have ko9 := k_out
  refine ((hh_c16 (K, [], G) [.ref th, .int (f (i + 1)), .int (f (i + 2)), .ref out] _ hH (by omega) rfl (ht_ac (.inr ⟨by decide, _, rfl, k_th⟩) (ht_ac hi_any (ht_ac hi_any (ht_ac (.inr ⟨by decide, _, rfl, k_out⟩) ht_an))))).and ((fz_bars hH k_th hrc.2.1.1 hrc.1.1 hrc.1.2.1 (hrc.2.2 (5, 4) (by decide)).1 b4 zk_ zz_ zo_ (hrc.2.2 (2, 3) (by decide)).1 b3 hcc_ tk_.2.1.1 tk_.2.1.2.1 k_out hsy (by omega)).and ((fq_16_6 hH k_th k_out (by omega)).and (fq_16_7 hH k_th k_out (by omega))))).mono (fun u hu => ls_cbvQ (Q := fun u => ((¬ xr (f (i + 1)) (cn 4) ∧ u.1 = .inl (some (.int (Int32.ofNat 1))) ∧ u.2.1 = G) ∨ ∃ n, ((f (i + 1)) = Int32.ofNat n ∧ n < cn 4) ∧ ((¬ (1 ≤ (f (i + 2)).toInt ∧ (f (i + 2)).toInt ≤ 3) ∧ u.1 = .inl (some (.int (Int32.ofNat 2))) ∧ u.2.1 = G) ∨ ∃ k, ((f (i + 2)) = Int32.ofNat k ∧ 1 ≤ k ∧ k ≤ 3) ∧ u.1 = .inl (some (.int (Int32.ofNat 0))) ∧ et_pl (eg_at u.2.1 out) 0 = some (.long (brV (V_ n) X_ Y_ (cn 3) k).toInt64))) ∧ (fgZ G th 6 (Int32.ofNat 0) u ∧ fgZ G th 7 (Int32.ofNat 0) u)) hu (fun v1003 K1003 G1003 c1003 s1003 x1003 f1003 hH hv1003 cl1003 sl1003 hQ => ?_))
  have zz_ := zz_.fr zk_ k_th hrc.1.1 hrc.1.2.1 f1003 (by decide +kernel)
  have zm_ := zm_.fr (fun n hn => zo_ n (by omega)) zka_ f1003 (by decide +kernel)
  have zi_ := zi_.fr (fun n hn => zo_ (3 + n) (by omega)) zki_ f1003 (by decide +kernel)
  have zk_ := zk_.ex x1003
  have zka_ := x1003 _ _ zka_
  have zki_ := x1003 _ _ zki_
  have hcr_ := hcr_.fr bk_.1 tk_.2.2.1.1 f1003 (by decide +kernel)
  have hsy := hsy.fr k_th x1003 f1003 (by decide +kernel)
  have hty := hty.fr x1003 hHo f1003 (by decide +kernel)
  have hcy := hcy.fr x1003 f1003 (by decide +kernel)
  have hry := hry.fr hHo x1003 f1003 (by decide +kernel)
  have hci := hci.fr x1003 f1003 (by decide +kernel)
  have h3 := (f1003.2 th 12 k_th 3 rfl).trans h3
  have hl := (f1003.2 rd 7 k_rd 1 rfl).trans hl
  have hm := (f1003.2 am 13 k_am 5 rfl).trans hm
  have hp := (f1003.2 th 12 k_th 2 rfl).trans hp
  have hg := (f1003.2 am 13 k_am 3 rfl).trans hg
  have htC := htC.fr k_rd x1003 f1003 (by decide +kernel)
  have htM := htM.fr k_am x1003 f1003 (by decide +kernel)
  have hrc := hrc.fr k_th x1003 f1003 (by decide +kernel)
  have hrm := hrm.fr k_am x1003 f1003 (by decide +kernel)
  have k_th := x1003 _ _ k_th
  have k_am := x1003 _ _ k_am
  have k_out := x1003 _ _ k_out
  have k_rd := x1003 _ _ k_rd
  obtain ⟨hQ, hf6_, hf7_⟩ := hQ
  rcases hQ with ⟨cx, ev, hg_⟩ | ⟨n0, ⟨en0, hn0⟩, ⟨cs, ev, hg_⟩ | ⟨k0, ⟨ek0, hk0, hl0⟩, ev, ho⟩⟩
  · cases ev
    have hfy : fyR K1003 G1003 th s0 (cn 3) := by rw [show G1003 = G from hg_]; exact hfy9.ex x1003
    show et_go _ _ 1000 1006 [some (.ref 150), some (.ref th), some (.ref am), some (.ref out), some (.int (Int32.ofNat i)), x5, x6] [.int (Int32.ofNat 1)] _ (ck + c1003) (sk + s1003) _
    refine ls_istore (i := 5) (p := 1008) (by decide +kernel) (Nat.le_of_ble_eq_true rfl) ?_
    refine ls_aload (i := 2) (p := 1009) (by decide +kernel) rfl ?_
    refine ls_arg (j := 1) (by decide +kernel) (by omega) hn ?_
    refine ls_arg (j := 2) (by decide +kernel) (by omega) hn ?_
    refine lt_callv (T := et_TT) (t := 13) (mi := 260) (na := 2) (ci := 11) (lk := 7) (lm := 3) (L0 := eg_en (eg_mL 260) [.ref am, .int (f (i + 1)), .int (f (i + 2))]) (by decide +kernel) rfl hH k_am rfl rfl rfl rfl rfl (by rw [show eg_mL 260 = 3 from by decide +kernel]; first | done | rfl) ?_
    have hHo := hH
    refine ((er_p260_ok (K1003, [], G1003) [.ref am, .int (f (i + 1)), .int (f (i + 2))] _ hH (by omega) rfl (ht_ac (.inr ⟨by decide, _, rfl, k_am⟩) (ht_ac hi_any (ht_ac hi_any ht_an)))).and (gz_bars hH k_am hrm.1.1 hrm.2.1.1 (hrm.2.2 (5, 4) (by decide)).1 b4 zm_ (fun n hn => zo_ n (by omega)) (hrm.2.2 (2, 3) (by decide)).1 b3 hcr_ (by omega))).mono (fun u hu => ls_cbvQ (Q := fun u => (¬ xr (f (i + 1)) (cn 4) ∧ u.1 = .inl (some (.int (Int32.ofNat 0))) ∧ et_pl (eg_at u.2.1 am) 0 = some (.int (Int32.ofNat 1))) ∨ ∃ n, ((f (i + 1)) = Int32.ofNat n ∧ n < cn 4) ∧ ((¬ (1 ≤ (f (i + 2)).toInt ∧ (f (i + 2)).toInt ≤ 3) ∧ u.1 = .inl (some (.int (Int32.ofNat 0))) ∧ et_pl (eg_at u.2.1 am) 0 = some (.int (Int32.ofNat 2))) ∨ ∃ k, ((f (i + 2)) = Int32.ofNat k ∧ 1 ≤ k ∧ k ≤ 3) ∧ u.1 = .inl (some (.int (brV (V_ n) X_ Y_ (cn 3) k))) ∧ et_pl (eg_at u.2.1 am) 0 = some (.int (Int32.ofNat 0)))) hu (fun v1021 K1021 G1021 c1021 s1021 x1021 f1021 hH hv1021 cl1021 sl1021 hQ => ?_))
    have zz_ := zz_.fr zk_ k_th hrc.1.1 hrc.1.2.1 f1021 (by decide +kernel)
    have zm_ := zm_.fr (fun n hn => zo_ n (by omega)) zka_ f1021 (by decide +kernel)
    have zi_ := zi_.fr (fun n hn => zo_ (3 + n) (by omega)) zki_ f1021 (by decide +kernel)
    have zk_ := zk_.ex x1021
    have zka_ := x1021 _ _ zka_
    have zki_ := x1021 _ _ zki_
    have hfy := hfy.fr k_th hrc.1.1 x1021 f1021 (by decide +kernel)
    have hsy := hsy.fr k_th x1021 f1021 (by decide +kernel)
    have hty := hty.fr x1021 hHo f1021 (by decide +kernel)
    have hcy := hcy.fr x1021 f1021 (by decide +kernel)
    have hry := hry.fr hHo x1021 f1021 (by decide +kernel)
    have hci := hci.fr x1021 f1021 (by decide +kernel)
    have h3 := (f1021.2 th 12 k_th 3 rfl).trans h3
    have hl := (f1021.2 rd 7 k_rd 1 rfl).trans hl
    have hm := (f1021.2 am 13 k_am 5 rfl).trans hm
    have hp := (f1021.2 th 12 k_th 2 rfl).trans hp
    have hg := (f1021.2 am 13 k_am 3 rfl).trans hg
    have htC := htC.fr k_rd x1021 f1021 (by decide +kernel)
    have htM := htM.fr k_am x1021 f1021 (by decide +kernel)
    have hrc := hrc.fr k_th x1021 f1021 (by decide +kernel)
    have hrm := hrm.fr k_am x1021 f1021 (by decide +kernel)
    have k_th := x1021 _ _ k_th
    have k_am := x1021 _ _ k_am
    have k_out := x1021 _ _ k_out
    have k_rd := x1021 _ _ k_rd
    rcases hQ with ⟨dx, ev2, ht⟩ | ⟨n1, ⟨en1, hn1⟩, ⟨ds, ev2, ht⟩ | ⟨k1, ⟨ek1, hk1, hl1⟩, ev2, ht⟩⟩
    · cases ev2
      have hzy : zy K1021 G1021 th s0 s1 aw ai (cn 4) (im 4) := ⟨ya_, yb_, O_, A_, V_, ⟨zk_, zka_, zki_⟩, zz_, zo_, zm_, zi_⟩
      show et_go _ _ 1000 1024 [some (.ref 150), some (.ref th), some (.ref am), some (.ref out), some (.int (Int32.ofNat i)), some (.int (Int32.ofNat 1)), x6] [.int (Int32.ofNat 0)] _ ((ck + c1003) + c1021) ((sk + s1003) + s1021) _
      refine ls_istore (i := 6) (p := 1026) (by decide +kernel) (Nat.le_of_ble_eq_true rfl) ?_
      refine ls_goto (p := 1656) (by decide +kernel) ?_
      exact hN _ _ c h _ _ _ _ _ _ ⟨⟨hH, hci, k_th, k_am, k_out, h3, k_rd, hl, hm, hc⟩, ⟨hh1, hp, hg⟩, hrc, hrm, hbc, hbi, ⟨hry, hcy, hty, hzy, hsy, hfy⟩, _, htC, htM, htb⟩ (by omega) (by omega)
    · exact absurd (xr_m en1 hn1 (by omega)) cx
    · exact absurd (xr_m en1 hn1 (by omega)) cx
  · cases ev
    have hfy : fyR K1003 G1003 th s0 (cn 3) := by rw [show G1003 = G from hg_]; exact hfy9.ex x1003
    show et_go _ _ 1000 1006 [some (.ref 150), some (.ref th), some (.ref am), some (.ref out), some (.int (Int32.ofNat i)), x5, x6] [.int (Int32.ofNat 2)] _ (ck + c1003) (sk + s1003) _
    refine ls_istore (i := 5) (p := 1008) (by decide +kernel) (Nat.le_of_ble_eq_true rfl) ?_
    refine ls_aload (i := 2) (p := 1009) (by decide +kernel) rfl ?_
    refine ls_arg (j := 1) (by decide +kernel) (by omega) hn ?_
    refine ls_arg (j := 2) (by decide +kernel) (by omega) hn ?_
    refine lt_callv (T := et_TT) (t := 13) (mi := 260) (na := 2) (ci := 11) (lk := 7) (lm := 3) (L0 := eg_en (eg_mL 260) [.ref am, .int (f (i + 1)), .int (f (i + 2))]) (by decide +kernel) rfl hH k_am rfl rfl rfl rfl rfl (by rw [show eg_mL 260 = 3 from by decide +kernel]; first | done | rfl) ?_
    have hHo := hH
    refine ((er_p260_ok (K1003, [], G1003) [.ref am, .int (f (i + 1)), .int (f (i + 2))] _ hH (by omega) rfl (ht_ac (.inr ⟨by decide, _, rfl, k_am⟩) (ht_ac hi_any (ht_ac hi_any ht_an)))).and (gz_bars hH k_am hrm.1.1 hrm.2.1.1 (hrm.2.2 (5, 4) (by decide)).1 b4 zm_ (fun n hn => zo_ n (by omega)) (hrm.2.2 (2, 3) (by decide)).1 b3 hcr_ (by omega))).mono (fun u hu => ls_cbvQ (Q := fun u => (¬ xr (f (i + 1)) (cn 4) ∧ u.1 = .inl (some (.int (Int32.ofNat 0))) ∧ et_pl (eg_at u.2.1 am) 0 = some (.int (Int32.ofNat 1))) ∨ ∃ n, ((f (i + 1)) = Int32.ofNat n ∧ n < cn 4) ∧ ((¬ (1 ≤ (f (i + 2)).toInt ∧ (f (i + 2)).toInt ≤ 3) ∧ u.1 = .inl (some (.int (Int32.ofNat 0))) ∧ et_pl (eg_at u.2.1 am) 0 = some (.int (Int32.ofNat 2))) ∨ ∃ k, ((f (i + 2)) = Int32.ofNat k ∧ 1 ≤ k ∧ k ≤ 3) ∧ u.1 = .inl (some (.int (brV (V_ n) X_ Y_ (cn 3) k))) ∧ et_pl (eg_at u.2.1 am) 0 = some (.int (Int32.ofNat 0)))) hu (fun v1021 K1021 G1021 c1021 s1021 x1021 f1021 hH hv1021 cl1021 sl1021 hQ => ?_))
    have zz_ := zz_.fr zk_ k_th hrc.1.1 hrc.1.2.1 f1021 (by decide +kernel)
    have zm_ := zm_.fr (fun n hn => zo_ n (by omega)) zka_ f1021 (by decide +kernel)
    have zi_ := zi_.fr (fun n hn => zo_ (3 + n) (by omega)) zki_ f1021 (by decide +kernel)
    have zk_ := zk_.ex x1021
    have zka_ := x1021 _ _ zka_
    have zki_ := x1021 _ _ zki_
    have hfy := hfy.fr k_th hrc.1.1 x1021 f1021 (by decide +kernel)
    have hsy := hsy.fr k_th x1021 f1021 (by decide +kernel)
    have hty := hty.fr x1021 hHo f1021 (by decide +kernel)
    have hcy := hcy.fr x1021 f1021 (by decide +kernel)
    have hry := hry.fr hHo x1021 f1021 (by decide +kernel)
    have hci := hci.fr x1021 f1021 (by decide +kernel)
    have h3 := (f1021.2 th 12 k_th 3 rfl).trans h3
    have hl := (f1021.2 rd 7 k_rd 1 rfl).trans hl
    have hm := (f1021.2 am 13 k_am 5 rfl).trans hm
    have hp := (f1021.2 th 12 k_th 2 rfl).trans hp
    have hg := (f1021.2 am 13 k_am 3 rfl).trans hg
    have htC := htC.fr k_rd x1021 f1021 (by decide +kernel)
    have htM := htM.fr k_am x1021 f1021 (by decide +kernel)
    have hrc := hrc.fr k_th x1021 f1021 (by decide +kernel)
    have hrm := hrm.fr k_am x1021 f1021 (by decide +kernel)
    have k_th := x1021 _ _ k_th
    have k_am := x1021 _ _ k_am
    have k_out := x1021 _ _ k_out
    have k_rd := x1021 _ _ k_rd
    rcases hQ with ⟨dx, ev2, ht⟩ | ⟨n1, ⟨en1, hn1⟩, ⟨ds, ev2, ht⟩ | ⟨k1, ⟨ek1, hk1, hl1⟩, ev2, ht⟩⟩
    · exact absurd (xr_m en0 hn0 (by omega)) dx
    · obtain rfl : n0 = n1 := (hs_neq (by have h9_ := (zo_ n0 (by omega)).1.1; omega) (by have h9_ := (zo_ n0 (by omega)).1.1; omega)).mp (en0.symm.trans en1)
      cases ev2
      have hzy : zy K1021 G1021 th s0 s1 aw ai (cn 4) (im 4) := ⟨ya_, yb_, O_, A_, V_, ⟨zk_, zka_, zki_⟩, zz_, zo_, zm_, zi_⟩
      show et_go _ _ 1000 1024 [some (.ref 150), some (.ref th), some (.ref am), some (.ref out), some (.int (Int32.ofNat i)), some (.int (Int32.ofNat 2)), x6] [.int (Int32.ofNat 0)] _ ((ck + c1003) + c1021) ((sk + s1003) + s1021) _
      refine ls_istore (i := 6) (p := 1026) (by decide +kernel) (Nat.le_of_ble_eq_true rfl) ?_
      refine ls_goto (p := 1656) (by decide +kernel) ?_
      exact hN _ _ c h _ _ _ _ _ _ ⟨⟨hH, hci, k_th, k_am, k_out, h3, k_rd, hl, hm, hc⟩, ⟨hh1, hp, hg⟩, hrc, hrm, hbc, hbi, ⟨hry, hcy, hty, hzy, hsy, hfy⟩, _, htC, htM, htb⟩ (by omega) (by omega)
    · obtain rfl : n0 = n1 := (hs_neq (by have h9_ := (zo_ n0 (by omega)).1.1; omega) (by have h9_ := (zo_ n0 (by omega)).1.1; omega)).mp (en0.symm.trans en1)
      exact absurd (show _ ∧ _ from ⟨by rw [ek1, hs_nint (by omega)]; omega, by rw [ek1, hs_nint (by omega)]; omega⟩) cs
  · cases ev
    have hfy : fyR K1003 G1003 th s0 (cn 3) := .inl (hf6_.y rfl)
    show et_go _ _ 1000 1006 [some (.ref 150), some (.ref th), some (.ref am), some (.ref out), some (.int (Int32.ofNat i)), x5, x6] [.int (Int32.ofNat 0)] _ (ck + c1003) (sk + s1003) _
    refine ls_istore (i := 5) (p := 1008) (by decide +kernel) (Nat.le_of_ble_eq_true rfl) ?_
    refine ls_aload (i := 2) (p := 1009) (by decide +kernel) rfl ?_
    refine ls_arg (j := 1) (by decide +kernel) (by omega) hn ?_
    refine ls_arg (j := 2) (by decide +kernel) (by omega) hn ?_
    refine lt_callv (T := et_TT) (t := 13) (mi := 260) (na := 2) (ci := 11) (lk := 7) (lm := 3) (L0 := eg_en (eg_mL 260) [.ref am, .int (f (i + 1)), .int (f (i + 2))]) (by decide +kernel) rfl hH k_am rfl rfl rfl rfl rfl (by rw [show eg_mL 260 = 3 from by decide +kernel]; first | done | rfl) ?_
    have hHo := hH
    refine ((er_p260_ok (K1003, [], G1003) [.ref am, .int (f (i + 1)), .int (f (i + 2))] _ hH (by omega) rfl (ht_ac (.inr ⟨by decide, _, rfl, k_am⟩) (ht_ac hi_any (ht_ac hi_any ht_an)))).and (gz_bars hH k_am hrm.1.1 hrm.2.1.1 (hrm.2.2 (5, 4) (by decide)).1 b4 zm_ (fun n hn => zo_ n (by omega)) (hrm.2.2 (2, 3) (by decide)).1 b3 hcr_ (by omega))).mono (fun u hu => ls_cbvQ (Q := fun u => (¬ xr (f (i + 1)) (cn 4) ∧ u.1 = .inl (some (.int (Int32.ofNat 0))) ∧ et_pl (eg_at u.2.1 am) 0 = some (.int (Int32.ofNat 1))) ∨ ∃ n, ((f (i + 1)) = Int32.ofNat n ∧ n < cn 4) ∧ ((¬ (1 ≤ (f (i + 2)).toInt ∧ (f (i + 2)).toInt ≤ 3) ∧ u.1 = .inl (some (.int (Int32.ofNat 0))) ∧ et_pl (eg_at u.2.1 am) 0 = some (.int (Int32.ofNat 2))) ∨ ∃ k, ((f (i + 2)) = Int32.ofNat k ∧ 1 ≤ k ∧ k ≤ 3) ∧ u.1 = .inl (some (.int (brV (V_ n) X_ Y_ (cn 3) k))) ∧ et_pl (eg_at u.2.1 am) 0 = some (.int (Int32.ofNat 0)))) hu (fun v1021 K1021 G1021 c1021 s1021 x1021 f1021 hH hv1021 cl1021 sl1021 hQ => ?_))
    have zz_ := zz_.fr zk_ k_th hrc.1.1 hrc.1.2.1 f1021 (by decide +kernel)
    have zm_ := zm_.fr (fun n hn => zo_ n (by omega)) zka_ f1021 (by decide +kernel)
    have zi_ := zi_.fr (fun n hn => zo_ (3 + n) (by omega)) zki_ f1021 (by decide +kernel)
    have zk_ := zk_.ex x1021
    have zka_ := x1021 _ _ zka_
    have zki_ := x1021 _ _ zki_
    have hfy := hfy.fr k_th hrc.1.1 x1021 f1021 (by decide +kernel)
    have hsy := hsy.fr k_th x1021 f1021 (by decide +kernel)
    have hty := hty.fr x1021 hHo f1021 (by decide +kernel)
    have hcy := hcy.fr x1021 f1021 (by decide +kernel)
    have hry := hry.fr hHo x1021 f1021 (by decide +kernel)
    have hci := hci.fr x1021 f1021 (by decide +kernel)
    have h3 := (f1021.2 th 12 k_th 3 rfl).trans h3
    have hl := (f1021.2 rd 7 k_rd 1 rfl).trans hl
    have hm := (f1021.2 am 13 k_am 5 rfl).trans hm
    have hp := (f1021.2 th 12 k_th 2 rfl).trans hp
    have hg := (f1021.2 am 13 k_am 3 rfl).trans hg
    have htC := htC.fr k_rd x1021 f1021 (by decide +kernel)
    have htM := htM.fr k_am x1021 f1021 (by decide +kernel)
    have hrc := hrc.fr k_th x1021 f1021 (by decide +kernel)
    have hrm := hrm.fr k_am x1021 f1021 (by decide +kernel)
    have ho := (f1021.2 out 31 k_out 0 rfl).trans ho
    have k_th := x1021 _ _ k_th
    have k_am := x1021 _ _ k_am
    have k_out := x1021 _ _ k_out
    have k_rd := x1021 _ _ k_rd
    rcases hQ with ⟨dx, ev2, ht⟩ | ⟨n1, ⟨en1, hn1⟩, ⟨ds, ev2, ht⟩ | ⟨k1, ⟨ek1, hk1, hl1⟩, ev2, ht⟩⟩
    · exact absurd (xr_m en0 hn0 (by omega)) dx
    · obtain rfl : n0 = n1 := (hs_neq (by have h9_ := (zo_ n0 (by omega)).1.1; omega) (by have h9_ := (zo_ n0 (by omega)).1.1; omega)).mp (en0.symm.trans en1)
      exact absurd (show _ ∧ _ from ⟨by rw [ek0, hs_nint (by omega)]; omega, by rw [ek0, hs_nint (by omega)]; omega⟩) ds
    · obtain rfl : n0 = n1 := (hs_neq (by have h9_ := (zo_ n0 (by omega)).1.1; omega) (by have h9_ := (zo_ n0 (by omega)).1.1; omega)).mp (en0.symm.trans en1)
      obtain rfl : k0 = k1 := (hs_neq (by have h9_ := (zo_ n0 (by omega)).1.1; omega) (by have h9_ := (zo_ n0 (by omega)).1.1; omega)).mp (ek0.symm.trans ek1)
      cases ev2
      have hzy : zy K1021 G1021 th s0 s1 aw ai (cn 4) (im 4) := ⟨ya_, yb_, O_, A_, V_, ⟨zk_, zka_, zki_⟩, zz_, zo_, zm_, zi_⟩
      show et_go _ _ 1000 1024 [some (.ref 150), some (.ref th), some (.ref am), some (.ref out), some (.int (Int32.ofNat i)), some (.int (Int32.ofNat 0)), x6] [.int (brV (V_ n0) X_ Y_ (cn 3) k0)] _ ((ck + c1003) + c1021) ((sk + s1003) + s1021) _
      refine ls_istore (i := 6) (p := 1026) (by decide +kernel) (Nat.le_of_ble_eq_true rfl) ?_
      refine ls_goto (p := 1656) (by decide +kernel) ?_
      exact hN _ _ c h _ _ _ _ _ _ ⟨⟨hH, hci, k_th, k_am, k_out, h3, k_rd, hl, hm, hc⟩, ⟨hh1, hp, hg⟩, hrc, hrm, hbc, hbi, ⟨hry, hcy, hty, hzy, hsy, hfy⟩, _, htC, htM, htb⟩ (by omega) (by omega)
set_option maxHeartbeats 2000000 in
theorem lw_c21 (hI : lw_I K G th am out rd s0 s1 aw ai tp ba na tm c h cn im) (hi : i + 6 ≤ n) (hn : n ≤ 3072) (hN : ∀ (K' : et_K) (G' : eg_G) (c' h' : Nat) (cn' im' : Nat → Nat) (ck' sk' : Nat) (y5 y6 : Option Value), lw_I K' G' th am out rd s0 s1 aw ai tp ba na tm c' h' cn' im' → ck' ≤ ck + 841 → sk' ≤ sk + 7168 → et_go (some (n, f)) (d + 41) 1000 1656 [some (.ref 150), some (.ref th), some (.ref am), some (.ref out), some (.int (Int32.ofNat i)), y5, y6] [] G' ck' sk' Z) : et_go (some (n, f)) (d + 41) 1000 1029 [some (.ref 150), some (.ref th), some (.ref am), some (.ref out), some (.int (Int32.ofNat i)), x5, x6] [] G ck sk Z := by
  obtain ⟨⟨hH, hci, k_th, k_am, k_out, h3, k_rd, hl, hm, hc⟩, ⟨hh1, hp, hg⟩, hrc, hrm, hbc, hbi, ⟨hry, hcy, hty, hzy, hsy, hfy⟩, tb, htC, htM, htb⟩ := hI
  refine ls_aload (i := 1) (p := 1030) (by decide +kernel) rfl ?_
  refine ls_arg (j := 1) (by decide +kernel) (by omega) hn ?_
  refine ls_arg (j := 2) (by decide +kernel) (by omega) hn ?_
  refine ls_aload (i := 3) (p := 1043) (by decide +kernel) rfl ?_
  refine ls_calls (mi := 17) (na := 4) (lk := 7) (lm := 5) (L0 := eg_en (eg_mL 17) [.ref th, .int (f (i + 1)), .int (f (i + 2)), .ref out]) (by decide +kernel) rfl rfl rfl rfl rfl rfl (by rw [show eg_mL 17 = 5 from by decide +kernel]; first | done | rfl) ?_
  have hHo := hH
  have b4 : cn 4 ≤ 3 := Int.ofNat_le.mp (hf_bd (t := 10) hH hrc.1.1 rfl rfl (hrc.2.2 (5, 4) (by decide)).1 (hbc 4))
  have b3 : cn 3 ≤ 20 := Int.ofNat_le.mp (hf_bd (t := 10) hH hrc.1.1 rfl rfl (hrc.2.2 (2, 3) (by decide)).1 (hbc 3))
  obtain ⟨la0, ya0, la1, ya1, X_, X2_, Y_, Y2_, tk_, bk_, ⟨hcc_, hcr_⟩, hcd_, hcs_⟩ := id hcy
  obtain ⟨ya_, yb_, O_, A_, V_, ⟨zk_, zka_, zki_⟩, zz_, zo_, zm_, zi_⟩ := hzy
  have zz9 := zz_
  have hfy9 := hfy
  have ks9 := hrc.1.1
  have kt9 := k_th
  have ko9 := k_out
  refine ((hh_c17 (K, [], G) [.ref th, .int (f (i + 1)), .int (f (i + 2)), .ref out] _ hH (by omega) rfl (ht_ac (.inr ⟨by decide, _, rfl, k_th⟩) (ht_ac hi_any (ht_ac hi_any (ht_ac (.inr ⟨by decide, _, rfl, k_out⟩) ht_an))))).and (fz_bound hH k_th hrc.2.1.1 hrc.1.1 hrc.1.2.1 (hrc.2.2 (5, 4) (by decide)).1 b4 zk_ zz_ zo_ (hrc.2.2 (2, 3) (by decide)).1 b3 hcc_ tk_.2.1.1 tk_.2.1.2.1 k_out hsy hfy (by omega))).mono (fun u hu => ls_cbvQ (Q := fun u => (¬ xr (f (i + 1)) (cn 4) ∧ u.1 = .inl (some (.int (Int32.ofNat 1))) ∧ xf (fun b _ => b = out) G u.2.1) ∨ ∃ n, ((f (i + 1)) = Int32.ofNat n ∧ n < cn 4) ∧ ((¬ (1 ≤ (f (i + 2)).toInt ∧ (f (i + 2)).toInt ≤ 3) ∧ u.1 = .inl (some (.int (Int32.ofNat 2))) ∧ xf (fun b _ => b = out) G u.2.1) ∨ ∃ k, ((f (i + 2)) = Int32.ofNat k ∧ 1 ≤ k ∧ k ≤ 3) ∧ u.1 = .inl (some (.int (Int32.ofNat 0))) ∧ et_pl (eg_at u.2.1 out) 0 = some (.long (boV (V_ n) X_ Y_ (cn 3) k (foA (V_ n).1 (V_ n).2.1 (V_ n).2.2.1 X_ Y_ (cn 3) k)).toInt64) ∧ (fyQ K u.2.1 th n (V_ n).1 k (foA (V_ n).1 (V_ n).2.1 (V_ n).2.2.1 X_ Y_ (cn 3) k) ∨ xf (fun b _ => b = out) G u.2.1))) hu (fun v1043 K1043 G1043 c1043 s1043 x1043 f1043 hH hv1043 cl1043 sl1043 hQ => ?_))
  have zz_ := zz_.fr zk_ k_th hrc.1.1 hrc.1.2.1 f1043 (by decide +kernel)
  have zm_ := zm_.fr (fun n hn => zo_ n (by omega)) zka_ f1043 (by decide +kernel)
  have zi_ := zi_.fr (fun n hn => zo_ (3 + n) (by omega)) zki_ f1043 (by decide +kernel)
  have zk_ := zk_.ex x1043
  have zka_ := x1043 _ _ zka_
  have zki_ := x1043 _ _ zki_
  have hcr_ := hcr_.fr bk_.1 tk_.2.2.1.1 f1043 (by decide +kernel)
  have hsy := hsy.fr k_th x1043 f1043 (by decide +kernel)
  have hty := hty.fr x1043 hHo f1043 (by decide +kernel)
  have hcy := hcy.fr x1043 f1043 (by decide +kernel)
  have hry := hry.fr hHo x1043 f1043 (by decide +kernel)
  have hci := hci.fr x1043 f1043 (by decide +kernel)
  have h3 := (f1043.2 th 12 k_th 3 rfl).trans h3
  have hl := (f1043.2 rd 7 k_rd 1 rfl).trans hl
  have hm := (f1043.2 am 13 k_am 5 rfl).trans hm
  have hp := (f1043.2 th 12 k_th 2 rfl).trans hp
  have hg := (f1043.2 am 13 k_am 3 rfl).trans hg
  have htC := htC.fr k_rd x1043 f1043 (by decide +kernel)
  have htM := htM.fr k_am x1043 f1043 (by decide +kernel)
  have hrc := hrc.fr k_th x1043 f1043 (by decide +kernel)
  have hrm := hrm.fr k_am x1043 f1043 (by decide +kernel)
  have k_th := x1043 _ _ k_th
  have k_am := x1043 _ _ k_am
  have k_out := x1043 _ _ k_out
  have k_rd := x1043 _ _ k_rd
  rcases hQ with ⟨cx, ev, hg_⟩ | ⟨n0, ⟨en0, hn0⟩, ⟨cs, ev, hg_⟩ | ⟨k0, ⟨ek0, hk0, hl0⟩, ev, ho, hfq_⟩⟩
  · cases ev
    have hfy : fyR K1043 G1043 th s0 (cn 3) := hfy9.xs kt9 ks9 hHo x1043 hg_ (fun b j t kb hs => by rw [show b = out from hs, ko9] at kb; cases kb; exact ⟨by decide, fun h => absurd h (by decide), fun h => absurd h (by decide), fun h => absurd h (by decide), fun h => absurd h (by decide)⟩) (fun j _ => hg_.2 th j (hHo.2.2 _ _ kt9).1 (fun h9 => hi_ne kt9 ko9 (by decide) h9))
    show et_go _ _ 1000 1046 [some (.ref 150), some (.ref th), some (.ref am), some (.ref out), some (.int (Int32.ofNat i)), x5, x6] [.int (Int32.ofNat 1)] _ (ck + c1043) (sk + s1043) _
    refine ls_istore (i := 5) (p := 1048) (by decide +kernel) (Nat.le_of_ble_eq_true rfl) ?_
    refine ls_aload (i := 2) (p := 1049) (by decide +kernel) rfl ?_
    refine ls_arg (j := 1) (by decide +kernel) (by omega) hn ?_
    refine ls_arg (j := 2) (by decide +kernel) (by omega) hn ?_
    refine lt_callv (T := et_TT) (t := 13) (mi := 261) (na := 2) (ci := 11) (lk := 7) (lm := 15) (L0 := eg_en (eg_mL 261) [.ref am, .int (f (i + 1)), .int (f (i + 2))]) (by decide +kernel) rfl hH k_am rfl rfl rfl rfl rfl (by rw [show eg_mL 261 = 15 from by decide +kernel]; first | done | rfl) ?_
    have hHo := hH
    refine ((hc_bd (K1043, [], G1043) [.ref am, .int (f (i + 1)), .int (f (i + 2))] _ hH (by omega) rfl (ht_ac (.inr ⟨by decide, _, rfl, k_am⟩) (ht_ac hi_any (ht_ac hi_any ht_an)))).and (gz_bound hH k_am hrm.1.1 hrm.2.1.1 (hrm.2.2 (5, 4) (by decide)).1 b4 zm_ (fun n hn => zo_ n (by omega)) (hrm.2.2 (2, 3) (by decide)).1 b3 hcr_ (by omega))).mono (fun u hu => ls_cbvQ (Q := fun u => (¬ xr (f (i + 1)) (cn 4) ∧ u.1 = .inl (some (.int (Int32.ofNat 0))) ∧ et_pl (eg_at u.2.1 am) 0 = some (.int (Int32.ofNat 1))) ∨ ∃ n, ((f (i + 1)) = Int32.ofNat n ∧ n < cn 4) ∧ ((¬ (1 ≤ (f (i + 2)).toInt ∧ (f (i + 2)).toInt ≤ 3) ∧ u.1 = .inl (some (.int (Int32.ofNat 0))) ∧ et_pl (eg_at u.2.1 am) 0 = some (.int (Int32.ofNat 2))) ∨ ∃ k, ((f (i + 2)) = Int32.ofNat k ∧ 1 ≤ k ∧ k ≤ 3) ∧ u.1 = .inl (some (.int (boV (V_ n) X_ Y_ (cn 3) k (foA (V_ n).1 (V_ n).2.1 (V_ n).2.2.1 X_ Y_ (cn 3) k)))) ∧ et_pl (eg_at u.2.1 am) 0 = some (.int (Int32.ofNat 0)))) hu (fun v1061 K1061 G1061 c1061 s1061 x1061 f1061 hH hv1061 cl1061 sl1061 hQ => ?_))
    have zz_ := zz_.fr zk_ k_th hrc.1.1 hrc.1.2.1 f1061 (by decide +kernel)
    have zm_ := zm_.fr (fun n hn => zo_ n (by omega)) zka_ f1061 (by decide +kernel)
    have zi_ := zi_.fr (fun n hn => zo_ (3 + n) (by omega)) zki_ f1061 (by decide +kernel)
    have zk_ := zk_.ex x1061
    have zka_ := x1061 _ _ zka_
    have zki_ := x1061 _ _ zki_
    have hfy := hfy.fr k_th hrc.1.1 x1061 f1061 (by decide +kernel)
    have hsy := hsy.fr k_th x1061 f1061 (by decide +kernel)
    have hty := hty.fr x1061 hHo f1061 (by decide +kernel)
    have hcy := hcy.fr x1061 f1061 (by decide +kernel)
    have hry := hry.fr hHo x1061 f1061 (by decide +kernel)
    have hci := hci.fr x1061 f1061 (by decide +kernel)
    have h3 := (f1061.2 th 12 k_th 3 rfl).trans h3
    have hl := (f1061.2 rd 7 k_rd 1 rfl).trans hl
    have hm := (f1061.2 am 13 k_am 5 rfl).trans hm
    have hp := (f1061.2 th 12 k_th 2 rfl).trans hp
    have hg := (f1061.2 am 13 k_am 3 rfl).trans hg
    have htC := htC.fr k_rd x1061 f1061 (by decide +kernel)
    have htM := htM.fr k_am x1061 f1061 (by decide +kernel)
    have hrc := hrc.fr k_th x1061 f1061 (by decide +kernel)
    have hrm := hrm.fr k_am x1061 f1061 (by decide +kernel)
    have k_th := x1061 _ _ k_th
    have k_am := x1061 _ _ k_am
    have k_out := x1061 _ _ k_out
    have k_rd := x1061 _ _ k_rd
    rcases hQ with ⟨dx, ev2, ht⟩ | ⟨n1, ⟨en1, hn1⟩, ⟨ds, ev2, ht⟩ | ⟨k1, ⟨ek1, hk1, hl1⟩, ev2, ht⟩⟩
    · cases ev2
      have hzy : zy K1061 G1061 th s0 s1 aw ai (cn 4) (im 4) := ⟨ya_, yb_, O_, A_, V_, ⟨zk_, zka_, zki_⟩, zz_, zo_, zm_, zi_⟩
      show et_go _ _ 1000 1064 [some (.ref 150), some (.ref th), some (.ref am), some (.ref out), some (.int (Int32.ofNat i)), some (.int (Int32.ofNat 1)), x6] [.int (Int32.ofNat 0)] _ ((ck + c1043) + c1061) ((sk + s1043) + s1061) _
      refine ls_istore (i := 6) (p := 1066) (by decide +kernel) (Nat.le_of_ble_eq_true rfl) ?_
      refine ls_aload (i := 2) (p := 1067) (by decide +kernel) rfl ?_
      refine lt_callv (T := et_TT) (t := 13) (mi := 315) (na := 0) (ci := 11) (lk := 7) (lm := 1) (L0 := eg_en (eg_mL 315) [.ref am]) (by decide +kernel) rfl hH k_am rfl rfl rfl rfl rfl (by rw [show eg_mL 315 = 1 from by decide +kernel]; first | done | rfl) ?_
      refine (fm_thrown hH k_am ht).mono (fun u hu => ?_)
      obtain rfl : u = (.inl (some (.int (Int32.ofNat 1))), G1061, 0, 0) := hu
      refine ls_cb ?_
      show et_go _ _ 1000 1070 [some (.ref 150), some (.ref th), some (.ref am), some (.ref out), some (.int (Int32.ofNat i)), some (.int (Int32.ofNat 1)), some (.int (Int32.ofNat 0))] [.int (Int32.ofNat 1)] _ ((ck + c1043) + c1061) ((sk + s1043) + s1061) _
      refine ls_iload (i := 5) (p := 1072) (by decide +kernel) rfl ?_
      refine ls_br2 (c := .eq) (t := 1077) (f := 1075) (by decide +kernel) (fun _ => ?_) (fun hz => absurd (show ((Int32.ofNat 1) : Int32) = (Int32.ofNat 1) from rfl) hz)
      refine ls_iload (i := 5) (p := 1079) (by decide +kernel) rfl ?_
      refine ls_br1 (c := .ne) (t := 1094) (f := 1082) (by decide +kernel) (fun _ => ?_) (fun hz => absurd (show ¬ Int32.ofNat 1 = 0 by decide) hz)
      refine ls_goto (p := 1656) (by decide +kernel) ?_
      exact hN _ _ c h _ _ _ _ _ _ ⟨⟨hH, hci, k_th, k_am, k_out, h3, k_rd, hl, hm, hc⟩, ⟨hh1, hp, hg⟩, hrc, hrm, hbc, hbi, ⟨hry, hcy, hty, hzy, hsy, hfy⟩, _, htC, htM, htb⟩ (by omega) (by omega)
    · exact absurd (xr_m en1 hn1 (by omega)) cx
    · exact absurd (xr_m en1 hn1 (by omega)) cx
  · cases ev
    have hfy : fyR K1043 G1043 th s0 (cn 3) := hfy9.xs kt9 ks9 hHo x1043 hg_ (fun b j t kb hs => by rw [show b = out from hs, ko9] at kb; cases kb; exact ⟨by decide, fun h => absurd h (by decide), fun h => absurd h (by decide), fun h => absurd h (by decide), fun h => absurd h (by decide)⟩) (fun j _ => hg_.2 th j (hHo.2.2 _ _ kt9).1 (fun h9 => hi_ne kt9 ko9 (by decide) h9))
    show et_go _ _ 1000 1046 [some (.ref 150), some (.ref th), some (.ref am), some (.ref out), some (.int (Int32.ofNat i)), x5, x6] [.int (Int32.ofNat 2)] _ (ck + c1043) (sk + s1043) _
    refine ls_istore (i := 5) (p := 1048) (by decide +kernel) (Nat.le_of_ble_eq_true rfl) ?_
    refine ls_aload (i := 2) (p := 1049) (by decide +kernel) rfl ?_
    refine ls_arg (j := 1) (by decide +kernel) (by omega) hn ?_
    refine ls_arg (j := 2) (by decide +kernel) (by omega) hn ?_
    refine lt_callv (T := et_TT) (t := 13) (mi := 261) (na := 2) (ci := 11) (lk := 7) (lm := 15) (L0 := eg_en (eg_mL 261) [.ref am, .int (f (i + 1)), .int (f (i + 2))]) (by decide +kernel) rfl hH k_am rfl rfl rfl rfl rfl (by rw [show eg_mL 261 = 15 from by decide +kernel]; first | done | rfl) ?_
    have hHo := hH
    refine ((hc_bd (K1043, [], G1043) [.ref am, .int (f (i + 1)), .int (f (i + 2))] _ hH (by omega) rfl (ht_ac (.inr ⟨by decide, _, rfl, k_am⟩) (ht_ac hi_any (ht_ac hi_any ht_an)))).and (gz_bound hH k_am hrm.1.1 hrm.2.1.1 (hrm.2.2 (5, 4) (by decide)).1 b4 zm_ (fun n hn => zo_ n (by omega)) (hrm.2.2 (2, 3) (by decide)).1 b3 hcr_ (by omega))).mono (fun u hu => ls_cbvQ (Q := fun u => (¬ xr (f (i + 1)) (cn 4) ∧ u.1 = .inl (some (.int (Int32.ofNat 0))) ∧ et_pl (eg_at u.2.1 am) 0 = some (.int (Int32.ofNat 1))) ∨ ∃ n, ((f (i + 1)) = Int32.ofNat n ∧ n < cn 4) ∧ ((¬ (1 ≤ (f (i + 2)).toInt ∧ (f (i + 2)).toInt ≤ 3) ∧ u.1 = .inl (some (.int (Int32.ofNat 0))) ∧ et_pl (eg_at u.2.1 am) 0 = some (.int (Int32.ofNat 2))) ∨ ∃ k, ((f (i + 2)) = Int32.ofNat k ∧ 1 ≤ k ∧ k ≤ 3) ∧ u.1 = .inl (some (.int (boV (V_ n) X_ Y_ (cn 3) k (foA (V_ n).1 (V_ n).2.1 (V_ n).2.2.1 X_ Y_ (cn 3) k)))) ∧ et_pl (eg_at u.2.1 am) 0 = some (.int (Int32.ofNat 0)))) hu (fun v1061 K1061 G1061 c1061 s1061 x1061 f1061 hH hv1061 cl1061 sl1061 hQ => ?_))
    have zz_ := zz_.fr zk_ k_th hrc.1.1 hrc.1.2.1 f1061 (by decide +kernel)
    have zm_ := zm_.fr (fun n hn => zo_ n (by omega)) zka_ f1061 (by decide +kernel)
    have zi_ := zi_.fr (fun n hn => zo_ (3 + n) (by omega)) zki_ f1061 (by decide +kernel)
    have zk_ := zk_.ex x1061
    have zka_ := x1061 _ _ zka_
    have zki_ := x1061 _ _ zki_
    have hfy := hfy.fr k_th hrc.1.1 x1061 f1061 (by decide +kernel)
    have hsy := hsy.fr k_th x1061 f1061 (by decide +kernel)
    have hty := hty.fr x1061 hHo f1061 (by decide +kernel)
    have hcy := hcy.fr x1061 f1061 (by decide +kernel)
    have hry := hry.fr hHo x1061 f1061 (by decide +kernel)
    have hci := hci.fr x1061 f1061 (by decide +kernel)
    have h3 := (f1061.2 th 12 k_th 3 rfl).trans h3
    have hl := (f1061.2 rd 7 k_rd 1 rfl).trans hl
    have hm := (f1061.2 am 13 k_am 5 rfl).trans hm
    have hp := (f1061.2 th 12 k_th 2 rfl).trans hp
    have hg := (f1061.2 am 13 k_am 3 rfl).trans hg
    have htC := htC.fr k_rd x1061 f1061 (by decide +kernel)
    have htM := htM.fr k_am x1061 f1061 (by decide +kernel)
    have hrc := hrc.fr k_th x1061 f1061 (by decide +kernel)
    have hrm := hrm.fr k_am x1061 f1061 (by decide +kernel)
    have k_th := x1061 _ _ k_th
    have k_am := x1061 _ _ k_am
    have k_out := x1061 _ _ k_out
    have k_rd := x1061 _ _ k_rd
    rcases hQ with ⟨dx, ev2, ht⟩ | ⟨n1, ⟨en1, hn1⟩, ⟨ds, ev2, ht⟩ | ⟨k1, ⟨ek1, hk1, hl1⟩, ev2, ht⟩⟩
    · exact absurd (xr_m en0 hn0 (by omega)) dx
    · obtain rfl : n0 = n1 := (hs_neq (by have h9_ := (zo_ n0 (by omega)).1.1; omega) (by have h9_ := (zo_ n0 (by omega)).1.1; omega)).mp (en0.symm.trans en1)
      cases ev2
      have hzy : zy K1061 G1061 th s0 s1 aw ai (cn 4) (im 4) := ⟨ya_, yb_, O_, A_, V_, ⟨zk_, zka_, zki_⟩, zz_, zo_, zm_, zi_⟩
      show et_go _ _ 1000 1064 [some (.ref 150), some (.ref th), some (.ref am), some (.ref out), some (.int (Int32.ofNat i)), some (.int (Int32.ofNat 2)), x6] [.int (Int32.ofNat 0)] _ ((ck + c1043) + c1061) ((sk + s1043) + s1061) _
      refine ls_istore (i := 6) (p := 1066) (by decide +kernel) (Nat.le_of_ble_eq_true rfl) ?_
      refine ls_aload (i := 2) (p := 1067) (by decide +kernel) rfl ?_
      refine lt_callv (T := et_TT) (t := 13) (mi := 315) (na := 0) (ci := 11) (lk := 7) (lm := 1) (L0 := eg_en (eg_mL 315) [.ref am]) (by decide +kernel) rfl hH k_am rfl rfl rfl rfl rfl (by rw [show eg_mL 315 = 1 from by decide +kernel]; first | done | rfl) ?_
      refine (fm_thrown hH k_am ht).mono (fun u hu => ?_)
      obtain rfl : u = (.inl (some (.int (Int32.ofNat 2))), G1061, 0, 0) := hu
      refine ls_cb ?_
      show et_go _ _ 1000 1070 [some (.ref 150), some (.ref th), some (.ref am), some (.ref out), some (.int (Int32.ofNat i)), some (.int (Int32.ofNat 2)), some (.int (Int32.ofNat 0))] [.int (Int32.ofNat 2)] _ ((ck + c1043) + c1061) ((sk + s1043) + s1061) _
      refine ls_iload (i := 5) (p := 1072) (by decide +kernel) rfl ?_
      refine ls_br2 (c := .eq) (t := 1077) (f := 1075) (by decide +kernel) (fun _ => ?_) (fun hz => absurd (show ((Int32.ofNat 2) : Int32) = (Int32.ofNat 2) from rfl) hz)
      refine ls_iload (i := 5) (p := 1079) (by decide +kernel) rfl ?_
      refine ls_br1 (c := .ne) (t := 1094) (f := 1082) (by decide +kernel) (fun _ => ?_) (fun hz => absurd (show ¬ Int32.ofNat 2 = 0 by decide) hz)
      refine ls_goto (p := 1656) (by decide +kernel) ?_
      exact hN _ _ c h _ _ _ _ _ _ ⟨⟨hH, hci, k_th, k_am, k_out, h3, k_rd, hl, hm, hc⟩, ⟨hh1, hp, hg⟩, hrc, hrm, hbc, hbi, ⟨hry, hcy, hty, hzy, hsy, hfy⟩, _, htC, htM, htb⟩ (by omega) (by omega)
    · obtain rfl : n0 = n1 := (hs_neq (by have h9_ := (zo_ n0 (by omega)).1.1; omega) (by have h9_ := (zo_ n0 (by omega)).1.1; omega)).mp (en0.symm.trans en1)
      exact absurd (show _ ∧ _ from ⟨by rw [ek1, hs_nint (by omega)]; omega, by rw [ek1, hs_nint (by omega)]; omega⟩) cs
  · cases ev
    have hcc9 : ccP G1043 s0 la0 ya0 (cn 3) X_ Y_ := hcc_.fr ks9 tk_.2.1.1 tk_.2.1.2.1 f1043 (by decide +kernel)
    have tk9 := And.intro (x1043 _ _ tk_.2.1.1) (x1043 _ _ tk_.2.1.2.1)
    have hfy : fyR K1043 G1043 th s0 (cn 3) := by
      rcases hfq_ with h9 | h9
      · exact (h9.ex x1043).new zk_ zz_ zo_ hcc9 tk9.1 tk9.2 (by omega) (by omega) (by omega)
      · exact hfy9.xs kt9 ks9 hHo x1043 h9 (fun b j t kb hs => by rw [show b = out from hs, ko9] at kb; cases kb; exact ⟨by decide, fun h => absurd h (by decide), fun h => absurd h (by decide), fun h => absurd h (by decide), fun h => absurd h (by decide)⟩) (fun j _ => h9.2 th j (hHo.2.2 _ _ kt9).1 (fun h9 => hi_ne kt9 ko9 (by decide) h9))
    show et_go _ _ 1000 1046 [some (.ref 150), some (.ref th), some (.ref am), some (.ref out), some (.int (Int32.ofNat i)), x5, x6] [.int (Int32.ofNat 0)] _ (ck + c1043) (sk + s1043) _
    refine ls_istore (i := 5) (p := 1048) (by decide +kernel) (Nat.le_of_ble_eq_true rfl) ?_
    refine ls_aload (i := 2) (p := 1049) (by decide +kernel) rfl ?_
    refine ls_arg (j := 1) (by decide +kernel) (by omega) hn ?_
    refine ls_arg (j := 2) (by decide +kernel) (by omega) hn ?_
    refine lt_callv (T := et_TT) (t := 13) (mi := 261) (na := 2) (ci := 11) (lk := 7) (lm := 15) (L0 := eg_en (eg_mL 261) [.ref am, .int (f (i + 1)), .int (f (i + 2))]) (by decide +kernel) rfl hH k_am rfl rfl rfl rfl rfl (by rw [show eg_mL 261 = 15 from by decide +kernel]; first | done | rfl) ?_
    have hHo := hH
    refine ((hc_bd (K1043, [], G1043) [.ref am, .int (f (i + 1)), .int (f (i + 2))] _ hH (by omega) rfl (ht_ac (.inr ⟨by decide, _, rfl, k_am⟩) (ht_ac hi_any (ht_ac hi_any ht_an)))).and (gz_bound hH k_am hrm.1.1 hrm.2.1.1 (hrm.2.2 (5, 4) (by decide)).1 b4 zm_ (fun n hn => zo_ n (by omega)) (hrm.2.2 (2, 3) (by decide)).1 b3 hcr_ (by omega))).mono (fun u hu => ls_cbvQ (Q := fun u => (¬ xr (f (i + 1)) (cn 4) ∧ u.1 = .inl (some (.int (Int32.ofNat 0))) ∧ et_pl (eg_at u.2.1 am) 0 = some (.int (Int32.ofNat 1))) ∨ ∃ n, ((f (i + 1)) = Int32.ofNat n ∧ n < cn 4) ∧ ((¬ (1 ≤ (f (i + 2)).toInt ∧ (f (i + 2)).toInt ≤ 3) ∧ u.1 = .inl (some (.int (Int32.ofNat 0))) ∧ et_pl (eg_at u.2.1 am) 0 = some (.int (Int32.ofNat 2))) ∨ ∃ k, ((f (i + 2)) = Int32.ofNat k ∧ 1 ≤ k ∧ k ≤ 3) ∧ u.1 = .inl (some (.int (boV (V_ n) X_ Y_ (cn 3) k (foA (V_ n).1 (V_ n).2.1 (V_ n).2.2.1 X_ Y_ (cn 3) k)))) ∧ et_pl (eg_at u.2.1 am) 0 = some (.int (Int32.ofNat 0)))) hu (fun v1061 K1061 G1061 c1061 s1061 x1061 f1061 hH hv1061 cl1061 sl1061 hQ => ?_))
    have zz_ := zz_.fr zk_ k_th hrc.1.1 hrc.1.2.1 f1061 (by decide +kernel)
    have zm_ := zm_.fr (fun n hn => zo_ n (by omega)) zka_ f1061 (by decide +kernel)
    have zi_ := zi_.fr (fun n hn => zo_ (3 + n) (by omega)) zki_ f1061 (by decide +kernel)
    have zk_ := zk_.ex x1061
    have zka_ := x1061 _ _ zka_
    have zki_ := x1061 _ _ zki_
    have hfy := hfy.fr k_th hrc.1.1 x1061 f1061 (by decide +kernel)
    have hsy := hsy.fr k_th x1061 f1061 (by decide +kernel)
    have hty := hty.fr x1061 hHo f1061 (by decide +kernel)
    have hcy := hcy.fr x1061 f1061 (by decide +kernel)
    have hry := hry.fr hHo x1061 f1061 (by decide +kernel)
    have hci := hci.fr x1061 f1061 (by decide +kernel)
    have h3 := (f1061.2 th 12 k_th 3 rfl).trans h3
    have hl := (f1061.2 rd 7 k_rd 1 rfl).trans hl
    have hm := (f1061.2 am 13 k_am 5 rfl).trans hm
    have hp := (f1061.2 th 12 k_th 2 rfl).trans hp
    have hg := (f1061.2 am 13 k_am 3 rfl).trans hg
    have htC := htC.fr k_rd x1061 f1061 (by decide +kernel)
    have htM := htM.fr k_am x1061 f1061 (by decide +kernel)
    have hrc := hrc.fr k_th x1061 f1061 (by decide +kernel)
    have hrm := hrm.fr k_am x1061 f1061 (by decide +kernel)
    have ho := (f1061.2 out 31 k_out 0 rfl).trans ho
    have k_th := x1061 _ _ k_th
    have k_am := x1061 _ _ k_am
    have k_out := x1061 _ _ k_out
    have k_rd := x1061 _ _ k_rd
    rcases hQ with ⟨dx, ev2, ht⟩ | ⟨n1, ⟨en1, hn1⟩, ⟨ds, ev2, ht⟩ | ⟨k1, ⟨ek1, hk1, hl1⟩, ev2, ht⟩⟩
    · exact absurd (xr_m en0 hn0 (by omega)) dx
    · obtain rfl : n0 = n1 := (hs_neq (by have h9_ := (zo_ n0 (by omega)).1.1; omega) (by have h9_ := (zo_ n0 (by omega)).1.1; omega)).mp (en0.symm.trans en1)
      exact absurd (show _ ∧ _ from ⟨by rw [ek0, hs_nint (by omega)]; omega, by rw [ek0, hs_nint (by omega)]; omega⟩) ds
    · obtain rfl : n0 = n1 := (hs_neq (by have h9_ := (zo_ n0 (by omega)).1.1; omega) (by have h9_ := (zo_ n0 (by omega)).1.1; omega)).mp (en0.symm.trans en1)
      obtain rfl : k0 = k1 := (hs_neq (by have h9_ := (zo_ n0 (by omega)).1.1; omega) (by have h9_ := (zo_ n0 (by omega)).1.1; omega)).mp (ek0.symm.trans ek1)
      cases ev2
      have hzy : zy K1061 G1061 th s0 s1 aw ai (cn 4) (im 4) := ⟨ya_, yb_, O_, A_, V_, ⟨zk_, zka_, zki_⟩, zz_, zo_, zm_, zi_⟩
      show et_go _ _ 1000 1064 [some (.ref 150), some (.ref th), some (.ref am), some (.ref out), some (.int (Int32.ofNat i)), some (.int (Int32.ofNat 0)), x6] [.int (boV (V_ n0) X_ Y_ (cn 3) k0 (foA (V_ n0).1 (V_ n0).2.1 (V_ n0).2.2.1 X_ Y_ (cn 3) k0))] _ ((ck + c1043) + c1061) ((sk + s1043) + s1061) _
      refine ls_istore (i := 6) (p := 1066) (by decide +kernel) (Nat.le_of_ble_eq_true rfl) ?_
      refine ls_aload (i := 2) (p := 1067) (by decide +kernel) rfl ?_
      refine lt_callv (T := et_TT) (t := 13) (mi := 315) (na := 0) (ci := 11) (lk := 7) (lm := 1) (L0 := eg_en (eg_mL 315) [.ref am]) (by decide +kernel) rfl hH k_am rfl rfl rfl rfl rfl (by rw [show eg_mL 315 = 1 from by decide +kernel]; first | done | rfl) ?_
      refine (fm_thrown hH k_am ht).mono (fun u hu => ?_)
      obtain rfl : u = (.inl (some (.int (Int32.ofNat 0))), G1061, 0, 0) := hu
      refine ls_cb ?_
      show et_go _ _ 1000 1070 [some (.ref 150), some (.ref th), some (.ref am), some (.ref out), some (.int (Int32.ofNat i)), some (.int (Int32.ofNat 0)), some (.int (boV (V_ n0) X_ Y_ (cn 3) k0 (foA (V_ n0).1 (V_ n0).2.1 (V_ n0).2.2.1 X_ Y_ (cn 3) k0)))] [.int (Int32.ofNat 0)] _ ((ck + c1043) + c1061) ((sk + s1043) + s1061) _
      refine ls_iload (i := 5) (p := 1072) (by decide +kernel) rfl ?_
      refine ls_br2 (c := .eq) (t := 1077) (f := 1075) (by decide +kernel) (fun _ => ?_) (fun hz => absurd (show ((Int32.ofNat 0) : Int32) = (Int32.ofNat 0) from rfl) hz)
      refine ls_iload (i := 5) (p := 1079) (by decide +kernel) rfl ?_
      refine ls_br1 (c := .ne) (t := 1094) (f := 1082) (by decide +kernel) (fun hz => absurd rfl hz) (fun _ => ?_)
      refine ls_aload (i := 3) (p := 1083) (by decide +kernel) rfl ?_
      refine ls_k (x := Int32.ofNat 0) (p := 1084) (by decide +kernel) ?_
      refine ls_lald (t := 31) (N := 1) (p := 1085) (by decide +kernel) rfl rfl hH k_out (by decide) ho ?_
      refine ls_iload (i := 6) (p := 1087) (by decide +kernel) rfl ?_
      refine ls_st (ins := .i2l) (len := 1) (p := 1088) (by decide +kernel) rfl rfl rfl ?_
      refine ls_st (ins := .lcmp) (len := 1) (p := 1089) (by decide +kernel) rfl rfl rfl ?_
      refine ls_br1 (c := .eq) (t := 1094) (f := 1092) (by decide +kernel) (fun _ => ?_) (fun hz => absurd (by first | exact lg_cmp0 _ | decide) hz)
      refine ls_goto (p := 1656) (by decide +kernel) ?_
      exact hN _ _ c h _ _ _ _ _ _ ⟨⟨hH, hci, k_th, k_am, k_out, h3, k_rd, hl, hm, hc⟩, ⟨hh1, hp, hg⟩, hrc, hrm, hbc, hbi, ⟨hry, hcy, hty, hzy, hsy, hfy⟩, _, htC, htM, htb⟩ (by omega) (by omega)
set_option maxHeartbeats 2000000 in
theorem lw_c22 (hI : lw_I K G th am out rd s0 s1 aw ai tp ba na tm c h cn im) (hi : i + 6 ≤ n) (hn : n ≤ 3072) (hN : ∀ (K' : et_K) (G' : eg_G) (c' h' : Nat) (cn' im' : Nat → Nat) (ck' sk' : Nat) (y5 y6 : Option Value), lw_I K' G' th am out rd s0 s1 aw ai tp ba na tm c' h' cn' im' → ck' ≤ ck + 841 → sk' ≤ sk + 7168 → et_go (some (n, f)) (d + 41) 1000 1656 [some (.ref 150), some (.ref th), some (.ref am), some (.ref out), some (.int (Int32.ofNat i)), y5, y6] [] G' ck' sk' Z) : et_go (some (n, f)) (d + 41) 1000 1097 [some (.ref 150), some (.ref th), some (.ref am), some (.ref out), some (.int (Int32.ofNat i)), x5, x6] [] G ck sk Z := by
  obtain ⟨⟨hH, hci, k_th, k_am, k_out, h3, k_rd, hl, hm, hc⟩, ⟨hh1, hp, hg⟩, hrc, hrm, hbc, hbi, ⟨hry, hcy, hty, hzy, hsy, hfy⟩, tb, htC, htM, htb⟩ := hI
  refine ls_aload (i := 1) (p := 1098) (by decide +kernel) rfl ?_
  refine ls_arg (j := 1) (by decide +kernel) (by omega) hn ?_
  refine ls_arg (j := 2) (by decide +kernel) (by omega) hn ?_
  refine ls_aload (i := 3) (p := 1111) (by decide +kernel) rfl ?_
  refine ls_calls (mi := 18) (na := 4) (lk := 7) (lm := 5) (L0 := eg_en (eg_mL 18) [.ref th, .int (f (i + 1)), .int (f (i + 2)), .ref out]) (by decide +kernel) rfl rfl rfl rfl rfl rfl (by rw [show eg_mL 18 = 5 from by decide +kernel]; first | done | rfl) ?_
  have hHo := hH
  obtain ⟨D_, φ_, R0_, R1_, r0_, r1_, fo_, t_, kk_, hx_, ho_⟩ := hry
  refine ((hh_c18 (K, [], G) [.ref th, .int (f (i + 1)), .int (f (i + 2)), .ref out] _ hH (by omega) rfl (ht_ac (.inr ⟨by decide, _, rfl, k_th⟩) (ht_ac hi_any (ht_ac hi_any (ht_ac (.inr ⟨by decide, _, rfl, k_out⟩) ht_an))))).and (fh_18 t_ hH k_out hx_ (by omega))).mono (fun u hu => ls_cbvQ (Q := fun u => rx D_ φ_ th s0 r0_ (cn 0) fo_ u.2.1) hu (fun v1111 K1111 G1111 c1111 s1111 x1111 f1111 hH hv1111 cl1111 sl1111 hQ => ?_))
  have hry : ry K1111 G1111 th s0 s1 aw ai (cn 0) (im 0) := ⟨D_, φ_, R0_, R1_, r0_, r1_, fo_, t_.ex x1111, kk_.ex x1111, hQ, ho_.fr kk_ f1111 (by decide +kernel)⟩
  have hfy := hfy.fr k_th hrc.1.1 x1111 f1111 (by decide +kernel)
  have hsy := hsy.fr k_th x1111 f1111 (by decide +kernel)
  have hzy := hzy.fr k_th hrc.1.1 hrc.1.2.1 x1111 f1111 (by decide +kernel)
  have hty := hty.fr x1111 hHo f1111 (by decide +kernel)
  have hcy := hcy.fr x1111 f1111 (by decide +kernel)
  have hci := hci.fr x1111 f1111 (by decide +kernel)
  have h3 := (f1111.2 th 12 k_th 3 rfl).trans h3
  have hl := (f1111.2 rd 7 k_rd 1 rfl).trans hl
  have hm := (f1111.2 am 13 k_am 5 rfl).trans hm
  have hp := (f1111.2 th 12 k_th 2 rfl).trans hp
  have hg := (f1111.2 am 13 k_am 3 rfl).trans hg
  have htC := htC.fr k_rd x1111 f1111 (by decide +kernel)
  have htM := htM.fr k_am x1111 f1111 (by decide +kernel)
  have hrc := hrc.fr k_th x1111 f1111 (by decide +kernel)
  have hrm := hrm.fr k_am x1111 f1111 (by decide +kernel)
  have k_th := x1111 _ _ k_th
  have k_am := x1111 _ _ k_am
  have k_out := x1111 _ _ k_out
  have k_rd := x1111 _ _ k_rd
  obtain ⟨v1111, rfl, -⟩ := hv1111
  show et_go _ _ 1000 1114 [some (.ref 150), some (.ref th), some (.ref am), some (.ref out), some (.int (Int32.ofNat i)), x5, x6] [.int v1111] _ (ck + c1111) (sk + s1111) _
  refine ls_istore (i := 5) (p := 1116) (by decide +kernel) (Nat.le_of_ble_eq_true rfl) ?_
  refine ls_aload (i := 2) (p := 1117) (by decide +kernel) rfl ?_
  refine ls_arg (j := 1) (by decide +kernel) (by omega) hn ?_
  refine ls_arg (j := 2) (by decide +kernel) (by omega) hn ?_
  refine lt_callv (T := et_TT) (t := 13) (mi := 262) (na := 2) (ci := 11) (lk := 7) (lm := 3) (L0 := eg_en (eg_mL 262) [.ref am, .int (f (i + 1)), .int (f (i + 2))]) (by decide +kernel) rfl hH k_am rfl rfl rfl rfl rfl (by rw [show eg_mL 262 = 3 from by decide +kernel]; first | done | rfl) ?_
  have hHo := hH
  refine (er_p262_ok (K1111, [], G1111) [.ref am, .int (f (i + 1)), .int (f (i + 2))] _ hH (by omega) rfl (ht_ac (.inr ⟨by decide, _, rfl, k_am⟩) (ht_ac hi_any (ht_ac hi_any ht_an)))).mono (fun u hu => ls_cbv hu (fun v1129 K1129 G1129 c1129 s1129 x1129 f1129 hH hv1129 cl1129 sl1129 => ?_))
  have hfy := hfy.fr k_th hrc.1.1 x1129 f1129 (by decide +kernel)
  have hsy := hsy.fr k_th x1129 f1129 (by decide +kernel)
  have hzy := hzy.fr k_th hrc.1.1 hrc.1.2.1 x1129 f1129 (by decide +kernel)
  have hty := hty.fr x1129 hHo f1129 (by decide +kernel)
  have hcy := hcy.fr x1129 f1129 (by decide +kernel)
  have hry := hry.fr hHo x1129 f1129 (by decide +kernel)
  have hci := hci.fr x1129 f1129 (by decide +kernel)
  have h3 := (f1129.2 th 12 k_th 3 rfl).trans h3
  have hl := (f1129.2 rd 7 k_rd 1 rfl).trans hl
  have hm := (f1129.2 am 13 k_am 5 rfl).trans hm
  have hp := (f1129.2 th 12 k_th 2 rfl).trans hp
  have hg := (f1129.2 am 13 k_am 3 rfl).trans hg
  have htC := htC.fr k_rd x1129 f1129 (by decide +kernel)
  have htM := htM.fr k_am x1129 f1129 (by decide +kernel)
  have hrc := hrc.fr k_th x1129 f1129 (by decide +kernel)
  have hrm := hrm.fr k_am x1129 f1129 (by decide +kernel)
  have k_th := x1129 _ _ k_th
  have k_am := x1129 _ _ k_am
  have k_out := x1129 _ _ k_out
  have k_rd := x1129 _ _ k_rd
  obtain ⟨v1129, rfl, -⟩ := hv1129
  show et_go _ _ 1000 1132 [some (.ref 150), some (.ref th), some (.ref am), some (.ref out), some (.int (Int32.ofNat i)), some (.int v1111), x6] [.int v1129] _ ((ck + c1111) + c1129) ((sk + s1111) + s1129) _
  refine ls_istore (i := 6) (p := 1134) (by decide +kernel) (Nat.le_of_ble_eq_true rfl) ?_
  refine ls_goto (p := 1656) (by decide +kernel) ?_
  exact hN _ _ c h _ _ _ _ _ _ ⟨⟨hH, hci, k_th, k_am, k_out, h3, k_rd, hl, hm, hc⟩, ⟨hh1, hp, hg⟩, hrc, hrm, hbc, hbi, ⟨hry, hcy, hty, hzy, hsy, hfy⟩, _, htC, htM, htb⟩ (by omega) (by omega)
set_option maxHeartbeats 2000000 in
theorem lw_c23 (hI : lw_I K G th am out rd s0 s1 aw ai tp ba na tm c h cn im) (hi : i + 6 ≤ n) (hn : n ≤ 3072) (hN : ∀ (K' : et_K) (G' : eg_G) (c' h' : Nat) (cn' im' : Nat → Nat) (ck' sk' : Nat) (y5 y6 : Option Value), lw_I K' G' th am out rd s0 s1 aw ai tp ba na tm c' h' cn' im' → ck' ≤ ck + 841 → sk' ≤ sk + 7168 → et_go (some (n, f)) (d + 41) 1000 1656 [some (.ref 150), some (.ref th), some (.ref am), some (.ref out), some (.int (Int32.ofNat i)), y5, y6] [] G' ck' sk' Z) : et_go (some (n, f)) (d + 41) 1000 1137 [some (.ref 150), some (.ref th), some (.ref am), some (.ref out), some (.int (Int32.ofNat i)), x5, x6] [] G ck sk Z := by
  obtain ⟨⟨hH, hci, k_th, k_am, k_out, h3, k_rd, hl, hm, hc⟩, ⟨hh1, hp, hg⟩, hrc, hrm, hbc, hbi, ⟨hry, hcy, hty, hzy, hsy, hfy⟩, tb, htC, htM, htb⟩ := hI
  refine ls_aload (i := 1) (p := 1138) (by decide +kernel) rfl ?_
  refine ls_arg (j := 1) (by decide +kernel) (by omega) hn ?_
  refine ls_arg (j := 2) (by decide +kernel) (by omega) hn ?_
  refine ls_arg (j := 3) (by decide +kernel) (by omega) hn ?_
  refine ls_aload (i := 3) (p := 1157) (by decide +kernel) rfl ?_
  refine ls_calls (mi := 19) (na := 5) (lk := 7) (lm := 6) (L0 := eg_en (eg_mL 19) [.ref th, .int (f (i + 1)), .int (f (i + 2)), .int (f (i + 3)), .ref out]) (by decide +kernel) rfl rfl rfl rfl rfl rfl (by rw [show eg_mL 19 = 6 from by decide +kernel]; first | done | rfl) ?_
  have hHo := hH
  obtain ⟨D_, φ_, R0_, R1_, r0_, r1_, fo_, t_, kk_, hx_, ho_⟩ := hry
  refine ((hh_c19 (K, [], G) [.ref th, .int (f (i + 1)), .int (f (i + 2)), .int (f (i + 3)), .ref out] _ hH (by omega) rfl (ht_ac (.inr ⟨by decide, _, rfl, k_th⟩) (ht_ac hi_any (ht_ac hi_any (ht_ac hi_any (ht_ac (.inr ⟨by decide, _, rfl, k_out⟩) ht_an)))))).and (fh_19 t_ hH k_out hx_ (by omega))).mono (fun u hu => ls_cbvQ (Q := fun u => rx D_ φ_ th s0 r0_ (cn 0) fo_ u.2.1) hu (fun v1157 K1157 G1157 c1157 s1157 x1157 f1157 hH hv1157 cl1157 sl1157 hQ => ?_))
  have hry : ry K1157 G1157 th s0 s1 aw ai (cn 0) (im 0) := ⟨D_, φ_, R0_, R1_, r0_, r1_, fo_, t_.ex x1157, kk_.ex x1157, hQ, ho_.fr kk_ f1157 (by decide +kernel)⟩
  have hfy := hfy.fr k_th hrc.1.1 x1157 f1157 (by decide +kernel)
  have hsy := hsy.fr k_th x1157 f1157 (by decide +kernel)
  have hzy := hzy.fr k_th hrc.1.1 hrc.1.2.1 x1157 f1157 (by decide +kernel)
  have hty := hty.fr x1157 hHo f1157 (by decide +kernel)
  have hcy := hcy.fr x1157 f1157 (by decide +kernel)
  have hci := hci.fr x1157 f1157 (by decide +kernel)
  have h3 := (f1157.2 th 12 k_th 3 rfl).trans h3
  have hl := (f1157.2 rd 7 k_rd 1 rfl).trans hl
  have hm := (f1157.2 am 13 k_am 5 rfl).trans hm
  have hp := (f1157.2 th 12 k_th 2 rfl).trans hp
  have hg := (f1157.2 am 13 k_am 3 rfl).trans hg
  have htC := htC.fr k_rd x1157 f1157 (by decide +kernel)
  have htM := htM.fr k_am x1157 f1157 (by decide +kernel)
  have hrc := hrc.fr k_th x1157 f1157 (by decide +kernel)
  have hrm := hrm.fr k_am x1157 f1157 (by decide +kernel)
  have k_th := x1157 _ _ k_th
  have k_am := x1157 _ _ k_am
  have k_out := x1157 _ _ k_out
  have k_rd := x1157 _ _ k_rd
  obtain ⟨v1157, rfl, -⟩ := hv1157
  show et_go _ _ 1000 1160 [some (.ref 150), some (.ref th), some (.ref am), some (.ref out), some (.int (Int32.ofNat i)), x5, x6] [.int v1157] _ (ck + c1157) (sk + s1157) _
  refine ls_istore (i := 5) (p := 1162) (by decide +kernel) (Nat.le_of_ble_eq_true rfl) ?_
  refine ls_aload (i := 2) (p := 1163) (by decide +kernel) rfl ?_
  refine ls_arg (j := 1) (by decide +kernel) (by omega) hn ?_
  refine ls_arg (j := 2) (by decide +kernel) (by omega) hn ?_
  refine ls_arg (j := 3) (by decide +kernel) (by omega) hn ?_
  refine lt_callv (T := et_TT) (t := 13) (mi := 270) (na := 3) (ci := 11) (lk := 7) (lm := 4) (L0 := eg_en (eg_mL 270) [.ref am, .int (f (i + 1)), .int (f (i + 2)), .int (f (i + 3))]) (by decide +kernel) rfl hH k_am rfl rfl rfl rfl rfl (by rw [show eg_mL 270 = 4 from by decide +kernel]; first | done | rfl) ?_
  have hHo := hH
  refine (er_p270_ok (K1157, [], G1157) [.ref am, .int (f (i + 1)), .int (f (i + 2)), .int (f (i + 3))] _ hH (by omega) rfl (ht_ac (.inr ⟨by decide, _, rfl, k_am⟩) (ht_ac hi_any (ht_ac hi_any (ht_ac hi_any ht_an))))).mono (fun u hu => ls_cbv hu (fun v1181 K1181 G1181 c1181 s1181 x1181 f1181 hH hv1181 cl1181 sl1181 => ?_))
  have hfy := hfy.fr k_th hrc.1.1 x1181 f1181 (by decide +kernel)
  have hsy := hsy.fr k_th x1181 f1181 (by decide +kernel)
  have hzy := hzy.fr k_th hrc.1.1 hrc.1.2.1 x1181 f1181 (by decide +kernel)
  have hty := hty.fr x1181 hHo f1181 (by decide +kernel)
  have hcy := hcy.fr x1181 f1181 (by decide +kernel)
  have hry := hry.fr hHo x1181 f1181 (by decide +kernel)
  have hci := hci.fr x1181 f1181 (by decide +kernel)
  have h3 := (f1181.2 th 12 k_th 3 rfl).trans h3
  have hl := (f1181.2 rd 7 k_rd 1 rfl).trans hl
  have hm := (f1181.2 am 13 k_am 5 rfl).trans hm
  have hp := (f1181.2 th 12 k_th 2 rfl).trans hp
  have hg := (f1181.2 am 13 k_am 3 rfl).trans hg
  have htC := htC.fr k_rd x1181 f1181 (by decide +kernel)
  have htM := htM.fr k_am x1181 f1181 (by decide +kernel)
  have hrc := hrc.fr k_th x1181 f1181 (by decide +kernel)
  have hrm := hrm.fr k_am x1181 f1181 (by decide +kernel)
  have k_th := x1181 _ _ k_th
  have k_am := x1181 _ _ k_am
  have k_out := x1181 _ _ k_out
  have k_rd := x1181 _ _ k_rd
  obtain ⟨v1181, rfl, -⟩ := hv1181
  show et_go _ _ 1000 1184 [some (.ref 150), some (.ref th), some (.ref am), some (.ref out), some (.int (Int32.ofNat i)), some (.int v1157), x6] [.int v1181] _ ((ck + c1157) + c1181) ((sk + s1157) + s1181) _
  refine ls_istore (i := 6) (p := 1186) (by decide +kernel) (Nat.le_of_ble_eq_true rfl) ?_
  refine ls_goto (p := 1656) (by decide +kernel) ?_
  exact hN _ _ c h _ _ _ _ _ _ ⟨⟨hH, hci, k_th, k_am, k_out, h3, k_rd, hl, hm, hc⟩, ⟨hh1, hp, hg⟩, hrc, hrm, hbc, hbi, ⟨hry, hcy, hty, hzy, hsy, hfy⟩, _, htC, htM, htb⟩ (by omega) (by omega)
set_option maxHeartbeats 2000000 in
theorem lw_c24 (hI : lw_I K G th am out rd s0 s1 aw ai tp ba na tm c h cn im) (hi : i + 6 ≤ n) (hn : n ≤ 3072) (hN : ∀ (K' : et_K) (G' : eg_G) (c' h' : Nat) (cn' im' : Nat → Nat) (ck' sk' : Nat) (y5 y6 : Option Value), lw_I K' G' th am out rd s0 s1 aw ai tp ba na tm c' h' cn' im' → ck' ≤ ck + 841 → sk' ≤ sk + 7168 → et_go (some (n, f)) (d + 41) 1000 1656 [some (.ref 150), some (.ref th), some (.ref am), some (.ref out), some (.int (Int32.ofNat i)), y5, y6] [] G' ck' sk' Z) : et_go (some (n, f)) (d + 41) 1000 1189 [some (.ref 150), some (.ref th), some (.ref am), some (.ref out), some (.int (Int32.ofNat i)), x5, x6] [] G ck sk Z := by
  obtain ⟨⟨hH, hci, k_th, k_am, k_out, h3, k_rd, hl, hm, hc⟩, ⟨hh1, hp, hg⟩, hrc, hrm, hbc, hbi, ⟨hry, hcy, hty, hzy, hsy, hfy⟩, tb, htC, htM, htb⟩ := hI
  refine ls_aload (i := 1) (p := 1190) (by decide +kernel) rfl ?_
  refine ls_arg (j := 1) (by decide +kernel) (by omega) hn ?_
  refine ls_arg (j := 2) (by decide +kernel) (by omega) hn ?_
  refine ls_aload (i := 3) (p := 1203) (by decide +kernel) rfl ?_
  refine ls_calls (mi := 20) (na := 4) (lk := 7) (lm := 5) (L0 := eg_en (eg_mL 20) [.ref th, .int (f (i + 1)), .int (f (i + 2)), .ref out]) (by decide +kernel) rfl rfl rfl rfl rfl rfl (by rw [show eg_mL 20 = 5 from by decide +kernel]; first | done | rfl) ?_
  have hHo := hH
  refine (hh_c20 (K, [], G) [.ref th, .int (f (i + 1)), .int (f (i + 2)), .ref out] _ hH (by omega) rfl (ht_ac (.inr ⟨by decide, _, rfl, k_th⟩) (ht_ac hi_any (ht_ac hi_any (ht_ac (.inr ⟨by decide, _, rfl, k_out⟩) ht_an))))).mono (fun u hu => ls_cbv hu (fun v1203 K1203 G1203 c1203 s1203 x1203 f1203 hH hv1203 cl1203 sl1203 => ?_))
  have hfy := hfy.fr k_th hrc.1.1 x1203 f1203 (by decide +kernel)
  have hsy := hsy.fr k_th x1203 f1203 (by decide +kernel)
  have hzy := hzy.fr k_th hrc.1.1 hrc.1.2.1 x1203 f1203 (by decide +kernel)
  have hty := hty.fr x1203 hHo f1203 (by decide +kernel)
  have hcy := hcy.fr x1203 f1203 (by decide +kernel)
  have hry := hry.fr hHo x1203 f1203 (by decide +kernel)
  have hci := hci.fr x1203 f1203 (by decide +kernel)
  have h3 := (f1203.2 th 12 k_th 3 rfl).trans h3
  have hl := (f1203.2 rd 7 k_rd 1 rfl).trans hl
  have hm := (f1203.2 am 13 k_am 5 rfl).trans hm
  have hp := (f1203.2 th 12 k_th 2 rfl).trans hp
  have hg := (f1203.2 am 13 k_am 3 rfl).trans hg
  have htC := htC.fr k_rd x1203 f1203 (by decide +kernel)
  have htM := htM.fr k_am x1203 f1203 (by decide +kernel)
  have hrc := hrc.fr k_th x1203 f1203 (by decide +kernel)
  have hrm := hrm.fr k_am x1203 f1203 (by decide +kernel)
  have k_th := x1203 _ _ k_th
  have k_am := x1203 _ _ k_am
  have k_out := x1203 _ _ k_out
  have k_rd := x1203 _ _ k_rd
  obtain ⟨v1203, rfl, -⟩ := hv1203
  show et_go _ _ 1000 1206 [some (.ref 150), some (.ref th), some (.ref am), some (.ref out), some (.int (Int32.ofNat i)), x5, x6] [.int v1203] _ (ck + c1203) (sk + s1203) _
  refine ls_istore (i := 5) (p := 1208) (by decide +kernel) (Nat.le_of_ble_eq_true rfl) ?_
  refine ls_aload (i := 2) (p := 1209) (by decide +kernel) rfl ?_
  refine ls_arg (j := 1) (by decide +kernel) (by omega) hn ?_
  refine ls_arg (j := 2) (by decide +kernel) (by omega) hn ?_
  refine lt_callv (T := et_TT) (t := 13) (mi := 272) (na := 2) (ci := 11) (lk := 7) (lm := 3) (L0 := eg_en (eg_mL 272) [.ref am, .int (f (i + 1)), .int (f (i + 2))]) (by decide +kernel) rfl hH k_am rfl rfl rfl rfl rfl (by rw [show eg_mL 272 = 3 from by decide +kernel]; first | done | rfl) ?_
  have hHo := hH
  refine (er_p272_ok (K1203, [], G1203) [.ref am, .int (f (i + 1)), .int (f (i + 2))] _ hH (by omega) rfl (ht_ac (.inr ⟨by decide, _, rfl, k_am⟩) (ht_ac hi_any (ht_ac hi_any ht_an)))).mono (fun u hu => ls_cbv hu (fun v1221 K1221 G1221 c1221 s1221 x1221 f1221 hH hv1221 cl1221 sl1221 => ?_))
  have hfy := hfy.fr k_th hrc.1.1 x1221 f1221 (by decide +kernel)
  have hsy := hsy.fr k_th x1221 f1221 (by decide +kernel)
  have hzy := hzy.fr k_th hrc.1.1 hrc.1.2.1 x1221 f1221 (by decide +kernel)
  have hty := hty.fr x1221 hHo f1221 (by decide +kernel)
  have hcy := hcy.fr x1221 f1221 (by decide +kernel)
  have hry := hry.fr hHo x1221 f1221 (by decide +kernel)
  have hci := hci.fr x1221 f1221 (by decide +kernel)
  have h3 := (f1221.2 th 12 k_th 3 rfl).trans h3
  have hl := (f1221.2 rd 7 k_rd 1 rfl).trans hl
  have hm := (f1221.2 am 13 k_am 5 rfl).trans hm
  have hp := (f1221.2 th 12 k_th 2 rfl).trans hp
  have hg := (f1221.2 am 13 k_am 3 rfl).trans hg
  have htC := htC.fr k_rd x1221 f1221 (by decide +kernel)
  have htM := htM.fr k_am x1221 f1221 (by decide +kernel)
  have hrc := hrc.fr k_th x1221 f1221 (by decide +kernel)
  have hrm := hrm.fr k_am x1221 f1221 (by decide +kernel)
  have k_th := x1221 _ _ k_th
  have k_am := x1221 _ _ k_am
  have k_out := x1221 _ _ k_out
  have k_rd := x1221 _ _ k_rd
  obtain ⟨v1221, rfl, -⟩ := hv1221
  show et_go _ _ 1000 1224 [some (.ref 150), some (.ref th), some (.ref am), some (.ref out), some (.int (Int32.ofNat i)), some (.int v1203), x6] [.int v1221] _ ((ck + c1203) + c1221) ((sk + s1203) + s1221) _
  refine ls_istore (i := 6) (p := 1226) (by decide +kernel) (Nat.le_of_ble_eq_true rfl) ?_
  refine ls_goto (p := 1656) (by decide +kernel) ?_
  exact hN _ _ c h _ _ _ _ _ _ ⟨⟨hH, hci, k_th, k_am, k_out, h3, k_rd, hl, hm, hc⟩, ⟨hh1, hp, hg⟩, hrc, hrm, hbc, hbi, ⟨hry, hcy, hty, hzy, hsy, hfy⟩, _, htC, htM, htb⟩ (by omega) (by omega)
set_option maxHeartbeats 2000000 in
theorem lw_c25 (hI : lw_I K G th am out rd s0 s1 aw ai tp ba na tm c h cn im) (hi : i + 6 ≤ n) (hn : n ≤ 3072) (hN : ∀ (K' : et_K) (G' : eg_G) (c' h' : Nat) (cn' im' : Nat → Nat) (ck' sk' : Nat) (y5 y6 : Option Value), lw_I K' G' th am out rd s0 s1 aw ai tp ba na tm c' h' cn' im' → ck' ≤ ck + 841 → sk' ≤ sk + 7168 → et_go (some (n, f)) (d + 41) 1000 1656 [some (.ref 150), some (.ref th), some (.ref am), some (.ref out), some (.int (Int32.ofNat i)), y5, y6] [] G' ck' sk' Z) : et_go (some (n, f)) (d + 41) 1000 1229 [some (.ref 150), some (.ref th), some (.ref am), some (.ref out), some (.int (Int32.ofNat i)), x5, x6] [] G ck sk Z := by
  obtain ⟨⟨hH, hci, k_th, k_am, k_out, h3, k_rd, hl, hm, hc⟩, ⟨hh1, hp, hg⟩, hrc, hrm, hbc, hbi, ⟨hry, hcy, hty, hzy, hsy, hfy⟩, tb, htC, htM, htb⟩ := hI
  refine ls_aload (i := 1) (p := 1230) (by decide +kernel) rfl ?_
  refine ls_arg (j := 1) (by decide +kernel) (by omega) hn ?_
  refine ls_aload (i := 3) (p := 1237) (by decide +kernel) rfl ?_
  refine ls_calls (mi := 21) (na := 3) (lk := 7) (lm := 4) (L0 := eg_en (eg_mL 21) [.ref th, .int (f (i + 1)), .ref out]) (by decide +kernel) rfl rfl rfl rfl rfl rfl (by rw [show eg_mL 21 = 4 from by decide +kernel]; first | done | rfl) ?_
  have hHo := hH
  refine (hh_c21 (K, [], G) [.ref th, .int (f (i + 1)), .ref out] _ hH (by omega) rfl (ht_ac (.inr ⟨by decide, _, rfl, k_th⟩) (ht_ac hi_any (ht_ac (.inr ⟨by decide, _, rfl, k_out⟩) ht_an)))).mono (fun u hu => ls_cbv hu (fun v1237 K1237 G1237 c1237 s1237 x1237 f1237 hH hv1237 cl1237 sl1237 => ?_))
  have hfy := hfy.fr k_th hrc.1.1 x1237 f1237 (by decide +kernel)
  have hsy := hsy.fr k_th x1237 f1237 (by decide +kernel)
  have hzy := hzy.fr k_th hrc.1.1 hrc.1.2.1 x1237 f1237 (by decide +kernel)
  have hty := hty.fr x1237 hHo f1237 (by decide +kernel)
  have hcy := hcy.fr x1237 f1237 (by decide +kernel)
  have hry := hry.fr hHo x1237 f1237 (by decide +kernel)
  have hci := hci.fr x1237 f1237 (by decide +kernel)
  have h3 := (f1237.2 th 12 k_th 3 rfl).trans h3
  have hl := (f1237.2 rd 7 k_rd 1 rfl).trans hl
  have hm := (f1237.2 am 13 k_am 5 rfl).trans hm
  have hp := (f1237.2 th 12 k_th 2 rfl).trans hp
  have hg := (f1237.2 am 13 k_am 3 rfl).trans hg
  have htC := htC.fr k_rd x1237 f1237 (by decide +kernel)
  have htM := htM.fr k_am x1237 f1237 (by decide +kernel)
  have hrc := hrc.fr k_th x1237 f1237 (by decide +kernel)
  have hrm := hrm.fr k_am x1237 f1237 (by decide +kernel)
  have k_th := x1237 _ _ k_th
  have k_am := x1237 _ _ k_am
  have k_out := x1237 _ _ k_out
  have k_rd := x1237 _ _ k_rd
  obtain ⟨v1237, rfl, -⟩ := hv1237
  show et_go _ _ 1000 1240 [some (.ref 150), some (.ref th), some (.ref am), some (.ref out), some (.int (Int32.ofNat i)), x5, x6] [.int v1237] _ (ck + c1237) (sk + s1237) _
  refine ls_istore (i := 5) (p := 1242) (by decide +kernel) (Nat.le_of_ble_eq_true rfl) ?_
  refine ls_aload (i := 2) (p := 1243) (by decide +kernel) rfl ?_
  refine ls_arg (j := 1) (by decide +kernel) (by omega) hn ?_
  refine lt_callv (T := et_TT) (t := 13) (mi := 275) (na := 1) (ci := 11) (lk := 7) (lm := 6) (L0 := eg_en (eg_mL 275) [.ref am, .int (f (i + 1))]) (by decide +kernel) rfl hH k_am rfl rfl rfl rfl rfl (by rw [show eg_mL 275 = 6 from by decide +kernel]; first | done | rfl) ?_
  have hHo := hH
  refine (er_p275_ok (K1237, [], G1237) [.ref am, .int (f (i + 1))] _ hH (by omega) rfl (ht_ac (.inr ⟨by decide, _, rfl, k_am⟩) (ht_ac hi_any ht_an))).mono (fun u hu => ls_cbv hu (fun v1249 K1249 G1249 c1249 s1249 x1249 f1249 hH hv1249 cl1249 sl1249 => ?_))
  have hfy := hfy.fr k_th hrc.1.1 x1249 f1249 (by decide +kernel)
  have hsy := hsy.fr k_th x1249 f1249 (by decide +kernel)
  have hzy := hzy.fr k_th hrc.1.1 hrc.1.2.1 x1249 f1249 (by decide +kernel)
  have hty := hty.fr x1249 hHo f1249 (by decide +kernel)
  have hcy := hcy.fr x1249 f1249 (by decide +kernel)
  have hry := hry.fr hHo x1249 f1249 (by decide +kernel)
  have hci := hci.fr x1249 f1249 (by decide +kernel)
  have h3 := (f1249.2 th 12 k_th 3 rfl).trans h3
  have hl := (f1249.2 rd 7 k_rd 1 rfl).trans hl
  have hm := (f1249.2 am 13 k_am 5 rfl).trans hm
  have hp := (f1249.2 th 12 k_th 2 rfl).trans hp
  have hg := (f1249.2 am 13 k_am 3 rfl).trans hg
  have htC := htC.fr k_rd x1249 f1249 (by decide +kernel)
  have htM := htM.fr k_am x1249 f1249 (by decide +kernel)
  have hrc := hrc.fr k_th x1249 f1249 (by decide +kernel)
  have hrm := hrm.fr k_am x1249 f1249 (by decide +kernel)
  have k_th := x1249 _ _ k_th
  have k_am := x1249 _ _ k_am
  have k_out := x1249 _ _ k_out
  have k_rd := x1249 _ _ k_rd
  obtain ⟨v1249, rfl, -⟩ := hv1249
  show et_go _ _ 1000 1252 [some (.ref 150), some (.ref th), some (.ref am), some (.ref out), some (.int (Int32.ofNat i)), some (.int v1237), x6] [.int v1249] _ ((ck + c1237) + c1249) ((sk + s1237) + s1249) _
  refine ls_istore (i := 6) (p := 1254) (by decide +kernel) (Nat.le_of_ble_eq_true rfl) ?_
  refine ls_goto (p := 1656) (by decide +kernel) ?_
  exact hN _ _ c h _ _ _ _ _ _ ⟨⟨hH, hci, k_th, k_am, k_out, h3, k_rd, hl, hm, hc⟩, ⟨hh1, hp, hg⟩, hrc, hrm, hbc, hbi, ⟨hry, hcy, hty, hzy, hsy, hfy⟩, _, htC, htM, htb⟩ (by omega) (by omega)
set_option maxHeartbeats 2000000 in
theorem lw_c26 (hI : lw_I K G th am out rd s0 s1 aw ai tp ba na tm c h cn im) (hi : i + 6 ≤ n) (hn : n ≤ 3072) (hN : ∀ (K' : et_K) (G' : eg_G) (c' h' : Nat) (cn' im' : Nat → Nat) (ck' sk' : Nat) (y5 y6 : Option Value), lw_I K' G' th am out rd s0 s1 aw ai tp ba na tm c' h' cn' im' → ck' ≤ ck + 841 → sk' ≤ sk + 7168 → et_go (some (n, f)) (d + 41) 1000 1656 [some (.ref 150), some (.ref th), some (.ref am), some (.ref out), some (.int (Int32.ofNat i)), y5, y6] [] G' ck' sk' Z) : et_go (some (n, f)) (d + 41) 1000 1257 [some (.ref 150), some (.ref th), some (.ref am), some (.ref out), some (.int (Int32.ofNat i)), x5, x6] [] G ck sk Z := by
  obtain ⟨⟨hH, hci, k_th, k_am, k_out, h3, k_rd, hl, hm, hc⟩, ⟨hh1, hp, hg⟩, hrc, hrm, hbc, hbi, ⟨hry, hcy, hty, hzy, hsy, hfy⟩, tb, htC, htM, htb⟩ := hI
  refine ls_aload (i := 1) (p := 1258) (by decide +kernel) rfl ?_
  refine ls_arg (j := 1) (by decide +kernel) (by omega) hn ?_
  refine ls_aload (i := 3) (p := 1265) (by decide +kernel) rfl ?_
  refine ls_calls (mi := 22) (na := 3) (lk := 7) (lm := 4) (L0 := eg_en (eg_mL 22) [.ref th, .int (f (i + 1)), .ref out]) (by decide +kernel) rfl rfl rfl rfl rfl rfl (by rw [show eg_mL 22 = 4 from by decide +kernel]; first | done | rfl) ?_
  have hHo := hH
  obtain ⟨la0, ya0, la1, ya1, X_, X2_, Y_, Y2_, tk_, bk_, ⟨hcc_, hcr_⟩, hcd_, hcs_⟩ := hcy
  refine ((hh_c22 (K, [], G) [.ref th, .int (f (i + 1)), .ref out] _ hH (by omega) rfl (ht_ac (.inr ⟨by decide, _, rfl, k_th⟩) (ht_ac hi_any (ht_ac (.inr ⟨by decide, _, rfl, k_out⟩) ht_an)))).and (fh_along hH k_th hrc.2.1.1 hrc.1.1 tk_.2.1.1 tk_.2.1.2.1 (hrc.2.2 (2, 3) (by decide)).1 hcc_.1.1 hcc_.1.2 bk_.1 hcc_.2 k_out (by omega))).mono (fun u hu => ls_cbvQ (Q := fun u => (¬ (0 ≤ (f (i + 1)).toInt ∧ (f (i + 1)).toInt < 16) ∧ u.1 = .inl (some (.int (Int32.ofNat 1)))) ∨ ∃ v, (f (i + 1)) = Int32.ofNat v ∧ v < 16 ∧ u.1 = .inl (some (.int (Int32.ofNat 0))) ∧ et_pl (eg_at u.2.1 out) 0 = some (.long (Int32.ofNat (alN X_ Y_ v (cn 3))).toInt64)) hu (fun v1265 K1265 G1265 c1265 s1265 x1265 f1265 hH hv1265 cl1265 sl1265 hQ => ?_))
  have hcc_ := hcc_.fr tk_.1.1 tk_.2.1.1 tk_.2.1.2.1 f1265 (by decide +kernel)
  have hcr_ := hcr_.fr bk_.1 tk_.2.2.1.1 f1265 (by decide +kernel)
  have hcd_ := hcd_.fr tk_.1.2 tk_.2.1.2.2.1 tk_.2.1.2.2.2 f1265 (by decide +kernel)
  have hcs_ := hcs_.fr bk_.2 tk_.2.2.1.2 f1265 (by decide +kernel)
  have hcy : cy K1265 G1265 s0 s1 aw ai (cn 3) (im 3) := ⟨la0, ya0, la1, ya1, X_, X2_, Y_, Y2_, tk_.ex x1265, bk_, ⟨hcc_, hcr_⟩, hcd_, hcs_⟩
  have hfy := hfy.fr k_th hrc.1.1 x1265 f1265 (by decide +kernel)
  have hsy := hsy.fr k_th x1265 f1265 (by decide +kernel)
  have hzy := hzy.fr k_th hrc.1.1 hrc.1.2.1 x1265 f1265 (by decide +kernel)
  have hty := hty.fr x1265 hHo f1265 (by decide +kernel)
  have hry := hry.fr hHo x1265 f1265 (by decide +kernel)
  have hci := hci.fr x1265 f1265 (by decide +kernel)
  have h3 := (f1265.2 th 12 k_th 3 rfl).trans h3
  have hl := (f1265.2 rd 7 k_rd 1 rfl).trans hl
  have hm := (f1265.2 am 13 k_am 5 rfl).trans hm
  have hp := (f1265.2 th 12 k_th 2 rfl).trans hp
  have hg := (f1265.2 am 13 k_am 3 rfl).trans hg
  have htC := htC.fr k_rd x1265 f1265 (by decide +kernel)
  have htM := htM.fr k_am x1265 f1265 (by decide +kernel)
  have hrc := hrc.fr k_th x1265 f1265 (by decide +kernel)
  have hrm := hrm.fr k_am x1265 f1265 (by decide +kernel)
  have k_th := x1265 _ _ k_th
  have k_am := x1265 _ _ k_am
  have k_out := x1265 _ _ k_out
  have k_rd := x1265 _ _ k_rd
  rcases hQ with ⟨cx, ev⟩ | ⟨v0, cv0, hv0, ev, ho⟩
  · cases ev
    show et_go _ _ 1000 1268 [some (.ref 150), some (.ref th), some (.ref am), some (.ref out), some (.int (Int32.ofNat i)), x5, x6] [.int (Int32.ofNat 1)] _ (ck + c1265) (sk + s1265) _
    refine ls_istore (i := 5) (p := 1270) (by decide +kernel) (Nat.le_of_ble_eq_true rfl) ?_
    refine ls_aload (i := 2) (p := 1271) (by decide +kernel) rfl ?_
    refine ls_arg (j := 1) (by decide +kernel) (by omega) hn ?_
    refine lt_callv (T := et_TT) (t := 13) (mi := 276) (na := 1) (ci := 11) (lk := 7) (lm := 2) (L0 := eg_en (eg_mL 276) [.ref am, .int (f (i + 1))]) (by decide +kernel) rfl hH k_am rfl rfl rfl rfl rfl (by rw [show eg_mL 276 = 2 from by decide +kernel]; first | done | rfl) ?_
    have hHo := hH
    refine ((er_p276_ok (K1265, [], G1265) [.ref am, .int (f (i + 1))] _ hH (by omega) rfl (ht_ac (.inr ⟨by decide, _, rfl, k_am⟩) (ht_ac hi_any ht_an))).and (fm_along hH k_am hrm.1.1 hrm.2.1.1 (hrm.2.2 (2, 3) (by decide)).1 bk_.1 hcr_ (by omega))).mono (fun u hu => ls_cbvQ (Q := fun u => (¬ (0 ≤ (f (i + 1)).toInt ∧ (f (i + 1)).toInt < 16) ∧ u.1 = .inl (some (.int (Int32.ofNat 0))) ∧ et_pl (eg_at u.2.1 am) 0 = some (.int (Int32.ofNat 1))) ∨ ∃ v, (f (i + 1)) = Int32.ofNat v ∧ v < 16 ∧ u.1 = .inl (some (.int (Int32.ofNat (alN X_ Y_ v (cn 3))))) ∧ et_pl (eg_at u.2.1 am) 0 = some (.int (Int32.ofNat 0))) hu (fun v1277 K1277 G1277 c1277 s1277 x1277 f1277 hH hv1277 cl1277 sl1277 hQ => ?_))
    have hfy := hfy.fr k_th hrc.1.1 x1277 f1277 (by decide +kernel)
    have hsy := hsy.fr k_th x1277 f1277 (by decide +kernel)
    have hzy := hzy.fr k_th hrc.1.1 hrc.1.2.1 x1277 f1277 (by decide +kernel)
    have hty := hty.fr x1277 hHo f1277 (by decide +kernel)
    have hcy := hcy.fr x1277 f1277 (by decide +kernel)
    have hry := hry.fr hHo x1277 f1277 (by decide +kernel)
    have hci := hci.fr x1277 f1277 (by decide +kernel)
    have h3 := (f1277.2 th 12 k_th 3 rfl).trans h3
    have hl := (f1277.2 rd 7 k_rd 1 rfl).trans hl
    have hm := (f1277.2 am 13 k_am 5 rfl).trans hm
    have hp := (f1277.2 th 12 k_th 2 rfl).trans hp
    have hg := (f1277.2 am 13 k_am 3 rfl).trans hg
    have htC := htC.fr k_rd x1277 f1277 (by decide +kernel)
    have htM := htM.fr k_am x1277 f1277 (by decide +kernel)
    have hrc := hrc.fr k_th x1277 f1277 (by decide +kernel)
    have hrm := hrm.fr k_am x1277 f1277 (by decide +kernel)
    have k_th := x1277 _ _ k_th
    have k_am := x1277 _ _ k_am
    have k_out := x1277 _ _ k_out
    have k_rd := x1277 _ _ k_rd
    rcases hQ with ⟨cx2, ev2, ht⟩ | ⟨v1, cv1, hv1, ev2, ht⟩
    · cases ev2
      show et_go _ _ 1000 1280 [some (.ref 150), some (.ref th), some (.ref am), some (.ref out), some (.int (Int32.ofNat i)), some (.int (Int32.ofNat 1)), x6] [.int (Int32.ofNat 0)] _ ((ck + c1265) + c1277) ((sk + s1265) + s1277) _
      refine ls_istore (i := 6) (p := 1282) (by decide +kernel) (Nat.le_of_ble_eq_true rfl) ?_
      refine ls_goto (p := 1656) (by decide +kernel) ?_
      exact hN _ _ c h _ _ _ _ _ _ ⟨⟨hH, hci, k_th, k_am, k_out, h3, k_rd, hl, hm, hc⟩, ⟨hh1, hp, hg⟩, hrc, hrm, hbc, hbi, ⟨hry, hcy, hty, hzy, hsy, hfy⟩, _, htC, htM, htb⟩ (by omega) (by omega)
    · exact absurd (by rw [cv1, hs_nint (by omega)]; omega) cx
  · cases ev
    show et_go _ _ 1000 1268 [some (.ref 150), some (.ref th), some (.ref am), some (.ref out), some (.int (Int32.ofNat i)), x5, x6] [.int (Int32.ofNat 0)] _ (ck + c1265) (sk + s1265) _
    refine ls_istore (i := 5) (p := 1270) (by decide +kernel) (Nat.le_of_ble_eq_true rfl) ?_
    refine ls_aload (i := 2) (p := 1271) (by decide +kernel) rfl ?_
    refine ls_arg (j := 1) (by decide +kernel) (by omega) hn ?_
    refine lt_callv (T := et_TT) (t := 13) (mi := 276) (na := 1) (ci := 11) (lk := 7) (lm := 2) (L0 := eg_en (eg_mL 276) [.ref am, .int (f (i + 1))]) (by decide +kernel) rfl hH k_am rfl rfl rfl rfl rfl (by rw [show eg_mL 276 = 2 from by decide +kernel]; first | done | rfl) ?_
    have hHo := hH
    refine ((er_p276_ok (K1265, [], G1265) [.ref am, .int (f (i + 1))] _ hH (by omega) rfl (ht_ac (.inr ⟨by decide, _, rfl, k_am⟩) (ht_ac hi_any ht_an))).and (fm_along hH k_am hrm.1.1 hrm.2.1.1 (hrm.2.2 (2, 3) (by decide)).1 bk_.1 hcr_ (by omega))).mono (fun u hu => ls_cbvQ (Q := fun u => (¬ (0 ≤ (f (i + 1)).toInt ∧ (f (i + 1)).toInt < 16) ∧ u.1 = .inl (some (.int (Int32.ofNat 0))) ∧ et_pl (eg_at u.2.1 am) 0 = some (.int (Int32.ofNat 1))) ∨ ∃ v, (f (i + 1)) = Int32.ofNat v ∧ v < 16 ∧ u.1 = .inl (some (.int (Int32.ofNat (alN X_ Y_ v (cn 3))))) ∧ et_pl (eg_at u.2.1 am) 0 = some (.int (Int32.ofNat 0))) hu (fun v1277 K1277 G1277 c1277 s1277 x1277 f1277 hH hv1277 cl1277 sl1277 hQ => ?_))
    have hfy := hfy.fr k_th hrc.1.1 x1277 f1277 (by decide +kernel)
    have hsy := hsy.fr k_th x1277 f1277 (by decide +kernel)
    have hzy := hzy.fr k_th hrc.1.1 hrc.1.2.1 x1277 f1277 (by decide +kernel)
    have hty := hty.fr x1277 hHo f1277 (by decide +kernel)
    have hcy := hcy.fr x1277 f1277 (by decide +kernel)
    have hry := hry.fr hHo x1277 f1277 (by decide +kernel)
    have hci := hci.fr x1277 f1277 (by decide +kernel)
    have h3 := (f1277.2 th 12 k_th 3 rfl).trans h3
    have hl := (f1277.2 rd 7 k_rd 1 rfl).trans hl
    have hm := (f1277.2 am 13 k_am 5 rfl).trans hm
    have hp := (f1277.2 th 12 k_th 2 rfl).trans hp
    have hg := (f1277.2 am 13 k_am 3 rfl).trans hg
    have htC := htC.fr k_rd x1277 f1277 (by decide +kernel)
    have htM := htM.fr k_am x1277 f1277 (by decide +kernel)
    have hrc := hrc.fr k_th x1277 f1277 (by decide +kernel)
    have hrm := hrm.fr k_am x1277 f1277 (by decide +kernel)
    have ho := (f1277.2 out 31 k_out 0 rfl).trans ho
    have k_th := x1277 _ _ k_th
    have k_am := x1277 _ _ k_am
    have k_out := x1277 _ _ k_out
    have k_rd := x1277 _ _ k_rd
    rcases hQ with ⟨cx2, ev2, ht⟩ | ⟨v1, cv1, hv1, ev2, ht⟩
    · exact absurd (by rw [cv0, hs_nint (by omega)]; omega) cx2
    · cases ev2
      obtain rfl : v0 = v1 := (hs_neq (by omega) (by omega)).mp (cv0.symm.trans cv1)
      show et_go _ _ 1000 1280 [some (.ref 150), some (.ref th), some (.ref am), some (.ref out), some (.int (Int32.ofNat i)), some (.int (Int32.ofNat 0)), x6] [.int (Int32.ofNat (alN X_ Y_ v0 (cn 3)))] _ ((ck + c1265) + c1277) ((sk + s1265) + s1277) _
      refine ls_istore (i := 6) (p := 1282) (by decide +kernel) (Nat.le_of_ble_eq_true rfl) ?_
      refine ls_goto (p := 1656) (by decide +kernel) ?_
      exact hN _ _ c h _ _ _ _ _ _ ⟨⟨hH, hci, k_th, k_am, k_out, h3, k_rd, hl, hm, hc⟩, ⟨hh1, hp, hg⟩, hrc, hrm, hbc, hbi, ⟨hry, hcy, hty, hzy, hsy, hfy⟩, _, htC, htM, htb⟩ (by omega) (by omega)
set_option maxHeartbeats 2000000 in
theorem lw_c27 (hI : lw_I K G th am out rd s0 s1 aw ai tp ba na tm c h cn im) (hi : i + 6 ≤ n) (hn : n ≤ 3072) (hN : ∀ (K' : et_K) (G' : eg_G) (c' h' : Nat) (cn' im' : Nat → Nat) (ck' sk' : Nat) (y5 y6 : Option Value), lw_I K' G' th am out rd s0 s1 aw ai tp ba na tm c' h' cn' im' → ck' ≤ ck + 841 → sk' ≤ sk + 7168 → et_go (some (n, f)) (d + 41) 1000 1656 [some (.ref 150), some (.ref th), some (.ref am), some (.ref out), some (.int (Int32.ofNat i)), y5, y6] [] G' ck' sk' Z) : et_go (some (n, f)) (d + 41) 1000 1285 [some (.ref 150), some (.ref th), some (.ref am), some (.ref out), some (.int (Int32.ofNat i)), x5, x6] [] G ck sk Z := by
  obtain ⟨⟨hH, hci, k_th, k_am, k_out, h3, k_rd, hl, hm, hc⟩, ⟨hh1, hp, hg⟩, hrc, hrm, hbc, hbi, ⟨hry, hcy, hty, hzy, hsy, hfy⟩, tb, htC, htM, htb⟩ := hI
  refine ls_aload (i := 1) (p := 1286) (by decide +kernel) rfl ?_
  refine lt_callv (T := et_TT) (t := 12) (mi := 121) (na := 0) (ci := 10) (lk := 7) (lm := 3) (L0 := eg_en (eg_mL 121) [.ref th]) (by decide +kernel) rfl hH k_th rfl rfl rfl rfl rfl (by rw [show eg_mL 121 = 3 from by decide +kernel]; first | done | rfl) ?_
  have hHo := hH
  obtain ⟨la0, ya0, la1, ya1, X_, X2_, Y_, Y2_, tk_, bk_, ⟨hcc_, hcr_⟩, hcd_, hcs_⟩ := hcy
  refine ((ek_p121_ok (K, [], G) [.ref th] _ hH (by omega) rfl (ht_ac (.inr ⟨by decide, _, rfl, k_th⟩) ht_an)).and ((fc_cloud hH k_th hrc.2.1.1 hrc.1.1 tk_.2.1.1 tk_.2.1.2.1 (hrc.2.2 (2, 3) (by decide)).1 hcc_.1.1 hcc_.1.2 bk_.1 hcc_.2 (by omega)).mono (fun u (hu : u = _) => (by rw [hu] : u.1 = .inl (some (if cn 3 = 0 then Value.int (-1) else .int (Int32.ofNat (clB (fun v => alN X_ Y_ v (cn 3)) 16)))))))).mono (fun u hu => ls_cbvQ (Q := fun u => u.1 = .inl (some (if cn 3 = 0 then Value.int (-1) else .int (Int32.ofNat (clB (fun v => alN X_ Y_ v (cn 3)) 16))))) hu (fun v1286 K1286 G1286 c1286 s1286 x1286 f1286 hH hv1286 cl1286 sl1286 hQ => ?_))
  have hcc_ := hcc_.fr tk_.1.1 tk_.2.1.1 tk_.2.1.2.1 f1286 (by decide +kernel)
  have hcr_ := hcr_.fr bk_.1 tk_.2.2.1.1 f1286 (by decide +kernel)
  have hcd_ := hcd_.fr tk_.1.2 tk_.2.1.2.2.1 tk_.2.1.2.2.2 f1286 (by decide +kernel)
  have hcs_ := hcs_.fr bk_.2 tk_.2.2.1.2 f1286 (by decide +kernel)
  have hcy : cy K1286 G1286 s0 s1 aw ai (cn 3) (im 3) := ⟨la0, ya0, la1, ya1, X_, X2_, Y_, Y2_, tk_.ex x1286, bk_, ⟨hcc_, hcr_⟩, hcd_, hcs_⟩
  have hfy := hfy.fr k_th hrc.1.1 x1286 f1286 (by decide +kernel)
  have hsy := hsy.fr k_th x1286 f1286 (by decide +kernel)
  have hzy := hzy.fr k_th hrc.1.1 hrc.1.2.1 x1286 f1286 (by decide +kernel)
  have hty := hty.fr x1286 hHo f1286 (by decide +kernel)
  have hry := hry.fr hHo x1286 f1286 (by decide +kernel)
  have hci := hci.fr x1286 f1286 (by decide +kernel)
  have h3 := (f1286.2 th 12 k_th 3 rfl).trans h3
  have hl := (f1286.2 rd 7 k_rd 1 rfl).trans hl
  have hm := (f1286.2 am 13 k_am 5 rfl).trans hm
  have hp := (f1286.2 th 12 k_th 2 rfl).trans hp
  have hg := (f1286.2 am 13 k_am 3 rfl).trans hg
  have htC := htC.fr k_rd x1286 f1286 (by decide +kernel)
  have htM := htM.fr k_am x1286 f1286 (by decide +kernel)
  have hrc := hrc.fr k_th x1286 f1286 (by decide +kernel)
  have hrm := hrm.fr k_am x1286 f1286 (by decide +kernel)
  have k_th := x1286 _ _ k_th
  have k_am := x1286 _ _ k_am
  have k_out := x1286 _ _ k_out
  have k_rd := x1286 _ _ k_rd
  have hQ : (Sum.inl (some v1286) : eg_R) = .inl (some (if cn 3 = 0 then Value.int (-1) else .int (Int32.ofNat (clB (fun v => alN X_ Y_ v (cn 3)) 16)))) := hQ
  by_cases hn0 : cn 3 = 0
  · rw [if_pos hn0] at hQ
    cases hQ
    show et_go _ _ 1000 1289 [some (.ref 150), some (.ref th), some (.ref am), some (.ref out), some (.int (Int32.ofNat i)), x5, x6] [.int (-1)] _ (ck + c1286) (sk + s1286) _
    refine ls_pop (p := 1290) (by decide +kernel) ?_
    refine ls_aload (i := 2) (p := 1291) (by decide +kernel) rfl ?_
    refine lt_callv (T := et_TT) (t := 13) (mi := 278) (na := 0) (ci := 11) (lk := 7) (lm := 3) (L0 := eg_en (eg_mL 278) [.ref am]) (by decide +kernel) rfl hH k_am rfl rfl rfl rfl rfl (by rw [show eg_mL 278 = 3 from by decide +kernel]; first | done | rfl) ?_
    have hHo := hH
    refine ((er_p278_ok (K1286, [], G1286) [.ref am] _ hH (by omega) rfl (ht_ac (.inr ⟨by decide, _, rfl, k_am⟩) ht_an)).and (fm_cloud hH k_am hrm.1.1 hrm.2.1.1 (hrm.2.2 (2, 3) (by decide)).1 bk_.1 hcr_ (by omega))).mono (fun u hu => ls_cbvQ (Q := fun u => u.1 = .inl (some (if cn 3 = 0 then Value.int (-1) else .int (Int32.ofNat (clB (fun v => alN X_ Y_ v (cn 3)) 16)))) ∧ et_pl (eg_at u.2.1 am) 0 = some (.int (Int32.ofNat 0))) hu (fun v1291 K1291 G1291 c1291 s1291 x1291 f1291 hH hv1291 cl1291 sl1291 hQ => ?_))
    have hfy := hfy.fr k_th hrc.1.1 x1291 f1291 (by decide +kernel)
    have hsy := hsy.fr k_th x1291 f1291 (by decide +kernel)
    have hzy := hzy.fr k_th hrc.1.1 hrc.1.2.1 x1291 f1291 (by decide +kernel)
    have hty := hty.fr x1291 hHo f1291 (by decide +kernel)
    have hcy := hcy.fr x1291 f1291 (by decide +kernel)
    have hry := hry.fr hHo x1291 f1291 (by decide +kernel)
    have hci := hci.fr x1291 f1291 (by decide +kernel)
    have h3 := (f1291.2 th 12 k_th 3 rfl).trans h3
    have hl := (f1291.2 rd 7 k_rd 1 rfl).trans hl
    have hm := (f1291.2 am 13 k_am 5 rfl).trans hm
    have hp := (f1291.2 th 12 k_th 2 rfl).trans hp
    have hg := (f1291.2 am 13 k_am 3 rfl).trans hg
    have htC := htC.fr k_rd x1291 f1291 (by decide +kernel)
    have htM := htM.fr k_am x1291 f1291 (by decide +kernel)
    have hrc := hrc.fr k_th x1291 f1291 (by decide +kernel)
    have hrm := hrm.fr k_am x1291 f1291 (by decide +kernel)
    have k_th := x1291 _ _ k_th
    have k_am := x1291 _ _ k_am
    have k_out := x1291 _ _ k_out
    have k_rd := x1291 _ _ k_rd
    obtain ⟨ev2, ht⟩ := hQ
    have ev2 : (Sum.inl (some v1291) : eg_R) = .inl (some (if cn 3 = 0 then Value.int (-1) else .int (Int32.ofNat (clB (fun v => alN X_ Y_ v (cn 3)) 16)))) := ev2
    rw [if_pos hn0] at ev2
    cases ev2
    show et_go _ _ 1000 1294 [some (.ref 150), some (.ref th), some (.ref am), some (.ref out), some (.int (Int32.ofNat i)), x5, x6] [.int (-1)] _ ((ck + c1286) + c1291) ((sk + s1286) + s1291) _
    refine ls_pop (p := 1295) (by decide +kernel) ?_
    refine ls_goto (p := 1656) (by decide +kernel) ?_
    exact hN _ _ c h _ _ _ _ _ _ ⟨⟨hH, hci, k_th, k_am, k_out, h3, k_rd, hl, hm, hc⟩, ⟨hh1, hp, hg⟩, hrc, hrm, hbc, hbi, ⟨hry, hcy, hty, hzy, hsy, hfy⟩, _, htC, htM, htb⟩ (by omega) (by omega)
  · rw [if_neg hn0] at hQ
    cases hQ
    show et_go _ _ 1000 1289 [some (.ref 150), some (.ref th), some (.ref am), some (.ref out), some (.int (Int32.ofNat i)), x5, x6] [.int (Int32.ofNat (clB (fun v => alN X_ Y_ v (cn 3)) 16))] _ (ck + c1286) (sk + s1286) _
    refine ls_pop (p := 1290) (by decide +kernel) ?_
    refine ls_aload (i := 2) (p := 1291) (by decide +kernel) rfl ?_
    refine lt_callv (T := et_TT) (t := 13) (mi := 278) (na := 0) (ci := 11) (lk := 7) (lm := 3) (L0 := eg_en (eg_mL 278) [.ref am]) (by decide +kernel) rfl hH k_am rfl rfl rfl rfl rfl (by rw [show eg_mL 278 = 3 from by decide +kernel]; first | done | rfl) ?_
    have hHo := hH
    refine ((er_p278_ok (K1286, [], G1286) [.ref am] _ hH (by omega) rfl (ht_ac (.inr ⟨by decide, _, rfl, k_am⟩) ht_an)).and (fm_cloud hH k_am hrm.1.1 hrm.2.1.1 (hrm.2.2 (2, 3) (by decide)).1 bk_.1 hcr_ (by omega))).mono (fun u hu => ls_cbvQ (Q := fun u => u.1 = .inl (some (if cn 3 = 0 then Value.int (-1) else .int (Int32.ofNat (clB (fun v => alN X_ Y_ v (cn 3)) 16)))) ∧ et_pl (eg_at u.2.1 am) 0 = some (.int (Int32.ofNat 0))) hu (fun v1291 K1291 G1291 c1291 s1291 x1291 f1291 hH hv1291 cl1291 sl1291 hQ => ?_))
    have hfy := hfy.fr k_th hrc.1.1 x1291 f1291 (by decide +kernel)
    have hsy := hsy.fr k_th x1291 f1291 (by decide +kernel)
    have hzy := hzy.fr k_th hrc.1.1 hrc.1.2.1 x1291 f1291 (by decide +kernel)
    have hty := hty.fr x1291 hHo f1291 (by decide +kernel)
    have hcy := hcy.fr x1291 f1291 (by decide +kernel)
    have hry := hry.fr hHo x1291 f1291 (by decide +kernel)
    have hci := hci.fr x1291 f1291 (by decide +kernel)
    have h3 := (f1291.2 th 12 k_th 3 rfl).trans h3
    have hl := (f1291.2 rd 7 k_rd 1 rfl).trans hl
    have hm := (f1291.2 am 13 k_am 5 rfl).trans hm
    have hp := (f1291.2 th 12 k_th 2 rfl).trans hp
    have hg := (f1291.2 am 13 k_am 3 rfl).trans hg
    have htC := htC.fr k_rd x1291 f1291 (by decide +kernel)
    have htM := htM.fr k_am x1291 f1291 (by decide +kernel)
    have hrc := hrc.fr k_th x1291 f1291 (by decide +kernel)
    have hrm := hrm.fr k_am x1291 f1291 (by decide +kernel)
    have k_th := x1291 _ _ k_th
    have k_am := x1291 _ _ k_am
    have k_out := x1291 _ _ k_out
    have k_rd := x1291 _ _ k_rd
    obtain ⟨ev2, ht⟩ := hQ
    have ev2 : (Sum.inl (some v1291) : eg_R) = .inl (some (if cn 3 = 0 then Value.int (-1) else .int (Int32.ofNat (clB (fun v => alN X_ Y_ v (cn 3)) 16)))) := ev2
    rw [if_neg hn0] at ev2
    cases ev2
    show et_go _ _ 1000 1294 [some (.ref 150), some (.ref th), some (.ref am), some (.ref out), some (.int (Int32.ofNat i)), x5, x6] [.int (Int32.ofNat (clB (fun v => alN X_ Y_ v (cn 3)) 16))] _ ((ck + c1286) + c1291) ((sk + s1286) + s1291) _
    refine ls_pop (p := 1295) (by decide +kernel) ?_
    refine ls_goto (p := 1656) (by decide +kernel) ?_
    exact hN _ _ c h _ _ _ _ _ _ ⟨⟨hH, hci, k_th, k_am, k_out, h3, k_rd, hl, hm, hc⟩, ⟨hh1, hp, hg⟩, hrc, hrm, hbc, hbi, ⟨hry, hcy, hty, hzy, hsy, hfy⟩, _, htC, htM, htb⟩ (by omega) (by omega)
set_option maxHeartbeats 2000000 in
theorem lw_c28 (hI : lw_I K G th am out rd s0 s1 aw ai tp ba na tm c h cn im) (hi : i + 6 ≤ n) (hn : n ≤ 3072) (hN : ∀ (K' : et_K) (G' : eg_G) (c' h' : Nat) (cn' im' : Nat → Nat) (ck' sk' : Nat) (y5 y6 : Option Value), lw_I K' G' th am out rd s0 s1 aw ai tp ba na tm c' h' cn' im' → ck' ≤ ck + 841 → sk' ≤ sk + 7168 → et_go (some (n, f)) (d + 41) 1000 1656 [some (.ref 150), some (.ref th), some (.ref am), some (.ref out), some (.int (Int32.ofNat i)), y5, y6] [] G' ck' sk' Z) : et_go (some (n, f)) (d + 41) 1000 1298 [some (.ref 150), some (.ref th), some (.ref am), some (.ref out), some (.int (Int32.ofNat i)), x5, x6] [] G ck sk Z := by
  obtain ⟨⟨hH, hci, k_th, k_am, k_out, h3, k_rd, hl, hm, hc⟩, ⟨hh1, hp, hg⟩, hrc, hrm, hbc, hbi, ⟨hry, hcy, hty, hzy, hsy, hfy⟩, tb, htC, htM, htb⟩ := hI
  refine ls_aload (i := 1) (p := 1299) (by decide +kernel) rfl ?_
  refine ls_arg (j := 1) (by decide +kernel) (by omega) hn ?_
  refine ls_arg (j := 2) (by decide +kernel) (by omega) hn ?_
  refine ls_aload (i := 3) (p := 1312) (by decide +kernel) rfl ?_
  refine ls_calls (mi := 23) (na := 4) (lk := 7) (lm := 5) (L0 := eg_en (eg_mL 23) [.ref th, .int (f (i + 1)), .int (f (i + 2)), .ref out]) (by decide +kernel) rfl rfl rfl rfl rfl rfl (by rw [show eg_mL 23 = 5 from by decide +kernel]; first | done | rfl) ?_
  have hHo := hH
  refine (hh_c23 (K, [], G) [.ref th, .int (f (i + 1)), .int (f (i + 2)), .ref out] _ hH (by omega) rfl (ht_ac (.inr ⟨by decide, _, rfl, k_th⟩) (ht_ac hi_any (ht_ac hi_any (ht_ac (.inr ⟨by decide, _, rfl, k_out⟩) ht_an))))).mono (fun u hu => ls_cbv hu (fun v1312 K1312 G1312 c1312 s1312 x1312 f1312 hH hv1312 cl1312 sl1312 => ?_))
  have hfy := hfy.fr k_th hrc.1.1 x1312 f1312 (by decide +kernel)
  have hsy := hsy.fr k_th x1312 f1312 (by decide +kernel)
  have hzy := hzy.fr k_th hrc.1.1 hrc.1.2.1 x1312 f1312 (by decide +kernel)
  have hty := hty.fr x1312 hHo f1312 (by decide +kernel)
  have hcy := hcy.fr x1312 f1312 (by decide +kernel)
  have hry := hry.fr hHo x1312 f1312 (by decide +kernel)
  have hci := hci.fr x1312 f1312 (by decide +kernel)
  have h3 := (f1312.2 th 12 k_th 3 rfl).trans h3
  have hl := (f1312.2 rd 7 k_rd 1 rfl).trans hl
  have hm := (f1312.2 am 13 k_am 5 rfl).trans hm
  have hp := (f1312.2 th 12 k_th 2 rfl).trans hp
  have hg := (f1312.2 am 13 k_am 3 rfl).trans hg
  have htC := htC.fr k_rd x1312 f1312 (by decide +kernel)
  have htM := htM.fr k_am x1312 f1312 (by decide +kernel)
  have hrc := hrc.fr k_th x1312 f1312 (by decide +kernel)
  have hrm := hrm.fr k_am x1312 f1312 (by decide +kernel)
  have k_th := x1312 _ _ k_th
  have k_am := x1312 _ _ k_am
  have k_out := x1312 _ _ k_out
  have k_rd := x1312 _ _ k_rd
  obtain ⟨v1312, rfl, -⟩ := hv1312
  show et_go _ _ 1000 1315 [some (.ref 150), some (.ref th), some (.ref am), some (.ref out), some (.int (Int32.ofNat i)), x5, x6] [.int v1312] _ (ck + c1312) (sk + s1312) _
  refine ls_istore (i := 5) (p := 1317) (by decide +kernel) (Nat.le_of_ble_eq_true rfl) ?_
  refine ls_aload (i := 2) (p := 1318) (by decide +kernel) rfl ?_
  refine ls_arg (j := 1) (by decide +kernel) (by omega) hn ?_
  refine ls_arg (j := 2) (by decide +kernel) (by omega) hn ?_
  refine lt_callv (T := et_TT) (t := 13) (mi := 279) (na := 2) (ci := 11) (lk := 7) (lm := 6) (L0 := eg_en (eg_mL 279) [.ref am, .int (f (i + 1)), .int (f (i + 2))]) (by decide +kernel) rfl hH k_am rfl rfl rfl rfl rfl (by rw [show eg_mL 279 = 6 from by decide +kernel]; first | done | rfl) ?_
  have hHo := hH
  refine (er_p279_ok (K1312, [], G1312) [.ref am, .int (f (i + 1)), .int (f (i + 2))] _ hH (by omega) rfl (ht_ac (.inr ⟨by decide, _, rfl, k_am⟩) (ht_ac hi_any (ht_ac hi_any ht_an)))).mono (fun u hu => ls_cbv hu (fun v1330 K1330 G1330 c1330 s1330 x1330 f1330 hH hv1330 cl1330 sl1330 => ?_))
  have hfy := hfy.fr k_th hrc.1.1 x1330 f1330 (by decide +kernel)
  have hsy := hsy.fr k_th x1330 f1330 (by decide +kernel)
  have hzy := hzy.fr k_th hrc.1.1 hrc.1.2.1 x1330 f1330 (by decide +kernel)
  have hty := hty.fr x1330 hHo f1330 (by decide +kernel)
  have hcy := hcy.fr x1330 f1330 (by decide +kernel)
  have hry := hry.fr hHo x1330 f1330 (by decide +kernel)
  have hci := hci.fr x1330 f1330 (by decide +kernel)
  have h3 := (f1330.2 th 12 k_th 3 rfl).trans h3
  have hl := (f1330.2 rd 7 k_rd 1 rfl).trans hl
  have hm := (f1330.2 am 13 k_am 5 rfl).trans hm
  have hp := (f1330.2 th 12 k_th 2 rfl).trans hp
  have hg := (f1330.2 am 13 k_am 3 rfl).trans hg
  have htC := htC.fr k_rd x1330 f1330 (by decide +kernel)
  have htM := htM.fr k_am x1330 f1330 (by decide +kernel)
  have hrc := hrc.fr k_th x1330 f1330 (by decide +kernel)
  have hrm := hrm.fr k_am x1330 f1330 (by decide +kernel)
  have k_th := x1330 _ _ k_th
  have k_am := x1330 _ _ k_am
  have k_out := x1330 _ _ k_out
  have k_rd := x1330 _ _ k_rd
  obtain ⟨v1330, rfl, -⟩ := hv1330
  show et_go _ _ 1000 1333 [some (.ref 150), some (.ref th), some (.ref am), some (.ref out), some (.int (Int32.ofNat i)), some (.int v1312), x6] [.int v1330] _ ((ck + c1312) + c1330) ((sk + s1312) + s1330) _
  refine ls_istore (i := 6) (p := 1335) (by decide +kernel) (Nat.le_of_ble_eq_true rfl) ?_
  refine ls_goto (p := 1656) (by decide +kernel) ?_
  exact hN _ _ c h _ _ _ _ _ _ ⟨⟨hH, hci, k_th, k_am, k_out, h3, k_rd, hl, hm, hc⟩, ⟨hh1, hp, hg⟩, hrc, hrm, hbc, hbi, ⟨hry, hcy, hty, hzy, hsy, hfy⟩, _, htC, htM, htb⟩ (by omega) (by omega)
set_option maxHeartbeats 2000000 in
theorem lw_c29 (hI : lw_I K G th am out rd s0 s1 aw ai tp ba na tm c h cn im) (hi : i + 6 ≤ n) (hn : n ≤ 3072) (hN : ∀ (K' : et_K) (G' : eg_G) (c' h' : Nat) (cn' im' : Nat → Nat) (ck' sk' : Nat) (y5 y6 : Option Value), lw_I K' G' th am out rd s0 s1 aw ai tp ba na tm c' h' cn' im' → ck' ≤ ck + 841 → sk' ≤ sk + 7168 → et_go (some (n, f)) (d + 41) 1000 1656 [some (.ref 150), some (.ref th), some (.ref am), some (.ref out), some (.int (Int32.ofNat i)), y5, y6] [] G' ck' sk' Z) : et_go (some (n, f)) (d + 41) 1000 1338 [some (.ref 150), some (.ref th), some (.ref am), some (.ref out), some (.int (Int32.ofNat i)), x5, x6] [] G ck sk Z := by
  obtain ⟨⟨hH, hci, k_th, k_am, k_out, h3, k_rd, hl, hm, hc⟩, ⟨hh1, hp, hg⟩, hrc, hrm, hbc, hbi, ⟨hry, hcy, hty, hzy, hsy, hfy⟩, tb, htC, htM, htb⟩ := hI
  refine ls_aload (i := 1) (p := 1339) (by decide +kernel) rfl ?_
  refine ls_arg (j := 1) (by decide +kernel) (by omega) hn ?_
  refine ls_aload (i := 3) (p := 1346) (by decide +kernel) rfl ?_
  refine ls_calls (mi := 24) (na := 3) (lk := 7) (lm := 4) (L0 := eg_en (eg_mL 24) [.ref th, .int (f (i + 1)), .ref out]) (by decide +kernel) rfl rfl rfl rfl rfl rfl (by rw [show eg_mL 24 = 4 from by decide +kernel]; first | done | rfl) ?_
  have hHo := hH
  refine (hh_c24 (K, [], G) [.ref th, .int (f (i + 1)), .ref out] _ hH (by omega) rfl (ht_ac (.inr ⟨by decide, _, rfl, k_th⟩) (ht_ac hi_any (ht_ac (.inr ⟨by decide, _, rfl, k_out⟩) ht_an)))).mono (fun u hu => ls_cbv hu (fun v1346 K1346 G1346 c1346 s1346 x1346 f1346 hH hv1346 cl1346 sl1346 => ?_))
  have hfy := hfy.fr k_th hrc.1.1 x1346 f1346 (by decide +kernel)
  have hsy := hsy.fr k_th x1346 f1346 (by decide +kernel)
  have hzy := hzy.fr k_th hrc.1.1 hrc.1.2.1 x1346 f1346 (by decide +kernel)
  have hty := hty.fr x1346 hHo f1346 (by decide +kernel)
  have hcy := hcy.fr x1346 f1346 (by decide +kernel)
  have hry := hry.fr hHo x1346 f1346 (by decide +kernel)
  have hci := hci.fr x1346 f1346 (by decide +kernel)
  have h3 := (f1346.2 th 12 k_th 3 rfl).trans h3
  have hl := (f1346.2 rd 7 k_rd 1 rfl).trans hl
  have hm := (f1346.2 am 13 k_am 5 rfl).trans hm
  have hp := (f1346.2 th 12 k_th 2 rfl).trans hp
  have hg := (f1346.2 am 13 k_am 3 rfl).trans hg
  have htC := htC.fr k_rd x1346 f1346 (by decide +kernel)
  have htM := htM.fr k_am x1346 f1346 (by decide +kernel)
  have hrc := hrc.fr k_th x1346 f1346 (by decide +kernel)
  have hrm := hrm.fr k_am x1346 f1346 (by decide +kernel)
  have k_th := x1346 _ _ k_th
  have k_am := x1346 _ _ k_am
  have k_out := x1346 _ _ k_out
  have k_rd := x1346 _ _ k_rd
  obtain ⟨v1346, rfl, -⟩ := hv1346
  show et_go _ _ 1000 1349 [some (.ref 150), some (.ref th), some (.ref am), some (.ref out), some (.int (Int32.ofNat i)), x5, x6] [.int v1346] _ (ck + c1346) (sk + s1346) _
  refine ls_istore (i := 5) (p := 1351) (by decide +kernel) (Nat.le_of_ble_eq_true rfl) ?_
  refine ls_aload (i := 2) (p := 1352) (by decide +kernel) rfl ?_
  refine ls_arg (j := 1) (by decide +kernel) (by omega) hn ?_
  refine lt_callv (T := et_TT) (t := 13) (mi := 280) (na := 1) (ci := 11) (lk := 7) (lm := 5) (L0 := eg_en (eg_mL 280) [.ref am, .int (f (i + 1))]) (by decide +kernel) rfl hH k_am rfl rfl rfl rfl rfl (by rw [show eg_mL 280 = 5 from by decide +kernel]; first | done | rfl) ?_
  have hHo := hH
  refine (er_p280_ok (K1346, [], G1346) [.ref am, .int (f (i + 1))] _ hH (by omega) rfl (ht_ac (.inr ⟨by decide, _, rfl, k_am⟩) (ht_ac hi_any ht_an))).mono (fun u hu => ls_cbv hu (fun v1358 K1358 G1358 c1358 s1358 x1358 f1358 hH hv1358 cl1358 sl1358 => ?_))
  have hfy := hfy.fr k_th hrc.1.1 x1358 f1358 (by decide +kernel)
  have hsy := hsy.fr k_th x1358 f1358 (by decide +kernel)
  have hzy := hzy.fr k_th hrc.1.1 hrc.1.2.1 x1358 f1358 (by decide +kernel)
  have hty := hty.fr x1358 hHo f1358 (by decide +kernel)
  have hcy := hcy.fr x1358 f1358 (by decide +kernel)
  have hry := hry.fr hHo x1358 f1358 (by decide +kernel)
  have hci := hci.fr x1358 f1358 (by decide +kernel)
  have h3 := (f1358.2 th 12 k_th 3 rfl).trans h3
  have hl := (f1358.2 rd 7 k_rd 1 rfl).trans hl
  have hm := (f1358.2 am 13 k_am 5 rfl).trans hm
  have hp := (f1358.2 th 12 k_th 2 rfl).trans hp
  have hg := (f1358.2 am 13 k_am 3 rfl).trans hg
  have htC := htC.fr k_rd x1358 f1358 (by decide +kernel)
  have htM := htM.fr k_am x1358 f1358 (by decide +kernel)
  have hrc := hrc.fr k_th x1358 f1358 (by decide +kernel)
  have hrm := hrm.fr k_am x1358 f1358 (by decide +kernel)
  have k_th := x1358 _ _ k_th
  have k_am := x1358 _ _ k_am
  have k_out := x1358 _ _ k_out
  have k_rd := x1358 _ _ k_rd
  obtain ⟨v1358, rfl, -⟩ := hv1358
  show et_go _ _ 1000 1361 [some (.ref 150), some (.ref th), some (.ref am), some (.ref out), some (.int (Int32.ofNat i)), some (.int v1346), x6] [.int v1358] _ ((ck + c1346) + c1358) ((sk + s1346) + s1358) _
  refine ls_istore (i := 6) (p := 1363) (by decide +kernel) (Nat.le_of_ble_eq_true rfl) ?_
  refine ls_goto (p := 1656) (by decide +kernel) ?_
  exact hN _ _ c h _ _ _ _ _ _ ⟨⟨hH, hci, k_th, k_am, k_out, h3, k_rd, hl, hm, hc⟩, ⟨hh1, hp, hg⟩, hrc, hrm, hbc, hbi, ⟨hry, hcy, hty, hzy, hsy, hfy⟩, _, htC, htM, htb⟩ (by omega) (by omega)
set_option maxHeartbeats 2000000 in
theorem lw_c30 (hI : lw_I K G th am out rd s0 s1 aw ai tp ba na tm c h cn im) (hi : i + 6 ≤ n) (hn : n ≤ 3072) (hN : ∀ (K' : et_K) (G' : eg_G) (c' h' : Nat) (cn' im' : Nat → Nat) (ck' sk' : Nat) (y5 y6 : Option Value), lw_I K' G' th am out rd s0 s1 aw ai tp ba na tm c' h' cn' im' → ck' ≤ ck + 841 → sk' ≤ sk + 7168 → et_go (some (n, f)) (d + 41) 1000 1656 [some (.ref 150), some (.ref th), some (.ref am), some (.ref out), some (.int (Int32.ofNat i)), y5, y6] [] G' ck' sk' Z) : et_go (some (n, f)) (d + 41) 1000 1366 [some (.ref 150), some (.ref th), some (.ref am), some (.ref out), some (.int (Int32.ofNat i)), x5, x6] [] G ck sk Z := by
  obtain ⟨⟨hH, hci, k_th, k_am, k_out, h3, k_rd, hl, hm, hc⟩, ⟨hh1, hp, hg⟩, hrc, hrm, hbc, hbi, ⟨hry, hcy, hty, hzy, hsy, hfy⟩, tb, htC, htM, htb⟩ := hI
  refine ls_aload (i := 1) (p := 1367) (by decide +kernel) rfl ?_
  refine ls_arg (j := 1) (by decide +kernel) (by omega) hn ?_
  refine ls_arg (j := 2) (by decide +kernel) (by omega) hn ?_
  refine ls_arg (j := 3) (by decide +kernel) (by omega) hn ?_
  refine ls_aload (i := 3) (p := 1386) (by decide +kernel) rfl ?_
  refine ls_calls (mi := 25) (na := 5) (lk := 7) (lm := 6) (L0 := eg_en (eg_mL 25) [.ref th, .int (f (i + 1)), .int (f (i + 2)), .int (f (i + 3)), .ref out]) (by decide +kernel) rfl rfl rfl rfl rfl rfl (by rw [show eg_mL 25 = 6 from by decide +kernel]; first | done | rfl) ?_
  have hHo := hH
  have b4 : cn 4 ≤ 3 := Int.ofNat_le.mp (hf_bd (t := 10) hH hrc.1.1 rfl rfl (hrc.2.2 (5, 4) (by decide)).1 (hbc 4))
  have b1 : cn 1 ≤ 4 := Int.ofNat_le.mp (hf_bd (t := 10) hH hrc.1.1 rfl rfl (hrc.2.2 (7, 1) (by decide)).1 (hbc 1))
  obtain ⟨t0_, t1_, T0_, T1_, L0_, L1_, tK_, ⟨tp0_, tp1_⟩, ⟨tc_, ti_⟩, ⟨tE_, tX_⟩, tF_, tY_⟩ := id hty
  obtain ⟨ya_, yb_, O_, A_, V_, ⟨zk_, zka_, zki_⟩, zz_, zo_, zm_, zi_⟩ := hzy
  have zz9 := zz_
  have hfy9 := hfy
  have ks9 := hrc.1.1
  have kt9 := k_th
  have ko9 := k_out
  refine ((hh_c25 (K, [], G) [.ref th, .int (f (i + 1)), .int (f (i + 2)), .int (f (i + 3)), .ref out] _ hH (by omega) rfl (ht_ac (.inr ⟨by decide, _, rfl, k_th⟩) (ht_ac hi_any (ht_ac hi_any (ht_ac hi_any (ht_ac (.inr ⟨by decide, _, rfl, k_out⟩) ht_an)))))).and (fh_25Z hH k_th k_out hrc.2.1.1 hrc.1.1 (hrc.2.2 (5, 4) (by decide)).1 b4 zk_ zz_ zo_ (by omega))).mono (fun u hu => ls_cbvQ (Q := fun u => hol K (O_ 6) (A_ 6 0) (A_ 6 1) (A_ 6 2) G u.2.1) hu (fun v1386 K1386 G1386 c1386 s1386 x1386 f1386 hH hv1386 cl1386 sl1386 hQ => ?_))
  have zz_ := zz_.ho zk_ k_th hrc.1.1 hrc.1.2.1 hQ f1386 (by decide +kernel)
  have zm_ := zm_.fr (fun n hn => zo_ n (by omega)) zka_ f1386 (by decide +kernel)
  have zi_ := zi_.fr (fun n hn => zo_ (3 + n) (by omega)) zki_ f1386 (by decide +kernel)
  have zk_ := zk_.ex x1386
  have zka_ := x1386 _ _ zka_
  have zki_ := x1386 _ _ zki_
  have hzy : zy K1386 G1386 th s0 s1 aw ai (cn 4) (im 4) := ⟨ya_, yb_, O_, A_, V_, ⟨zk_, zka_, zki_⟩, zz_, zo_, zm_, zi_⟩
  have hsy := hsy.fr k_th x1386 f1386 (by decide +kernel)
  have hty := hty.fr x1386 hHo f1386 (by decide +kernel)
  have hcy := hcy.fr x1386 f1386 (by decide +kernel)
  have hry := hry.fr hHo x1386 f1386 (by decide +kernel)
  have hci := hci.fr x1386 f1386 (by decide +kernel)
  have h3 := (f1386.2 th 12 k_th 3 rfl).trans h3
  have hl := (f1386.2 rd 7 k_rd 1 rfl).trans hl
  have hm := (f1386.2 am 13 k_am 5 rfl).trans hm
  have hp := (f1386.2 th 12 k_th 2 rfl).trans hp
  have hg := (f1386.2 am 13 k_am 3 rfl).trans hg
  have htC := htC.fr k_rd x1386 f1386 (by decide +kernel)
  have htM := htM.fr k_am x1386 f1386 (by decide +kernel)
  have hrc := hrc.fr k_th x1386 f1386 (by decide +kernel)
  have hrm := hrm.fr k_am x1386 f1386 (by decide +kernel)
  have k_th := x1386 _ _ k_th
  have k_am := x1386 _ _ k_am
  have k_out := x1386 _ _ k_out
  have k_rd := x1386 _ _ k_rd
  obtain ⟨v1386, rfl, -⟩ := hv1386
  have hfy : fyR K1386 G1386 th s0 (cn 3) := hfy9.uz x1386 ks9 zz9 zo_ zz_ (fun n hn => coreE.rf) f1386 (by decide +kernel) (fun j hj => by rcases hj with rfl | rfl | rfl <;> exact f1386.2 th 12 kt9 _ rfl)
  show et_go _ _ 1000 1389 [some (.ref 150), some (.ref th), some (.ref am), some (.ref out), some (.int (Int32.ofNat i)), x5, x6] [.int v1386] _ (ck + c1386) (sk + s1386) _
  refine ls_istore (i := 5) (p := 1391) (by decide +kernel) (Nat.le_of_ble_eq_true rfl) ?_
  refine ls_aload (i := 2) (p := 1392) (by decide +kernel) rfl ?_
  refine ls_arg (j := 1) (by decide +kernel) (by omega) hn ?_
  refine ls_arg (j := 2) (by decide +kernel) (by omega) hn ?_
  refine ls_arg (j := 3) (by decide +kernel) (by omega) hn ?_
  refine lt_callv (T := et_TT) (t := 13) (mi := 281) (na := 3) (ci := 11) (lk := 7) (lm := 8) (L0 := eg_en (eg_mL 281) [.ref am, .int (f (i + 1)), .int (f (i + 2)), .int (f (i + 3))]) (by decide +kernel) rfl hH k_am rfl rfl rfl rfl rfl (by rw [show eg_mL 281 = 8 from by decide +kernel]; first | done | rfl) ?_
  have hHo := hH
  refine (er_p281_ok (K1386, [], G1386) [.ref am, .int (f (i + 1)), .int (f (i + 2)), .int (f (i + 3))] _ hH (by omega) rfl (ht_ac (.inr ⟨by decide, _, rfl, k_am⟩) (ht_ac hi_any (ht_ac hi_any (ht_ac hi_any ht_an))))).mono (fun u hu => ls_cbv hu (fun v1410 K1410 G1410 c1410 s1410 x1410 f1410 hH hv1410 cl1410 sl1410 => ?_))
  have hfy := hfy.fr k_th hrc.1.1 x1410 f1410 (by decide +kernel)
  have hsy := hsy.fr k_th x1410 f1410 (by decide +kernel)
  have hzy := hzy.fr k_th hrc.1.1 hrc.1.2.1 x1410 f1410 (by decide +kernel)
  have hty := hty.fr x1410 hHo f1410 (by decide +kernel)
  have hcy := hcy.fr x1410 f1410 (by decide +kernel)
  have hry := hry.fr hHo x1410 f1410 (by decide +kernel)
  have hci := hci.fr x1410 f1410 (by decide +kernel)
  have h3 := (f1410.2 th 12 k_th 3 rfl).trans h3
  have hl := (f1410.2 rd 7 k_rd 1 rfl).trans hl
  have hm := (f1410.2 am 13 k_am 5 rfl).trans hm
  have hp := (f1410.2 th 12 k_th 2 rfl).trans hp
  have hg := (f1410.2 am 13 k_am 3 rfl).trans hg
  have htC := htC.fr k_rd x1410 f1410 (by decide +kernel)
  have htM := htM.fr k_am x1410 f1410 (by decide +kernel)
  have hrc := hrc.fr k_th x1410 f1410 (by decide +kernel)
  have hrm := hrm.fr k_am x1410 f1410 (by decide +kernel)
  have k_th := x1410 _ _ k_th
  have k_am := x1410 _ _ k_am
  have k_out := x1410 _ _ k_out
  have k_rd := x1410 _ _ k_rd
  obtain ⟨v1410, rfl, -⟩ := hv1410
  show et_go _ _ 1000 1413 [some (.ref 150), some (.ref th), some (.ref am), some (.ref out), some (.int (Int32.ofNat i)), some (.int v1386), x6] [.int v1410] _ ((ck + c1386) + c1410) ((sk + s1386) + s1410) _
  refine ls_istore (i := 6) (p := 1415) (by decide +kernel) (Nat.le_of_ble_eq_true rfl) ?_
  refine ls_goto (p := 1656) (by decide +kernel) ?_
  exact hN _ _ c h _ _ _ _ _ _ ⟨⟨hH, hci, k_th, k_am, k_out, h3, k_rd, hl, hm, hc⟩, ⟨hh1, hp, hg⟩, hrc, hrm, hbc, hbi, ⟨hry, hcy, hty, hzy, hsy, hfy⟩, _, htC, htM, htb⟩ (by omega) (by omega)
set_option maxHeartbeats 2000000 in
theorem lw_c31 (hI : lw_I K G th am out rd s0 s1 aw ai tp ba na tm c h cn im) (hi : i + 6 ≤ n) (hn : n ≤ 3072) (hN : ∀ (K' : et_K) (G' : eg_G) (c' h' : Nat) (cn' im' : Nat → Nat) (ck' sk' : Nat) (y5 y6 : Option Value), lw_I K' G' th am out rd s0 s1 aw ai tp ba na tm c' h' cn' im' → ck' ≤ ck + 841 → sk' ≤ sk + 7168 → et_go (some (n, f)) (d + 41) 1000 1656 [some (.ref 150), some (.ref th), some (.ref am), some (.ref out), some (.int (Int32.ofNat i)), y5, y6] [] G' ck' sk' Z) : et_go (some (n, f)) (d + 41) 1000 1418 [some (.ref 150), some (.ref th), some (.ref am), some (.ref out), some (.int (Int32.ofNat i)), x5, x6] [] G ck sk Z := by
  obtain ⟨⟨hH, hci, k_th, k_am, k_out, h3, k_rd, hl, hm, hc⟩, ⟨hh1, hp, hg⟩, hrc, hrm, hbc, hbi, ⟨hry, hcy, hty, hzy, hsy, hfy⟩, tb, htC, htM, htb⟩ := hI
  refine ls_aload (i := 1) (p := 1419) (by decide +kernel) rfl ?_
  refine ls_arg (j := 1) (by decide +kernel) (by omega) hn ?_
  refine ls_arg (j := 2) (by decide +kernel) (by omega) hn ?_
  refine ls_aload (i := 3) (p := 1432) (by decide +kernel) rfl ?_
  refine ls_calls (mi := 26) (na := 4) (lk := 7) (lm := 5) (L0 := eg_en (eg_mL 26) [.ref th, .int (f (i + 1)), .int (f (i + 2)), .ref out]) (by decide +kernel) rfl rfl rfl rfl rfl rfl (by rw [show eg_mL 26 = 5 from by decide +kernel]; first | done | rfl) ?_
  have hHo := hH
  have b4 : cn 4 ≤ 3 := Int.ofNat_le.mp (hf_bd (t := 10) hH hrc.1.1 rfl rfl (hrc.2.2 (5, 4) (by decide)).1 (hbc 4))
  have b1 : cn 1 ≤ 4 := Int.ofNat_le.mp (hf_bd (t := 10) hH hrc.1.1 rfl rfl (hrc.2.2 (7, 1) (by decide)).1 (hbc 1))
  obtain ⟨t0_, t1_, T0_, T1_, L0_, L1_, tK_, ⟨tp0_, tp1_⟩, ⟨tc_, ti_⟩, ⟨tE_, tX_⟩, tF_, tY_⟩ := id hty
  obtain ⟨ya_, yb_, O_, A_, V_, ⟨zk_, zka_, zki_⟩, zz_, zo_, zm_, zi_⟩ := hzy
  have zz9 := zz_
  have hfy9 := hfy
  have ks9 := hrc.1.1
  have kt9 := k_th
  have ko9 := k_out
  refine ((hh_c26 (K, [], G) [.ref th, .int (f (i + 1)), .int (f (i + 2)), .ref out] _ hH (by omega) rfl (ht_ac (.inr ⟨by decide, _, rfl, k_th⟩) (ht_ac hi_any (ht_ac hi_any (ht_ac (.inr ⟨by decide, _, rfl, k_out⟩) ht_an))))).and (fh_26Z hH k_th k_out hrc.2.1.1 hrc.1.1 (hrc.2.2 (5, 4) (by decide)).1 b4 zk_ zz_ zo_ (hrc.2.2 (7, 1) (by decide)).1 b1 tp0_ tK_.1.2.2.1 tE_ (by omega))).mono (fun u hu => ls_cbvQ (Q := fun u => hol K (O_ 6) (A_ 6 0) (A_ 6 1) (A_ 6 2) G u.2.1) hu (fun v1432 K1432 G1432 c1432 s1432 x1432 f1432 hH hv1432 cl1432 sl1432 hQ => ?_))
  have zz_ := zz_.ho zk_ k_th hrc.1.1 hrc.1.2.1 hQ f1432 (by decide +kernel)
  have zm_ := zm_.fr (fun n hn => zo_ n (by omega)) zka_ f1432 (by decide +kernel)
  have zi_ := zi_.fr (fun n hn => zo_ (3 + n) (by omega)) zki_ f1432 (by decide +kernel)
  have zk_ := zk_.ex x1432
  have zka_ := x1432 _ _ zka_
  have zki_ := x1432 _ _ zki_
  have hzy : zy K1432 G1432 th s0 s1 aw ai (cn 4) (im 4) := ⟨ya_, yb_, O_, A_, V_, ⟨zk_, zka_, zki_⟩, zz_, zo_, zm_, zi_⟩
  have hsy := hsy.fr k_th x1432 f1432 (by decide +kernel)
  have hty := hty.fr x1432 hHo f1432 (by decide +kernel)
  have hcy := hcy.fr x1432 f1432 (by decide +kernel)
  have hry := hry.fr hHo x1432 f1432 (by decide +kernel)
  have hci := hci.fr x1432 f1432 (by decide +kernel)
  have h3 := (f1432.2 th 12 k_th 3 rfl).trans h3
  have hl := (f1432.2 rd 7 k_rd 1 rfl).trans hl
  have hm := (f1432.2 am 13 k_am 5 rfl).trans hm
  have hp := (f1432.2 th 12 k_th 2 rfl).trans hp
  have hg := (f1432.2 am 13 k_am 3 rfl).trans hg
  have htC := htC.fr k_rd x1432 f1432 (by decide +kernel)
  have htM := htM.fr k_am x1432 f1432 (by decide +kernel)
  have hrc := hrc.fr k_th x1432 f1432 (by decide +kernel)
  have hrm := hrm.fr k_am x1432 f1432 (by decide +kernel)
  have k_th := x1432 _ _ k_th
  have k_am := x1432 _ _ k_am
  have k_out := x1432 _ _ k_out
  have k_rd := x1432 _ _ k_rd
  obtain ⟨v1432, rfl, -⟩ := hv1432
  have hfy : fyR K1432 G1432 th s0 (cn 3) := hfy9.uz x1432 ks9 zz9 zo_ zz_ (fun n hn => coreE.rf) f1432 (by decide +kernel) (fun j hj => by rcases hj with rfl | rfl | rfl <;> exact f1432.2 th 12 kt9 _ rfl)
  show et_go _ _ 1000 1435 [some (.ref 150), some (.ref th), some (.ref am), some (.ref out), some (.int (Int32.ofNat i)), x5, x6] [.int v1432] _ (ck + c1432) (sk + s1432) _
  refine ls_istore (i := 5) (p := 1437) (by decide +kernel) (Nat.le_of_ble_eq_true rfl) ?_
  refine ls_aload (i := 2) (p := 1438) (by decide +kernel) rfl ?_
  refine ls_arg (j := 1) (by decide +kernel) (by omega) hn ?_
  refine ls_arg (j := 2) (by decide +kernel) (by omega) hn ?_
  refine lt_callv (T := et_TT) (t := 13) (mi := 282) (na := 2) (ci := 11) (lk := 7) (lm := 13) (L0 := eg_en (eg_mL 282) [.ref am, .int (f (i + 1)), .int (f (i + 2))]) (by decide +kernel) rfl hH k_am rfl rfl rfl rfl rfl (by rw [show eg_mL 282 = 13 from by decide +kernel]; first | done | rfl) ?_
  have hHo := hH
  obtain ⟨ya_, yb_, O_, A_, V_, ⟨zk_, zka_, zki_⟩, zz_, zo_, zm_, zi_⟩ := hzy
  refine ((hc_so (K1432, [], G1432) [.ref am, .int (f (i + 1)), .int (f (i + 2))] _ hH (by omega) rfl (ht_ac (.inr ⟨by decide, _, rfl, k_am⟩) (ht_ac hi_any (ht_ac hi_any ht_an)))).and (fm_soon (w := (K1432, [], G1432)) hH k_am hrm.2.1.1 hrm.1.1 (by omega))).mono (fun u hu => ls_cbvQ (Q := fun u => ∀ i, et_pl (eg_at u.2.1 aw) i = et_pl (eg_at G1432 aw) i) hu (fun v1450 K1450 G1450 c1450 s1450 x1450 f1450 hH hv1450 cl1450 sl1450 hQ => ?_))
  have zm_ := zm_.mv (fun n hn => zo_ n (by omega)) (fun j _ _ => hQ j)
  have zz_ := zz_.fr zk_ k_th hrc.1.1 hrc.1.2.1 f1450 (by decide +kernel)
  have zi_ := zi_.fr (fun n hn => zo_ (3 + n) (by omega)) zki_ f1450 (by decide +kernel)
  have zk_ := zk_.ex x1450
  have zka_ := x1450 _ _ zka_
  have zki_ := x1450 _ _ zki_
  have hzy : zy K1450 G1450 th s0 s1 aw ai (cn 4) (im 4) := ⟨ya_, yb_, O_, A_, V_, ⟨zk_, zka_, zki_⟩, zz_, zo_, zm_, zi_⟩
  have hfy := hfy.fr k_th hrc.1.1 x1450 f1450 (by decide +kernel)
  have hsy := hsy.fr k_th x1450 f1450 (by decide +kernel)
  have hty := hty.fr x1450 hHo f1450 (by decide +kernel)
  have hcy := hcy.fr x1450 f1450 (by decide +kernel)
  have hry := hry.fr hHo x1450 f1450 (by decide +kernel)
  have hci := hci.fr x1450 f1450 (by decide +kernel)
  have h3 := (f1450.2 th 12 k_th 3 rfl).trans h3
  have hl := (f1450.2 rd 7 k_rd 1 rfl).trans hl
  have hm := (f1450.2 am 13 k_am 5 rfl).trans hm
  have hp := (f1450.2 th 12 k_th 2 rfl).trans hp
  have hg := (f1450.2 am 13 k_am 3 rfl).trans hg
  have htC := htC.fr k_rd x1450 f1450 (by decide +kernel)
  have htM := htM.fr k_am x1450 f1450 (by decide +kernel)
  have hrc := hrc.fr k_th x1450 f1450 (by decide +kernel)
  have hrm := hrm.fr k_am x1450 f1450 (by decide +kernel)
  have k_th := x1450 _ _ k_th
  have k_am := x1450 _ _ k_am
  have k_out := x1450 _ _ k_out
  have k_rd := x1450 _ _ k_rd
  obtain ⟨v1450, rfl, -⟩ := hv1450
  show et_go _ _ 1000 1453 [some (.ref 150), some (.ref th), some (.ref am), some (.ref out), some (.int (Int32.ofNat i)), some (.int v1432), x6] [.int v1450] _ ((ck + c1432) + c1450) ((sk + s1432) + s1450) _
  refine ls_istore (i := 6) (p := 1455) (by decide +kernel) (Nat.le_of_ble_eq_true rfl) ?_
  refine ls_goto (p := 1656) (by decide +kernel) ?_
  exact hN _ _ c h _ _ _ _ _ _ ⟨⟨hH, hci, k_th, k_am, k_out, h3, k_rd, hl, hm, hc⟩, ⟨hh1, hp, hg⟩, hrc, hrm, hbc, hbi, ⟨hry, hcy, hty, hzy, hsy, hfy⟩, _, htC, htM, htb⟩ (by omega) (by omega)
set_option maxHeartbeats 2000000 in
theorem lw_c32 (hI : lw_I K G th am out rd s0 s1 aw ai tp ba na tm c h cn im) (hi : i + 6 ≤ n) (hn : n ≤ 3072) (hN : ∀ (K' : et_K) (G' : eg_G) (c' h' : Nat) (cn' im' : Nat → Nat) (ck' sk' : Nat) (y5 y6 : Option Value), lw_I K' G' th am out rd s0 s1 aw ai tp ba na tm c' h' cn' im' → ck' ≤ ck + 841 → sk' ≤ sk + 7168 → et_go (some (n, f)) (d + 41) 1000 1656 [some (.ref 150), some (.ref th), some (.ref am), some (.ref out), some (.int (Int32.ofNat i)), y5, y6] [] G' ck' sk' Z) : et_go (some (n, f)) (d + 41) 1000 1458 [some (.ref 150), some (.ref th), some (.ref am), some (.ref out), some (.int (Int32.ofNat i)), x5, x6] [] G ck sk Z := by
  obtain ⟨⟨hH, hci, k_th, k_am, k_out, h3, k_rd, hl, hm, hc⟩, ⟨hh1, hp, hg⟩, hrc, hrm, hbc, hbi, ⟨hry, hcy, hty, hzy, hsy, hfy⟩, tb, htC, htM, htb⟩ := hI
  refine ls_aload (i := 1) (p := 1459) (by decide +kernel) rfl ?_
  refine ls_arg (j := 1) (by decide +kernel) (by omega) hn ?_
  refine ls_arg (j := 2) (by decide +kernel) (by omega) hn ?_
  refine ls_aload (i := 3) (p := 1472) (by decide +kernel) rfl ?_
  refine ls_calls (mi := 27) (na := 4) (lk := 7) (lm := 5) (L0 := eg_en (eg_mL 27) [.ref th, .int (f (i + 1)), .int (f (i + 2)), .ref out]) (by decide +kernel) rfl rfl rfl rfl rfl rfl (by rw [show eg_mL 27 = 5 from by decide +kernel]; first | done | rfl) ?_
  have hHo := hH
  have b4 : cn 4 ≤ 3 := Int.ofNat_le.mp (hf_bd (t := 10) hH hrc.1.1 rfl rfl (hrc.2.2 (5, 4) (by decide)).1 (hbc 4))
  obtain ⟨ya_, yb_, O_, A_, V_, ⟨zk_, zka_, zki_⟩, zz_, zo_, zm_, zi_⟩ := hzy
  refine ((hh_c27 (K, [], G) [.ref th, .int (f (i + 1)), .int (f (i + 2)), .ref out] _ hH (by omega) rfl (ht_ac (.inr ⟨by decide, _, rfl, k_th⟩) (ht_ac hi_any (ht_ac hi_any (ht_ac (.inr ⟨by decide, _, rfl, k_out⟩) ht_an))))).and (fz_tog hH k_th hrc.2.1.1 hrc.1.1 (hrc.2.2 (5, 4) (by decide)).1 b4 zk_ zz_ zo_ k_out (by omega))).mono (fun u hu => ls_cbvQ (Q := fun u => (¬ (1 ≤ (f (i + 1)).toInt ∧ (f (i + 1)).toInt ≤ 3 ∧ (0 ≤ (f (i + 2)).toInt ∧ (f (i + 2)).toInt < 65536)) ∧ u.1 = .inl (some (.int (Int32.ofNat 1)))) ∨ ∃ k, (((f (i + 1)) = Int32.ofNat k ∧ 1 ≤ k ∧ k ≤ 3) ∧ (0 ≤ (f (i + 2)).toInt ∧ (f (i + 2)).toInt < 65536)) ∧ u.1 = .inl (some (.int (Int32.ofNat 0))) ∧ et_pl (eg_at u.2.1 out) 0 = some (.long (Int64.ofNat (if k ≤ nyE V_ (f (i + 2)) (cn 4) then 1 else 0)))) hu (fun v1472 K1472 G1472 c1472 s1472 x1472 f1472 hH hv1472 cl1472 sl1472 hQ => ?_))
  have zz_ := zz_.fr zk_ k_th hrc.1.1 hrc.1.2.1 f1472 (by decide +kernel)
  have zm_ := zm_.fr (fun n hn => zo_ n (by omega)) zka_ f1472 (by decide +kernel)
  have zi_ := zi_.fr (fun n hn => zo_ (3 + n) (by omega)) zki_ f1472 (by decide +kernel)
  have zk_ := zk_.ex x1472
  have zka_ := x1472 _ _ zka_
  have zki_ := x1472 _ _ zki_
  have hfy := hfy.fr k_th hrc.1.1 x1472 f1472 (by decide +kernel)
  have hsy := hsy.fr k_th x1472 f1472 (by decide +kernel)
  have hty := hty.fr x1472 hHo f1472 (by decide +kernel)
  have hcy := hcy.fr x1472 f1472 (by decide +kernel)
  have hry := hry.fr hHo x1472 f1472 (by decide +kernel)
  have hci := hci.fr x1472 f1472 (by decide +kernel)
  have h3 := (f1472.2 th 12 k_th 3 rfl).trans h3
  have hl := (f1472.2 rd 7 k_rd 1 rfl).trans hl
  have hm := (f1472.2 am 13 k_am 5 rfl).trans hm
  have hp := (f1472.2 th 12 k_th 2 rfl).trans hp
  have hg := (f1472.2 am 13 k_am 3 rfl).trans hg
  have htC := htC.fr k_rd x1472 f1472 (by decide +kernel)
  have htM := htM.fr k_am x1472 f1472 (by decide +kernel)
  have hrc := hrc.fr k_th x1472 f1472 (by decide +kernel)
  have hrm := hrm.fr k_am x1472 f1472 (by decide +kernel)
  have k_th := x1472 _ _ k_th
  have k_am := x1472 _ _ k_am
  have k_out := x1472 _ _ k_out
  have k_rd := x1472 _ _ k_rd
  rcases hQ with ⟨cx, ev⟩ | ⟨k0, ⟨⟨ek0, hk0, hm0⟩, hl0⟩, ev, ho⟩
  · cases ev
    show et_go _ _ 1000 1475 [some (.ref 150), some (.ref th), some (.ref am), some (.ref out), some (.int (Int32.ofNat i)), x5, x6] [.int (Int32.ofNat 1)] _ (ck + c1472) (sk + s1472) _
    refine ls_istore (i := 5) (p := 1477) (by decide +kernel) (Nat.le_of_ble_eq_true rfl) ?_
    refine ls_aload (i := 2) (p := 1478) (by decide +kernel) rfl ?_
    refine ls_arg (j := 1) (by decide +kernel) (by omega) hn ?_
    refine ls_arg (j := 2) (by decide +kernel) (by omega) hn ?_
    refine lt_callv (T := et_TT) (t := 13) (mi := 285) (na := 2) (ci := 11) (lk := 7) (lm := 3) (L0 := eg_en (eg_mL 285) [.ref am, .int (f (i + 1)), .int (f (i + 2))]) (by decide +kernel) rfl hH k_am rfl rfl rfl rfl rfl (by rw [show eg_mL 285 = 3 from by decide +kernel]; first | done | rfl) ?_
    have hHo := hH
    refine ((er_p285_ok (K1472, [], G1472) [.ref am, .int (f (i + 1)), .int (f (i + 2))] _ hH (by omega) rfl (ht_ac (.inr ⟨by decide, _, rfl, k_am⟩) (ht_ac hi_any (ht_ac hi_any ht_an)))).and (gz_tog hH k_am hrm.1.1 hrm.2.1.1 (hrm.2.2 (5, 4) (by decide)).1 b4 zm_ (fun n hn => zo_ n (by omega)) (by omega))).mono (fun u hu => ls_cbvQ (Q := fun u => (¬ (1 ≤ (f (i + 1)).toInt ∧ (f (i + 1)).toInt ≤ 3 ∧ (0 ≤ (f (i + 2)).toInt ∧ (f (i + 2)).toInt < 65536)) ∧ u.1 = .inl (some (.int (Int32.ofNat 0))) ∧ et_pl (eg_at u.2.1 am) 0 = some (.int (Int32.ofNat 1))) ∨ ∃ k, (((f (i + 1)) = Int32.ofNat k ∧ 1 ≤ k ∧ k ≤ 3) ∧ (0 ≤ (f (i + 2)).toInt ∧ (f (i + 2)).toInt < 65536)) ∧ u.1 = .inl (some (.int (Int32.ofNat (if k ≤ nyE V_ (f (i + 2)) (cn 4) then 1 else 0)))) ∧ et_pl (eg_at u.2.1 am) 0 = some (.int (Int32.ofNat 0))) hu (fun v1490 K1490 G1490 c1490 s1490 x1490 f1490 hH hv1490 cl1490 sl1490 hQ => ?_))
    have zz_ := zz_.fr zk_ k_th hrc.1.1 hrc.1.2.1 f1490 (by decide +kernel)
    have zm_ := zm_.fr (fun n hn => zo_ n (by omega)) zka_ f1490 (by decide +kernel)
    have zi_ := zi_.fr (fun n hn => zo_ (3 + n) (by omega)) zki_ f1490 (by decide +kernel)
    have zk_ := zk_.ex x1490
    have zka_ := x1490 _ _ zka_
    have zki_ := x1490 _ _ zki_
    have hfy := hfy.fr k_th hrc.1.1 x1490 f1490 (by decide +kernel)
    have hsy := hsy.fr k_th x1490 f1490 (by decide +kernel)
    have hty := hty.fr x1490 hHo f1490 (by decide +kernel)
    have hcy := hcy.fr x1490 f1490 (by decide +kernel)
    have hry := hry.fr hHo x1490 f1490 (by decide +kernel)
    have hci := hci.fr x1490 f1490 (by decide +kernel)
    have h3 := (f1490.2 th 12 k_th 3 rfl).trans h3
    have hl := (f1490.2 rd 7 k_rd 1 rfl).trans hl
    have hm := (f1490.2 am 13 k_am 5 rfl).trans hm
    have hp := (f1490.2 th 12 k_th 2 rfl).trans hp
    have hg := (f1490.2 am 13 k_am 3 rfl).trans hg
    have htC := htC.fr k_rd x1490 f1490 (by decide +kernel)
    have htM := htM.fr k_am x1490 f1490 (by decide +kernel)
    have hrc := hrc.fr k_th x1490 f1490 (by decide +kernel)
    have hrm := hrm.fr k_am x1490 f1490 (by decide +kernel)
    have k_th := x1490 _ _ k_th
    have k_am := x1490 _ _ k_am
    have k_out := x1490 _ _ k_out
    have k_rd := x1490 _ _ k_rd
    rcases hQ with ⟨dx, ev2, ht⟩ | ⟨k1, ⟨⟨ek1, hk1, hm1⟩, hl1⟩, ev2, ht⟩
    · cases ev2
      have hzy : zy K1490 G1490 th s0 s1 aw ai (cn 4) (im 4) := ⟨ya_, yb_, O_, A_, V_, ⟨zk_, zka_, zki_⟩, zz_, zo_, zm_, zi_⟩
      show et_go _ _ 1000 1493 [some (.ref 150), some (.ref th), some (.ref am), some (.ref out), some (.int (Int32.ofNat i)), some (.int (Int32.ofNat 1)), x6] [.int (Int32.ofNat 0)] _ ((ck + c1472) + c1490) ((sk + s1472) + s1490) _
      refine ls_istore (i := 6) (p := 1495) (by decide +kernel) (Nat.le_of_ble_eq_true rfl) ?_
      refine ls_goto (p := 1656) (by decide +kernel) ?_
      exact hN _ _ c h _ _ _ _ _ _ ⟨⟨hH, hci, k_th, k_am, k_out, h3, k_rd, hl, hm, hc⟩, ⟨hh1, hp, hg⟩, hrc, hrm, hbc, hbi, ⟨hry, hcy, hty, hzy, hsy, hfy⟩, _, htC, htM, htb⟩ (by omega) (by omega)
    · exact absurd (show _ ∧ _ ∧ _ from ⟨by rw [ek1, hs_nint (by omega)]; omega, by rw [ek1, hs_nint (by omega)]; omega, hl1⟩) cx
  · cases ev
    show et_go _ _ 1000 1475 [some (.ref 150), some (.ref th), some (.ref am), some (.ref out), some (.int (Int32.ofNat i)), x5, x6] [.int (Int32.ofNat 0)] _ (ck + c1472) (sk + s1472) _
    refine ls_istore (i := 5) (p := 1477) (by decide +kernel) (Nat.le_of_ble_eq_true rfl) ?_
    refine ls_aload (i := 2) (p := 1478) (by decide +kernel) rfl ?_
    refine ls_arg (j := 1) (by decide +kernel) (by omega) hn ?_
    refine ls_arg (j := 2) (by decide +kernel) (by omega) hn ?_
    refine lt_callv (T := et_TT) (t := 13) (mi := 285) (na := 2) (ci := 11) (lk := 7) (lm := 3) (L0 := eg_en (eg_mL 285) [.ref am, .int (f (i + 1)), .int (f (i + 2))]) (by decide +kernel) rfl hH k_am rfl rfl rfl rfl rfl (by rw [show eg_mL 285 = 3 from by decide +kernel]; first | done | rfl) ?_
    have hHo := hH
    refine ((er_p285_ok (K1472, [], G1472) [.ref am, .int (f (i + 1)), .int (f (i + 2))] _ hH (by omega) rfl (ht_ac (.inr ⟨by decide, _, rfl, k_am⟩) (ht_ac hi_any (ht_ac hi_any ht_an)))).and (gz_tog hH k_am hrm.1.1 hrm.2.1.1 (hrm.2.2 (5, 4) (by decide)).1 b4 zm_ (fun n hn => zo_ n (by omega)) (by omega))).mono (fun u hu => ls_cbvQ (Q := fun u => (¬ (1 ≤ (f (i + 1)).toInt ∧ (f (i + 1)).toInt ≤ 3 ∧ (0 ≤ (f (i + 2)).toInt ∧ (f (i + 2)).toInt < 65536)) ∧ u.1 = .inl (some (.int (Int32.ofNat 0))) ∧ et_pl (eg_at u.2.1 am) 0 = some (.int (Int32.ofNat 1))) ∨ ∃ k, (((f (i + 1)) = Int32.ofNat k ∧ 1 ≤ k ∧ k ≤ 3) ∧ (0 ≤ (f (i + 2)).toInt ∧ (f (i + 2)).toInt < 65536)) ∧ u.1 = .inl (some (.int (Int32.ofNat (if k ≤ nyE V_ (f (i + 2)) (cn 4) then 1 else 0)))) ∧ et_pl (eg_at u.2.1 am) 0 = some (.int (Int32.ofNat 0))) hu (fun v1490 K1490 G1490 c1490 s1490 x1490 f1490 hH hv1490 cl1490 sl1490 hQ => ?_))
    have zz_ := zz_.fr zk_ k_th hrc.1.1 hrc.1.2.1 f1490 (by decide +kernel)
    have zm_ := zm_.fr (fun n hn => zo_ n (by omega)) zka_ f1490 (by decide +kernel)
    have zi_ := zi_.fr (fun n hn => zo_ (3 + n) (by omega)) zki_ f1490 (by decide +kernel)
    have zk_ := zk_.ex x1490
    have zka_ := x1490 _ _ zka_
    have zki_ := x1490 _ _ zki_
    have hfy := hfy.fr k_th hrc.1.1 x1490 f1490 (by decide +kernel)
    have hsy := hsy.fr k_th x1490 f1490 (by decide +kernel)
    have hty := hty.fr x1490 hHo f1490 (by decide +kernel)
    have hcy := hcy.fr x1490 f1490 (by decide +kernel)
    have hry := hry.fr hHo x1490 f1490 (by decide +kernel)
    have hci := hci.fr x1490 f1490 (by decide +kernel)
    have h3 := (f1490.2 th 12 k_th 3 rfl).trans h3
    have hl := (f1490.2 rd 7 k_rd 1 rfl).trans hl
    have hm := (f1490.2 am 13 k_am 5 rfl).trans hm
    have hp := (f1490.2 th 12 k_th 2 rfl).trans hp
    have hg := (f1490.2 am 13 k_am 3 rfl).trans hg
    have htC := htC.fr k_rd x1490 f1490 (by decide +kernel)
    have htM := htM.fr k_am x1490 f1490 (by decide +kernel)
    have hrc := hrc.fr k_th x1490 f1490 (by decide +kernel)
    have hrm := hrm.fr k_am x1490 f1490 (by decide +kernel)
    have ho := (f1490.2 out 31 k_out 0 rfl).trans ho
    have k_th := x1490 _ _ k_th
    have k_am := x1490 _ _ k_am
    have k_out := x1490 _ _ k_out
    have k_rd := x1490 _ _ k_rd
    rcases hQ with ⟨dx, ev2, ht⟩ | ⟨k1, ⟨⟨ek1, hk1, hm1⟩, hl1⟩, ev2, ht⟩
    · exact absurd (show _ ∧ _ ∧ _ from ⟨by rw [ek0, hs_nint (by omega)]; omega, by rw [ek0, hs_nint (by omega)]; omega, hl0⟩) dx
    · obtain rfl : k0 = k1 := (hs_neq (by omega) (by omega)).mp (ek0.symm.trans ek1)
      cases ev2
      have hzy : zy K1490 G1490 th s0 s1 aw ai (cn 4) (im 4) := ⟨ya_, yb_, O_, A_, V_, ⟨zk_, zka_, zki_⟩, zz_, zo_, zm_, zi_⟩
      show et_go _ _ 1000 1493 [some (.ref 150), some (.ref th), some (.ref am), some (.ref out), some (.int (Int32.ofNat i)), some (.int (Int32.ofNat 0)), x6] [.int (Int32.ofNat (if k0 ≤ nyE V_ (f (i + 2)) (cn 4) then 1 else 0))] _ ((ck + c1472) + c1490) ((sk + s1472) + s1490) _
      refine ls_istore (i := 6) (p := 1495) (by decide +kernel) (Nat.le_of_ble_eq_true rfl) ?_
      refine ls_goto (p := 1656) (by decide +kernel) ?_
      exact hN _ _ c h _ _ _ _ _ _ ⟨⟨hH, hci, k_th, k_am, k_out, h3, k_rd, hl, hm, hc⟩, ⟨hh1, hp, hg⟩, hrc, hrm, hbc, hbi, ⟨hry, hcy, hty, hzy, hsy, hfy⟩, _, htC, htM, htb⟩ (by omega) (by omega)
set_option maxHeartbeats 2000000 in
theorem lw_c33 (hI : lw_I K G th am out rd s0 s1 aw ai tp ba na tm c h cn im) (hi : i + 6 ≤ n) (hn : n ≤ 3072) (hN : ∀ (K' : et_K) (G' : eg_G) (c' h' : Nat) (cn' im' : Nat → Nat) (ck' sk' : Nat) (y5 y6 : Option Value), lw_I K' G' th am out rd s0 s1 aw ai tp ba na tm c' h' cn' im' → ck' ≤ ck + 841 → sk' ≤ sk + 7168 → et_go (some (n, f)) (d + 41) 1000 1656 [some (.ref 150), some (.ref th), some (.ref am), some (.ref out), some (.int (Int32.ofNat i)), y5, y6] [] G' ck' sk' Z) : et_go (some (n, f)) (d + 41) 1000 1498 [some (.ref 150), some (.ref th), some (.ref am), some (.ref out), some (.int (Int32.ofNat i)), x5, x6] [] G ck sk Z := by
  obtain ⟨⟨hH, hci, k_th, k_am, k_out, h3, k_rd, hl, hm, hc⟩, ⟨hh1, hp, hg⟩, hrc, hrm, hbc, hbi, ⟨hry, hcy, hty, hzy, hsy, hfy⟩, tb, htC, htM, htb⟩ := hI
  refine ls_aload (i := 1) (p := 1499) (by decide +kernel) rfl ?_
  refine lt_callv (T := et_TT) (t := 12) (mi := 123) (na := 0) (ci := 10) (lk := 7) (lm := 4) (L0 := eg_en (eg_mL 123) [.ref th]) (by decide +kernel) rfl hH k_th rfl rfl rfl rfl rfl (by rw [show eg_mL 123 = 4 from by decide +kernel]; first | done | rfl) ?_
  have hHo := hH
  have b4 : cn 4 ≤ 3 := Int.ofNat_le.mp (hf_bd (t := 10) hH hrc.1.1 rfl rfl (hrc.2.2 (5, 4) (by decide)).1 (hbc 4))
  have b3 : cn 3 ≤ 20 := Int.ofNat_le.mp (hf_bd (t := 10) hH hrc.1.1 rfl rfl (hrc.2.2 (2, 3) (by decide)).1 (hbc 3))
  obtain ⟨la0, ya0, la1, ya1, X_, X2_, Y_, Y2_, tk_, bk_, ⟨hcc_, hcr_⟩, hcd_, hcs_⟩ := id hcy
  obtain ⟨ya_, yb_, O_, A_, V_, ⟨zk_, zka_, zki_⟩, zz_, zo_, zm_, zi_⟩ := hzy
  refine ((ek_p123_ok (K, [], G) [.ref th] _ hH (by omega) rfl (ht_ac (.inr ⟨by decide, _, rfl, k_th⟩) ht_an)).and ((fc_layer k_th hrc.2.1.1 hH hrc.1.1 (hrc.2.2 (5, 4) (by decide)).1 b4 zk_ zz_ zo_ (hrc.2.2 (2, 3) (by decide)).1 b3 hcc_ tk_.2.1.1 tk_.2.1.2.1 (by omega)).mono (fun u (hu : u = _) => (by rw [hu] : u.1 = .inl (some (.int (lyV V_ X_ Y_ (cn 4) (cn 3)))))))).mono (fun u hu => ls_cbvQ (Q := fun u => u.1 = .inl (some (.int (lyV V_ X_ Y_ (cn 4) (cn 3))))) hu (fun v1499 K1499 G1499 c1499 s1499 x1499 f1499 hH hv1499 cl1499 sl1499 hQ => ?_))
  have zz_ := zz_.fr zk_ k_th hrc.1.1 hrc.1.2.1 f1499 (by decide +kernel)
  have zm_ := zm_.fr (fun n hn => zo_ n (by omega)) zka_ f1499 (by decide +kernel)
  have zi_ := zi_.fr (fun n hn => zo_ (3 + n) (by omega)) zki_ f1499 (by decide +kernel)
  have zk_ := zk_.ex x1499
  have zka_ := x1499 _ _ zka_
  have zki_ := x1499 _ _ zki_
  have hcr_ := hcr_.fr bk_.1 tk_.2.2.1.1 f1499 (by decide +kernel)
  have hfy := hfy.fr k_th hrc.1.1 x1499 f1499 (by decide +kernel)
  have hsy := hsy.fr k_th x1499 f1499 (by decide +kernel)
  have hty := hty.fr x1499 hHo f1499 (by decide +kernel)
  have hcy := hcy.fr x1499 f1499 (by decide +kernel)
  have hry := hry.fr hHo x1499 f1499 (by decide +kernel)
  have hci := hci.fr x1499 f1499 (by decide +kernel)
  have h3 := (f1499.2 th 12 k_th 3 rfl).trans h3
  have hl := (f1499.2 rd 7 k_rd 1 rfl).trans hl
  have hm := (f1499.2 am 13 k_am 5 rfl).trans hm
  have hp := (f1499.2 th 12 k_th 2 rfl).trans hp
  have hg := (f1499.2 am 13 k_am 3 rfl).trans hg
  have htC := htC.fr k_rd x1499 f1499 (by decide +kernel)
  have htM := htM.fr k_am x1499 f1499 (by decide +kernel)
  have hrc := hrc.fr k_th x1499 f1499 (by decide +kernel)
  have hrm := hrm.fr k_am x1499 f1499 (by decide +kernel)
  have k_th := x1499 _ _ k_th
  have k_am := x1499 _ _ k_am
  have k_out := x1499 _ _ k_out
  have k_rd := x1499 _ _ k_rd
  have hQ : (Sum.inl (some v1499) : eg_R) = .inl (some (.int (lyV V_ X_ Y_ (cn 4) (cn 3)))) := hQ
  cases hQ
  show et_go _ _ 1000 1502 [some (.ref 150), some (.ref th), some (.ref am), some (.ref out), some (.int (Int32.ofNat i)), x5, x6] [.int (lyV V_ X_ Y_ (cn 4) (cn 3))] _ (ck + c1499) (sk + s1499) _
  refine ls_pop (p := 1503) (by decide +kernel) ?_
  refine ls_aload (i := 2) (p := 1504) (by decide +kernel) rfl ?_
  refine lt_callv (T := et_TT) (t := 13) (mi := 287) (na := 0) (ci := 11) (lk := 7) (lm := 4) (L0 := eg_en (eg_mL 287) [.ref am]) (by decide +kernel) rfl hH k_am rfl rfl rfl rfl rfl (by rw [show eg_mL 287 = 4 from by decide +kernel]; first | done | rfl) ?_
  have hHo := hH
  refine ((er_p287_ok (K1499, [], G1499) [.ref am] _ hH (by omega) rfl (ht_ac (.inr ⟨by decide, _, rfl, k_am⟩) ht_an)).and (fn_layer hH k_am hrm.1.1 hrm.2.1.1 (hrm.2.2 (5, 4) (by decide)).1 b4 zm_ (fun n hn => zo_ n (by omega)) (hrm.2.2 (2, 3) (by decide)).1 b3 hcr_ (by omega))).mono (fun u hu => ls_cbvQ (Q := fun u => u.1 = .inl (some (.int (lyV V_ X_ Y_ (cn 4) (cn 3)))) ∧ et_pl (eg_at u.2.1 am) 0 = some (.int (Int32.ofNat 0))) hu (fun v1504 K1504 G1504 c1504 s1504 x1504 f1504 hH hv1504 cl1504 sl1504 hQ => ?_))
  have zi_ := zi_.fr (fun n hn => zo_ (3 + n) (by omega)) zki_ f1504 (by decide +kernel)
  have zz_ := zz_.fr zk_ k_th hrc.1.1 hrc.1.2.1 f1504 (by decide +kernel)
  have zm_ := zm_.fr (fun n hn => zo_ n (by omega)) zka_ f1504 (by decide +kernel)
  have zk_ := zk_.ex x1504
  have zka_ := x1504 _ _ zka_
  have zki_ := x1504 _ _ zki_
  have hzy : zy K1504 G1504 th s0 s1 aw ai (cn 4) (im 4) := ⟨ya_, yb_, O_, A_, V_, ⟨zk_, zka_, zki_⟩, zz_, zo_, zm_, zi_⟩
  have hfy := hfy.fr k_th hrc.1.1 x1504 f1504 (by decide +kernel)
  have hsy := hsy.fr k_th x1504 f1504 (by decide +kernel)
  have hty := hty.fr x1504 hHo f1504 (by decide +kernel)
  have hcy := hcy.fr x1504 f1504 (by decide +kernel)
  have hry := hry.fr hHo x1504 f1504 (by decide +kernel)
  have hci := hci.fr x1504 f1504 (by decide +kernel)
  have h3 := (f1504.2 th 12 k_th 3 rfl).trans h3
  have hl := (f1504.2 rd 7 k_rd 1 rfl).trans hl
  have hm := (f1504.2 am 13 k_am 5 rfl).trans hm
  have hp := (f1504.2 th 12 k_th 2 rfl).trans hp
  have hg := (f1504.2 am 13 k_am 3 rfl).trans hg
  have htC := htC.fr k_rd x1504 f1504 (by decide +kernel)
  have htM := htM.fr k_am x1504 f1504 (by decide +kernel)
  have hrc := hrc.fr k_th x1504 f1504 (by decide +kernel)
  have hrm := hrm.fr k_am x1504 f1504 (by decide +kernel)
  have k_th := x1504 _ _ k_th
  have k_am := x1504 _ _ k_am
  have k_out := x1504 _ _ k_out
  have k_rd := x1504 _ _ k_rd
  obtain ⟨ev2, ht⟩ := hQ
  have ev2 : (Sum.inl (some v1504) : eg_R) = .inl (some (.int (lyV V_ X_ Y_ (cn 4) (cn 3)))) := ev2
  cases ev2
  show et_go _ _ 1000 1507 [some (.ref 150), some (.ref th), some (.ref am), some (.ref out), some (.int (Int32.ofNat i)), x5, x6] [.int (lyV V_ X_ Y_ (cn 4) (cn 3))] _ ((ck + c1499) + c1504) ((sk + s1499) + s1504) _
  refine ls_pop (p := 1508) (by decide +kernel) ?_
  refine ls_goto (p := 1656) (by decide +kernel) ?_
  exact hN _ _ c h _ _ _ _ _ _ ⟨⟨hH, hci, k_th, k_am, k_out, h3, k_rd, hl, hm, hc⟩, ⟨hh1, hp, hg⟩, hrc, hrm, hbc, hbi, ⟨hry, hcy, hty, hzy, hsy, hfy⟩, _, htC, htM, htb⟩ (by omega) (by omega)
set_option maxHeartbeats 2000000 in
theorem lw_c34 (hI : lw_I K G th am out rd s0 s1 aw ai tp ba na tm c h cn im) (hi : i + 6 ≤ n) (hn : n ≤ 3072) (hN : ∀ (K' : et_K) (G' : eg_G) (c' h' : Nat) (cn' im' : Nat → Nat) (ck' sk' : Nat) (y5 y6 : Option Value), lw_I K' G' th am out rd s0 s1 aw ai tp ba na tm c' h' cn' im' → ck' ≤ ck + 841 → sk' ≤ sk + 7168 → et_go (some (n, f)) (d + 41) 1000 1656 [some (.ref 150), some (.ref th), some (.ref am), some (.ref out), some (.int (Int32.ofNat i)), y5, y6] [] G' ck' sk' Z) : et_go (some (n, f)) (d + 41) 1000 1511 [some (.ref 150), some (.ref th), some (.ref am), some (.ref out), some (.int (Int32.ofNat i)), x5, x6] [] G ck sk Z := by
  obtain ⟨⟨hH, hci, k_th, k_am, k_out, h3, k_rd, hl, hm, hc⟩, ⟨hh1, hp, hg⟩, hrc, hrm, hbc, hbi, ⟨hry, hcy, hty, hzy, hsy, hfy⟩, tb, htC, htM, htb⟩ := hI
  refine ls_aload (i := 1) (p := 1512) (by decide +kernel) rfl ?_
  refine ls_arg (j := 1) (by decide +kernel) (by omega) hn ?_
  refine ls_arg (j := 2) (by decide +kernel) (by omega) hn ?_
  refine ls_arg (j := 3) (by decide +kernel) (by omega) hn ?_
  refine ls_bool (by decide +kernel) (fun b1530 hb1530 hbe1530 => ?_)
  refine ls_aload (i := 3) (p := 1539) (by decide +kernel) rfl ?_
  refine ls_calls (mi := 28) (na := 5) (lk := 7) (lm := 6) (L0 := eg_en (eg_mL 28) [.ref th, .int (f (i + 1)), .int (f (i + 2)), .int (Int32.ofNat b1530), .ref out]) (by decide +kernel) rfl rfl rfl rfl rfl rfl (by rw [show eg_mL 28 = 6 from by decide +kernel]; first | done | rfl) ?_
  have hHo := hH
  have b4 : cn 4 ≤ 3 := Int.ofNat_le.mp (hf_bd (t := 10) hH hrc.1.1 rfl rfl (hrc.2.2 (5, 4) (by decide)).1 (hbc 4))
  obtain ⟨ya_, yb_, O_, A_, V_, ⟨zk_, zka_, zki_⟩, zz_, zo_, zm_, zi_⟩ := hzy
  have zz9 := zz_
  have hfy9 := hfy
  have ks9 := hrc.1.1
  have kt9 := k_th
  have ko9 := k_out
  refine ((hh_c28 (K, [], G) [.ref th, .int (f (i + 1)), .int (f (i + 2)), .int (Int32.ofNat b1530), .ref out] _ hH (by omega) rfl (ht_ac (.inr ⟨by decide, _, rfl, k_th⟩) (ht_ac hi_any (ht_ac hi_any (ht_ac (hi_nv (by omega) (by omega)) (ht_ac (.inr ⟨by decide, _, rfl, k_out⟩) ht_an)))))).and (fz_readF hH k_th hrc.2.1.1 hrc.1.1 hrc.1.2.1 (hrc.2.2 (5, 4) (by decide)).1 b4 zk_ zz_ zo_ k_out (by omega) (by omega))).mono (fun u hu => ls_cbvQ (Q := fun u => et_pl (eg_at u.2.1 th) 6 = some (.int (-1)) ∨ u.2.1 = G) hu (fun v1539 K1539 G1539 c1539 s1539 x1539 f1539 hH hv1539 cl1539 sl1539 hQ => ?_))
  have zz_ := zz_.fr zk_ k_th hrc.1.1 hrc.1.2.1 f1539 (by decide +kernel)
  have zm_ := zm_.fr (fun n hn => zo_ n (by omega)) zka_ f1539 (by decide +kernel)
  have zi_ := zi_.fr (fun n hn => zo_ (3 + n) (by omega)) zki_ f1539 (by decide +kernel)
  have zk_ := zk_.ex x1539
  have zka_ := x1539 _ _ zka_
  have zki_ := x1539 _ _ zki_
  have hzy : zy K1539 G1539 th s0 s1 aw ai (cn 4) (im 4) := ⟨ya_, yb_, O_, A_, V_, ⟨zk_, zka_, zki_⟩, zz_, zo_, zm_, zi_⟩
  have hsy := hsy.fr k_th x1539 f1539 (by decide +kernel)
  have hty := hty.fr x1539 hHo f1539 (by decide +kernel)
  have hcy := hcy.fr x1539 f1539 (by decide +kernel)
  have hry := hry.fr hHo x1539 f1539 (by decide +kernel)
  have hci := hci.fr x1539 f1539 (by decide +kernel)
  have h3 := (f1539.2 th 12 k_th 3 rfl).trans h3
  have hl := (f1539.2 rd 7 k_rd 1 rfl).trans hl
  have hm := (f1539.2 am 13 k_am 5 rfl).trans hm
  have hp := (f1539.2 th 12 k_th 2 rfl).trans hp
  have hg := (f1539.2 am 13 k_am 3 rfl).trans hg
  have htC := htC.fr k_rd x1539 f1539 (by decide +kernel)
  have htM := htM.fr k_am x1539 f1539 (by decide +kernel)
  have hrc := hrc.fr k_th x1539 f1539 (by decide +kernel)
  have hrm := hrm.fr k_am x1539 f1539 (by decide +kernel)
  have k_th := x1539 _ _ k_th
  have k_am := x1539 _ _ k_am
  have k_out := x1539 _ _ k_out
  have k_rd := x1539 _ _ k_rd
  have hfy : fyR K1539 G1539 th s0 (cn 3) := by
    rcases (show et_pl (eg_at G1539 th) 6 = some (.int (-1)) ∨ G1539 = G from hQ) with h9 | h9
    · exact .inl h9
    · rw [h9]; exact hfy9.ex x1539
  obtain ⟨v1539, rfl, -⟩ := hv1539
  show et_go _ _ 1000 1542 [some (.ref 150), some (.ref th), some (.ref am), some (.ref out), some (.int (Int32.ofNat i)), x5, x6] [.int v1539] _ (ck + c1539) (sk + s1539) _
  refine ls_istore (i := 5) (p := 1544) (by decide +kernel) (Nat.le_of_ble_eq_true rfl) ?_
  refine ls_aload (i := 2) (p := 1545) (by decide +kernel) rfl ?_
  refine ls_arg (j := 1) (by decide +kernel) (by omega) hn ?_
  refine ls_arg (j := 2) (by decide +kernel) (by omega) hn ?_
  refine ls_arg (j := 3) (by decide +kernel) (by omega) hn ?_
  refine ls_bool (by decide +kernel) (fun b1563 hb1563 hbe1563 => ?_)
  refine lt_callv (T := et_TT) (t := 13) (mi := 288) (na := 3) (ci := 11) (lk := 7) (lm := 8) (L0 := eg_en (eg_mL 288) [.ref am, .int (f (i + 1)), .int (f (i + 2)), .int (Int32.ofNat b1563)]) (by decide +kernel) rfl hH k_am rfl rfl rfl rfl rfl (by rw [show eg_mL 288 = 8 from by decide +kernel]; first | done | rfl) ?_
  have hHo := hH
  refine (er_p288_ok (K1539, [], G1539) [.ref am, .int (f (i + 1)), .int (f (i + 2)), .int (Int32.ofNat b1563)] _ hH (by omega) rfl (ht_ac (.inr ⟨by decide, _, rfl, k_am⟩) (ht_ac hi_any (ht_ac hi_any (ht_ac (hi_nv (by omega) (by omega)) ht_an))))).mono (fun u hu => ls_cbv hu (fun v1571 K1571 G1571 c1571 s1571 x1571 f1571 hH hv1571 cl1571 sl1571 => ?_))
  have hfy := hfy.fr k_th hrc.1.1 x1571 f1571 (by decide +kernel)
  have hsy := hsy.fr k_th x1571 f1571 (by decide +kernel)
  have hzy := hzy.fr k_th hrc.1.1 hrc.1.2.1 x1571 f1571 (by decide +kernel)
  have hty := hty.fr x1571 hHo f1571 (by decide +kernel)
  have hcy := hcy.fr x1571 f1571 (by decide +kernel)
  have hry := hry.fr hHo x1571 f1571 (by decide +kernel)
  have hci := hci.fr x1571 f1571 (by decide +kernel)
  have h3 := (f1571.2 th 12 k_th 3 rfl).trans h3
  have hl := (f1571.2 rd 7 k_rd 1 rfl).trans hl
  have hm := (f1571.2 am 13 k_am 5 rfl).trans hm
  have hp := (f1571.2 th 12 k_th 2 rfl).trans hp
  have hg := (f1571.2 am 13 k_am 3 rfl).trans hg
  have htC := htC.fr k_rd x1571 f1571 (by decide +kernel)
  have htM := htM.fr k_am x1571 f1571 (by decide +kernel)
  have hrc := hrc.fr k_th x1571 f1571 (by decide +kernel)
  have hrm := hrm.fr k_am x1571 f1571 (by decide +kernel)
  have k_th := x1571 _ _ k_th
  have k_am := x1571 _ _ k_am
  have k_out := x1571 _ _ k_out
  have k_rd := x1571 _ _ k_rd
  obtain ⟨v1571, rfl, -⟩ := hv1571
  show et_go _ _ 1000 1574 [some (.ref 150), some (.ref th), some (.ref am), some (.ref out), some (.int (Int32.ofNat i)), some (.int v1539), x6] [.int v1571] _ ((ck + c1539) + c1571) ((sk + s1539) + s1571) _
  refine ls_istore (i := 6) (p := 1576) (by decide +kernel) (Nat.le_of_ble_eq_true rfl) ?_
  refine ls_goto (p := 1656) (by decide +kernel) ?_
  exact hN _ _ c h _ _ _ _ _ _ ⟨⟨hH, hci, k_th, k_am, k_out, h3, k_rd, hl, hm, hc⟩, ⟨hh1, hp, hg⟩, hrc, hrm, hbc, hbi, ⟨hry, hcy, hty, hzy, hsy, hfy⟩, _, htC, htM, htb⟩ (by omega) (by omega)
set_option maxHeartbeats 2000000 in
theorem lw_c35 (hI : lw_I K G th am out rd s0 s1 aw ai tp ba na tm c h cn im) (hi : i + 6 ≤ n) (hn : n ≤ 3072) (hN : ∀ (K' : et_K) (G' : eg_G) (c' h' : Nat) (cn' im' : Nat → Nat) (ck' sk' : Nat) (y5 y6 : Option Value), lw_I K' G' th am out rd s0 s1 aw ai tp ba na tm c' h' cn' im' → ck' ≤ ck + 841 → sk' ≤ sk + 7168 → et_go (some (n, f)) (d + 41) 1000 1656 [some (.ref 150), some (.ref th), some (.ref am), some (.ref out), some (.int (Int32.ofNat i)), y5, y6] [] G' ck' sk' Z) : et_go (some (n, f)) (d + 41) 1000 1579 [some (.ref 150), some (.ref th), some (.ref am), some (.ref out), some (.int (Int32.ofNat i)), x5, x6] [] G ck sk Z := by
  obtain ⟨⟨hH, hci, k_th, k_am, k_out, h3, k_rd, hl, hm, hc⟩, ⟨hh1, hp, hg⟩, hrc, hrm, hbc, hbi, ⟨hry, hcy, hty, hzy, hsy, hfy⟩, tb, htC, htM, htb⟩ := hI
  refine ls_aload (i := 1) (p := 1580) (by decide +kernel) rfl ?_
  refine ls_arg (j := 1) (by decide +kernel) (by omega) hn ?_
  refine ls_aload (i := 3) (p := 1587) (by decide +kernel) rfl ?_
  refine ls_calls (mi := 29) (na := 3) (lk := 7) (lm := 4) (L0 := eg_en (eg_mL 29) [.ref th, .int (f (i + 1)), .ref out]) (by decide +kernel) rfl rfl rfl rfl rfl rfl (by rw [show eg_mL 29 = 4 from by decide +kernel]; first | done | rfl) ?_
  have hHo := hH
  obtain ⟨D_, φ_, R0_, R1_, r0_, r1_, fo_, t_, kk_, hx_, ho_⟩ := hry
  refine ((hh_c29 (K, [], G) [.ref th, .int (f (i + 1)), .ref out] _ hH (by omega) rfl (ht_ac (.inr ⟨by decide, _, rfl, k_th⟩) (ht_ac hi_any (ht_ac (.inr ⟨by decide, _, rfl, k_out⟩) ht_an)))).and (fh_29 t_ hH k_out hx_ (by omega))).mono (fun u hu => ls_cbvQ (Q := fun u => rx D_ φ_ th s0 r0_ (cn 0) fo_ u.2.1) hu (fun v1587 K1587 G1587 c1587 s1587 x1587 f1587 hH hv1587 cl1587 sl1587 hQ => ?_))
  have hry : ry K1587 G1587 th s0 s1 aw ai (cn 0) (im 0) := ⟨D_, φ_, R0_, R1_, r0_, r1_, fo_, t_.ex x1587, kk_.ex x1587, hQ, ho_.fr kk_ f1587 (by decide +kernel)⟩
  have hfy := hfy.fr k_th hrc.1.1 x1587 f1587 (by decide +kernel)
  have hsy := hsy.fr k_th x1587 f1587 (by decide +kernel)
  have hzy := hzy.fr k_th hrc.1.1 hrc.1.2.1 x1587 f1587 (by decide +kernel)
  have hty := hty.fr x1587 hHo f1587 (by decide +kernel)
  have hcy := hcy.fr x1587 f1587 (by decide +kernel)
  have hci := hci.fr x1587 f1587 (by decide +kernel)
  have h3 := (f1587.2 th 12 k_th 3 rfl).trans h3
  have hl := (f1587.2 rd 7 k_rd 1 rfl).trans hl
  have hm := (f1587.2 am 13 k_am 5 rfl).trans hm
  have hp := (f1587.2 th 12 k_th 2 rfl).trans hp
  have hg := (f1587.2 am 13 k_am 3 rfl).trans hg
  have htC := htC.fr k_rd x1587 f1587 (by decide +kernel)
  have htM := htM.fr k_am x1587 f1587 (by decide +kernel)
  have hrc := hrc.fr k_th x1587 f1587 (by decide +kernel)
  have hrm := hrm.fr k_am x1587 f1587 (by decide +kernel)
  have k_th := x1587 _ _ k_th
  have k_am := x1587 _ _ k_am
  have k_out := x1587 _ _ k_out
  have k_rd := x1587 _ _ k_rd
  obtain ⟨v1587, rfl, -⟩ := hv1587
  show et_go _ _ 1000 1590 [some (.ref 150), some (.ref th), some (.ref am), some (.ref out), some (.int (Int32.ofNat i)), x5, x6] [.int v1587] _ (ck + c1587) (sk + s1587) _
  refine ls_istore (i := 5) (p := 1592) (by decide +kernel) (Nat.le_of_ble_eq_true rfl) ?_
  refine ls_aload (i := 2) (p := 1593) (by decide +kernel) rfl ?_
  refine ls_arg (j := 1) (by decide +kernel) (by omega) hn ?_
  refine lt_callv (T := et_TT) (t := 13) (mi := 291) (na := 1) (ci := 11) (lk := 7) (lm := 2) (L0 := eg_en (eg_mL 291) [.ref am, .int (f (i + 1))]) (by decide +kernel) rfl hH k_am rfl rfl rfl rfl rfl (by rw [show eg_mL 291 = 2 from by decide +kernel]; first | done | rfl) ?_
  have hHo := hH
  refine (er_p291_ok (K1587, [], G1587) [.ref am, .int (f (i + 1))] _ hH (by omega) rfl (ht_ac (.inr ⟨by decide, _, rfl, k_am⟩) (ht_ac hi_any ht_an))).mono (fun u hu => ls_cbv hu (fun v1599 K1599 G1599 c1599 s1599 x1599 f1599 hH hv1599 cl1599 sl1599 => ?_))
  have hfy := hfy.fr k_th hrc.1.1 x1599 f1599 (by decide +kernel)
  have hsy := hsy.fr k_th x1599 f1599 (by decide +kernel)
  have hzy := hzy.fr k_th hrc.1.1 hrc.1.2.1 x1599 f1599 (by decide +kernel)
  have hty := hty.fr x1599 hHo f1599 (by decide +kernel)
  have hcy := hcy.fr x1599 f1599 (by decide +kernel)
  have hry := hry.fr hHo x1599 f1599 (by decide +kernel)
  have hci := hci.fr x1599 f1599 (by decide +kernel)
  have h3 := (f1599.2 th 12 k_th 3 rfl).trans h3
  have hl := (f1599.2 rd 7 k_rd 1 rfl).trans hl
  have hm := (f1599.2 am 13 k_am 5 rfl).trans hm
  have hp := (f1599.2 th 12 k_th 2 rfl).trans hp
  have hg := (f1599.2 am 13 k_am 3 rfl).trans hg
  have htC := htC.fr k_rd x1599 f1599 (by decide +kernel)
  have htM := htM.fr k_am x1599 f1599 (by decide +kernel)
  have hrc := hrc.fr k_th x1599 f1599 (by decide +kernel)
  have hrm := hrm.fr k_am x1599 f1599 (by decide +kernel)
  have k_th := x1599 _ _ k_th
  have k_am := x1599 _ _ k_am
  have k_out := x1599 _ _ k_out
  have k_rd := x1599 _ _ k_rd
  obtain ⟨v1599, rfl, -⟩ := hv1599
  show et_go _ _ 1000 1602 [some (.ref 150), some (.ref th), some (.ref am), some (.ref out), some (.int (Int32.ofNat i)), some (.int v1587), x6] [.int v1599] _ ((ck + c1587) + c1599) ((sk + s1587) + s1599) _
  refine ls_istore (i := 6) (p := 1604) (by decide +kernel) (Nat.le_of_ble_eq_true rfl) ?_
  refine ls_goto (p := 1656) (by decide +kernel) ?_
  exact hN _ _ c h _ _ _ _ _ _ ⟨⟨hH, hci, k_th, k_am, k_out, h3, k_rd, hl, hm, hc⟩, ⟨hh1, hp, hg⟩, hrc, hrm, hbc, hbi, ⟨hry, hcy, hty, hzy, hsy, hfy⟩, _, htC, htM, htb⟩ (by omega) (by omega)
set_option maxHeartbeats 2000000 in
theorem lw_c36 (hI : lw_I K G th am out rd s0 s1 aw ai tp ba na tm c h cn im) (hi : i + 6 ≤ n) (hn : n ≤ 3072) (hN : ∀ (K' : et_K) (G' : eg_G) (c' h' : Nat) (cn' im' : Nat → Nat) (ck' sk' : Nat) (y5 y6 : Option Value), lw_I K' G' th am out rd s0 s1 aw ai tp ba na tm c' h' cn' im' → ck' ≤ ck + 841 → sk' ≤ sk + 7168 → et_go (some (n, f)) (d + 41) 1000 1656 [some (.ref 150), some (.ref th), some (.ref am), some (.ref out), some (.int (Int32.ofNat i)), y5, y6] [] G' ck' sk' Z) : et_go (some (n, f)) (d + 41) 1000 1607 [some (.ref 150), some (.ref th), some (.ref am), some (.ref out), some (.int (Int32.ofNat i)), x5, x6] [] G ck sk Z := by
  obtain ⟨⟨hH, hci, k_th, k_am, k_out, h3, k_rd, hl, hm, hc⟩, ⟨hh1, hp, hg⟩, hrc, hrm, hbc, hbi, ⟨hry, hcy, hty, hzy, hsy, hfy⟩, tb, htC, htM, htb⟩ := hI
  refine ls_aload (i := 1) (p := 1608) (by decide +kernel) rfl ?_
  refine lt_callv (T := et_TT) (t := 12) (mi := 124) (na := 0) (ci := 10) (lk := 7) (lm := 1) (L0 := eg_en (eg_mL 124) [.ref th]) (by decide +kernel) rfl hH k_th rfl rfl rfl rfl rfl (by rw [show eg_mL 124 = 1 from by decide +kernel]; first | done | rfl) ?_
  have hHo := hH
  obtain ⟨t0, t1, ra0, ca0, rc0, ec0, cc0, ra1, ca1, rc1, ec1, cc1, hC⟩ := id hci
  obtain rfl : s0 = t0 := Value.ref.inj (Option.some.inj (hrc.2.1.1.symm.trans hC.2.1.1))
  obtain rfl : s1 = t1 := Value.ref.inj (Option.some.inj (hrc.2.1.2.symm.trans hC.2.1.2))
  have ee0 : ec0 = cn 4 := xi_inj (by have := hC.2.2.2.1.2.2.2.1.2.1; omega) (by have := hbc 4; omega) (hC.2.2.2.1.2.2.1.2.1.symm.trans (hrc.2.2 (5, 4) (by decide)).1)
  have ee1 : ec1 = im 4 := xi_inj (by have := hC.2.2.2.2.2.2.2.1.2.1; omega) (by have := hbi 4; omega) (hC.2.2.2.2.2.2.1.2.1.symm.trans (hrc.2.2 (5, 4) (by decide)).2)
  have hry0 := hry
  have hcy0 := hcy
  obtain ⟨la0, ya0, la1, ya1, X_, X2_, Y_, Y2_, tk_, bk_, hcc_, hcd_⟩ := id hcy
  have hty0 := hty
  obtain ⟨t0_, t1_, T0_, T1_, L0_, L1_, tK_, ⟨tp0_, tp1_⟩, ⟨tc_, ti_⟩, ⟨tE_, tX_⟩, tF_, tY_⟩ := id hty
  obtain ⟨ya_, yb_, O_, A_, V_, ⟨zk_, zka_, zki_⟩, zz_, zo_, zm_, zi_⟩ := hzy
  have zz9 := zz_
  have hfy9 := hfy
  have ks9 := hrc.1.1
  have kt9 := k_th
  have ko9 := k_out
  have b0 : cn 0 ≤ 4 := Int.ofNat_le.mp (hf_bd (t := 10) hH hrc.1.1 rfl rfl (hrc.2.2 (0, 0) (by decide)).1 (hbc 0))
  have b1 : cn 1 ≤ 4 := Int.ofNat_le.mp (hf_bd (t := 10) hH hrc.1.1 rfl rfl (hrc.2.2 (7, 1) (by decide)).1 (hbc 1))
  have b2 : cn 2 ≤ 6 := Int.ofNat_le.mp (hf_bd (t := 10) hH hrc.1.1 rfl rfl (hrc.2.2 (9, 2) (by decide)).1 (hbc 2))
  have b3 : cn 3 ≤ 20 := Int.ofNat_le.mp (hf_bd (t := 10) hH hrc.1.1 rfl rfl (hrc.2.2 (2, 3) (by decide)).1 (hbc 3))
  have b4 : cn 4 ≤ 3 := Int.ofNat_le.mp (hf_bd (t := 10) hH hrc.1.1 rfl rfl (hrc.2.2 (5, 4) (by decide)).1 (hbc 4))
  refine ((hc_imageX hH hci (by omega)).and ((fc_imageN hH hC ⟨b0, b3, b4, b1, b2⟩ (hrc.2.2 (0, 0) (by decide)).1 (hrc.2.2 (2, 3) (by decide)).1 (hrc.2.2 (5, 4) (by decide)).1 (hrc.2.2 (7, 1) (by decide)).1 (hrc.2.2 (9, 2) (by decide)).1 (by omega)).and ((fc_imageR hH hC (by omega)).and ((fc_imageC hH hC hcc_.1.1.1 hcc_.1.1.2 hcd_.1.1.1 hcd_.1.1.2 tk_.2.1.1 tk_.2.1.2.1 tk_.2.1.2.2.1 tk_.2.1.2.2.2 tk_.2.2.2.1 tk_.2.2.2.2 (by omega)).and ((fc_imageT hH hC tp0_ tp1_ tK_.1.2.2.1 tK_.1.2.2.2 tK_.2.2.1 (by omega)).and ((fc_imageZ hH hC zk_ zz_ zo_ (by omega)).and (fq_124 hH k_th (by omega)))))))).mono (fun u hu => ls_cbwQ (Q := fun u => ph_at u.2.1 th 1 ∧ tnP s1 s0 (cn 0) (cn 3) (cn 4) (cn 1) (cn 2) u.2.1 ∧ (∀ j, j < 4 → et_pl (eg_at u.2.1 ra0) j = et_pl (eg_at G ra0) j ∧ et_pl (eg_at u.2.1 ra1) j = et_pl (eg_at G ra0) j) ∧ (∀ j, j < 20 → (et_pl (eg_at u.2.1 la0) j = et_pl (eg_at G la0) j ∧ et_pl (eg_at u.2.1 ya0) j = et_pl (eg_at G ya0) j) ∧ (et_pl (eg_at u.2.1 la1) j = et_pl (eg_at G la0) j ∧ et_pl (eg_at u.2.1 ya1) j = et_pl (eg_at G ya0) j)) ∧ (∀ j, j < 4 → et_pl (eg_at u.2.1 t0_) j = et_pl (eg_at G t0_) j ∧ et_pl (eg_at u.2.1 t1_) j = et_pl (eg_at G t0_) j) ∧ ezc u.2.1 O_ A_ (fun k => if k < 3 then V_ k else V_ (k - 3)) ∧ (et_pl (eg_at u.2.1 th) 6 = et_pl (eg_at G th) 6 ∧ et_pl (eg_at u.2.1 th) 7 = et_pl (eg_at G th) 7)) ⟨hu.1.1, hu.1.2, hu.2⟩ (fun K1608 G1608 x1608 f1608 hH hci hQ => ?_))
  obtain ⟨hP, ⟨⟨pa0, pb0⟩, ⟨pa2, pb2⟩, ⟨pa5, pb5⟩, ⟨pa7, pb7⟩, ⟨pa9, pb9⟩⟩, hRR, hRC, hRT, hEZ, h67_⟩ := hQ
  have hcyI := hcy0.im1 x1608 f1608 (by decide +kernel) (fun a b c d _ m => by obtain rfl : a = la0 := Value.ref.inj (Option.some.inj (m.1.symm.trans hcc_.1.1.1)); obtain rfl : b = ya0 := Value.ref.inj (Option.some.inj (m.2.1.symm.trans hcc_.1.1.2)); obtain rfl : c = la1 := Value.ref.inj (Option.some.inj (m.2.2.1.symm.trans hcd_.1.1.1)); obtain rfl : d = ya1 := Value.ref.inj (Option.some.inj (m.2.2.2.symm.trans hcd_.1.1.2)); exact hRC)
  have htyI := hty0.im1 hHo x1608 f1608 (by decide +kernel) (fun a b m0 m1 _ _ _ => by obtain rfl : a = t0_ := Value.ref.inj (Option.some.inj (m0.symm.trans tp0_)); obtain rfl : b = t1_ := Value.ref.inj (Option.some.inj (m1.symm.trans tp1_)); exact hRT)
  have zz_ := zz_.img zk_ k_th hrc.1.1 hrc.1.2.1 f1608 (by decide +kernel) hEZ
  have zm_ := zm_.fr (fun n hn => zo_ n (by omega)) zka_ f1608 (by decide +kernel)
  have zi_ := zi_.fr (fun n hn => zo_ (3 + n) (by omega)) zki_ f1608 (by decide +kernel)
  have zk_ := zk_.ex x1608
  have zka_ := x1608 _ _ zka_
  have zki_ := x1608 _ _ zki_
  have hryI := hry0.im1 hHo x1608 f1608 (by decide +kernel) pb0 (fun r0 r1 h0 h1 => by obtain rfl : r0 = ra0 := Value.ref.inj (Option.some.inj (h0.symm.trans hC.2.2.2.1.2.1.1)); obtain rfl : r1 = ra1 := Value.ref.inj (Option.some.inj (h1.symm.trans hC.2.2.2.2.2.1.1)); exact hRR)
  have hrc : rc lw_ks K1608 G1608 th s0 s1 cn cn := ⟨⟨x1608 _ _ hrc.1.1, x1608 _ _ hrc.1.2.1, hrc.1.2.2⟩, ⟨(f1608.2 th 12 k_th 0 rfl).trans hrc.2.1.1, (f1608.2 th 12 k_th 1 rfl).trans hrc.2.1.2⟩, fun q hq => by simp only [lw_ks, List.mem_cons, List.not_mem_nil, or_false] at hq; rcases hq with rfl | rfl | rfl | rfl | rfl <;> first | exact ⟨pb0, pa0⟩ | exact ⟨pb7, pa7⟩ | exact ⟨pb9, pa9⟩ | exact ⟨pb2, pa2⟩ | exact ⟨pb5, pa5⟩⟩
  have hsy := hsy.fr k_th x1608 f1608 (by decide +kernel)
  have h3 := (f1608.2 th 12 k_th 3 rfl).trans h3
  have hl := (f1608.2 rd 7 k_rd 1 rfl).trans hl
  have hm := (f1608.2 am 13 k_am 5 rfl).trans hm
  have hp := hP
  have hg := (f1608.2 am 13 k_am 3 rfl).trans hg
  have htC := htC.fr k_rd x1608 f1608 (by decide +kernel)
  have htM := htM.fr k_am x1608 f1608 (by decide +kernel)
  have hrm := hrm.fr k_am x1608 f1608 (by decide +kernel)
  have k_th := x1608 _ _ k_th
  have k_am := x1608 _ _ k_am
  have k_out := x1608 _ _ k_out
  have k_rd := x1608 _ _ k_rd
  have hfy : fyR K1608 G1608 th s0 (cn 3) := hfy9.im x1608 ks9 zz9 zo_ zz_ f1608 (by decide +kernel) (fun j hj => by rcases hj with rfl | rfl | rfl; exact f1608.2 th 12 kt9 _ rfl; exact h67_.1; exact h67_.2) hcc_.1 b3 (fun j hj => ⟨(hRC j hj).1.1, (hRC j hj).1.2⟩)
  show et_go _ _ 1000 1611 [some (.ref 150), some (.ref th), some (.ref am), some (.ref out), some (.int (Int32.ofNat i)), x5, x6] [] _ ck sk _
  refine ls_aload (i := 2) (p := 1612) (by decide +kernel) rfl ?_
  refine lt_callv (T := et_TT) (t := 13) (mi := 175) (na := 0) (ci := 11) (lk := 7) (lm := 2) (L0 := eg_en (eg_mL 175) [.ref am]) (by decide +kernel) rfl hH k_am rfl rfl rfl rfl rfl (by rw [show eg_mL 175 = 2 from by decide +kernel]; first | done | rfl) ?_
  have hHo := hH
  refine ((hc_imageM (w := (K1608, [], G1608)) hH k_am).and (fm_image hH k_am hrm.2.1.1 hrm.2.1.2)).mono (fun u hu => ls_cbnQ (Q := fun u => pg_at u.2.1 am 1 ∧ ∀ k, k < 11900 → et_pl (eg_at u.2.1 aw) k = et_pl (eg_at G1608 aw) k ∧ et_pl (eg_at u.2.1 ai) k = et_pl (eg_at G1608 aw) k) ⟨hu.1.1, hu.1.2, hu.2⟩ (fun K1612 G1612 c1612 s1612 x1612 f1612 hH cl1612 sl1612 hQ => ?_))
  obtain ⟨hP, hQ⟩ := hQ
  have hry : ry K1612 G1612 th s0 s1 aw ai (cn 0) (cn 0) := hryI.im2 hHo x1612 f1612 (by decide +kernel) hQ
  have hrm : rm lw_ks K1612 G1612 am aw ai cn cn := ⟨⟨x1612 _ _ hrm.1.1, x1612 _ _ hrm.1.2⟩, ⟨(f1612.2 am 13 k_am 1 rfl).trans hrm.2.1.1, (f1612.2 am 13 k_am 2 rfl).trans hrm.2.1.2⟩, fun q hq => ⟨(hQ q.2 (lw_kl q hq)).1.trans (hrm.2.2 q hq).1, (hQ q.2 (lw_kl q hq)).2.trans (hrm.2.2 q hq).1⟩⟩
  have hcy : cy K1612 G1612 s0 s1 aw ai (cn 3) (cn 3) := hcyI.im2 x1612 f1612 (by decide +kernel) hQ
  have hty := htyI.im2 hHo x1612 f1612 (by decide +kernel) hQ
  have zz_ := zz_.fr zk_ k_th hrc.1.1 hrc.1.2.1 f1612 (by decide +kernel)
  have zk_ := zk_.ex x1612
  have zka_ := x1612 _ _ zka_
  have zki_ := x1612 _ _ zki_
  have hzy : zy K1612 G1612 th s0 s1 aw ai (cn 4) (cn 4) := zy.img (ei := im 4) ⟨zk_, zka_, zki_⟩ zz_ zo_ zm_ hQ
  have hbi := hbc
  have hfy := hfy.fr k_th hrc.1.1 x1612 f1612 (by decide +kernel)
  have hsy := hsy.fr k_th x1612 f1612 (by decide +kernel)
  have hci := hci.fr x1612 f1612 (by decide +kernel)
  have h3 := (f1612.2 th 12 k_th 3 rfl).trans h3
  have hl := (f1612.2 rd 7 k_rd 1 rfl).trans hl
  have hm := (f1612.2 am 13 k_am 5 rfl).trans hm
  have hp := (f1612.2 th 12 k_th 2 rfl).trans hp
  have hg := hP
  have htC := htC.fr k_rd x1612 f1612 (by decide +kernel)
  have htM := htM.fr k_am x1612 f1612 (by decide +kernel)
  have hrc := hrc.fr k_th x1612 f1612 (by decide +kernel)
  have k_th := x1612 _ _ k_th
  have k_am := x1612 _ _ k_am
  have k_out := x1612 _ _ k_out
  have k_rd := x1612 _ _ k_rd
  show et_go _ _ 1000 1615 [some (.ref 150), some (.ref th), some (.ref am), some (.ref out), some (.int (Int32.ofNat i)), x5, x6] [] _ (ck + c1612) (sk + s1612) _
  refine ls_goto (p := 1656) (by decide +kernel) ?_
  exact hN _ _ c 1 _ _ _ _ _ _ ⟨⟨hH, hci, k_th, k_am, k_out, h3, k_rd, hl, hm, hc⟩, ⟨(by decide), hp, hg⟩, hrc, hrm, hbc, hbi, ⟨hry, hcy, hty, hzy, hsy, hfy⟩, _, htC, htM, htb⟩ (by omega) (by omega)
set_option maxHeartbeats 2000000 in
theorem lw_c37 (hI : lw_I K G th am out rd s0 s1 aw ai tp ba na tm c h cn im) (hi : i + 6 ≤ n) (hn : n ≤ 3072) (hN : ∀ (K' : et_K) (G' : eg_G) (c' h' : Nat) (cn' im' : Nat → Nat) (ck' sk' : Nat) (y5 y6 : Option Value), lw_I K' G' th am out rd s0 s1 aw ai tp ba na tm c' h' cn' im' → ck' ≤ ck + 841 → sk' ≤ sk + 7168 → et_go (some (n, f)) (d + 41) 1000 1656 [some (.ref 150), some (.ref th), some (.ref am), some (.ref out), some (.int (Int32.ofNat i)), y5, y6] [] G' ck' sk' Z) : et_go (some (n, f)) (d + 41) 1000 1618 [some (.ref 150), some (.ref th), some (.ref am), some (.ref out), some (.int (Int32.ofNat i)), x5, x6] [] G ck sk Z := by
  obtain ⟨⟨hH, hci, k_th, k_am, k_out, h3, k_rd, hl, hm, hc⟩, ⟨hh1, hp, hg⟩, hrc, hrm, hbc, hbi, ⟨hry, hcy, hty, hzy, hsy, hfy⟩, tb, htC, htM, htb⟩ := hI
  refine ls_aload (i := 1) (p := 1619) (by decide +kernel) rfl ?_
  refine lt_callv (T := et_TT) (t := 12) (mi := 125) (na := 0) (ci := 10) (lk := 7) (lm := 1) (L0 := eg_en (eg_mL 125) [.ref th]) (by decide +kernel) rfl hH k_th rfl rfl rfl rfl rfl (by rw [show eg_mL 125 = 1 from by decide +kernel]; first | done | rfl) ?_
  have hHo := hH
  obtain ⟨t0, t1, ra0, ca0, rc0, ec0, cc0, ra1, ca1, rc1, ec1, cc1, hC⟩ := id hci
  obtain rfl : s0 = t0 := Value.ref.inj (Option.some.inj (hrc.2.1.1.symm.trans hC.2.1.1))
  obtain rfl : s1 = t1 := Value.ref.inj (Option.some.inj (hrc.2.1.2.symm.trans hC.2.1.2))
  have ee0 : ec0 = cn 4 := xi_inj (by have := hC.2.2.2.1.2.2.2.1.2.1; omega) (by have := hbc 4; omega) (hC.2.2.2.1.2.2.1.2.1.symm.trans (hrc.2.2 (5, 4) (by decide)).1)
  have ee1 : ec1 = im 4 := xi_inj (by have := hC.2.2.2.2.2.2.2.1.2.1; omega) (by have := hbi 4; omega) (hC.2.2.2.2.2.2.1.2.1.symm.trans (hrc.2.2 (5, 4) (by decide)).2)
  have hry0 := hry
  have hcy0 := hcy
  obtain ⟨la0, ya0, la1, ya1, X_, X2_, Y_, Y2_, tk_, bk_, hcc_, hcd_⟩ := id hcy
  have hty0 := hty
  obtain ⟨t0_, t1_, T0_, T1_, L0_, L1_, tK_, ⟨tp0_, tp1_⟩, ⟨tc_, ti_⟩, ⟨tE_, tX_⟩, tF_, tY_⟩ := id hty
  obtain ⟨ya_, yb_, O_, A_, V_, ⟨zk_, zka_, zki_⟩, zz_, zo_, zm_, zi_⟩ := hzy
  have zz9 := zz_
  have hfy9 := hfy
  have ks9 := hrc.1.1
  have kt9 := k_th
  have ko9 := k_out
  have b0 : cn 0 ≤ 4 := Int.ofNat_le.mp (hf_bd (t := 10) hH hrc.1.1 rfl rfl (hrc.2.2 (0, 0) (by decide)).1 (hbc 0))
  have bm0 : im 0 ≤ 4 := Int.ofNat_le.mp (hf_bd (t := 10) hH hrc.1.2.1 rfl rfl (hrc.2.2 (0, 0) (by decide)).2 (hbi 0))
  have b1 : cn 1 ≤ 4 := Int.ofNat_le.mp (hf_bd (t := 10) hH hrc.1.1 rfl rfl (hrc.2.2 (7, 1) (by decide)).1 (hbc 1))
  have bm1 : im 1 ≤ 4 := Int.ofNat_le.mp (hf_bd (t := 10) hH hrc.1.2.1 rfl rfl (hrc.2.2 (7, 1) (by decide)).2 (hbi 1))
  have b2 : cn 2 ≤ 6 := Int.ofNat_le.mp (hf_bd (t := 10) hH hrc.1.1 rfl rfl (hrc.2.2 (9, 2) (by decide)).1 (hbc 2))
  have bm2 : im 2 ≤ 6 := Int.ofNat_le.mp (hf_bd (t := 10) hH hrc.1.2.1 rfl rfl (hrc.2.2 (9, 2) (by decide)).2 (hbi 2))
  have b3 : cn 3 ≤ 20 := Int.ofNat_le.mp (hf_bd (t := 10) hH hrc.1.1 rfl rfl (hrc.2.2 (2, 3) (by decide)).1 (hbc 3))
  have bm3 : im 3 ≤ 20 := Int.ofNat_le.mp (hf_bd (t := 10) hH hrc.1.2.1 rfl rfl (hrc.2.2 (2, 3) (by decide)).2 (hbi 3))
  have b4 : cn 4 ≤ 3 := Int.ofNat_le.mp (hf_bd (t := 10) hH hrc.1.1 rfl rfl (hrc.2.2 (5, 4) (by decide)).1 (hbc 4))
  have bm4 : im 4 ≤ 3 := Int.ofNat_le.mp (hf_bd (t := 10) hH hrc.1.2.1 rfl rfl (hrc.2.2 (5, 4) (by decide)).2 (hbi 4))
  refine ((hc_backX hH hci hp hh1 (by omega)).and ((fc_backN hH hC ⟨b0, b3, b4, b1, b2⟩ (hrc.2.2 (0, 0) (by decide)).1 (hrc.2.2 (2, 3) (by decide)).1 (hrc.2.2 (5, 4) (by decide)).1 (hrc.2.2 (7, 1) (by decide)).1 (hrc.2.2 (9, 2) (by decide)).1 ⟨bm0, bm3, bm4, bm1, bm2⟩ (hrc.2.2 (0, 0) (by decide)).2 (hrc.2.2 (2, 3) (by decide)).2 (hrc.2.2 (5, 4) (by decide)).2 (hrc.2.2 (7, 1) (by decide)).2 (hrc.2.2 (9, 2) (by decide)).2 hp hh1 (by omega)).and ((fc_backR hH hC hp hh1 (by omega)).and ((fc_backC hH hC hcc_.1.1.1 hcc_.1.1.2 hcd_.1.1.1 hcd_.1.1.2 tk_.2.1.1 tk_.2.1.2.1 tk_.2.1.2.2.1 tk_.2.1.2.2.2 tk_.2.2.2.1 tk_.2.2.2.2 hp hh1 (by omega)).and ((fc_backT hH hC tp0_ tp1_ tK_.1.2.2.1 tK_.1.2.2.2 tK_.2.2.1 hp hh1 (by omega)).and ((fc_backZ hH hC zk_ zz_ zo_ hp hh1 (by omega)).and ((fq_125_6 hH k_th (by omega)).and (fq_bk0 hH k_th hp hh1 (by omega))))))))).mono (fun u hu => ls_cbrQ (Q := fun u => (u.1 = .inl (some (.int (Int32.ofNat h))) ∧ ph_at u.2.1 th h) ∧ bkP s0 s1 (cn 0) (cn 3) (cn 4) (cn 1) (cn 2) (im 0) (im 3) (im 4) (im 1) (im 2) h u.2.1 ∧ (∀ j, j < 4 → et_pl (eg_at u.2.1 ra0) j = (if h = 0 then et_pl (eg_at G ra0) j else et_pl (eg_at G ra1) j) ∧ et_pl (eg_at u.2.1 ra1) j = et_pl (eg_at G ra1) j) ∧ (∀ j, j < 20 → (et_pl (eg_at u.2.1 la0) j = (if h = 0 then et_pl (eg_at G la0) j else et_pl (eg_at G la1) j) ∧ et_pl (eg_at u.2.1 ya0) j = (if h = 0 then et_pl (eg_at G ya0) j else et_pl (eg_at G ya1) j)) ∧ (et_pl (eg_at u.2.1 la1) j = et_pl (eg_at G la1) j ∧ et_pl (eg_at u.2.1 ya1) j = et_pl (eg_at G ya1) j)) ∧ (∀ j, j < 4 → et_pl (eg_at u.2.1 t0_) j = (if h = 0 then et_pl (eg_at G t0_) j else et_pl (eg_at G t1_) j) ∧ et_pl (eg_at u.2.1 t1_) j = et_pl (eg_at G t1_) j) ∧ ezc u.2.1 O_ A_ (if h = 0 then V_ else (fun k => if k < 3 then V_ (3 + k) else V_ k)) ∧ (fgZ G th 6 (Int32.ofNat 1) u ∧ (h = 0 → u.2.1 = G))) ⟨hu.1.1, hu.1.2, hu.2⟩ (fun v1619 K1619 G1619 c1619 s1619 x1619 f1619 hH hci _ cl1619 sl1619 hQ => ?_))
  obtain ⟨⟨ev, hP⟩, hQ, hRR, hRC, hRT, hEZ, hf6_, hb0_⟩ := hQ
  cases ev
  have hQ2 : ∀ q ∈ lw_ks, et_pl (eg_at G1619 s0) q.1 = some (.int (Int32.ofNat (if h = 0 then cn q.2 else im q.2))) ∧ et_pl (eg_at G1619 s1) q.1 = some (.int (Int32.ofNat (im q.2))) := fun q hq => by
    unfold bkP at hQ
    by_cases h0 : h = 0
    · rw [if_pos h0] at hQ ⊢
      obtain ⟨⟨pa0, pa2, pa5, pa7, pa9⟩, pb0, pb2, pb5, pb7, pb9⟩ := hQ
      simp only [lw_ks, List.mem_cons, List.not_mem_nil, or_false] at hq; rcases hq with rfl | rfl | rfl | rfl | rfl <;> first | exact ⟨pa0, pb0⟩ | exact ⟨pa7, pb7⟩ | exact ⟨pa9, pb9⟩ | exact ⟨pa2, pb2⟩ | exact ⟨pa5, pb5⟩
    · rw [if_neg h0] at hQ ⊢
      obtain ⟨⟨pa0, pb0⟩, ⟨pa2, pb2⟩, ⟨pa5, pb5⟩, ⟨pa7, pb7⟩, ⟨pa9, pb9⟩⟩ := hQ
      simp only [lw_ks, List.mem_cons, List.not_mem_nil, or_false] at hq; rcases hq with rfl | rfl | rfl | rfl | rfl <;> first | exact ⟨pa0, pb0⟩ | exact ⟨pa7, pb7⟩ | exact ⟨pa9, pb9⟩ | exact ⟨pa2, pb2⟩ | exact ⟨pa5, pb5⟩
  have hcyB := hcy0.bk1 (h := h) x1619 f1619 (by decide +kernel) (fun a b c d _ m => by obtain rfl : a = la0 := Value.ref.inj (Option.some.inj (m.1.symm.trans hcc_.1.1.1)); obtain rfl : b = ya0 := Value.ref.inj (Option.some.inj (m.2.1.symm.trans hcc_.1.1.2)); obtain rfl : c = la1 := Value.ref.inj (Option.some.inj (m.2.2.1.symm.trans hcd_.1.1.1)); obtain rfl : d = ya1 := Value.ref.inj (Option.some.inj (m.2.2.2.symm.trans hcd_.1.1.2)); exact hRC)
  have htyB := hty0.bk1 (h := h) hHo x1619 f1619 (by decide +kernel) (fun a b m0 m1 _ _ _ => by obtain rfl : a = t0_ := Value.ref.inj (Option.some.inj (m0.symm.trans tp0_)); obtain rfl : b = t1_ := Value.ref.inj (Option.some.inj (m1.symm.trans tp1_)); exact hRT)
  have zz_ := zz_.img zk_ k_th hrc.1.1 hrc.1.2.1 f1619 (by decide +kernel) hEZ
  have zm_ := zm_.fr (fun n hn => zo_ n (by omega)) zka_ f1619 (by decide +kernel)
  have zi_ := zi_.fr (fun n hn => zo_ (3 + n) (by omega)) zki_ f1619 (by decide +kernel)
  have zk_ := zk_.ex x1619
  have zka_ := x1619 _ _ zka_
  have zki_ := x1619 _ _ zki_
  have hryB := hry0.bk1 (h := h) hHo x1619 f1619 (by decide +kernel) (hQ2 (0, 0) (by decide)).1 (fun r0 r1 h0 h1 => by obtain rfl : r0 = ra0 := Value.ref.inj (Option.some.inj (h0.symm.trans hC.2.2.2.1.2.1.1)); obtain rfl : r1 = ra1 := Value.ref.inj (Option.some.inj (h1.symm.trans hC.2.2.2.2.2.1.1)); exact hRR)
  have hrc : rc lw_ks K1619 G1619 th s0 s1 (fun k => if h = 0 then cn k else im k) im := ⟨⟨x1619 _ _ hrc.1.1, x1619 _ _ hrc.1.2.1, hrc.1.2.2⟩, ⟨(f1619.2 th 12 k_th 0 rfl).trans hrc.2.1.1, (f1619.2 th 12 k_th 1 rfl).trans hrc.2.1.2⟩, hQ2⟩
  have hsy := hsy.fr k_th x1619 f1619 (by decide +kernel)
  have h3 := (f1619.2 th 12 k_th 3 rfl).trans h3
  have hl := (f1619.2 rd 7 k_rd 1 rfl).trans hl
  have hm := (f1619.2 am 13 k_am 5 rfl).trans hm
  have hp := hP
  have hg := (f1619.2 am 13 k_am 3 rfl).trans hg
  have htC := htC.fr k_rd x1619 f1619 (by decide +kernel)
  have htM := htM.fr k_am x1619 f1619 (by decide +kernel)
  have hrm := hrm.fr k_am x1619 f1619 (by decide +kernel)
  have k_th := x1619 _ _ k_th
  have k_am := x1619 _ _ k_am
  have k_out := x1619 _ _ k_out
  have k_rd := x1619 _ _ k_rd
  have hfy : fyR K1619 G1619 th s0 (if h = 0 then cn 3 else im 3) := by
    by_cases h0 : h = 0
    · rw [if_pos h0, show G1619 = G from hb0_ h0]; exact hfy9.ex x1619
    · exact .inl (hf6_.y (by show (Sum.inl (some (Value.int (Int32.ofNat h))) : eg_R) = _; rw [show h = 1 by omega]))
  show et_go _ _ 1000 1622 [some (.ref 150), some (.ref th), some (.ref am), some (.ref out), some (.int (Int32.ofNat i)), x5, x6] [.int (Int32.ofNat h)] _ (ck + c1619) (sk + s1619) _
  refine ls_pop (p := 1623) (by decide +kernel) ?_
  refine ls_aload (i := 2) (p := 1624) (by decide +kernel) rfl ?_
  refine lt_callv (T := et_TT) (t := 13) (mi := 176) (na := 0) (ci := 11) (lk := 7) (lm := 2) (L0 := eg_en (eg_mL 176) [.ref am]) (by decide +kernel) rfl hH k_am rfl rfl rfl rfl rfl (by rw [show eg_mL 176 = 2 from by decide +kernel]; first | done | rfl) ?_
  have hHo := hH
  refine ((hc_backM (w := (K1619, [], G1619)) hH k_am hg hh1).and (fm_back hH k_am hrm.2.1.1 hrm.2.1.2 hg hh1)).mono (fun u hu => ls_cbvQ (Q := fun u => u.1 = .inl (some (.int (Int32.ofNat h))) ∧ ∀ k, k < 11900 → et_pl (eg_at u.2.1 aw) k = (if h = 0 then et_pl (eg_at G1619 aw) k else et_pl (eg_at G1619 ai) k) ∧ et_pl (eg_at u.2.1 ai) k = et_pl (eg_at G1619 ai) k) ⟨hu.1.1, hu.1.2, hu.2⟩ (fun v1624 K1624 G1624 c1624 s1624 x1624 f1624 hH hv1624 cl1624 sl1624 hQ => ?_))
  obtain ⟨ev, hQ⟩ := hQ
  cases ev
  have hry : ry K1624 G1624 th s0 s1 aw ai (if h = 0 then cn 0 else im 0) (im 0) := hryB.bk2 hHo x1624 f1624 (by decide +kernel) hQ
  have hrm : rm lw_ks K1624 G1624 am aw ai (fun k => if h = 0 then cn k else im k) im := ⟨⟨x1624 _ _ hrm.1.1, x1624 _ _ hrm.1.2⟩, ⟨(f1624.2 am 13 k_am 1 rfl).trans hrm.2.1.1, (f1624.2 am 13 k_am 2 rfl).trans hrm.2.1.2⟩, fun q hq => ⟨(hQ q.2 (lw_kl q hq)).1.trans (by split; exact (hrm.2.2 q hq).1; exact (hrm.2.2 q hq).2), (hQ q.2 (lw_kl q hq)).2.trans (hrm.2.2 q hq).2⟩⟩
  have hcy : cy K1624 G1624 s0 s1 aw ai (if h = 0 then cn 3 else im 3) (im 3) := hcyB.bk2 x1624 f1624 (by decide +kernel) hQ
  have hty := htyB.bk2 hHo x1624 f1624 (by decide +kernel) hQ
  have zz_ := zz_.fr zk_ k_th hrc.1.1 hrc.1.2.1 f1624 (by decide +kernel)
  have zk_ := zk_.ex x1624
  have zka_ := x1624 _ _ zka_
  have zki_ := x1624 _ _ zki_
  have hzy : zy K1624 G1624 th s0 s1 aw ai (if h = 0 then cn 4 else im 4) (im 4) := zy.bk (h := h) ⟨zk_, zka_, zki_⟩ zz_ zo_ zm_ zi_ hQ
  have hbc : ∀ k, (if h = 0 then cn k else im k) ≤ 400 := fun k => by split; exact hbc k; exact hbi k
  have hfy := hfy.fr k_th hrc.1.1 x1624 f1624 (by decide +kernel)
  have hsy := hsy.fr k_th x1624 f1624 (by decide +kernel)
  have hci := hci.fr x1624 f1624 (by decide +kernel)
  have h3 := (f1624.2 th 12 k_th 3 rfl).trans h3
  have hl := (f1624.2 rd 7 k_rd 1 rfl).trans hl
  have hm := (f1624.2 am 13 k_am 5 rfl).trans hm
  have hp := (f1624.2 th 12 k_th 2 rfl).trans hp
  have hg := (f1624.2 am 13 k_am 3 rfl).trans hg
  have htC := htC.fr k_rd x1624 f1624 (by decide +kernel)
  have htM := htM.fr k_am x1624 f1624 (by decide +kernel)
  have hrc := hrc.fr k_th x1624 f1624 (by decide +kernel)
  have k_th := x1624 _ _ k_th
  have k_am := x1624 _ _ k_am
  have k_out := x1624 _ _ k_out
  have k_rd := x1624 _ _ k_rd
  show et_go _ _ 1000 1627 [some (.ref 150), some (.ref th), some (.ref am), some (.ref out), some (.int (Int32.ofNat i)), x5, x6] [.int (Int32.ofNat h)] _ ((ck + c1619) + c1624) ((sk + s1619) + s1624) _
  refine ls_pop (p := 1628) (by decide +kernel) ?_
  refine ls_goto (p := 1656) (by decide +kernel) ?_
  exact hN _ _ c h _ _ _ _ _ _ ⟨⟨hH, hci, k_th, k_am, k_out, h3, k_rd, hl, hm, hc⟩, ⟨hh1, hp, hg⟩, hrc, hrm, hbc, hbi, ⟨hry, hcy, hty, hzy, hsy, hfy⟩, _, htC, htM, htb⟩ (by omega) (by omega)
set_option maxHeartbeats 2000000 in
theorem lw_c38 (hI : lw_I K G th am out rd s0 s1 aw ai tp ba na tm c h cn im) (hi : i + 6 ≤ n) (hn : n ≤ 3072) (hN : ∀ (K' : et_K) (G' : eg_G) (c' h' : Nat) (cn' im' : Nat → Nat) (ck' sk' : Nat) (y5 y6 : Option Value), lw_I K' G' th am out rd s0 s1 aw ai tp ba na tm c' h' cn' im' → ck' ≤ ck + 841 → sk' ≤ sk + 7168 → et_go (some (n, f)) (d + 41) 1000 1656 [some (.ref 150), some (.ref th), some (.ref am), some (.ref out), some (.int (Int32.ofNat i)), y5, y6] [] G' ck' sk' Z) : et_go (some (n, f)) (d + 41) 1000 1631 [some (.ref 150), some (.ref th), some (.ref am), some (.ref out), some (.int (Int32.ofNat i)), x5, x6] [] G ck sk Z := by
  obtain ⟨⟨hH, hci, k_th, k_am, k_out, h3, k_rd, hl, hm, hc⟩, ⟨hh1, hp, hg⟩, hrc, hrm, hbc, hbi, ⟨hry, hcy, hty, hzy, hsy, hfy⟩, tb, htC, htM, htb⟩ := hI
  refine ls_aload (i := 1) (p := 1632) (by decide +kernel) rfl ?_
  refine ls_arg (j := 1) (by decide +kernel) (by omega) hn ?_
  refine lt_callv (T := et_TT) (t := 12) (mi := 126) (na := 1) (ci := 10) (lk := 7) (lm := 4) (L0 := eg_en (eg_mL 126) [.ref th, .int (f (i + 1))]) (by decide +kernel) rfl hH k_th rfl rfl rfl rfl rfl (by rw [show eg_mL 126 = 4 from by decide +kernel]; first | done | rfl) ?_
  have hHo := hH
  obtain ⟨D_, φ_, R0_, R1_, r0_, r1_, fo_, t_, kk_, hx_, ho_⟩ := hry
  refine ((hc_countI hH hci (by omega)).and (fr_126 (w := (K, [], G)) t_ hH hx_ (by omega))).mono (fun u hu => ls_cbrQ (Q := fun u => rx D_ φ_ th s0 r0_ (cn 0) fo_ u.2.1) hu (fun v1638 K1638 G1638 c1638 s1638 x1638 f1638 hH hci _ cl1638 sl1638 hQ => ?_))
  have hry : ry K1638 G1638 th s0 s1 aw ai (cn 0) (im 0) := ⟨D_, φ_, R0_, R1_, r0_, r1_, fo_, t_.ex x1638, kk_.ex x1638, hQ, ho_.fr kk_ f1638 (by decide +kernel)⟩
  have hfy := hfy.fr k_th hrc.1.1 x1638 f1638 (by decide +kernel)
  have hsy := hsy.fr k_th x1638 f1638 (by decide +kernel)
  have hzy := hzy.fr k_th hrc.1.1 hrc.1.2.1 x1638 f1638 (by decide +kernel)
  have hty := hty.fr x1638 hHo f1638 (by decide +kernel)
  have hcy := hcy.fr x1638 f1638 (by decide +kernel)
  have h3 := (f1638.2 th 12 k_th 3 rfl).trans h3
  have hl := (f1638.2 rd 7 k_rd 1 rfl).trans hl
  have hm := (f1638.2 am 13 k_am 5 rfl).trans hm
  have hp := (f1638.2 th 12 k_th 2 rfl).trans hp
  have hg := (f1638.2 am 13 k_am 3 rfl).trans hg
  have htC := htC.fr k_rd x1638 f1638 (by decide +kernel)
  have htM := htM.fr k_am x1638 f1638 (by decide +kernel)
  have hrc := hrc.fr k_th x1638 f1638 (by decide +kernel)
  have hrm := hrm.fr k_am x1638 f1638 (by decide +kernel)
  have k_th := x1638 _ _ k_th
  have k_am := x1638 _ _ k_am
  have k_out := x1638 _ _ k_out
  have k_rd := x1638 _ _ k_rd
  show et_go _ _ 1000 1641 [some (.ref 150), some (.ref th), some (.ref am), some (.ref out), some (.int (Int32.ofNat i)), x5, x6] [.int v1638] _ (ck + c1638) (sk + s1638) _
  refine ls_pop (p := 1642) (by decide +kernel) ?_
  refine ls_aload (i := 2) (p := 1643) (by decide +kernel) rfl ?_
  refine ls_arg (j := 1) (by decide +kernel) (by omega) hn ?_
  refine lt_callv (T := et_TT) (t := 13) (mi := 293) (na := 1) (ci := 11) (lk := 7) (lm := 4) (L0 := eg_en (eg_mL 293) [.ref am, .int (f (i + 1))]) (by decide +kernel) rfl hH k_am rfl rfl rfl rfl rfl (by rw [show eg_mL 293 = 4 from by decide +kernel]; first | done | rfl) ?_
  have hHo := hH
  refine (er_p293_ok (K1638, [], G1638) [.ref am, .int (f (i + 1))] _ hH (by omega) rfl (ht_ac (.inr ⟨by decide, _, rfl, k_am⟩) (ht_ac hi_any ht_an))).mono (fun u hu => ls_cbv hu (fun v1649 K1649 G1649 c1649 s1649 x1649 f1649 hH hv1649 cl1649 sl1649 => ?_))
  have hfy := hfy.fr k_th hrc.1.1 x1649 f1649 (by decide +kernel)
  have hsy := hsy.fr k_th x1649 f1649 (by decide +kernel)
  have hzy := hzy.fr k_th hrc.1.1 hrc.1.2.1 x1649 f1649 (by decide +kernel)
  have hty := hty.fr x1649 hHo f1649 (by decide +kernel)
  have hcy := hcy.fr x1649 f1649 (by decide +kernel)
  have hry := hry.fr hHo x1649 f1649 (by decide +kernel)
  have hci := hci.fr x1649 f1649 (by decide +kernel)
  have h3 := (f1649.2 th 12 k_th 3 rfl).trans h3
  have hl := (f1649.2 rd 7 k_rd 1 rfl).trans hl
  have hm := (f1649.2 am 13 k_am 5 rfl).trans hm
  have hp := (f1649.2 th 12 k_th 2 rfl).trans hp
  have hg := (f1649.2 am 13 k_am 3 rfl).trans hg
  have htC := htC.fr k_rd x1649 f1649 (by decide +kernel)
  have htM := htM.fr k_am x1649 f1649 (by decide +kernel)
  have hrc := hrc.fr k_th x1649 f1649 (by decide +kernel)
  have hrm := hrm.fr k_am x1649 f1649 (by decide +kernel)
  have k_th := x1649 _ _ k_th
  have k_am := x1649 _ _ k_am
  have k_out := x1649 _ _ k_out
  have k_rd := x1649 _ _ k_rd
  obtain ⟨v1649, rfl, -⟩ := hv1649
  show et_go _ _ 1000 1652 [some (.ref 150), some (.ref th), some (.ref am), some (.ref out), some (.int (Int32.ofNat i)), x5, x6] [.int v1649] _ ((ck + c1638) + c1649) ((sk + s1638) + s1649) _
  refine ls_pop (p := 1653) (by decide +kernel) ?_
  refine ls_goto (p := 1656) (by decide +kernel) ?_
  exact hN _ _ c h _ _ _ _ _ _ ⟨⟨hH, hci, k_th, k_am, k_out, h3, k_rd, hl, hm, hc⟩, ⟨hh1, hp, hg⟩, hrc, hrm, hbc, hbi, ⟨hry, hcy, hty, hzy, hsy, hfy⟩, _, htC, htM, htb⟩ (by omega) (by omega)
end LWA
