/-! THE LAW'S CASES, both sides -/
def lw_ks : List (Nat × Nat) := [(5, 4)]
def lw_I (K : et_K) (G : eg_G) (th am out rd s0 s1 aw ai c h : Nat) (cn im : Nat → Nat) : Prop := (et_H et_TT K G ∧ ci K G th ∧ K th = some 12 ∧ K am = some 13 ∧ K out = some 31 ∧ et_pl (eg_at G th) 3 = some (.ref rd) ∧ K rd = some 7 ∧ pl_at G rd c ∧ pm_at G am c ∧ c ≤ 400) ∧ (h ≤ 1 ∧ ph_at G th h ∧ pg_at G am h) ∧ rc lw_ks K G th s0 s1 cn im ∧ rm lw_ks K G am aw ai cn im ∧ (∀ k, cn k ≤ 400) ∧ (∀ k, im k ≤ 400)
theorem lw_kl : ∀ q ∈ lw_ks, q.2 < 11900 := by decide
theorem ff_le {c : Nat} (h : c ≤ 400) : ff c ≤ 400 := by
  unfold ff
  split <;> omega
def ls_ab (pc j : Nat) : Bool := decide (hs_al 1000 pc = some (0, pc + 1)) && (decide (hs_il 1000 (pc + 1) = some (4, pc + 3)) && (decide (hs_kc 1000 (pc + 3) = some (Int32.ofNat j, pc + 4)) && (decide (hs_o 1000 (pc + 4) = some (.iadd, pc + 5)) && decide (hs_o 1000 (pc + 5) = some (.iaload, pc + 6)))))
section LWA
variable {n : Nat} {f : Nat → Int32} {d pc p ck sk i j th am out rd s0 s1 aw ai c h : Nat} {cn im : Nat → Nat} {x5 x6 x1 x2 x3 : Option Value} {st : List Value} {K : et_K} {G : eg_G} {Z : eg_O → Prop}
theorem ls_arg (hc : ls_ab pc j = true) (hi : i + j < n) (hn : n ≤ 3072) (h : et_go (some (n, f)) d 1000 (pc + 6) [some (.ref 150), x1, x2, x3, some (.int (Int32.ofNat i)), x5, x6] (.int (f (i + j)) :: st) G ck sk Z) : et_go (some (n, f)) d 1000 pc [some (.ref 150), x1, x2, x3, some (.int (Int32.ofNat i)), x5, x6] st G ck sk Z := by
  unfold ls_ab at hc
  rw [Bool.and_eq_true, Bool.and_eq_true, Bool.and_eq_true, Bool.and_eq_true] at hc
  obtain ⟨h1, h2, h3, h4, h5⟩ := hc
  refine ls_aload (of_decide_eq_true h1) rfl ?_
  refine ls_iload (of_decide_eq_true h2) rfl ?_
  refine ls_k (of_decide_eq_true h3) ?_
  refine ls_iaddn (of_decide_eq_true h4) ?_
  exact ls_scr (of_decide_eq_true h5) hi hn h
def ls_bb (pc : Nat) : Bool := decide (hs_if 1000 pc = some (.eq, pc + 7, pc + 3)) && (decide (hs_kc 1000 (pc + 3) = some (Int32.ofNat 1, pc + 4)) && (decide (hs_gt 1000 (pc + 4) = some (pc + 8)) && decide (hs_kc 1000 (pc + 7) = some (Int32.ofNat 0, pc + 8))))
theorem ls_bool {sc : eg_Sc} {L : eg_Ls} {x : Int32} (hc : ls_bb pc = true) (h : ∀ b : Nat, b ≤ 1 → b = (if x = 0 then 0 else 1) → et_go sc d 1000 (pc + 8) L (.int (Int32.ofNat b) :: st) G ck sk Z) : et_go sc d 1000 pc L (.int x :: st) G ck sk Z := by
  unfold ls_bb at hc
  rw [Bool.and_eq_true, Bool.and_eq_true, Bool.and_eq_true] at hc
  obtain ⟨h1, h2, h3, h4⟩ := hc
  refine ls_br1 (of_decide_eq_true h1) (fun (hx : x = 0) => ?_) (fun (hx : ¬ x = 0) => ?_)
  · exact ls_k (of_decide_eq_true h4) (h 0 (by decide) (by rw [if_pos hx]))
  · refine ls_k (of_decide_eq_true h2) ?_
    exact ls_goto (of_decide_eq_true h3) (h 1 (by decide) (by rw [if_neg hx]))
theorem fm_thrown {d2 : Nat} {x : Int32} (hH : et_H et_TT K G) (k_am : K am = some 13) (ht : et_pl (eg_at G am) 0 = some (.int x)) : et_go none d2 315 0 (eg_en (eg_mL 315) [.ref am]) [] G 0 0 (xp_Z G (some (.int x))) := by
  rw [show eg_mL 315 = 1 from by decide +kernel]
  show et_go none d2 315 0 [some (.ref am)] [] G 0 0 _
  refine hs_aload (i := 0) (p := 1) (by decide +kernel) rfl ?_
  refine hf_get (T := et_TT) (t := 13) (ci := 11) (f := 0) (p := 4) (by decide +kernel) rfl hH k_am ht ?_
  refine hs_iret (by decide +kernel) ?_
  rfl
theorem lw_c0 (hI : lw_I K G th am out rd s0 s1 aw ai c h cn im) (hi : i + 6 ≤ n) (hn : n ≤ 3072) (hN : ∀ (K' : et_K) (G' : eg_G) (c' h' : Nat) (cn' im' : Nat → Nat) (ck' sk' : Nat) (y5 y6 : Option Value), lw_I K' G' th am out rd s0 s1 aw ai c' h' cn' im' → ck' ≤ ck + 841 → sk' ≤ sk + 7168 → et_go (some (n, f)) (d + 41) 1000 1639 [some (.ref 150), some (.ref th), some (.ref am), some (.ref out), some (.int (Int32.ofNat i)), y5, y6] [] G' ck' sk' Z) : et_go (some (n, f)) (d + 41) 1000 212 [some (.ref 150), some (.ref th), some (.ref am), some (.ref out), some (.int (Int32.ofNat i)), x5, x6] [] G ck sk Z := by
  obtain ⟨⟨hH, hci, k_th, k_am, k_out, h3, k_rd, hl, hm, hc⟩, ⟨hh1, hp, hg⟩, hrc, hrm, hbc, hbi⟩ := hI
  refine ls_aload (i := 1) (p := 213) (by decide +kernel) rfl ?_
  refine ls_arg (j := 1) (by decide +kernel) (by omega) hn ?_
  refine ls_arg (j := 2) (by decide +kernel) (by omega) hn ?_
  refine ls_arg (j := 3) (by decide +kernel) (by omega) hn ?_
  refine ls_arg (j := 4) (by decide +kernel) (by omega) hn ?_
  refine ls_arg (j := 5) (by decide +kernel) (by omega) hn ?_
  refine lt_callv (T := et_TT) (t := 12) (mi := 116) (na := 5) (ci := 10) (lk := 7) (lm := 6) (L0 := eg_en (eg_mL 116) [.ref th, .int (f (i + 1)), .int (f (i + 2)), .int (f (i + 3)), .int (f (i + 4)), .int (f (i + 5))]) (by decide +kernel) rfl hH k_th rfl rfl rfl rfl rfl (by rw [show eg_mL 116 = 6 from by decide +kernel]; first | done | rfl) ?_
  refine (hc_feedC (w := (K, [], G)) hH k_th h3 k_rd hl hc (by omega)).mono (fun u hu => ls_cbp (P := fun g => pl_at g rd (ff c)) hu (fun v243 K243 G243 c243 s243 x243 f243 hH hP hv243 cl243 sl243 => ?_))
  have hci := hci.fr x243 f243 (by decide +kernel)
  have h3 := (f243.2 th 12 k_th 3 rfl).trans h3
  have hl := hP
  have hm := (f243.2 am 13 k_am 5 rfl).trans hm
  have hp := (f243.2 th 12 k_th 2 rfl).trans hp
  have hg := (f243.2 am 13 k_am 3 rfl).trans hg
  have hrc := hrc.fr k_th x243 f243 (by decide +kernel)
  have hrm := hrm.fr k_am x243 f243 (by decide +kernel)
  have k_th := x243 _ _ k_th
  have k_am := x243 _ _ k_am
  have k_out := x243 _ _ k_out
  have k_rd := x243 _ _ k_rd
  obtain ⟨v243, rfl, -⟩ := hv243
  show et_go _ _ 1000 246 [some (.ref 150), some (.ref th), some (.ref am), some (.ref out), some (.int (Int32.ofNat i)), x5, x6] [.int v243] _ (ck + c243) (sk + s243) _
  refine ls_pop (p := 247) (by decide +kernel) ?_
  refine ls_aload (i := 2) (p := 248) (by decide +kernel) rfl ?_
  refine ls_arg (j := 1) (by decide +kernel) (by omega) hn ?_
  refine ls_arg (j := 2) (by decide +kernel) (by omega) hn ?_
  refine ls_arg (j := 3) (by decide +kernel) (by omega) hn ?_
  refine ls_arg (j := 4) (by decide +kernel) (by omega) hn ?_
  refine ls_arg (j := 5) (by decide +kernel) (by omega) hn ?_
  refine lt_callv (T := et_TT) (t := 13) (mi := 177) (na := 5) (ci := 11) (lk := 7) (lm := 7) (L0 := eg_en (eg_mL 177) [.ref am, .int (f (i + 1)), .int (f (i + 2)), .int (f (i + 3)), .int (f (i + 4)), .int (f (i + 5))]) (by decide +kernel) rfl hH k_am rfl rfl rfl rfl rfl (by rw [show eg_mL 177 = 7 from by decide +kernel]; first | done | rfl) ?_
  refine (hc_feedM (w := (K243, [], G243)) hH k_am hm hc (by omega)).mono (fun u hu => ls_cbp (P := fun g => pm_at g am (ff c)) hu (fun v278 K278 G278 c278 s278 x278 f278 hH hP hv278 cl278 sl278 => ?_))
  have hci := hci.fr x278 f278 (by decide +kernel)
  have h3 := (f278.2 th 12 k_th 3 rfl).trans h3
  have hl := (f278.2 rd 7 k_rd 1 rfl).trans hl
  have hm := hP
  have hp := (f278.2 th 12 k_th 2 rfl).trans hp
  have hg := (f278.2 am 13 k_am 3 rfl).trans hg
  have hrc := hrc.fr k_th x278 f278 (by decide +kernel)
  have hrm := hrm.fr k_am x278 f278 (by decide +kernel)
  have k_th := x278 _ _ k_th
  have k_am := x278 _ _ k_am
  have k_out := x278 _ _ k_out
  have k_rd := x278 _ _ k_rd
  obtain ⟨v278, rfl, -⟩ := hv278
  show et_go _ _ 1000 281 [some (.ref 150), some (.ref th), some (.ref am), some (.ref out), some (.int (Int32.ofNat i)), x5, x6] [.int v278] _ ((ck + c243) + c278) ((sk + s243) + s278) _
  refine ls_pop (p := 282) (by decide +kernel) ?_
  refine ls_goto (p := 1639) (by decide +kernel) ?_
  exact hN _ _ (ff c) h _ _ _ _ _ _ ⟨⟨hH, hci, k_th, k_am, k_out, h3, k_rd, hl, hm, (ff_le hc)⟩, ⟨hh1, hp, hg⟩, hrc, hrm, hbc, hbi⟩ (by omega) (by omega)
theorem lw_c1 (hI : lw_I K G th am out rd s0 s1 aw ai c h cn im) (hi : i + 6 ≤ n) (hn : n ≤ 3072) (hN : ∀ (K' : et_K) (G' : eg_G) (c' h' : Nat) (cn' im' : Nat → Nat) (ck' sk' : Nat) (y5 y6 : Option Value), lw_I K' G' th am out rd s0 s1 aw ai c' h' cn' im' → ck' ≤ ck + 841 → sk' ≤ sk + 7168 → et_go (some (n, f)) (d + 41) 1000 1639 [some (.ref 150), some (.ref th), some (.ref am), some (.ref out), some (.int (Int32.ofNat i)), y5, y6] [] G' ck' sk' Z) : et_go (some (n, f)) (d + 41) 1000 285 [some (.ref 150), some (.ref th), some (.ref am), some (.ref out), some (.int (Int32.ofNat i)), x5, x6] [] G ck sk Z := by
  obtain ⟨⟨hH, hci, k_th, k_am, k_out, h3, k_rd, hl, hm, hc⟩, ⟨hh1, hp, hg⟩, hrc, hrm, hbc, hbi⟩ := hI
  refine ls_aload (i := 1) (p := 286) (by decide +kernel) rfl ?_
  refine ls_arg (j := 1) (by decide +kernel) (by omega) hn ?_
  refine lt_callv (T := et_TT) (t := 12) (mi := 117) (na := 1) (ci := 10) (lk := 7) (lm := 2) (L0 := eg_en (eg_mL 117) [.ref th, .int (f (i + 1))]) (by decide +kernel) rfl hH k_th rfl rfl rfl rfl rfl (by rw [show eg_mL 117 = 2 from by decide +kernel]; first | done | rfl) ?_
  refine (hc_endC (w := (K, [], G)) hH k_th h3 k_rd hl hc (by omega)).mono (fun u hu => ls_cbz hu (fun K292 G292 v292 x292 f292 hH hP => ?_))
  obtain ⟨rfl, hP⟩ := hP
  have hci := hci.fr x292 f292 (by decide +kernel)
  have h3 := (f292.2 th 12 k_th 3 rfl).trans h3
  have hl := hP
  have hm := (f292.2 am 13 k_am 5 rfl).trans hm
  have hp := (f292.2 th 12 k_th 2 rfl).trans hp
  have hg := (f292.2 am 13 k_am 3 rfl).trans hg
  have hrc := hrc.fr k_th x292 f292 (by decide +kernel)
  have hrm := hrm.fr k_am x292 f292 (by decide +kernel)
  have k_th := x292 _ _ k_th
  have k_am := x292 _ _ k_am
  have k_out := x292 _ _ k_out
  have k_rd := x292 _ _ k_rd
  show et_go _ _ 1000 295 [some (.ref 150), some (.ref th), some (.ref am), some (.ref out), some (.int (Int32.ofNat i)), x5, x6] [.int (Int32.ofNat (fe (f (i + 1)) c).1)] _ ck sk _
  refine ls_pop (p := 296) (by decide +kernel) ?_
  refine ls_aload (i := 2) (p := 297) (by decide +kernel) rfl ?_
  refine ls_arg (j := 1) (by decide +kernel) (by omega) hn ?_
  refine lt_callv (T := et_TT) (t := 13) (mi := 178) (na := 1) (ci := 11) (lk := 7) (lm := 2) (L0 := eg_en (eg_mL 178) [.ref am, .int (f (i + 1))]) (by decide +kernel) rfl hH k_am rfl rfl rfl rfl rfl (by rw [show eg_mL 178 = 2 from by decide +kernel]; first | done | rfl) ?_
  refine (hc_endM (w := (K292, [], G292)) hH k_am hm hc).mono (fun u hu => ls_cbz hu (fun K303 G303 v303 x303 f303 hH hP => ?_))
  obtain ⟨rfl, hP⟩ := hP
  have hci := hci.fr x303 f303 (by decide +kernel)
  have h3 := (f303.2 th 12 k_th 3 rfl).trans h3
  have hl := (f303.2 rd 7 k_rd 1 rfl).trans hl
  have hm := hP
  have hp := (f303.2 th 12 k_th 2 rfl).trans hp
  have hg := (f303.2 am 13 k_am 3 rfl).trans hg
  have hrc := hrc.fr k_th x303 f303 (by decide +kernel)
  have hrm := hrm.fr k_am x303 f303 (by decide +kernel)
  have k_th := x303 _ _ k_th
  have k_am := x303 _ _ k_am
  have k_out := x303 _ _ k_out
  have k_rd := x303 _ _ k_rd
  show et_go _ _ 1000 306 [some (.ref 150), some (.ref th), some (.ref am), some (.ref out), some (.int (Int32.ofNat i)), x5, x6] [.int (Int32.ofNat (fe (f (i + 1)) c).1)] _ ck sk _
  refine ls_pop (p := 307) (by decide +kernel) ?_
  refine ls_goto (p := 1639) (by decide +kernel) ?_
  exact hN _ _ (fe (f (i + 1)) c).2 h _ _ _ _ _ _ ⟨⟨hH, hci, k_th, k_am, k_out, h3, k_rd, hl, hm, (fe_le hc).1⟩, ⟨hh1, hp, hg⟩, hrc, hrm, hbc, hbi⟩ (by omega) (by omega)
theorem lw_c2 (hI : lw_I K G th am out rd s0 s1 aw ai c h cn im) (hi : i + 6 ≤ n) (hn : n ≤ 3072) (hN : ∀ (K' : et_K) (G' : eg_G) (c' h' : Nat) (cn' im' : Nat → Nat) (ck' sk' : Nat) (y5 y6 : Option Value), lw_I K' G' th am out rd s0 s1 aw ai c' h' cn' im' → ck' ≤ ck + 841 → sk' ≤ sk + 7168 → et_go (some (n, f)) (d + 41) 1000 1639 [some (.ref 150), some (.ref th), some (.ref am), some (.ref out), some (.int (Int32.ofNat i)), y5, y6] [] G' ck' sk' Z) : et_go (some (n, f)) (d + 41) 1000 310 [some (.ref 150), some (.ref th), some (.ref am), some (.ref out), some (.int (Int32.ofNat i)), x5, x6] [] G ck sk Z := by
  obtain ⟨⟨hH, hci, k_th, k_am, k_out, h3, k_rd, hl, hm, hc⟩, ⟨hh1, hp, hg⟩, hrc, hrm, hbc, hbi⟩ := hI
  refine ls_aload (i := 1) (p := 311) (by decide +kernel) rfl ?_
  refine ls_aload (i := 3) (p := 312) (by decide +kernel) rfl ?_
  refine ls_calls (mi := 0) (na := 2) (lk := 7) (lm := 3) (L0 := eg_en (eg_mL 0) [.ref th, .ref out]) (by decide +kernel) rfl rfl rfl rfl rfl rfl (by rw [show eg_mL 0 = 3 from by decide +kernel]; first | done | rfl) ?_
  refine (hh_i0 hH hci k_th k_out h3 k_rd (by omega)).mono (fun u hu => ls_cbr hu (fun v312 K312 G312 c312 s312 x312 f312 hH hci hP cl312 sl312 => ?_))
  have h3 := (f312.2 th 12 k_th 3 rfl).trans h3
  have hl := hP
  have hm := (f312.2 am 13 k_am 5 rfl).trans hm
  have hp := (f312.2 th 12 k_th 2 rfl).trans hp
  have hg := (f312.2 am 13 k_am 3 rfl).trans hg
  have hrc := hrc.fr k_th x312 f312 (by decide +kernel)
  have hrm := hrm.fr k_am x312 f312 (by decide +kernel)
  have k_th := x312 _ _ k_th
  have k_am := x312 _ _ k_am
  have k_out := x312 _ _ k_out
  have k_rd := x312 _ _ k_rd
  show et_go _ _ 1000 315 [some (.ref 150), some (.ref th), some (.ref am), some (.ref out), some (.int (Int32.ofNat i)), x5, x6] [.int v312] _ (ck + c312) (sk + s312) _
  refine ls_istore (i := 5) (p := 317) (by decide +kernel) (Nat.le_of_ble_eq_true rfl) ?_
  refine ls_aload (i := 2) (p := 318) (by decide +kernel) rfl ?_
  refine lt_callv (T := et_TT) (t := 13) (mi := 180) (na := 0) (ci := 11) (lk := 7) (lm := 2) (L0 := eg_en (eg_mL 180) [.ref am]) (by decide +kernel) rfl hH k_am rfl rfl rfl rfl rfl (by rw [show eg_mL 180 = 2 from by decide +kernel]; first | done | rfl) ?_
  refine (hc_ruleT (w := (K312, [], G312)) hH k_am (by omega)).mono (fun u hu => ls_cbp (P := fun g => pm_at g am 0) hu (fun v318 K318 G318 c318 s318 x318 f318 hH hP hv318 cl318 sl318 => ?_))
  have hci := hci.fr x318 f318 (by decide +kernel)
  have h3 := (f318.2 th 12 k_th 3 rfl).trans h3
  have hl := (f318.2 rd 7 k_rd 1 rfl).trans hl
  have hm := hP
  have hp := (f318.2 th 12 k_th 2 rfl).trans hp
  have hg := (f318.2 am 13 k_am 3 rfl).trans hg
  have hrc := hrc.fr k_th x318 f318 (by decide +kernel)
  have hrm := hrm.fr k_am x318 f318 (by decide +kernel)
  have k_th := x318 _ _ k_th
  have k_am := x318 _ _ k_am
  have k_out := x318 _ _ k_out
  have k_rd := x318 _ _ k_rd
  obtain ⟨v318, rfl, -⟩ := hv318
  show et_go _ _ 1000 321 [some (.ref 150), some (.ref th), some (.ref am), some (.ref out), some (.int (Int32.ofNat i)), some (.int v312), x6] [.int v318] _ ((ck + c312) + c318) ((sk + s312) + s318) _
  refine ls_istore (i := 6) (p := 323) (by decide +kernel) (Nat.le_of_ble_eq_true rfl) ?_
  refine ls_goto (p := 1639) (by decide +kernel) ?_
  exact hN _ _ 0 h _ _ _ _ _ _ ⟨⟨hH, hci, k_th, k_am, k_out, h3, k_rd, hl, hm, (by decide)⟩, ⟨hh1, hp, hg⟩, hrc, hrm, hbc, hbi⟩ (by omega) (by omega)
theorem lw_c3 (hI : lw_I K G th am out rd s0 s1 aw ai c h cn im) (hi : i + 6 ≤ n) (hn : n ≤ 3072) (hN : ∀ (K' : et_K) (G' : eg_G) (c' h' : Nat) (cn' im' : Nat → Nat) (ck' sk' : Nat) (y5 y6 : Option Value), lw_I K' G' th am out rd s0 s1 aw ai c' h' cn' im' → ck' ≤ ck + 841 → sk' ≤ sk + 7168 → et_go (some (n, f)) (d + 41) 1000 1639 [some (.ref 150), some (.ref th), some (.ref am), some (.ref out), some (.int (Int32.ofNat i)), y5, y6] [] G' ck' sk' Z) : et_go (some (n, f)) (d + 41) 1000 326 [some (.ref 150), some (.ref th), some (.ref am), some (.ref out), some (.int (Int32.ofNat i)), x5, x6] [] G ck sk Z := by
  obtain ⟨⟨hH, hci, k_th, k_am, k_out, h3, k_rd, hl, hm, hc⟩, ⟨hh1, hp, hg⟩, hrc, hrm, hbc, hbi⟩ := hI
  refine ls_aload (i := 1) (p := 327) (by decide +kernel) rfl ?_
  refine ls_aload (i := 3) (p := 328) (by decide +kernel) rfl ?_
  refine ls_calls (mi := 1) (na := 2) (lk := 7) (lm := 3) (L0 := eg_en (eg_mL 1) [.ref th, .ref out]) (by decide +kernel) rfl rfl rfl rfl rfl rfl (by rw [show eg_mL 1 = 3 from by decide +kernel]; first | done | rfl) ?_
  refine (hh_i1 hH hci k_th k_out h3 k_rd (by omega)).mono (fun u hu => ls_cbr hu (fun v328 K328 G328 c328 s328 x328 f328 hH hci hP cl328 sl328 => ?_))
  have h3 := (f328.2 th 12 k_th 3 rfl).trans h3
  have hl := hP
  have hm := (f328.2 am 13 k_am 5 rfl).trans hm
  have hp := (f328.2 th 12 k_th 2 rfl).trans hp
  have hg := (f328.2 am 13 k_am 3 rfl).trans hg
  have hrc := hrc.fr k_th x328 f328 (by decide +kernel)
  have hrm := hrm.fr k_am x328 f328 (by decide +kernel)
  have k_th := x328 _ _ k_th
  have k_am := x328 _ _ k_am
  have k_out := x328 _ _ k_out
  have k_rd := x328 _ _ k_rd
  show et_go _ _ 1000 331 [some (.ref 150), some (.ref th), some (.ref am), some (.ref out), some (.int (Int32.ofNat i)), x5, x6] [.int v328] _ (ck + c328) (sk + s328) _
  refine ls_istore (i := 5) (p := 333) (by decide +kernel) (Nat.le_of_ble_eq_true rfl) ?_
  refine ls_aload (i := 2) (p := 334) (by decide +kernel) rfl ?_
  refine lt_callv (T := et_TT) (t := 13) (mi := 206) (na := 0) (ci := 11) (lk := 7) (lm := 1) (L0 := eg_en (eg_mL 206) [.ref am]) (by decide +kernel) rfl hH k_am rfl rfl rfl rfl rfl (by rw [show eg_mL 206 = 1 from by decide +kernel]; first | done | rfl) ?_
  refine (hc_turnerT (w := (K328, [], G328)) hH k_am (by omega)).mono (fun u hu => ls_cbp (P := fun g => pm_at g am 0) hu (fun v334 K334 G334 c334 s334 x334 f334 hH hP hv334 cl334 sl334 => ?_))
  have hci := hci.fr x334 f334 (by decide +kernel)
  have h3 := (f334.2 th 12 k_th 3 rfl).trans h3
  have hl := (f334.2 rd 7 k_rd 1 rfl).trans hl
  have hm := hP
  have hp := (f334.2 th 12 k_th 2 rfl).trans hp
  have hg := (f334.2 am 13 k_am 3 rfl).trans hg
  have hrc := hrc.fr k_th x334 f334 (by decide +kernel)
  have hrm := hrm.fr k_am x334 f334 (by decide +kernel)
  have k_th := x334 _ _ k_th
  have k_am := x334 _ _ k_am
  have k_out := x334 _ _ k_out
  have k_rd := x334 _ _ k_rd
  obtain ⟨v334, rfl, -⟩ := hv334
  show et_go _ _ 1000 337 [some (.ref 150), some (.ref th), some (.ref am), some (.ref out), some (.int (Int32.ofNat i)), some (.int v328), x6] [.int v334] _ ((ck + c328) + c334) ((sk + s328) + s334) _
  refine ls_istore (i := 6) (p := 339) (by decide +kernel) (Nat.le_of_ble_eq_true rfl) ?_
  refine ls_goto (p := 1639) (by decide +kernel) ?_
  exact hN _ _ 0 h _ _ _ _ _ _ ⟨⟨hH, hci, k_th, k_am, k_out, h3, k_rd, hl, hm, (by decide)⟩, ⟨hh1, hp, hg⟩, hrc, hrm, hbc, hbi⟩ (by omega) (by omega)
theorem lw_c4 (hI : lw_I K G th am out rd s0 s1 aw ai c h cn im) (hi : i + 6 ≤ n) (hn : n ≤ 3072) (hN : ∀ (K' : et_K) (G' : eg_G) (c' h' : Nat) (cn' im' : Nat → Nat) (ck' sk' : Nat) (y5 y6 : Option Value), lw_I K' G' th am out rd s0 s1 aw ai c' h' cn' im' → ck' ≤ ck + 841 → sk' ≤ sk + 7168 → et_go (some (n, f)) (d + 41) 1000 1639 [some (.ref 150), some (.ref th), some (.ref am), some (.ref out), some (.int (Int32.ofNat i)), y5, y6] [] G' ck' sk' Z) : et_go (some (n, f)) (d + 41) 1000 342 [some (.ref 150), some (.ref th), some (.ref am), some (.ref out), some (.int (Int32.ofNat i)), x5, x6] [] G ck sk Z := by
  obtain ⟨⟨hH, hci, k_th, k_am, k_out, h3, k_rd, hl, hm, hc⟩, ⟨hh1, hp, hg⟩, hrc, hrm, hbc, hbi⟩ := hI
  refine ls_aload (i := 1) (p := 343) (by decide +kernel) rfl ?_
  refine ls_arg (j := 1) (by decide +kernel) (by omega) hn ?_
  refine ls_arg (j := 2) (by decide +kernel) (by omega) hn ?_
  refine ls_aload (i := 3) (p := 356) (by decide +kernel) rfl ?_
  refine ls_calls (mi := 2) (na := 4) (lk := 7) (lm := 5) (L0 := eg_en (eg_mL 2) [.ref th, .int (f (i + 1)), .int (f (i + 2)), .ref out]) (by decide +kernel) rfl rfl rfl rfl rfl rfl (by rw [show eg_mL 2 = 5 from by decide +kernel]; first | done | rfl) ?_
  refine (hh_i2 hH hci k_th k_out h3 k_rd (by omega)).mono (fun u hu => ls_cbr hu (fun v356 K356 G356 c356 s356 x356 f356 hH hci hP cl356 sl356 => ?_))
  have h3 := (f356.2 th 12 k_th 3 rfl).trans h3
  have hl := hP
  have hm := (f356.2 am 13 k_am 5 rfl).trans hm
  have hp := (f356.2 th 12 k_th 2 rfl).trans hp
  have hg := (f356.2 am 13 k_am 3 rfl).trans hg
  have hrc := hrc.fr k_th x356 f356 (by decide +kernel)
  have hrm := hrm.fr k_am x356 f356 (by decide +kernel)
  have k_th := x356 _ _ k_th
  have k_am := x356 _ _ k_am
  have k_out := x356 _ _ k_out
  have k_rd := x356 _ _ k_rd
  show et_go _ _ 1000 359 [some (.ref 150), some (.ref th), some (.ref am), some (.ref out), some (.int (Int32.ofNat i)), x5, x6] [.int v356] _ (ck + c356) (sk + s356) _
  refine ls_istore (i := 5) (p := 361) (by decide +kernel) (Nat.le_of_ble_eq_true rfl) ?_
  refine ls_aload (i := 2) (p := 362) (by decide +kernel) rfl ?_
  refine ls_arg (j := 1) (by decide +kernel) (by omega) hn ?_
  refine ls_arg (j := 2) (by decide +kernel) (by omega) hn ?_
  refine lt_callv (T := et_TT) (t := 13) (mi := 207) (na := 2) (ci := 11) (lk := 7) (lm := 4) (L0 := eg_en (eg_mL 207) [.ref am, .int (f (i + 1)), .int (f (i + 2))]) (by decide +kernel) rfl hH k_am rfl rfl rfl rfl rfl (by rw [show eg_mL 207 = 4 from by decide +kernel]; first | done | rfl) ?_
  refine (hc_claimT (w := (K356, [], G356)) hH k_am (by omega)).mono (fun u hu => ls_cbp (P := fun g => pm_at g am 0) hu (fun v374 K374 G374 c374 s374 x374 f374 hH hP hv374 cl374 sl374 => ?_))
  have hci := hci.fr x374 f374 (by decide +kernel)
  have h3 := (f374.2 th 12 k_th 3 rfl).trans h3
  have hl := (f374.2 rd 7 k_rd 1 rfl).trans hl
  have hm := hP
  have hp := (f374.2 th 12 k_th 2 rfl).trans hp
  have hg := (f374.2 am 13 k_am 3 rfl).trans hg
  have hrc := hrc.fr k_th x374 f374 (by decide +kernel)
  have hrm := hrm.fr k_am x374 f374 (by decide +kernel)
  have k_th := x374 _ _ k_th
  have k_am := x374 _ _ k_am
  have k_out := x374 _ _ k_out
  have k_rd := x374 _ _ k_rd
  obtain ⟨v374, rfl, -⟩ := hv374
  show et_go _ _ 1000 377 [some (.ref 150), some (.ref th), some (.ref am), some (.ref out), some (.int (Int32.ofNat i)), some (.int v356), x6] [.int v374] _ ((ck + c356) + c374) ((sk + s356) + s374) _
  refine ls_istore (i := 6) (p := 379) (by decide +kernel) (Nat.le_of_ble_eq_true rfl) ?_
  refine ls_goto (p := 1639) (by decide +kernel) ?_
  exact hN _ _ 0 h _ _ _ _ _ _ ⟨⟨hH, hci, k_th, k_am, k_out, h3, k_rd, hl, hm, (by decide)⟩, ⟨hh1, hp, hg⟩, hrc, hrm, hbc, hbi⟩ (by omega) (by omega)
theorem lw_c5 (hI : lw_I K G th am out rd s0 s1 aw ai c h cn im) (hi : i + 6 ≤ n) (hn : n ≤ 3072) (hN : ∀ (K' : et_K) (G' : eg_G) (c' h' : Nat) (cn' im' : Nat → Nat) (ck' sk' : Nat) (y5 y6 : Option Value), lw_I K' G' th am out rd s0 s1 aw ai c' h' cn' im' → ck' ≤ ck + 841 → sk' ≤ sk + 7168 → et_go (some (n, f)) (d + 41) 1000 1639 [some (.ref 150), some (.ref th), some (.ref am), some (.ref out), some (.int (Int32.ofNat i)), y5, y6] [] G' ck' sk' Z) : et_go (some (n, f)) (d + 41) 1000 382 [some (.ref 150), some (.ref th), some (.ref am), some (.ref out), some (.int (Int32.ofNat i)), x5, x6] [] G ck sk Z := by
  obtain ⟨⟨hH, hci, k_th, k_am, k_out, h3, k_rd, hl, hm, hc⟩, ⟨hh1, hp, hg⟩, hrc, hrm, hbc, hbi⟩ := hI
  refine ls_aload (i := 1) (p := 383) (by decide +kernel) rfl ?_
  refine lt_callv (T := et_TT) (t := 12) (mi := 118) (na := 0) (ci := 10) (lk := 7) (lm := 1) (L0 := eg_en (eg_mL 118) [.ref th]) (by decide +kernel) rfl hH k_th rfl rfl rfl rfl rfl (by rw [show eg_mL 118 = 1 from by decide +kernel]; first | done | rfl) ?_
  refine (ek_p118_ok (K, [], G) [.ref th] _ hH (by omega) rfl (ht_ac (.inr ⟨by decide, _, rfl, k_th⟩) ht_an)).mono (fun u hu => ls_cbv hu (fun v383 K383 G383 c383 s383 x383 f383 hH hv383 cl383 sl383 => ?_))
  have hci := hci.fr x383 f383 (by decide +kernel)
  have h3 := (f383.2 th 12 k_th 3 rfl).trans h3
  have hl := (f383.2 rd 7 k_rd 1 rfl).trans hl
  have hm := (f383.2 am 13 k_am 5 rfl).trans hm
  have hp := (f383.2 th 12 k_th 2 rfl).trans hp
  have hg := (f383.2 am 13 k_am 3 rfl).trans hg
  have hrc := hrc.fr k_th x383 f383 (by decide +kernel)
  have hrm := hrm.fr k_am x383 f383 (by decide +kernel)
  have k_th := x383 _ _ k_th
  have k_am := x383 _ _ k_am
  have k_out := x383 _ _ k_out
  have k_rd := x383 _ _ k_rd
  obtain ⟨v383, rfl, -⟩ := hv383
  show et_go _ _ 1000 386 [some (.ref 150), some (.ref th), some (.ref am), some (.ref out), some (.int (Int32.ofNat i)), x5, x6] [.int v383] _ (ck + c383) (sk + s383) _
  refine ls_pop (p := 387) (by decide +kernel) ?_
  refine ls_aload (i := 2) (p := 388) (by decide +kernel) rfl ?_
  refine lt_callv (T := et_TT) (t := 13) (mi := 179) (na := 0) (ci := 11) (lk := 7) (lm := 1) (L0 := eg_en (eg_mL 179) [.ref am]) (by decide +kernel) rfl hH k_am rfl rfl rfl rfl rfl (by rw [show eg_mL 179 = 1 from by decide +kernel]; first | done | rfl) ?_
  refine (er_p179_ok (K383, [], G383) [.ref am] _ hH (by omega) rfl (ht_ac (.inr ⟨by decide, _, rfl, k_am⟩) ht_an)).mono (fun u hu => ls_cbv hu (fun v388 K388 G388 c388 s388 x388 f388 hH hv388 cl388 sl388 => ?_))
  have hci := hci.fr x388 f388 (by decide +kernel)
  have h3 := (f388.2 th 12 k_th 3 rfl).trans h3
  have hl := (f388.2 rd 7 k_rd 1 rfl).trans hl
  have hm := (f388.2 am 13 k_am 5 rfl).trans hm
  have hp := (f388.2 th 12 k_th 2 rfl).trans hp
  have hg := (f388.2 am 13 k_am 3 rfl).trans hg
  have hrc := hrc.fr k_th x388 f388 (by decide +kernel)
  have hrm := hrm.fr k_am x388 f388 (by decide +kernel)
  have k_th := x388 _ _ k_th
  have k_am := x388 _ _ k_am
  have k_out := x388 _ _ k_out
  have k_rd := x388 _ _ k_rd
  obtain ⟨v388, rfl, -⟩ := hv388
  show et_go _ _ 1000 391 [some (.ref 150), some (.ref th), some (.ref am), some (.ref out), some (.int (Int32.ofNat i)), x5, x6] [.int v388] _ ((ck + c383) + c388) ((sk + s383) + s388) _
  refine ls_pop (p := 392) (by decide +kernel) ?_
  refine ls_goto (p := 1639) (by decide +kernel) ?_
  exact hN _ _ c h _ _ _ _ _ _ ⟨⟨hH, hci, k_th, k_am, k_out, h3, k_rd, hl, hm, hc⟩, ⟨hh1, hp, hg⟩, hrc, hrm, hbc, hbi⟩ (by omega) (by omega)
theorem lw_c6 (hI : lw_I K G th am out rd s0 s1 aw ai c h cn im) (hi : i + 6 ≤ n) (hn : n ≤ 3072) (hN : ∀ (K' : et_K) (G' : eg_G) (c' h' : Nat) (cn' im' : Nat → Nat) (ck' sk' : Nat) (y5 y6 : Option Value), lw_I K' G' th am out rd s0 s1 aw ai c' h' cn' im' → ck' ≤ ck + 841 → sk' ≤ sk + 7168 → et_go (some (n, f)) (d + 41) 1000 1639 [some (.ref 150), some (.ref th), some (.ref am), some (.ref out), some (.int (Int32.ofNat i)), y5, y6] [] G' ck' sk' Z) : et_go (some (n, f)) (d + 41) 1000 395 [some (.ref 150), some (.ref th), some (.ref am), some (.ref out), some (.int (Int32.ofNat i)), x5, x6] [] G ck sk Z := by
  obtain ⟨⟨hH, hci, k_th, k_am, k_out, h3, k_rd, hl, hm, hc⟩, ⟨hh1, hp, hg⟩, hrc, hrm, hbc, hbi⟩ := hI
  refine ls_aload (i := 1) (p := 396) (by decide +kernel) rfl ?_
  refine ls_arg (j := 1) (by decide +kernel) (by omega) hn ?_
  refine ls_arg (j := 2) (by decide +kernel) (by omega) hn ?_
  refine ls_aload (i := 3) (p := 409) (by decide +kernel) rfl ?_
  refine ls_calls (mi := 3) (na := 4) (lk := 7) (lm := 5) (L0 := eg_en (eg_mL 3) [.ref th, .int (f (i + 1)), .int (f (i + 2)), .ref out]) (by decide +kernel) rfl rfl rfl rfl rfl rfl (by rw [show eg_mL 3 = 5 from by decide +kernel]; first | done | rfl) ?_
  refine (hh_c3 (K, [], G) [.ref th, .int (f (i + 1)), .int (f (i + 2)), .ref out] _ hH (by omega) rfl (ht_ac (.inr ⟨by decide, _, rfl, k_th⟩) (ht_ac hi_any (ht_ac hi_any (ht_ac (.inr ⟨by decide, _, rfl, k_out⟩) ht_an))))).mono (fun u hu => ls_cbv hu (fun v409 K409 G409 c409 s409 x409 f409 hH hv409 cl409 sl409 => ?_))
  have hci := hci.fr x409 f409 (by decide +kernel)
  have h3 := (f409.2 th 12 k_th 3 rfl).trans h3
  have hl := (f409.2 rd 7 k_rd 1 rfl).trans hl
  have hm := (f409.2 am 13 k_am 5 rfl).trans hm
  have hp := (f409.2 th 12 k_th 2 rfl).trans hp
  have hg := (f409.2 am 13 k_am 3 rfl).trans hg
  have hrc := hrc.fr k_th x409 f409 (by decide +kernel)
  have hrm := hrm.fr k_am x409 f409 (by decide +kernel)
  have k_th := x409 _ _ k_th
  have k_am := x409 _ _ k_am
  have k_out := x409 _ _ k_out
  have k_rd := x409 _ _ k_rd
  obtain ⟨v409, rfl, -⟩ := hv409
  show et_go _ _ 1000 412 [some (.ref 150), some (.ref th), some (.ref am), some (.ref out), some (.int (Int32.ofNat i)), x5, x6] [.int v409] _ (ck + c409) (sk + s409) _
  refine ls_istore (i := 5) (p := 414) (by decide +kernel) (Nat.le_of_ble_eq_true rfl) ?_
  refine ls_aload (i := 2) (p := 415) (by decide +kernel) rfl ?_
  refine ls_arg (j := 1) (by decide +kernel) (by omega) hn ?_
  refine ls_arg (j := 2) (by decide +kernel) (by omega) hn ?_
  refine lt_callv (T := et_TT) (t := 13) (mi := 211) (na := 2) (ci := 11) (lk := 7) (lm := 3) (L0 := eg_en (eg_mL 211) [.ref am, .int (f (i + 1)), .int (f (i + 2))]) (by decide +kernel) rfl hH k_am rfl rfl rfl rfl rfl (by rw [show eg_mL 211 = 3 from by decide +kernel]; first | done | rfl) ?_
  refine (er_p211_ok (K409, [], G409) [.ref am, .int (f (i + 1)), .int (f (i + 2))] _ hH (by omega) rfl (ht_ac (.inr ⟨by decide, _, rfl, k_am⟩) (ht_ac hi_any (ht_ac hi_any ht_an)))).mono (fun u hu => ls_cbv hu (fun v427 K427 G427 c427 s427 x427 f427 hH hv427 cl427 sl427 => ?_))
  have hci := hci.fr x427 f427 (by decide +kernel)
  have h3 := (f427.2 th 12 k_th 3 rfl).trans h3
  have hl := (f427.2 rd 7 k_rd 1 rfl).trans hl
  have hm := (f427.2 am 13 k_am 5 rfl).trans hm
  have hp := (f427.2 th 12 k_th 2 rfl).trans hp
  have hg := (f427.2 am 13 k_am 3 rfl).trans hg
  have hrc := hrc.fr k_th x427 f427 (by decide +kernel)
  have hrm := hrm.fr k_am x427 f427 (by decide +kernel)
  have k_th := x427 _ _ k_th
  have k_am := x427 _ _ k_am
  have k_out := x427 _ _ k_out
  have k_rd := x427 _ _ k_rd
  obtain ⟨v427, rfl, -⟩ := hv427
  show et_go _ _ 1000 430 [some (.ref 150), some (.ref th), some (.ref am), some (.ref out), some (.int (Int32.ofNat i)), some (.int v409), x6] [.int v427] _ ((ck + c409) + c427) ((sk + s409) + s427) _
  refine ls_istore (i := 6) (p := 432) (by decide +kernel) (Nat.le_of_ble_eq_true rfl) ?_
  refine ls_goto (p := 1639) (by decide +kernel) ?_
  exact hN _ _ c h _ _ _ _ _ _ ⟨⟨hH, hci, k_th, k_am, k_out, h3, k_rd, hl, hm, hc⟩, ⟨hh1, hp, hg⟩, hrc, hrm, hbc, hbi⟩ (by omega) (by omega)
theorem lw_c7 (hI : lw_I K G th am out rd s0 s1 aw ai c h cn im) (hi : i + 6 ≤ n) (hn : n ≤ 3072) (hN : ∀ (K' : et_K) (G' : eg_G) (c' h' : Nat) (cn' im' : Nat → Nat) (ck' sk' : Nat) (y5 y6 : Option Value), lw_I K' G' th am out rd s0 s1 aw ai c' h' cn' im' → ck' ≤ ck + 841 → sk' ≤ sk + 7168 → et_go (some (n, f)) (d + 41) 1000 1639 [some (.ref 150), some (.ref th), some (.ref am), some (.ref out), some (.int (Int32.ofNat i)), y5, y6] [] G' ck' sk' Z) : et_go (some (n, f)) (d + 41) 1000 435 [some (.ref 150), some (.ref th), some (.ref am), some (.ref out), some (.int (Int32.ofNat i)), x5, x6] [] G ck sk Z := by
  obtain ⟨⟨hH, hci, k_th, k_am, k_out, h3, k_rd, hl, hm, hc⟩, ⟨hh1, hp, hg⟩, hrc, hrm, hbc, hbi⟩ := hI
  refine ls_aload (i := 1) (p := 436) (by decide +kernel) rfl ?_
  refine ls_arg (j := 1) (by decide +kernel) (by omega) hn ?_
  refine ls_arg (j := 2) (by decide +kernel) (by omega) hn ?_
  refine ls_bool (by decide +kernel) (fun b448 hb448 hbe448 => ?_)
  refine ls_aload (i := 3) (p := 457) (by decide +kernel) rfl ?_
  refine ls_calls (mi := 4) (na := 4) (lk := 7) (lm := 5) (L0 := eg_en (eg_mL 4) [.ref th, .int (f (i + 1)), .int (Int32.ofNat b448), .ref out]) (by decide +kernel) rfl rfl rfl rfl rfl rfl (by rw [show eg_mL 4 = 5 from by decide +kernel]; first | done | rfl) ?_
  refine (hh_c4 (K, [], G) [.ref th, .int (f (i + 1)), .int (Int32.ofNat b448), .ref out] _ hH (by omega) rfl (ht_ac (.inr ⟨by decide, _, rfl, k_th⟩) (ht_ac hi_any (ht_ac (hi_nv (by omega) (by omega)) (ht_ac (.inr ⟨by decide, _, rfl, k_out⟩) ht_an))))).mono (fun u hu => ls_cbv hu (fun v457 K457 G457 c457 s457 x457 f457 hH hv457 cl457 sl457 => ?_))
  have hci := hci.fr x457 f457 (by decide +kernel)
  have h3 := (f457.2 th 12 k_th 3 rfl).trans h3
  have hl := (f457.2 rd 7 k_rd 1 rfl).trans hl
  have hm := (f457.2 am 13 k_am 5 rfl).trans hm
  have hp := (f457.2 th 12 k_th 2 rfl).trans hp
  have hg := (f457.2 am 13 k_am 3 rfl).trans hg
  have hrc := hrc.fr k_th x457 f457 (by decide +kernel)
  have hrm := hrm.fr k_am x457 f457 (by decide +kernel)
  have k_th := x457 _ _ k_th
  have k_am := x457 _ _ k_am
  have k_out := x457 _ _ k_out
  have k_rd := x457 _ _ k_rd
  obtain ⟨v457, rfl, -⟩ := hv457
  show et_go _ _ 1000 460 [some (.ref 150), some (.ref th), some (.ref am), some (.ref out), some (.int (Int32.ofNat i)), x5, x6] [.int v457] _ (ck + c457) (sk + s457) _
  refine ls_istore (i := 5) (p := 462) (by decide +kernel) (Nat.le_of_ble_eq_true rfl) ?_
  refine ls_aload (i := 2) (p := 463) (by decide +kernel) rfl ?_
  refine ls_arg (j := 1) (by decide +kernel) (by omega) hn ?_
  refine ls_arg (j := 2) (by decide +kernel) (by omega) hn ?_
  refine ls_bool (by decide +kernel) (fun b475 hb475 hbe475 => ?_)
  refine lt_callv (T := et_TT) (t := 13) (mi := 217) (na := 2) (ci := 11) (lk := 7) (lm := 3) (L0 := eg_en (eg_mL 217) [.ref am, .int (f (i + 1)), .int (Int32.ofNat b475)]) (by decide +kernel) rfl hH k_am rfl rfl rfl rfl rfl (by rw [show eg_mL 217 = 3 from by decide +kernel]; first | done | rfl) ?_
  refine (er_p217_ok (K457, [], G457) [.ref am, .int (f (i + 1)), .int (Int32.ofNat b475)] _ hH (by omega) rfl (ht_ac (.inr ⟨by decide, _, rfl, k_am⟩) (ht_ac hi_any (ht_ac (hi_nv (by omega) (by omega)) ht_an)))).mono (fun u hu => ls_cbv hu (fun v483 K483 G483 c483 s483 x483 f483 hH hv483 cl483 sl483 => ?_))
  have hci := hci.fr x483 f483 (by decide +kernel)
  have h3 := (f483.2 th 12 k_th 3 rfl).trans h3
  have hl := (f483.2 rd 7 k_rd 1 rfl).trans hl
  have hm := (f483.2 am 13 k_am 5 rfl).trans hm
  have hp := (f483.2 th 12 k_th 2 rfl).trans hp
  have hg := (f483.2 am 13 k_am 3 rfl).trans hg
  have hrc := hrc.fr k_th x483 f483 (by decide +kernel)
  have hrm := hrm.fr k_am x483 f483 (by decide +kernel)
  have k_th := x483 _ _ k_th
  have k_am := x483 _ _ k_am
  have k_out := x483 _ _ k_out
  have k_rd := x483 _ _ k_rd
  obtain ⟨v483, rfl, -⟩ := hv483
  show et_go _ _ 1000 486 [some (.ref 150), some (.ref th), some (.ref am), some (.ref out), some (.int (Int32.ofNat i)), some (.int v457), x6] [.int v483] _ ((ck + c457) + c483) ((sk + s457) + s483) _
  refine ls_istore (i := 6) (p := 488) (by decide +kernel) (Nat.le_of_ble_eq_true rfl) ?_
  refine ls_goto (p := 1639) (by decide +kernel) ?_
  exact hN _ _ c h _ _ _ _ _ _ ⟨⟨hH, hci, k_th, k_am, k_out, h3, k_rd, hl, hm, hc⟩, ⟨hh1, hp, hg⟩, hrc, hrm, hbc, hbi⟩ (by omega) (by omega)
theorem lw_c8 (hI : lw_I K G th am out rd s0 s1 aw ai c h cn im) (hi : i + 6 ≤ n) (hn : n ≤ 3072) (hN : ∀ (K' : et_K) (G' : eg_G) (c' h' : Nat) (cn' im' : Nat → Nat) (ck' sk' : Nat) (y5 y6 : Option Value), lw_I K' G' th am out rd s0 s1 aw ai c' h' cn' im' → ck' ≤ ck + 841 → sk' ≤ sk + 7168 → et_go (some (n, f)) (d + 41) 1000 1639 [some (.ref 150), some (.ref th), some (.ref am), some (.ref out), some (.int (Int32.ofNat i)), y5, y6] [] G' ck' sk' Z) : et_go (some (n, f)) (d + 41) 1000 491 [some (.ref 150), some (.ref th), some (.ref am), some (.ref out), some (.int (Int32.ofNat i)), x5, x6] [] G ck sk Z := by
  obtain ⟨⟨hH, hci, k_th, k_am, k_out, h3, k_rd, hl, hm, hc⟩, ⟨hh1, hp, hg⟩, hrc, hrm, hbc, hbi⟩ := hI
  refine ls_aload (i := 1) (p := 492) (by decide +kernel) rfl ?_
  refine ls_arg (j := 1) (by decide +kernel) (by omega) hn ?_
  refine ls_arg (j := 2) (by decide +kernel) (by omega) hn ?_
  refine ls_aload (i := 3) (p := 505) (by decide +kernel) rfl ?_
  refine ls_calls (mi := 5) (na := 4) (lk := 7) (lm := 5) (L0 := eg_en (eg_mL 5) [.ref th, .int (f (i + 1)), .int (f (i + 2)), .ref out]) (by decide +kernel) rfl rfl rfl rfl rfl rfl (by rw [show eg_mL 5 = 5 from by decide +kernel]; first | done | rfl) ?_
  refine (hh_c5 (K, [], G) [.ref th, .int (f (i + 1)), .int (f (i + 2)), .ref out] _ hH (by omega) rfl (ht_ac (.inr ⟨by decide, _, rfl, k_th⟩) (ht_ac hi_any (ht_ac hi_any (ht_ac (.inr ⟨by decide, _, rfl, k_out⟩) ht_an))))).mono (fun u hu => ls_cbv hu (fun v505 K505 G505 c505 s505 x505 f505 hH hv505 cl505 sl505 => ?_))
  have hci := hci.fr x505 f505 (by decide +kernel)
  have h3 := (f505.2 th 12 k_th 3 rfl).trans h3
  have hl := (f505.2 rd 7 k_rd 1 rfl).trans hl
  have hm := (f505.2 am 13 k_am 5 rfl).trans hm
  have hp := (f505.2 th 12 k_th 2 rfl).trans hp
  have hg := (f505.2 am 13 k_am 3 rfl).trans hg
  have hrc := hrc.fr k_th x505 f505 (by decide +kernel)
  have hrm := hrm.fr k_am x505 f505 (by decide +kernel)
  have k_th := x505 _ _ k_th
  have k_am := x505 _ _ k_am
  have k_out := x505 _ _ k_out
  have k_rd := x505 _ _ k_rd
  obtain ⟨v505, rfl, -⟩ := hv505
  show et_go _ _ 1000 508 [some (.ref 150), some (.ref th), some (.ref am), some (.ref out), some (.int (Int32.ofNat i)), x5, x6] [.int v505] _ (ck + c505) (sk + s505) _
  refine ls_istore (i := 5) (p := 510) (by decide +kernel) (Nat.le_of_ble_eq_true rfl) ?_
  refine ls_aload (i := 2) (p := 511) (by decide +kernel) rfl ?_
  refine ls_arg (j := 1) (by decide +kernel) (by omega) hn ?_
  refine ls_arg (j := 2) (by decide +kernel) (by omega) hn ?_
  refine lt_callv (T := et_TT) (t := 13) (mi := 220) (na := 2) (ci := 11) (lk := 7) (lm := 3) (L0 := eg_en (eg_mL 220) [.ref am, .int (f (i + 1)), .int (f (i + 2))]) (by decide +kernel) rfl hH k_am rfl rfl rfl rfl rfl (by rw [show eg_mL 220 = 3 from by decide +kernel]; first | done | rfl) ?_
  refine (er_p220_ok (K505, [], G505) [.ref am, .int (f (i + 1)), .int (f (i + 2))] _ hH (by omega) rfl (ht_ac (.inr ⟨by decide, _, rfl, k_am⟩) (ht_ac hi_any (ht_ac hi_any ht_an)))).mono (fun u hu => ls_cbv hu (fun v523 K523 G523 c523 s523 x523 f523 hH hv523 cl523 sl523 => ?_))
  have hci := hci.fr x523 f523 (by decide +kernel)
  have h3 := (f523.2 th 12 k_th 3 rfl).trans h3
  have hl := (f523.2 rd 7 k_rd 1 rfl).trans hl
  have hm := (f523.2 am 13 k_am 5 rfl).trans hm
  have hp := (f523.2 th 12 k_th 2 rfl).trans hp
  have hg := (f523.2 am 13 k_am 3 rfl).trans hg
  have hrc := hrc.fr k_th x523 f523 (by decide +kernel)
  have hrm := hrm.fr k_am x523 f523 (by decide +kernel)
  have k_th := x523 _ _ k_th
  have k_am := x523 _ _ k_am
  have k_out := x523 _ _ k_out
  have k_rd := x523 _ _ k_rd
  obtain ⟨v523, rfl, -⟩ := hv523
  show et_go _ _ 1000 526 [some (.ref 150), some (.ref th), some (.ref am), some (.ref out), some (.int (Int32.ofNat i)), some (.int v505), x6] [.int v523] _ ((ck + c505) + c523) ((sk + s505) + s523) _
  refine ls_istore (i := 6) (p := 528) (by decide +kernel) (Nat.le_of_ble_eq_true rfl) ?_
  refine ls_goto (p := 1639) (by decide +kernel) ?_
  exact hN _ _ c h _ _ _ _ _ _ ⟨⟨hH, hci, k_th, k_am, k_out, h3, k_rd, hl, hm, hc⟩, ⟨hh1, hp, hg⟩, hrc, hrm, hbc, hbi⟩ (by omega) (by omega)
theorem lw_c9 (hI : lw_I K G th am out rd s0 s1 aw ai c h cn im) (hi : i + 6 ≤ n) (hn : n ≤ 3072) (hN : ∀ (K' : et_K) (G' : eg_G) (c' h' : Nat) (cn' im' : Nat → Nat) (ck' sk' : Nat) (y5 y6 : Option Value), lw_I K' G' th am out rd s0 s1 aw ai c' h' cn' im' → ck' ≤ ck + 841 → sk' ≤ sk + 7168 → et_go (some (n, f)) (d + 41) 1000 1639 [some (.ref 150), some (.ref th), some (.ref am), some (.ref out), some (.int (Int32.ofNat i)), y5, y6] [] G' ck' sk' Z) : et_go (some (n, f)) (d + 41) 1000 531 [some (.ref 150), some (.ref th), some (.ref am), some (.ref out), some (.int (Int32.ofNat i)), x5, x6] [] G ck sk Z := by
  obtain ⟨⟨hH, hci, k_th, k_am, k_out, h3, k_rd, hl, hm, hc⟩, ⟨hh1, hp, hg⟩, hrc, hrm, hbc, hbi⟩ := hI
  refine ls_aload (i := 1) (p := 532) (by decide +kernel) rfl ?_
  refine lt_callv (T := et_TT) (t := 12) (mi := 119) (na := 0) (ci := 10) (lk := 7) (lm := 1) (L0 := eg_en (eg_mL 119) [.ref th]) (by decide +kernel) rfl hH k_th rfl rfl rfl rfl rfl (by rw [show eg_mL 119 = 1 from by decide +kernel]; first | done | rfl) ?_
  refine (ek_p119_ok (K, [], G) [.ref th] _ hH (by omega) rfl (ht_ac (.inr ⟨by decide, _, rfl, k_th⟩) ht_an)).mono (fun u hu => ls_cbv hu (fun v532 K532 G532 c532 s532 x532 f532 hH hv532 cl532 sl532 => ?_))
  have hci := hci.fr x532 f532 (by decide +kernel)
  have h3 := (f532.2 th 12 k_th 3 rfl).trans h3
  have hl := (f532.2 rd 7 k_rd 1 rfl).trans hl
  have hm := (f532.2 am 13 k_am 5 rfl).trans hm
  have hp := (f532.2 th 12 k_th 2 rfl).trans hp
  have hg := (f532.2 am 13 k_am 3 rfl).trans hg
  have hrc := hrc.fr k_th x532 f532 (by decide +kernel)
  have hrm := hrm.fr k_am x532 f532 (by decide +kernel)
  have k_th := x532 _ _ k_th
  have k_am := x532 _ _ k_am
  have k_out := x532 _ _ k_out
  have k_rd := x532 _ _ k_rd
  obtain ⟨v532, rfl, -⟩ := hv532
  show et_go _ _ 1000 535 [some (.ref 150), some (.ref th), some (.ref am), some (.ref out), some (.int (Int32.ofNat i)), x5, x6] [.int v532] _ (ck + c532) (sk + s532) _
  refine ls_pop (p := 536) (by decide +kernel) ?_
  refine ls_aload (i := 2) (p := 537) (by decide +kernel) rfl ?_
  refine lt_callv (T := et_TT) (t := 13) (mi := 221) (na := 0) (ci := 11) (lk := 7) (lm := 1) (L0 := eg_en (eg_mL 221) [.ref am]) (by decide +kernel) rfl hH k_am rfl rfl rfl rfl rfl (by rw [show eg_mL 221 = 1 from by decide +kernel]; first | done | rfl) ?_
  refine (er_p221_ok (K532, [], G532) [.ref am] _ hH (by omega) rfl (ht_ac (.inr ⟨by decide, _, rfl, k_am⟩) ht_an)).mono (fun u hu => ls_cbv hu (fun v537 K537 G537 c537 s537 x537 f537 hH hv537 cl537 sl537 => ?_))
  have hci := hci.fr x537 f537 (by decide +kernel)
  have h3 := (f537.2 th 12 k_th 3 rfl).trans h3
  have hl := (f537.2 rd 7 k_rd 1 rfl).trans hl
  have hm := (f537.2 am 13 k_am 5 rfl).trans hm
  have hp := (f537.2 th 12 k_th 2 rfl).trans hp
  have hg := (f537.2 am 13 k_am 3 rfl).trans hg
  have hrc := hrc.fr k_th x537 f537 (by decide +kernel)
  have hrm := hrm.fr k_am x537 f537 (by decide +kernel)
  have k_th := x537 _ _ k_th
  have k_am := x537 _ _ k_am
  have k_out := x537 _ _ k_out
  have k_rd := x537 _ _ k_rd
  obtain ⟨v537, rfl, -⟩ := hv537
  show et_go _ _ 1000 540 [some (.ref 150), some (.ref th), some (.ref am), some (.ref out), some (.int (Int32.ofNat i)), x5, x6] [.int v537] _ ((ck + c532) + c537) ((sk + s532) + s537) _
  refine ls_pop (p := 541) (by decide +kernel) ?_
  refine ls_goto (p := 1639) (by decide +kernel) ?_
  exact hN _ _ c h _ _ _ _ _ _ ⟨⟨hH, hci, k_th, k_am, k_out, h3, k_rd, hl, hm, hc⟩, ⟨hh1, hp, hg⟩, hrc, hrm, hbc, hbi⟩ (by omega) (by omega)
theorem lw_c10 (hI : lw_I K G th am out rd s0 s1 aw ai c h cn im) (hi : i + 6 ≤ n) (hn : n ≤ 3072) (hN : ∀ (K' : et_K) (G' : eg_G) (c' h' : Nat) (cn' im' : Nat → Nat) (ck' sk' : Nat) (y5 y6 : Option Value), lw_I K' G' th am out rd s0 s1 aw ai c' h' cn' im' → ck' ≤ ck + 841 → sk' ≤ sk + 7168 → et_go (some (n, f)) (d + 41) 1000 1639 [some (.ref 150), some (.ref th), some (.ref am), some (.ref out), some (.int (Int32.ofNat i)), y5, y6] [] G' ck' sk' Z) : et_go (some (n, f)) (d + 41) 1000 544 [some (.ref 150), some (.ref th), some (.ref am), some (.ref out), some (.int (Int32.ofNat i)), x5, x6] [] G ck sk Z := by
  obtain ⟨⟨hH, hci, k_th, k_am, k_out, h3, k_rd, hl, hm, hc⟩, ⟨hh1, hp, hg⟩, hrc, hrm, hbc, hbi⟩ := hI
  refine ls_aload (i := 1) (p := 545) (by decide +kernel) rfl ?_
  refine ls_aload (i := 3) (p := 546) (by decide +kernel) rfl ?_
  refine ls_calls (mi := 6) (na := 2) (lk := 7) (lm := 3) (L0 := eg_en (eg_mL 6) [.ref th, .ref out]) (by decide +kernel) rfl rfl rfl rfl rfl rfl (by rw [show eg_mL 6 = 3 from by decide +kernel]; first | done | rfl) ?_
  have h5 : et_pl (eg_at G s0) 5 = some (.int (Int32.ofNat (cn 4))) := (hrc.2.2 (5, 4) (by decide)).1
  have he : cn 4 ≤ 3 := Int.ofNat_le.mp (hf_bd (t := 10) hH hrc.1.1 rfl rfl h5 (hbc 4))
  have hH0 := hH
  have k_th0 := k_th
  have k_out0 := k_out
  refine ((hh_i6 hH hci k_th k_out (by omega)).and (fh_eye hH k_th k_out hrc.2.1.1 hrc.1.1 h5 he (by omega))).mono (fun u hu => ls_cbrQ hu (fun v546 K546 G546 c546 s546 x546 f546 hH hci hP cl546 sl546 hQ => ?_))
  obtain ⟨_, _, _, _, eu, -, hxf, hQ⟩ := hQ
  cases eu
  have h3 := (f546.2 th 12 k_th 3 rfl).trans h3
  have hl := (f546.2 rd 7 k_rd 1 rfl).trans hl
  have hm := (f546.2 am 13 k_am 5 rfl).trans hm
  have hp := (f546.2 th 12 k_th 2 rfl).trans hp
  have hg := (f546.2 am 13 k_am 3 rfl).trans hg
  have hrm := hrm.fr k_am x546 f546 (by decide +kernel)
  have k_th := x546 _ _ k_th
  have k_am := x546 _ _ k_am
  have k_out := x546 _ _ k_out
  have k_rd := x546 _ _ k_rd
  have hS0 : ∀ a j t, K a = some t → ((a = s0 ∧ j = 5) ∨ (a = out ∧ j = 0)) → (t = 12 → 2 ≤ j) ∧ (t = 10 → a = s0 ∧ j = 5) := by
    intro a j t ha h
    rcases h with ⟨ea, ej⟩ | ⟨ea, ej⟩
    · rw [ea, hrc.1.1] at ha; cases ha; exact ⟨fun h => absurd h (by decide), fun _ => ⟨ea, ej⟩⟩
    · rw [ea, k_out0] at ha; cases ha; exact ⟨fun h => absurd h (by decide), fun h => absurd h (by decide)⟩
  rcases hQ with ⟨he1, ev, ho, h5⟩ | ⟨he1, ev, h5⟩
  · cases ev
    have hrc := hrc.up hH0 k_th0 x546 hxf hS0 h5 (k0 := 4) (by decide)
    show et_go _ _ 1000 549 [some (.ref 150), some (.ref th), some (.ref am), some (.ref out), some (.int (Int32.ofNat i)), x5, x6] [.int (Int32.ofNat 0)] _ (ck + c546) (sk + s546) _
    refine ls_istore (i := 5) (p := 551) (by decide +kernel) (Nat.le_of_ble_eq_true rfl) ?_
    refine ls_aload (i := 2) (p := 552) (by decide +kernel) rfl ?_
    refine lt_callv (T := et_TT) (t := 13) (mi := 222) (na := 0) (ci := 11) (lk := 7) (lm := 3) (L0 := eg_en (eg_mL 222) [.ref am]) (by decide +kernel) rfl hH k_am rfl rfl rfl rfl rfl (by rw [show eg_mL 222 = 3 from by decide +kernel]; first | done | rfl) ?_
    have h4 : et_pl (eg_at G546 aw) 4 = some (.int (Int32.ofNat (cn 4))) := (hrm.2.2 (5, 4) (by decide)).1
    have hH1 := hH
    have k_am0 := k_am
    refine ((er_p222_ok (K546, [], G546) [.ref am] _ hH (by omega) rfl (ht_ac (.inr ⟨by decide, _, rfl, k_am⟩) ht_an)).and (fm_eye hH k_am hrm.1.1 hrm.2.1.1 h4 he (by omega))).mono (fun u hu => ls_cbvQ hu (fun v552 K552 G552 c552 s552 x552 f552 hH hv552 cl552 sl552 hQ => ?_))
    obtain ⟨_, _, eu, -, hxf, hQ⟩ := hQ
    cases eu
    have hci := hci.fr x552 f552 (by decide +kernel)
    have h3 := (f552.2 th 12 k_th 3 rfl).trans h3
    have hl := (f552.2 rd 7 k_rd 1 rfl).trans hl
    have hm := (f552.2 am 13 k_am 5 rfl).trans hm
    have hp := (f552.2 th 12 k_th 2 rfl).trans hp
    have hg := (f552.2 am 13 k_am 3 rfl).trans hg
    have hrc := hrc.fr k_th x552 f552 (by decide +kernel)
    have ho := (f552.2 out 31 k_out 0 rfl).trans ho
    have k_th := x552 _ _ k_th
    have k_am := x552 _ _ k_am
    have k_out := x552 _ _ k_out
    have k_rd := x552 _ _ k_rd
    have hS1 : ∀ a j t, K546 a = some t → ((a = am ∧ j = 0) ∨ (a = aw ∧ j = 4) ∨ (a = aw ∧ 45 ≤ j ∧ j ≤ 113)) → (t = 13 → j = 0 ∨ 3 ≤ j) ∧ ((t = 46 → j = 4 ∨ 5 ≤ j) ∧ ¬ t = 47) := by
      intro a j t ha h
      rcases h with ⟨ea, ej⟩ | ⟨ea, ej⟩ | ⟨ea, ej⟩
      · rw [ea, k_am0] at ha; cases ha; exact ⟨fun _ => .inl ej, fun h => absurd h (by decide), by decide⟩
      · rw [ea, hrm.1.1] at ha; cases ha; exact ⟨fun h => absurd h (by decide), fun _ => .inl ej, by decide⟩
      · rw [ea, hrm.1.1] at ha; cases ha; exact ⟨fun h => absurd h (by decide), fun _ => .inr (by omega), by decide⟩
    rcases hQ with ⟨he2, ev, ht, h4⟩ | ⟨he2, ht, h4⟩
    · cases ev
      have hrm := hrm.up hH1 k_am0 x552 hxf hS1 h4 (by decide)
      have hbc := rc_upb (k := 4) (v := cn 4 + 1) hbc (by omega)
      show et_go _ _ 1000 555 [some (.ref 150), some (.ref th), some (.ref am), some (.ref out), some (.int (Int32.ofNat i)), some (.int (Int32.ofNat 0)), x6] [.int (Int32.ofNat (cn 4))] _ (ck + c546) (sk + s546) _
      refine ls_istore (i := 6) (p := 557) (by decide +kernel) (Nat.le_of_ble_eq_true rfl) ?_
      refine ls_goto (p := 1639) (by decide +kernel) ?_
      exact hN _ _ c h _ _ _ _ _ _ ⟨⟨hH, hci, k_th, k_am, k_out, h3, k_rd, hl, hm, hc⟩, ⟨hh1, hp, hg⟩, hrc, hrm, hbc, hbi⟩ (by omega) (by omega)
    · exact absurd he1 he2
  · cases ev
    have hrc := hrc.up hH0 k_th0 x546 hxf hS0 h5 (k0 := 4) (by decide)
    show et_go _ _ 1000 549 [some (.ref 150), some (.ref th), some (.ref am), some (.ref out), some (.int (Int32.ofNat i)), x5, x6] [.int (Int32.ofNat 1)] _ (ck + c546) (sk + s546) _
    refine ls_istore (i := 5) (p := 551) (by decide +kernel) (Nat.le_of_ble_eq_true rfl) ?_
    refine ls_aload (i := 2) (p := 552) (by decide +kernel) rfl ?_
    refine lt_callv (T := et_TT) (t := 13) (mi := 222) (na := 0) (ci := 11) (lk := 7) (lm := 3) (L0 := eg_en (eg_mL 222) [.ref am]) (by decide +kernel) rfl hH k_am rfl rfl rfl rfl rfl (by rw [show eg_mL 222 = 3 from by decide +kernel]; first | done | rfl) ?_
    have h4 : et_pl (eg_at G546 aw) 4 = some (.int (Int32.ofNat (cn 4))) := (hrm.2.2 (5, 4) (by decide)).1
    have hH1 := hH
    have k_am0 := k_am
    refine ((er_p222_ok (K546, [], G546) [.ref am] _ hH (by omega) rfl (ht_ac (.inr ⟨by decide, _, rfl, k_am⟩) ht_an)).and (fm_eye hH k_am hrm.1.1 hrm.2.1.1 h4 he (by omega))).mono (fun u hu => ls_cbvQ hu (fun v552 K552 G552 c552 s552 x552 f552 hH hv552 cl552 sl552 hQ => ?_))
    obtain ⟨_, _, eu, -, hxf, hQ⟩ := hQ
    cases eu
    have hci := hci.fr x552 f552 (by decide +kernel)
    have h3 := (f552.2 th 12 k_th 3 rfl).trans h3
    have hl := (f552.2 rd 7 k_rd 1 rfl).trans hl
    have hm := (f552.2 am 13 k_am 5 rfl).trans hm
    have hp := (f552.2 th 12 k_th 2 rfl).trans hp
    have hg := (f552.2 am 13 k_am 3 rfl).trans hg
    have hrc := hrc.fr k_th x552 f552 (by decide +kernel)
    have k_th := x552 _ _ k_th
    have k_am := x552 _ _ k_am
    have k_out := x552 _ _ k_out
    have k_rd := x552 _ _ k_rd
    have hS1 : ∀ a j t, K546 a = some t → ((a = am ∧ j = 0) ∨ (a = aw ∧ j = 4) ∨ (a = aw ∧ 45 ≤ j ∧ j ≤ 113)) → (t = 13 → j = 0 ∨ 3 ≤ j) ∧ ((t = 46 → j = 4 ∨ 5 ≤ j) ∧ ¬ t = 47) := by
      intro a j t ha h
      rcases h with ⟨ea, ej⟩ | ⟨ea, ej⟩ | ⟨ea, ej⟩
      · rw [ea, k_am0] at ha; cases ha; exact ⟨fun _ => .inl ej, fun h => absurd h (by decide), by decide⟩
      · rw [ea, hrm.1.1] at ha; cases ha; exact ⟨fun h => absurd h (by decide), fun _ => .inl ej, by decide⟩
      · rw [ea, hrm.1.1] at ha; cases ha; exact ⟨fun h => absurd h (by decide), fun _ => .inr (by omega), by decide⟩
    rcases hQ with ⟨he2, ev, ht, h4⟩ | ⟨he2, ht, h4⟩
    · exact absurd he2 he1
    · obtain ⟨v552, rfl, -⟩ := hv552
      have hrm := hrm.up hH1 k_am0 x552 hxf hS1 h4 (by decide)
      have hbc := rc_upb (k := 4) (v := cn 4) hbc (by omega)
      show et_go _ _ 1000 555 [some (.ref 150), some (.ref th), some (.ref am), some (.ref out), some (.int (Int32.ofNat i)), some (.int (Int32.ofNat 1)), x6] [.int v552] _ (ck + c546) (sk + s546) _
      refine ls_istore (i := 6) (p := 557) (by decide +kernel) (Nat.le_of_ble_eq_true rfl) ?_
      refine ls_goto (p := 1639) (by decide +kernel) ?_
      exact hN _ _ c h _ _ _ _ _ _ ⟨⟨hH, hci, k_th, k_am, k_out, h3, k_rd, hl, hm, hc⟩, ⟨hh1, hp, hg⟩, hrc, hrm, hbc, hbi⟩ (by omega) (by omega)
theorem lw_c11 (hI : lw_I K G th am out rd s0 s1 aw ai c h cn im) (hi : i + 6 ≤ n) (hn : n ≤ 3072) (hN : ∀ (K' : et_K) (G' : eg_G) (c' h' : Nat) (cn' im' : Nat → Nat) (ck' sk' : Nat) (y5 y6 : Option Value), lw_I K' G' th am out rd s0 s1 aw ai c' h' cn' im' → ck' ≤ ck + 841 → sk' ≤ sk + 7168 → et_go (some (n, f)) (d + 41) 1000 1639 [some (.ref 150), some (.ref th), some (.ref am), some (.ref out), some (.int (Int32.ofNat i)), y5, y6] [] G' ck' sk' Z) : et_go (some (n, f)) (d + 41) 1000 560 [some (.ref 150), some (.ref th), some (.ref am), some (.ref out), some (.int (Int32.ofNat i)), x5, x6] [] G ck sk Z := by
  obtain ⟨⟨hH, hci, k_th, k_am, k_out, h3, k_rd, hl, hm, hc⟩, ⟨hh1, hp, hg⟩, hrc, hrm, hbc, hbi⟩ := hI
  refine ls_aload (i := 1) (p := 561) (by decide +kernel) rfl ?_
  refine ls_arg (j := 1) (by decide +kernel) (by omega) hn ?_
  refine ls_arg (j := 2) (by decide +kernel) (by omega) hn ?_
  refine ls_arg (j := 3) (by decide +kernel) (by omega) hn ?_
  refine ls_aload (i := 3) (p := 580) (by decide +kernel) rfl ?_
  refine ls_calls (mi := 7) (na := 5) (lk := 7) (lm := 6) (L0 := eg_en (eg_mL 7) [.ref th, .int (f (i + 1)), .int (f (i + 2)), .int (f (i + 3)), .ref out]) (by decide +kernel) rfl rfl rfl rfl rfl rfl (by rw [show eg_mL 7 = 6 from by decide +kernel]; first | done | rfl) ?_
  refine (hh_c7 (K, [], G) [.ref th, .int (f (i + 1)), .int (f (i + 2)), .int (f (i + 3)), .ref out] _ hH (by omega) rfl (ht_ac (.inr ⟨by decide, _, rfl, k_th⟩) (ht_ac hi_any (ht_ac hi_any (ht_ac hi_any (ht_ac (.inr ⟨by decide, _, rfl, k_out⟩) ht_an)))))).mono (fun u hu => ls_cbv hu (fun v580 K580 G580 c580 s580 x580 f580 hH hv580 cl580 sl580 => ?_))
  have hci := hci.fr x580 f580 (by decide +kernel)
  have h3 := (f580.2 th 12 k_th 3 rfl).trans h3
  have hl := (f580.2 rd 7 k_rd 1 rfl).trans hl
  have hm := (f580.2 am 13 k_am 5 rfl).trans hm
  have hp := (f580.2 th 12 k_th 2 rfl).trans hp
  have hg := (f580.2 am 13 k_am 3 rfl).trans hg
  have hrc := hrc.fr k_th x580 f580 (by decide +kernel)
  have hrm := hrm.fr k_am x580 f580 (by decide +kernel)
  have k_th := x580 _ _ k_th
  have k_am := x580 _ _ k_am
  have k_out := x580 _ _ k_out
  have k_rd := x580 _ _ k_rd
  obtain ⟨v580, rfl, -⟩ := hv580
  show et_go _ _ 1000 583 [some (.ref 150), some (.ref th), some (.ref am), some (.ref out), some (.int (Int32.ofNat i)), x5, x6] [.int v580] _ (ck + c580) (sk + s580) _
  refine ls_istore (i := 5) (p := 585) (by decide +kernel) (Nat.le_of_ble_eq_true rfl) ?_
  refine ls_aload (i := 2) (p := 586) (by decide +kernel) rfl ?_
  refine ls_arg (j := 1) (by decide +kernel) (by omega) hn ?_
  refine ls_arg (j := 2) (by decide +kernel) (by omega) hn ?_
  refine ls_arg (j := 3) (by decide +kernel) (by omega) hn ?_
  refine lt_callv (T := et_TT) (t := 13) (mi := 223) (na := 3) (ci := 11) (lk := 7) (lm := 5) (L0 := eg_en (eg_mL 223) [.ref am, .int (f (i + 1)), .int (f (i + 2)), .int (f (i + 3))]) (by decide +kernel) rfl hH k_am rfl rfl rfl rfl rfl (by rw [show eg_mL 223 = 5 from by decide +kernel]; first | done | rfl) ?_
  refine (er_p223_ok (K580, [], G580) [.ref am, .int (f (i + 1)), .int (f (i + 2)), .int (f (i + 3))] _ hH (by omega) rfl (ht_ac (.inr ⟨by decide, _, rfl, k_am⟩) (ht_ac hi_any (ht_ac hi_any (ht_ac hi_any ht_an))))).mono (fun u hu => ls_cbv hu (fun v604 K604 G604 c604 s604 x604 f604 hH hv604 cl604 sl604 => ?_))
  have hci := hci.fr x604 f604 (by decide +kernel)
  have h3 := (f604.2 th 12 k_th 3 rfl).trans h3
  have hl := (f604.2 rd 7 k_rd 1 rfl).trans hl
  have hm := (f604.2 am 13 k_am 5 rfl).trans hm
  have hp := (f604.2 th 12 k_th 2 rfl).trans hp
  have hg := (f604.2 am 13 k_am 3 rfl).trans hg
  have hrc := hrc.fr k_th x604 f604 (by decide +kernel)
  have hrm := hrm.fr k_am x604 f604 (by decide +kernel)
  have k_th := x604 _ _ k_th
  have k_am := x604 _ _ k_am
  have k_out := x604 _ _ k_out
  have k_rd := x604 _ _ k_rd
  obtain ⟨v604, rfl, -⟩ := hv604
  show et_go _ _ 1000 607 [some (.ref 150), some (.ref th), some (.ref am), some (.ref out), some (.int (Int32.ofNat i)), some (.int v580), x6] [.int v604] _ ((ck + c580) + c604) ((sk + s580) + s604) _
  refine ls_istore (i := 6) (p := 609) (by decide +kernel) (Nat.le_of_ble_eq_true rfl) ?_
  refine ls_goto (p := 1639) (by decide +kernel) ?_
  exact hN _ _ c h _ _ _ _ _ _ ⟨⟨hH, hci, k_th, k_am, k_out, h3, k_rd, hl, hm, hc⟩, ⟨hh1, hp, hg⟩, hrc, hrm, hbc, hbi⟩ (by omega) (by omega)
theorem lw_c12 (hI : lw_I K G th am out rd s0 s1 aw ai c h cn im) (hi : i + 6 ≤ n) (hn : n ≤ 3072) (hN : ∀ (K' : et_K) (G' : eg_G) (c' h' : Nat) (cn' im' : Nat → Nat) (ck' sk' : Nat) (y5 y6 : Option Value), lw_I K' G' th am out rd s0 s1 aw ai c' h' cn' im' → ck' ≤ ck + 841 → sk' ≤ sk + 7168 → et_go (some (n, f)) (d + 41) 1000 1639 [some (.ref 150), some (.ref th), some (.ref am), some (.ref out), some (.int (Int32.ofNat i)), y5, y6] [] G' ck' sk' Z) : et_go (some (n, f)) (d + 41) 1000 612 [some (.ref 150), some (.ref th), some (.ref am), some (.ref out), some (.int (Int32.ofNat i)), x5, x6] [] G ck sk Z := by
  obtain ⟨⟨hH, hci, k_th, k_am, k_out, h3, k_rd, hl, hm, hc⟩, ⟨hh1, hp, hg⟩, hrc, hrm, hbc, hbi⟩ := hI
  refine ls_aload (i := 1) (p := 613) (by decide +kernel) rfl ?_
  refine ls_arg (j := 1) (by decide +kernel) (by omega) hn ?_
  refine ls_arg (j := 2) (by decide +kernel) (by omega) hn ?_
  refine ls_arg (j := 3) (by decide +kernel) (by omega) hn ?_
  refine ls_aload (i := 3) (p := 632) (by decide +kernel) rfl ?_
  refine ls_calls (mi := 8) (na := 5) (lk := 7) (lm := 6) (L0 := eg_en (eg_mL 8) [.ref th, .int (f (i + 1)), .int (f (i + 2)), .int (f (i + 3)), .ref out]) (by decide +kernel) rfl rfl rfl rfl rfl rfl (by rw [show eg_mL 8 = 6 from by decide +kernel]; first | done | rfl) ?_
  refine (hh_c8 (K, [], G) [.ref th, .int (f (i + 1)), .int (f (i + 2)), .int (f (i + 3)), .ref out] _ hH (by omega) rfl (ht_ac (.inr ⟨by decide, _, rfl, k_th⟩) (ht_ac hi_any (ht_ac hi_any (ht_ac hi_any (ht_ac (.inr ⟨by decide, _, rfl, k_out⟩) ht_an)))))).mono (fun u hu => ls_cbv hu (fun v632 K632 G632 c632 s632 x632 f632 hH hv632 cl632 sl632 => ?_))
  have hci := hci.fr x632 f632 (by decide +kernel)
  have h3 := (f632.2 th 12 k_th 3 rfl).trans h3
  have hl := (f632.2 rd 7 k_rd 1 rfl).trans hl
  have hm := (f632.2 am 13 k_am 5 rfl).trans hm
  have hp := (f632.2 th 12 k_th 2 rfl).trans hp
  have hg := (f632.2 am 13 k_am 3 rfl).trans hg
  have hrc := hrc.fr k_th x632 f632 (by decide +kernel)
  have hrm := hrm.fr k_am x632 f632 (by decide +kernel)
  have k_th := x632 _ _ k_th
  have k_am := x632 _ _ k_am
  have k_out := x632 _ _ k_out
  have k_rd := x632 _ _ k_rd
  obtain ⟨v632, rfl, -⟩ := hv632
  show et_go _ _ 1000 635 [some (.ref 150), some (.ref th), some (.ref am), some (.ref out), some (.int (Int32.ofNat i)), x5, x6] [.int v632] _ (ck + c632) (sk + s632) _
  refine ls_istore (i := 5) (p := 637) (by decide +kernel) (Nat.le_of_ble_eq_true rfl) ?_
  refine ls_aload (i := 2) (p := 638) (by decide +kernel) rfl ?_
  refine ls_arg (j := 1) (by decide +kernel) (by omega) hn ?_
  refine ls_arg (j := 2) (by decide +kernel) (by omega) hn ?_
  refine ls_arg (j := 3) (by decide +kernel) (by omega) hn ?_
  refine lt_callv (T := et_TT) (t := 13) (mi := 227) (na := 3) (ci := 11) (lk := 7) (lm := 6) (L0 := eg_en (eg_mL 227) [.ref am, .int (f (i + 1)), .int (f (i + 2)), .int (f (i + 3))]) (by decide +kernel) rfl hH k_am rfl rfl rfl rfl rfl (by rw [show eg_mL 227 = 6 from by decide +kernel]; first | done | rfl) ?_
  refine (er_p227_ok (K632, [], G632) [.ref am, .int (f (i + 1)), .int (f (i + 2)), .int (f (i + 3))] _ hH (by omega) rfl (ht_ac (.inr ⟨by decide, _, rfl, k_am⟩) (ht_ac hi_any (ht_ac hi_any (ht_ac hi_any ht_an))))).mono (fun u hu => ls_cbv hu (fun v656 K656 G656 c656 s656 x656 f656 hH hv656 cl656 sl656 => ?_))
  have hci := hci.fr x656 f656 (by decide +kernel)
  have h3 := (f656.2 th 12 k_th 3 rfl).trans h3
  have hl := (f656.2 rd 7 k_rd 1 rfl).trans hl
  have hm := (f656.2 am 13 k_am 5 rfl).trans hm
  have hp := (f656.2 th 12 k_th 2 rfl).trans hp
  have hg := (f656.2 am 13 k_am 3 rfl).trans hg
  have hrc := hrc.fr k_th x656 f656 (by decide +kernel)
  have hrm := hrm.fr k_am x656 f656 (by decide +kernel)
  have k_th := x656 _ _ k_th
  have k_am := x656 _ _ k_am
  have k_out := x656 _ _ k_out
  have k_rd := x656 _ _ k_rd
  obtain ⟨v656, rfl, -⟩ := hv656
  show et_go _ _ 1000 659 [some (.ref 150), some (.ref th), some (.ref am), some (.ref out), some (.int (Int32.ofNat i)), some (.int v632), x6] [.int v656] _ ((ck + c632) + c656) ((sk + s632) + s656) _
  refine ls_istore (i := 6) (p := 661) (by decide +kernel) (Nat.le_of_ble_eq_true rfl) ?_
  refine ls_goto (p := 1639) (by decide +kernel) ?_
  exact hN _ _ c h _ _ _ _ _ _ ⟨⟨hH, hci, k_th, k_am, k_out, h3, k_rd, hl, hm, hc⟩, ⟨hh1, hp, hg⟩, hrc, hrm, hbc, hbi⟩ (by omega) (by omega)
theorem lw_c13 (hI : lw_I K G th am out rd s0 s1 aw ai c h cn im) (hi : i + 6 ≤ n) (hn : n ≤ 3072) (hN : ∀ (K' : et_K) (G' : eg_G) (c' h' : Nat) (cn' im' : Nat → Nat) (ck' sk' : Nat) (y5 y6 : Option Value), lw_I K' G' th am out rd s0 s1 aw ai c' h' cn' im' → ck' ≤ ck + 841 → sk' ≤ sk + 7168 → et_go (some (n, f)) (d + 41) 1000 1639 [some (.ref 150), some (.ref th), some (.ref am), some (.ref out), some (.int (Int32.ofNat i)), y5, y6] [] G' ck' sk' Z) : et_go (some (n, f)) (d + 41) 1000 664 [some (.ref 150), some (.ref th), some (.ref am), some (.ref out), some (.int (Int32.ofNat i)), x5, x6] [] G ck sk Z := by
  obtain ⟨⟨hH, hci, k_th, k_am, k_out, h3, k_rd, hl, hm, hc⟩, ⟨hh1, hp, hg⟩, hrc, hrm, hbc, hbi⟩ := hI
  refine ls_aload (i := 1) (p := 665) (by decide +kernel) rfl ?_
  refine ls_arg (j := 1) (by decide +kernel) (by omega) hn ?_
  refine ls_arg (j := 2) (by decide +kernel) (by omega) hn ?_
  refine ls_arg (j := 3) (by decide +kernel) (by omega) hn ?_
  refine ls_calls (mi := 9) (na := 4) (lk := 7) (lm := 5) (L0 := eg_en (eg_mL 9) [.ref th, .int (f (i + 1)), .int (f (i + 2)), .int (f (i + 3))]) (by decide +kernel) rfl rfl rfl rfl rfl rfl (by rw [show eg_mL 9 = 5 from by decide +kernel]; first | done | rfl) ?_
  have h5 : et_pl (eg_at G s0) 5 = some (.int (Int32.ofNat (cn 4))) := (hrc.2.2 (5, 4) (by decide)).1
  have he : cn 4 ≤ 3 := Int.ofNat_le.mp (hf_bd (t := 10) hH hrc.1.1 rfl rfl h5 (hbc 4))
  obtain ⟨ea, h6, k_ea⟩ := hf_ref (t := 10) (f := 6) (u := 40) hH hrc.1.1 rfl rfl (.inr trivial)
  refine ((hh_c9 (K, [], G) [.ref th, .int (f (i + 1)), .int (f (i + 2)), .int (f (i + 3))] _ hH (by omega) rfl (ht_ac (.inr ⟨by decide, _, rfl, k_th⟩) (ht_ac hi_any (ht_ac hi_any (ht_ac hi_any ht_an))))).and (fh_stuck hH k_th hrc.2.1.1 hrc.1.1 h5 he h6 k_ea (by omega))).mono (fun u hu => ls_cbvQ hu (fun v683 K683 G683 c683 s683 x683 f683 hH hv683 cl683 sl683 hQ => ?_))
  obtain ⟨_, _, _, _, eu, -, hxf, hQ⟩ := hQ
  cases eu
  have hci := hci.fr x683 f683 (by decide +kernel)
  have h3 := (f683.2 th 12 k_th 3 rfl).trans h3
  have hl := (f683.2 rd 7 k_rd 1 rfl).trans hl
  have hm := (f683.2 am 13 k_am 5 rfl).trans hm
  have hp := (f683.2 th 12 k_th 2 rfl).trans hp
  have hg := (f683.2 am 13 k_am 3 rfl).trans hg
  have hrc := hrc.fr k_th x683 f683 (by decide +kernel)
  have hrm := hrm.fr k_am x683 f683 (by decide +kernel)
  have k_th := x683 _ _ k_th
  have k_am := x683 _ _ k_am
  have k_out := x683 _ _ k_out
  have k_rd := x683 _ _ k_rd
  rcases hQ with ⟨q1, ev⟩ | ⟨q1, q2, ev⟩ | ⟨q1, q2, ev⟩
  · cases ev
    show et_go _ _ 1000 686 [some (.ref 150), some (.ref th), some (.ref am), some (.ref out), some (.int (Int32.ofNat i)), x5, x6] [.int (Int32.ofNat 1)] _ (ck + c683) (sk + s683) _
    refine ls_istore (i := 5) (p := 688) (by decide +kernel) (Nat.le_of_ble_eq_true rfl) ?_
    refine ls_aload (i := 2) (p := 689) (by decide +kernel) rfl ?_
    refine ls_arg (j := 1) (by decide +kernel) (by omega) hn ?_
    refine ls_arg (j := 2) (by decide +kernel) (by omega) hn ?_
    refine ls_arg (j := 3) (by decide +kernel) (by omega) hn ?_
    refine lt_callv (T := et_TT) (t := 13) (mi := 229) (na := 3) (ci := 11) (lk := 7) (lm := 4) (L0 := eg_en (eg_mL 229) [.ref am, .int (f (i + 1)), .int (f (i + 2)), .int (f (i + 3))]) (by decide +kernel) rfl hH k_am rfl rfl rfl rfl rfl (by rw [show eg_mL 229 = 4 from by decide +kernel]; first | done | rfl) ?_
    have h4 : et_pl (eg_at G683 aw) 4 = some (.int (Int32.ofNat (cn 4))) := (hrm.2.2 (5, 4) (by decide)).1
    refine ((er_p229_ok (K683, [], G683) [.ref am, .int (f (i + 1)), .int (f (i + 2)), .int (f (i + 3))] _ hH (by omega) rfl (ht_ac (.inr ⟨by decide, _, rfl, k_am⟩) (ht_ac hi_any (ht_ac hi_any (ht_ac hi_any ht_an))))).and (fm_stuck hH k_am hrm.1.1 hrm.2.1.1 h4 he (by omega))).mono (fun u hu => ls_cbnQ hu (fun K707 G707 c707 s707 x707 f707 hH cl707 sl707 hQ => ?_))
    obtain ⟨_, _, eu, -, hxf, hQ⟩ := hQ
    cases eu
    have hci := hci.fr x707 f707 (by decide +kernel)
    have h3 := (f707.2 th 12 k_th 3 rfl).trans h3
    have hl := (f707.2 rd 7 k_rd 1 rfl).trans hl
    have hm := (f707.2 am 13 k_am 5 rfl).trans hm
    have hp := (f707.2 th 12 k_th 2 rfl).trans hp
    have hg := (f707.2 am 13 k_am 3 rfl).trans hg
    have hrc := hrc.fr k_th x707 f707 (by decide +kernel)
    have hrm := hrm.fr k_am x707 f707 (by decide +kernel)
    have k_th := x707 _ _ k_th
    have k_am := x707 _ _ k_am
    have k_out := x707 _ _ k_out
    have k_rd := x707 _ _ k_rd
    rcases hQ with ⟨r1, ht⟩ | ⟨r1, r2, ht⟩ | ⟨r1, r2, ht⟩
    · show et_go _ _ 1000 710 [some (.ref 150), some (.ref th), some (.ref am), some (.ref out), some (.int (Int32.ofNat i)), some (.int (Int32.ofNat 1)), x6] [] _ (ck + c683) (sk + s683) _
      refine ls_aload (i := 2) (p := 711) (by decide +kernel) rfl ?_
      refine lt_callv (T := et_TT) (t := 13) (mi := 315) (na := 0) (ci := 11) (lk := 7) (lm := 1) (L0 := eg_en (eg_mL 315) [.ref am]) (by decide +kernel) rfl hH k_am rfl rfl rfl rfl rfl (by rw [show eg_mL 315 = 1 from by decide +kernel]; first | done | rfl) ?_
      refine (fm_thrown hH k_am ht).mono (fun u hu => ?_)
      obtain rfl : u = (.inl (some (.int (Int32.ofNat 1))), G707, 0, 0) := hu
      refine ls_cb ?_
      show et_go _ _ 1000 714 [some (.ref 150), some (.ref th), some (.ref am), some (.ref out), some (.int (Int32.ofNat i)), some (.int (Int32.ofNat 1)), x6] [.int (Int32.ofNat 1)] _ (ck + c683) (sk + s683) _
      refine ls_iload (i := 5) (p := 716) (by decide +kernel) rfl ?_
      refine ls_br2 (c := .eq) (t := 721) (f := 719) (by decide +kernel) (fun _ => ?_) (fun hz => absurd (show (Int32.ofNat 1) = (Int32.ofNat 1) from rfl) hz)
      refine ls_goto (p := 1639) (by decide +kernel) ?_
      exact hN _ _ c h _ _ _ _ _ _ ⟨⟨hH, hci, k_th, k_am, k_out, h3, k_rd, hl, hm, hc⟩, ⟨hh1, hp, hg⟩, hrc, hrm, hbc, hbi⟩ (by omega) (by omega)
    · exact absurd r1 q1
    · exact absurd r1 q1
  · cases ev
    show et_go _ _ 1000 686 [some (.ref 150), some (.ref th), some (.ref am), some (.ref out), some (.int (Int32.ofNat i)), x5, x6] [.int (Int32.ofNat 2)] _ (ck + c683) (sk + s683) _
    refine ls_istore (i := 5) (p := 688) (by decide +kernel) (Nat.le_of_ble_eq_true rfl) ?_
    refine ls_aload (i := 2) (p := 689) (by decide +kernel) rfl ?_
    refine ls_arg (j := 1) (by decide +kernel) (by omega) hn ?_
    refine ls_arg (j := 2) (by decide +kernel) (by omega) hn ?_
    refine ls_arg (j := 3) (by decide +kernel) (by omega) hn ?_
    refine lt_callv (T := et_TT) (t := 13) (mi := 229) (na := 3) (ci := 11) (lk := 7) (lm := 4) (L0 := eg_en (eg_mL 229) [.ref am, .int (f (i + 1)), .int (f (i + 2)), .int (f (i + 3))]) (by decide +kernel) rfl hH k_am rfl rfl rfl rfl rfl (by rw [show eg_mL 229 = 4 from by decide +kernel]; first | done | rfl) ?_
    have h4 : et_pl (eg_at G683 aw) 4 = some (.int (Int32.ofNat (cn 4))) := (hrm.2.2 (5, 4) (by decide)).1
    refine ((er_p229_ok (K683, [], G683) [.ref am, .int (f (i + 1)), .int (f (i + 2)), .int (f (i + 3))] _ hH (by omega) rfl (ht_ac (.inr ⟨by decide, _, rfl, k_am⟩) (ht_ac hi_any (ht_ac hi_any (ht_ac hi_any ht_an))))).and (fm_stuck hH k_am hrm.1.1 hrm.2.1.1 h4 he (by omega))).mono (fun u hu => ls_cbnQ hu (fun K707 G707 c707 s707 x707 f707 hH cl707 sl707 hQ => ?_))
    obtain ⟨_, _, eu, -, hxf, hQ⟩ := hQ
    cases eu
    have hci := hci.fr x707 f707 (by decide +kernel)
    have h3 := (f707.2 th 12 k_th 3 rfl).trans h3
    have hl := (f707.2 rd 7 k_rd 1 rfl).trans hl
    have hm := (f707.2 am 13 k_am 5 rfl).trans hm
    have hp := (f707.2 th 12 k_th 2 rfl).trans hp
    have hg := (f707.2 am 13 k_am 3 rfl).trans hg
    have hrc := hrc.fr k_th x707 f707 (by decide +kernel)
    have hrm := hrm.fr k_am x707 f707 (by decide +kernel)
    have k_th := x707 _ _ k_th
    have k_am := x707 _ _ k_am
    have k_out := x707 _ _ k_out
    have k_rd := x707 _ _ k_rd
    rcases hQ with ⟨r1, ht⟩ | ⟨r1, r2, ht⟩ | ⟨r1, r2, ht⟩
    · exact absurd q1 r1
    · show et_go _ _ 1000 710 [some (.ref 150), some (.ref th), some (.ref am), some (.ref out), some (.int (Int32.ofNat i)), some (.int (Int32.ofNat 2)), x6] [] _ (ck + c683) (sk + s683) _
      refine ls_aload (i := 2) (p := 711) (by decide +kernel) rfl ?_
      refine lt_callv (T := et_TT) (t := 13) (mi := 315) (na := 0) (ci := 11) (lk := 7) (lm := 1) (L0 := eg_en (eg_mL 315) [.ref am]) (by decide +kernel) rfl hH k_am rfl rfl rfl rfl rfl (by rw [show eg_mL 315 = 1 from by decide +kernel]; first | done | rfl) ?_
      refine (fm_thrown hH k_am ht).mono (fun u hu => ?_)
      obtain rfl : u = (.inl (some (.int (Int32.ofNat 2))), G707, 0, 0) := hu
      refine ls_cb ?_
      show et_go _ _ 1000 714 [some (.ref 150), some (.ref th), some (.ref am), some (.ref out), some (.int (Int32.ofNat i)), some (.int (Int32.ofNat 2)), x6] [.int (Int32.ofNat 2)] _ (ck + c683) (sk + s683) _
      refine ls_iload (i := 5) (p := 716) (by decide +kernel) rfl ?_
      refine ls_br2 (c := .eq) (t := 721) (f := 719) (by decide +kernel) (fun _ => ?_) (fun hz => absurd (show (Int32.ofNat 2) = (Int32.ofNat 2) from rfl) hz)
      refine ls_goto (p := 1639) (by decide +kernel) ?_
      exact hN _ _ c h _ _ _ _ _ _ ⟨⟨hH, hci, k_th, k_am, k_out, h3, k_rd, hl, hm, hc⟩, ⟨hh1, hp, hg⟩, hrc, hrm, hbc, hbi⟩ (by omega) (by omega)
    · exact absurd q2 r2
  · cases ev
    show et_go _ _ 1000 686 [some (.ref 150), some (.ref th), some (.ref am), some (.ref out), some (.int (Int32.ofNat i)), x5, x6] [.int (Int32.ofNat 0)] _ (ck + c683) (sk + s683) _
    refine ls_istore (i := 5) (p := 688) (by decide +kernel) (Nat.le_of_ble_eq_true rfl) ?_
    refine ls_aload (i := 2) (p := 689) (by decide +kernel) rfl ?_
    refine ls_arg (j := 1) (by decide +kernel) (by omega) hn ?_
    refine ls_arg (j := 2) (by decide +kernel) (by omega) hn ?_
    refine ls_arg (j := 3) (by decide +kernel) (by omega) hn ?_
    refine lt_callv (T := et_TT) (t := 13) (mi := 229) (na := 3) (ci := 11) (lk := 7) (lm := 4) (L0 := eg_en (eg_mL 229) [.ref am, .int (f (i + 1)), .int (f (i + 2)), .int (f (i + 3))]) (by decide +kernel) rfl hH k_am rfl rfl rfl rfl rfl (by rw [show eg_mL 229 = 4 from by decide +kernel]; first | done | rfl) ?_
    have h4 : et_pl (eg_at G683 aw) 4 = some (.int (Int32.ofNat (cn 4))) := (hrm.2.2 (5, 4) (by decide)).1
    refine ((er_p229_ok (K683, [], G683) [.ref am, .int (f (i + 1)), .int (f (i + 2)), .int (f (i + 3))] _ hH (by omega) rfl (ht_ac (.inr ⟨by decide, _, rfl, k_am⟩) (ht_ac hi_any (ht_ac hi_any (ht_ac hi_any ht_an))))).and (fm_stuck hH k_am hrm.1.1 hrm.2.1.1 h4 he (by omega))).mono (fun u hu => ls_cbnQ hu (fun K707 G707 c707 s707 x707 f707 hH cl707 sl707 hQ => ?_))
    obtain ⟨_, _, eu, -, hxf, hQ⟩ := hQ
    cases eu
    have hci := hci.fr x707 f707 (by decide +kernel)
    have h3 := (f707.2 th 12 k_th 3 rfl).trans h3
    have hl := (f707.2 rd 7 k_rd 1 rfl).trans hl
    have hm := (f707.2 am 13 k_am 5 rfl).trans hm
    have hp := (f707.2 th 12 k_th 2 rfl).trans hp
    have hg := (f707.2 am 13 k_am 3 rfl).trans hg
    have hrc := hrc.fr k_th x707 f707 (by decide +kernel)
    have hrm := hrm.fr k_am x707 f707 (by decide +kernel)
    have k_th := x707 _ _ k_th
    have k_am := x707 _ _ k_am
    have k_out := x707 _ _ k_out
    have k_rd := x707 _ _ k_rd
    rcases hQ with ⟨r1, ht⟩ | ⟨r1, r2, ht⟩ | ⟨r1, r2, ht⟩
    · exact absurd q1 r1
    · exact absurd r2 q2
    · show et_go _ _ 1000 710 [some (.ref 150), some (.ref th), some (.ref am), some (.ref out), some (.int (Int32.ofNat i)), some (.int (Int32.ofNat 0)), x6] [] _ (ck + c683) (sk + s683) _
      refine ls_aload (i := 2) (p := 711) (by decide +kernel) rfl ?_
      refine lt_callv (T := et_TT) (t := 13) (mi := 315) (na := 0) (ci := 11) (lk := 7) (lm := 1) (L0 := eg_en (eg_mL 315) [.ref am]) (by decide +kernel) rfl hH k_am rfl rfl rfl rfl rfl (by rw [show eg_mL 315 = 1 from by decide +kernel]; first | done | rfl) ?_
      refine (fm_thrown hH k_am ht).mono (fun u hu => ?_)
      obtain rfl : u = (.inl (some (.int (Int32.ofNat 0))), G707, 0, 0) := hu
      refine ls_cb ?_
      show et_go _ _ 1000 714 [some (.ref 150), some (.ref th), some (.ref am), some (.ref out), some (.int (Int32.ofNat i)), some (.int (Int32.ofNat 0)), x6] [.int (Int32.ofNat 0)] _ (ck + c683) (sk + s683) _
      refine ls_iload (i := 5) (p := 716) (by decide +kernel) rfl ?_
      refine ls_br2 (c := .eq) (t := 721) (f := 719) (by decide +kernel) (fun _ => ?_) (fun hz => absurd (show (Int32.ofNat 0) = (Int32.ofNat 0) from rfl) hz)
      refine ls_goto (p := 1639) (by decide +kernel) ?_
      exact hN _ _ c h _ _ _ _ _ _ ⟨⟨hH, hci, k_th, k_am, k_out, h3, k_rd, hl, hm, hc⟩, ⟨hh1, hp, hg⟩, hrc, hrm, hbc, hbi⟩ (by omega) (by omega)
theorem lw_c14 (hI : lw_I K G th am out rd s0 s1 aw ai c h cn im) (hi : i + 6 ≤ n) (hn : n ≤ 3072) (hN : ∀ (K' : et_K) (G' : eg_G) (c' h' : Nat) (cn' im' : Nat → Nat) (ck' sk' : Nat) (y5 y6 : Option Value), lw_I K' G' th am out rd s0 s1 aw ai c' h' cn' im' → ck' ≤ ck + 841 → sk' ≤ sk + 7168 → et_go (some (n, f)) (d + 41) 1000 1639 [some (.ref 150), some (.ref th), some (.ref am), some (.ref out), some (.int (Int32.ofNat i)), y5, y6] [] G' ck' sk' Z) : et_go (some (n, f)) (d + 41) 1000 724 [some (.ref 150), some (.ref th), some (.ref am), some (.ref out), some (.int (Int32.ofNat i)), x5, x6] [] G ck sk Z := by
  obtain ⟨⟨hH, hci, k_th, k_am, k_out, h3, k_rd, hl, hm, hc⟩, ⟨hh1, hp, hg⟩, hrc, hrm, hbc, hbi⟩ := hI
  refine ls_aload (i := 1) (p := 725) (by decide +kernel) rfl ?_
  refine ls_arg (j := 1) (by decide +kernel) (by omega) hn ?_
  refine ls_arg (j := 2) (by decide +kernel) (by omega) hn ?_
  refine ls_aload (i := 3) (p := 738) (by decide +kernel) rfl ?_
  refine ls_calls (mi := 10) (na := 4) (lk := 7) (lm := 5) (L0 := eg_en (eg_mL 10) [.ref th, .int (f (i + 1)), .int (f (i + 2)), .ref out]) (by decide +kernel) rfl rfl rfl rfl rfl rfl (by rw [show eg_mL 10 = 5 from by decide +kernel]; first | done | rfl) ?_
  refine (hh_c10 (K, [], G) [.ref th, .int (f (i + 1)), .int (f (i + 2)), .ref out] _ hH (by omega) rfl (ht_ac (.inr ⟨by decide, _, rfl, k_th⟩) (ht_ac hi_any (ht_ac hi_any (ht_ac (.inr ⟨by decide, _, rfl, k_out⟩) ht_an))))).mono (fun u hu => ls_cbv hu (fun v738 K738 G738 c738 s738 x738 f738 hH hv738 cl738 sl738 => ?_))
  have hci := hci.fr x738 f738 (by decide +kernel)
  have h3 := (f738.2 th 12 k_th 3 rfl).trans h3
  have hl := (f738.2 rd 7 k_rd 1 rfl).trans hl
  have hm := (f738.2 am 13 k_am 5 rfl).trans hm
  have hp := (f738.2 th 12 k_th 2 rfl).trans hp
  have hg := (f738.2 am 13 k_am 3 rfl).trans hg
  have hrc := hrc.fr k_th x738 f738 (by decide +kernel)
  have hrm := hrm.fr k_am x738 f738 (by decide +kernel)
  have k_th := x738 _ _ k_th
  have k_am := x738 _ _ k_am
  have k_out := x738 _ _ k_out
  have k_rd := x738 _ _ k_rd
  obtain ⟨v738, rfl, -⟩ := hv738
  show et_go _ _ 1000 741 [some (.ref 150), some (.ref th), some (.ref am), some (.ref out), some (.int (Int32.ofNat i)), x5, x6] [.int v738] _ (ck + c738) (sk + s738) _
  refine ls_istore (i := 5) (p := 743) (by decide +kernel) (Nat.le_of_ble_eq_true rfl) ?_
  refine ls_aload (i := 2) (p := 744) (by decide +kernel) rfl ?_
  refine ls_arg (j := 1) (by decide +kernel) (by omega) hn ?_
  refine ls_arg (j := 2) (by decide +kernel) (by omega) hn ?_
  refine lt_callv (T := et_TT) (t := 13) (mi := 230) (na := 2) (ci := 11) (lk := 7) (lm := 3) (L0 := eg_en (eg_mL 230) [.ref am, .int (f (i + 1)), .int (f (i + 2))]) (by decide +kernel) rfl hH k_am rfl rfl rfl rfl rfl (by rw [show eg_mL 230 = 3 from by decide +kernel]; first | done | rfl) ?_
  refine (er_p230_ok (K738, [], G738) [.ref am, .int (f (i + 1)), .int (f (i + 2))] _ hH (by omega) rfl (ht_ac (.inr ⟨by decide, _, rfl, k_am⟩) (ht_ac hi_any (ht_ac hi_any ht_an)))).mono (fun u hu => ls_cbv hu (fun v756 K756 G756 c756 s756 x756 f756 hH hv756 cl756 sl756 => ?_))
  have hci := hci.fr x756 f756 (by decide +kernel)
  have h3 := (f756.2 th 12 k_th 3 rfl).trans h3
  have hl := (f756.2 rd 7 k_rd 1 rfl).trans hl
  have hm := (f756.2 am 13 k_am 5 rfl).trans hm
  have hp := (f756.2 th 12 k_th 2 rfl).trans hp
  have hg := (f756.2 am 13 k_am 3 rfl).trans hg
  have hrc := hrc.fr k_th x756 f756 (by decide +kernel)
  have hrm := hrm.fr k_am x756 f756 (by decide +kernel)
  have k_th := x756 _ _ k_th
  have k_am := x756 _ _ k_am
  have k_out := x756 _ _ k_out
  have k_rd := x756 _ _ k_rd
  obtain ⟨v756, rfl, -⟩ := hv756
  show et_go _ _ 1000 759 [some (.ref 150), some (.ref th), some (.ref am), some (.ref out), some (.int (Int32.ofNat i)), some (.int v738), x6] [.int v756] _ ((ck + c738) + c756) ((sk + s738) + s756) _
  refine ls_istore (i := 6) (p := 761) (by decide +kernel) (Nat.le_of_ble_eq_true rfl) ?_
  refine ls_goto (p := 1639) (by decide +kernel) ?_
  exact hN _ _ c h _ _ _ _ _ _ ⟨⟨hH, hci, k_th, k_am, k_out, h3, k_rd, hl, hm, hc⟩, ⟨hh1, hp, hg⟩, hrc, hrm, hbc, hbi⟩ (by omega) (by omega)
theorem lw_c15 (hI : lw_I K G th am out rd s0 s1 aw ai c h cn im) (hi : i + 6 ≤ n) (hn : n ≤ 3072) (hN : ∀ (K' : et_K) (G' : eg_G) (c' h' : Nat) (cn' im' : Nat → Nat) (ck' sk' : Nat) (y5 y6 : Option Value), lw_I K' G' th am out rd s0 s1 aw ai c' h' cn' im' → ck' ≤ ck + 841 → sk' ≤ sk + 7168 → et_go (some (n, f)) (d + 41) 1000 1639 [some (.ref 150), some (.ref th), some (.ref am), some (.ref out), some (.int (Int32.ofNat i)), y5, y6] [] G' ck' sk' Z) : et_go (some (n, f)) (d + 41) 1000 764 [some (.ref 150), some (.ref th), some (.ref am), some (.ref out), some (.int (Int32.ofNat i)), x5, x6] [] G ck sk Z := by
  obtain ⟨⟨hH, hci, k_th, k_am, k_out, h3, k_rd, hl, hm, hc⟩, ⟨hh1, hp, hg⟩, hrc, hrm, hbc, hbi⟩ := hI
  refine ls_aload (i := 1) (p := 765) (by decide +kernel) rfl ?_
  refine ls_arg (j := 1) (by decide +kernel) (by omega) hn ?_
  refine ls_arg (j := 2) (by decide +kernel) (by omega) hn ?_
  refine ls_aload (i := 3) (p := 778) (by decide +kernel) rfl ?_
  refine ls_calls (mi := 11) (na := 4) (lk := 7) (lm := 5) (L0 := eg_en (eg_mL 11) [.ref th, .int (f (i + 1)), .int (f (i + 2)), .ref out]) (by decide +kernel) rfl rfl rfl rfl rfl rfl (by rw [show eg_mL 11 = 5 from by decide +kernel]; first | done | rfl) ?_
  refine (hh_c11 (K, [], G) [.ref th, .int (f (i + 1)), .int (f (i + 2)), .ref out] _ hH (by omega) rfl (ht_ac (.inr ⟨by decide, _, rfl, k_th⟩) (ht_ac hi_any (ht_ac hi_any (ht_ac (.inr ⟨by decide, _, rfl, k_out⟩) ht_an))))).mono (fun u hu => ls_cbv hu (fun v778 K778 G778 c778 s778 x778 f778 hH hv778 cl778 sl778 => ?_))
  have hci := hci.fr x778 f778 (by decide +kernel)
  have h3 := (f778.2 th 12 k_th 3 rfl).trans h3
  have hl := (f778.2 rd 7 k_rd 1 rfl).trans hl
  have hm := (f778.2 am 13 k_am 5 rfl).trans hm
  have hp := (f778.2 th 12 k_th 2 rfl).trans hp
  have hg := (f778.2 am 13 k_am 3 rfl).trans hg
  have hrc := hrc.fr k_th x778 f778 (by decide +kernel)
  have hrm := hrm.fr k_am x778 f778 (by decide +kernel)
  have k_th := x778 _ _ k_th
  have k_am := x778 _ _ k_am
  have k_out := x778 _ _ k_out
  have k_rd := x778 _ _ k_rd
  obtain ⟨v778, rfl, -⟩ := hv778
  show et_go _ _ 1000 781 [some (.ref 150), some (.ref th), some (.ref am), some (.ref out), some (.int (Int32.ofNat i)), x5, x6] [.int v778] _ (ck + c778) (sk + s778) _
  refine ls_istore (i := 5) (p := 783) (by decide +kernel) (Nat.le_of_ble_eq_true rfl) ?_
  refine ls_aload (i := 2) (p := 784) (by decide +kernel) rfl ?_
  refine ls_arg (j := 1) (by decide +kernel) (by omega) hn ?_
  refine ls_arg (j := 2) (by decide +kernel) (by omega) hn ?_
  refine lt_callv (T := et_TT) (t := 13) (mi := 243) (na := 2) (ci := 11) (lk := 7) (lm := 3) (L0 := eg_en (eg_mL 243) [.ref am, .int (f (i + 1)), .int (f (i + 2))]) (by decide +kernel) rfl hH k_am rfl rfl rfl rfl rfl (by rw [show eg_mL 243 = 3 from by decide +kernel]; first | done | rfl) ?_
  refine (er_p243_ok (K778, [], G778) [.ref am, .int (f (i + 1)), .int (f (i + 2))] _ hH (by omega) rfl (ht_ac (.inr ⟨by decide, _, rfl, k_am⟩) (ht_ac hi_any (ht_ac hi_any ht_an)))).mono (fun u hu => ls_cbv hu (fun v796 K796 G796 c796 s796 x796 f796 hH hv796 cl796 sl796 => ?_))
  have hci := hci.fr x796 f796 (by decide +kernel)
  have h3 := (f796.2 th 12 k_th 3 rfl).trans h3
  have hl := (f796.2 rd 7 k_rd 1 rfl).trans hl
  have hm := (f796.2 am 13 k_am 5 rfl).trans hm
  have hp := (f796.2 th 12 k_th 2 rfl).trans hp
  have hg := (f796.2 am 13 k_am 3 rfl).trans hg
  have hrc := hrc.fr k_th x796 f796 (by decide +kernel)
  have hrm := hrm.fr k_am x796 f796 (by decide +kernel)
  have k_th := x796 _ _ k_th
  have k_am := x796 _ _ k_am
  have k_out := x796 _ _ k_out
  have k_rd := x796 _ _ k_rd
  obtain ⟨v796, rfl, -⟩ := hv796
  show et_go _ _ 1000 799 [some (.ref 150), some (.ref th), some (.ref am), some (.ref out), some (.int (Int32.ofNat i)), some (.int v778), x6] [.int v796] _ ((ck + c778) + c796) ((sk + s778) + s796) _
  refine ls_istore (i := 6) (p := 801) (by decide +kernel) (Nat.le_of_ble_eq_true rfl) ?_
  refine ls_goto (p := 1639) (by decide +kernel) ?_
  exact hN _ _ c h _ _ _ _ _ _ ⟨⟨hH, hci, k_th, k_am, k_out, h3, k_rd, hl, hm, hc⟩, ⟨hh1, hp, hg⟩, hrc, hrm, hbc, hbi⟩ (by omega) (by omega)
theorem lw_c16 (hI : lw_I K G th am out rd s0 s1 aw ai c h cn im) (hi : i + 6 ≤ n) (hn : n ≤ 3072) (hN : ∀ (K' : et_K) (G' : eg_G) (c' h' : Nat) (cn' im' : Nat → Nat) (ck' sk' : Nat) (y5 y6 : Option Value), lw_I K' G' th am out rd s0 s1 aw ai c' h' cn' im' → ck' ≤ ck + 841 → sk' ≤ sk + 7168 → et_go (some (n, f)) (d + 41) 1000 1639 [some (.ref 150), some (.ref th), some (.ref am), some (.ref out), some (.int (Int32.ofNat i)), y5, y6] [] G' ck' sk' Z) : et_go (some (n, f)) (d + 41) 1000 804 [some (.ref 150), some (.ref th), some (.ref am), some (.ref out), some (.int (Int32.ofNat i)), x5, x6] [] G ck sk Z := by
  obtain ⟨⟨hH, hci, k_th, k_am, k_out, h3, k_rd, hl, hm, hc⟩, ⟨hh1, hp, hg⟩, hrc, hrm, hbc, hbi⟩ := hI
  refine ls_aload (i := 1) (p := 805) (by decide +kernel) rfl ?_
  refine ls_arg (j := 1) (by decide +kernel) (by omega) hn ?_
  refine ls_arg (j := 2) (by decide +kernel) (by omega) hn ?_
  refine ls_arg (j := 3) (by decide +kernel) (by omega) hn ?_
  refine ls_aload (i := 3) (p := 824) (by decide +kernel) rfl ?_
  refine ls_calls (mi := 12) (na := 5) (lk := 7) (lm := 6) (L0 := eg_en (eg_mL 12) [.ref th, .int (f (i + 1)), .int (f (i + 2)), .int (f (i + 3)), .ref out]) (by decide +kernel) rfl rfl rfl rfl rfl rfl (by rw [show eg_mL 12 = 6 from by decide +kernel]; first | done | rfl) ?_
  refine (hh_c12 (K, [], G) [.ref th, .int (f (i + 1)), .int (f (i + 2)), .int (f (i + 3)), .ref out] _ hH (by omega) rfl (ht_ac (.inr ⟨by decide, _, rfl, k_th⟩) (ht_ac hi_any (ht_ac hi_any (ht_ac hi_any (ht_ac (.inr ⟨by decide, _, rfl, k_out⟩) ht_an)))))).mono (fun u hu => ls_cbv hu (fun v824 K824 G824 c824 s824 x824 f824 hH hv824 cl824 sl824 => ?_))
  have hci := hci.fr x824 f824 (by decide +kernel)
  have h3 := (f824.2 th 12 k_th 3 rfl).trans h3
  have hl := (f824.2 rd 7 k_rd 1 rfl).trans hl
  have hm := (f824.2 am 13 k_am 5 rfl).trans hm
  have hp := (f824.2 th 12 k_th 2 rfl).trans hp
  have hg := (f824.2 am 13 k_am 3 rfl).trans hg
  have hrc := hrc.fr k_th x824 f824 (by decide +kernel)
  have hrm := hrm.fr k_am x824 f824 (by decide +kernel)
  have k_th := x824 _ _ k_th
  have k_am := x824 _ _ k_am
  have k_out := x824 _ _ k_out
  have k_rd := x824 _ _ k_rd
  obtain ⟨v824, rfl, -⟩ := hv824
  show et_go _ _ 1000 827 [some (.ref 150), some (.ref th), some (.ref am), some (.ref out), some (.int (Int32.ofNat i)), x5, x6] [.int v824] _ (ck + c824) (sk + s824) _
  refine ls_istore (i := 5) (p := 829) (by decide +kernel) (Nat.le_of_ble_eq_true rfl) ?_
  refine ls_aload (i := 2) (p := 830) (by decide +kernel) rfl ?_
  refine ls_arg (j := 1) (by decide +kernel) (by omega) hn ?_
  refine ls_arg (j := 2) (by decide +kernel) (by omega) hn ?_
  refine ls_arg (j := 3) (by decide +kernel) (by omega) hn ?_
  refine lt_callv (T := et_TT) (t := 13) (mi := 244) (na := 3) (ci := 11) (lk := 7) (lm := 4) (L0 := eg_en (eg_mL 244) [.ref am, .int (f (i + 1)), .int (f (i + 2)), .int (f (i + 3))]) (by decide +kernel) rfl hH k_am rfl rfl rfl rfl rfl (by rw [show eg_mL 244 = 4 from by decide +kernel]; first | done | rfl) ?_
  refine (er_p244_ok (K824, [], G824) [.ref am, .int (f (i + 1)), .int (f (i + 2)), .int (f (i + 3))] _ hH (by omega) rfl (ht_ac (.inr ⟨by decide, _, rfl, k_am⟩) (ht_ac hi_any (ht_ac hi_any (ht_ac hi_any ht_an))))).mono (fun u hu => ls_cbv hu (fun v848 K848 G848 c848 s848 x848 f848 hH hv848 cl848 sl848 => ?_))
  have hci := hci.fr x848 f848 (by decide +kernel)
  have h3 := (f848.2 th 12 k_th 3 rfl).trans h3
  have hl := (f848.2 rd 7 k_rd 1 rfl).trans hl
  have hm := (f848.2 am 13 k_am 5 rfl).trans hm
  have hp := (f848.2 th 12 k_th 2 rfl).trans hp
  have hg := (f848.2 am 13 k_am 3 rfl).trans hg
  have hrc := hrc.fr k_th x848 f848 (by decide +kernel)
  have hrm := hrm.fr k_am x848 f848 (by decide +kernel)
  have k_th := x848 _ _ k_th
  have k_am := x848 _ _ k_am
  have k_out := x848 _ _ k_out
  have k_rd := x848 _ _ k_rd
  obtain ⟨v848, rfl, -⟩ := hv848
  show et_go _ _ 1000 851 [some (.ref 150), some (.ref th), some (.ref am), some (.ref out), some (.int (Int32.ofNat i)), some (.int v824), x6] [.int v848] _ ((ck + c824) + c848) ((sk + s824) + s848) _
  refine ls_istore (i := 6) (p := 853) (by decide +kernel) (Nat.le_of_ble_eq_true rfl) ?_
  refine ls_goto (p := 1639) (by decide +kernel) ?_
  exact hN _ _ c h _ _ _ _ _ _ ⟨⟨hH, hci, k_th, k_am, k_out, h3, k_rd, hl, hm, hc⟩, ⟨hh1, hp, hg⟩, hrc, hrm, hbc, hbi⟩ (by omega) (by omega)
theorem lw_c17 (hI : lw_I K G th am out rd s0 s1 aw ai c h cn im) (hi : i + 6 ≤ n) (hn : n ≤ 3072) (hN : ∀ (K' : et_K) (G' : eg_G) (c' h' : Nat) (cn' im' : Nat → Nat) (ck' sk' : Nat) (y5 y6 : Option Value), lw_I K' G' th am out rd s0 s1 aw ai c' h' cn' im' → ck' ≤ ck + 841 → sk' ≤ sk + 7168 → et_go (some (n, f)) (d + 41) 1000 1639 [some (.ref 150), some (.ref th), some (.ref am), some (.ref out), some (.int (Int32.ofNat i)), y5, y6] [] G' ck' sk' Z) : et_go (some (n, f)) (d + 41) 1000 856 [some (.ref 150), some (.ref th), some (.ref am), some (.ref out), some (.int (Int32.ofNat i)), x5, x6] [] G ck sk Z := by
  obtain ⟨⟨hH, hci, k_th, k_am, k_out, h3, k_rd, hl, hm, hc⟩, ⟨hh1, hp, hg⟩, hrc, hrm, hbc, hbi⟩ := hI
  refine ls_aload (i := 1) (p := 857) (by decide +kernel) rfl ?_
  refine ls_arg (j := 1) (by decide +kernel) (by omega) hn ?_
  refine ls_arg (j := 2) (by decide +kernel) (by omega) hn ?_
  refine ls_arg (j := 3) (by decide +kernel) (by omega) hn ?_
  refine ls_aload (i := 3) (p := 876) (by decide +kernel) rfl ?_
  refine ls_calls (mi := 13) (na := 5) (lk := 7) (lm := 6) (L0 := eg_en (eg_mL 13) [.ref th, .int (f (i + 1)), .int (f (i + 2)), .int (f (i + 3)), .ref out]) (by decide +kernel) rfl rfl rfl rfl rfl rfl (by rw [show eg_mL 13 = 6 from by decide +kernel]; first | done | rfl) ?_
  refine (hh_c13 (K, [], G) [.ref th, .int (f (i + 1)), .int (f (i + 2)), .int (f (i + 3)), .ref out] _ hH (by omega) rfl (ht_ac (.inr ⟨by decide, _, rfl, k_th⟩) (ht_ac hi_any (ht_ac hi_any (ht_ac hi_any (ht_ac (.inr ⟨by decide, _, rfl, k_out⟩) ht_an)))))).mono (fun u hu => ls_cbv hu (fun v876 K876 G876 c876 s876 x876 f876 hH hv876 cl876 sl876 => ?_))
  have hci := hci.fr x876 f876 (by decide +kernel)
  have h3 := (f876.2 th 12 k_th 3 rfl).trans h3
  have hl := (f876.2 rd 7 k_rd 1 rfl).trans hl
  have hm := (f876.2 am 13 k_am 5 rfl).trans hm
  have hp := (f876.2 th 12 k_th 2 rfl).trans hp
  have hg := (f876.2 am 13 k_am 3 rfl).trans hg
  have hrc := hrc.fr k_th x876 f876 (by decide +kernel)
  have hrm := hrm.fr k_am x876 f876 (by decide +kernel)
  have k_th := x876 _ _ k_th
  have k_am := x876 _ _ k_am
  have k_out := x876 _ _ k_out
  have k_rd := x876 _ _ k_rd
  obtain ⟨v876, rfl, -⟩ := hv876
  show et_go _ _ 1000 879 [some (.ref 150), some (.ref th), some (.ref am), some (.ref out), some (.int (Int32.ofNat i)), x5, x6] [.int v876] _ (ck + c876) (sk + s876) _
  refine ls_istore (i := 5) (p := 881) (by decide +kernel) (Nat.le_of_ble_eq_true rfl) ?_
  refine ls_aload (i := 2) (p := 882) (by decide +kernel) rfl ?_
  refine ls_arg (j := 1) (by decide +kernel) (by omega) hn ?_
  refine ls_arg (j := 2) (by decide +kernel) (by omega) hn ?_
  refine ls_arg (j := 3) (by decide +kernel) (by omega) hn ?_
  refine lt_callv (T := et_TT) (t := 13) (mi := 252) (na := 3) (ci := 11) (lk := 7) (lm := 7) (L0 := eg_en (eg_mL 252) [.ref am, .int (f (i + 1)), .int (f (i + 2)), .int (f (i + 3))]) (by decide +kernel) rfl hH k_am rfl rfl rfl rfl rfl (by rw [show eg_mL 252 = 7 from by decide +kernel]; first | done | rfl) ?_
  refine (er_p252_ok (K876, [], G876) [.ref am, .int (f (i + 1)), .int (f (i + 2)), .int (f (i + 3))] _ hH (by omega) rfl (ht_ac (.inr ⟨by decide, _, rfl, k_am⟩) (ht_ac hi_any (ht_ac hi_any (ht_ac hi_any ht_an))))).mono (fun u hu => ls_cbv hu (fun v900 K900 G900 c900 s900 x900 f900 hH hv900 cl900 sl900 => ?_))
  have hci := hci.fr x900 f900 (by decide +kernel)
  have h3 := (f900.2 th 12 k_th 3 rfl).trans h3
  have hl := (f900.2 rd 7 k_rd 1 rfl).trans hl
  have hm := (f900.2 am 13 k_am 5 rfl).trans hm
  have hp := (f900.2 th 12 k_th 2 rfl).trans hp
  have hg := (f900.2 am 13 k_am 3 rfl).trans hg
  have hrc := hrc.fr k_th x900 f900 (by decide +kernel)
  have hrm := hrm.fr k_am x900 f900 (by decide +kernel)
  have k_th := x900 _ _ k_th
  have k_am := x900 _ _ k_am
  have k_out := x900 _ _ k_out
  have k_rd := x900 _ _ k_rd
  obtain ⟨v900, rfl, -⟩ := hv900
  show et_go _ _ 1000 903 [some (.ref 150), some (.ref th), some (.ref am), some (.ref out), some (.int (Int32.ofNat i)), some (.int v876), x6] [.int v900] _ ((ck + c876) + c900) ((sk + s876) + s900) _
  refine ls_istore (i := 6) (p := 905) (by decide +kernel) (Nat.le_of_ble_eq_true rfl) ?_
  refine ls_goto (p := 1639) (by decide +kernel) ?_
  exact hN _ _ c h _ _ _ _ _ _ ⟨⟨hH, hci, k_th, k_am, k_out, h3, k_rd, hl, hm, hc⟩, ⟨hh1, hp, hg⟩, hrc, hrm, hbc, hbi⟩ (by omega) (by omega)
theorem lw_c18 (hI : lw_I K G th am out rd s0 s1 aw ai c h cn im) (hi : i + 6 ≤ n) (hn : n ≤ 3072) (hN : ∀ (K' : et_K) (G' : eg_G) (c' h' : Nat) (cn' im' : Nat → Nat) (ck' sk' : Nat) (y5 y6 : Option Value), lw_I K' G' th am out rd s0 s1 aw ai c' h' cn' im' → ck' ≤ ck + 841 → sk' ≤ sk + 7168 → et_go (some (n, f)) (d + 41) 1000 1639 [some (.ref 150), some (.ref th), some (.ref am), some (.ref out), some (.int (Int32.ofNat i)), y5, y6] [] G' ck' sk' Z) : et_go (some (n, f)) (d + 41) 1000 908 [some (.ref 150), some (.ref th), some (.ref am), some (.ref out), some (.int (Int32.ofNat i)), x5, x6] [] G ck sk Z := by
  obtain ⟨⟨hH, hci, k_th, k_am, k_out, h3, k_rd, hl, hm, hc⟩, ⟨hh1, hp, hg⟩, hrc, hrm, hbc, hbi⟩ := hI
  refine ls_aload (i := 1) (p := 909) (by decide +kernel) rfl ?_
  refine ls_arg (j := 1) (by decide +kernel) (by omega) hn ?_
  refine ls_arg (j := 2) (by decide +kernel) (by omega) hn ?_
  refine ls_aload (i := 3) (p := 922) (by decide +kernel) rfl ?_
  refine ls_calls (mi := 14) (na := 4) (lk := 7) (lm := 5) (L0 := eg_en (eg_mL 14) [.ref th, .int (f (i + 1)), .int (f (i + 2)), .ref out]) (by decide +kernel) rfl rfl rfl rfl rfl rfl (by rw [show eg_mL 14 = 5 from by decide +kernel]; first | done | rfl) ?_
  refine (hh_c14 (K, [], G) [.ref th, .int (f (i + 1)), .int (f (i + 2)), .ref out] _ hH (by omega) rfl (ht_ac (.inr ⟨by decide, _, rfl, k_th⟩) (ht_ac hi_any (ht_ac hi_any (ht_ac (.inr ⟨by decide, _, rfl, k_out⟩) ht_an))))).mono (fun u hu => ls_cbv hu (fun v922 K922 G922 c922 s922 x922 f922 hH hv922 cl922 sl922 => ?_))
  have hci := hci.fr x922 f922 (by decide +kernel)
  have h3 := (f922.2 th 12 k_th 3 rfl).trans h3
  have hl := (f922.2 rd 7 k_rd 1 rfl).trans hl
  have hm := (f922.2 am 13 k_am 5 rfl).trans hm
  have hp := (f922.2 th 12 k_th 2 rfl).trans hp
  have hg := (f922.2 am 13 k_am 3 rfl).trans hg
  have hrc := hrc.fr k_th x922 f922 (by decide +kernel)
  have hrm := hrm.fr k_am x922 f922 (by decide +kernel)
  have k_th := x922 _ _ k_th
  have k_am := x922 _ _ k_am
  have k_out := x922 _ _ k_out
  have k_rd := x922 _ _ k_rd
  obtain ⟨v922, rfl, -⟩ := hv922
  show et_go _ _ 1000 925 [some (.ref 150), some (.ref th), some (.ref am), some (.ref out), some (.int (Int32.ofNat i)), x5, x6] [.int v922] _ (ck + c922) (sk + s922) _
  refine ls_istore (i := 5) (p := 927) (by decide +kernel) (Nat.le_of_ble_eq_true rfl) ?_
  refine ls_aload (i := 2) (p := 928) (by decide +kernel) rfl ?_
  refine ls_arg (j := 1) (by decide +kernel) (by omega) hn ?_
  refine ls_arg (j := 2) (by decide +kernel) (by omega) hn ?_
  refine lt_callv (T := et_TT) (t := 13) (mi := 253) (na := 2) (ci := 11) (lk := 7) (lm := 3) (L0 := eg_en (eg_mL 253) [.ref am, .int (f (i + 1)), .int (f (i + 2))]) (by decide +kernel) rfl hH k_am rfl rfl rfl rfl rfl (by rw [show eg_mL 253 = 3 from by decide +kernel]; first | done | rfl) ?_
  refine (er_p253_ok (K922, [], G922) [.ref am, .int (f (i + 1)), .int (f (i + 2))] _ hH (by omega) rfl (ht_ac (.inr ⟨by decide, _, rfl, k_am⟩) (ht_ac hi_any (ht_ac hi_any ht_an)))).mono (fun u hu => ls_cbv hu (fun v940 K940 G940 c940 s940 x940 f940 hH hv940 cl940 sl940 => ?_))
  have hci := hci.fr x940 f940 (by decide +kernel)
  have h3 := (f940.2 th 12 k_th 3 rfl).trans h3
  have hl := (f940.2 rd 7 k_rd 1 rfl).trans hl
  have hm := (f940.2 am 13 k_am 5 rfl).trans hm
  have hp := (f940.2 th 12 k_th 2 rfl).trans hp
  have hg := (f940.2 am 13 k_am 3 rfl).trans hg
  have hrc := hrc.fr k_th x940 f940 (by decide +kernel)
  have hrm := hrm.fr k_am x940 f940 (by decide +kernel)
  have k_th := x940 _ _ k_th
  have k_am := x940 _ _ k_am
  have k_out := x940 _ _ k_out
  have k_rd := x940 _ _ k_rd
  obtain ⟨v940, rfl, -⟩ := hv940
  show et_go _ _ 1000 943 [some (.ref 150), some (.ref th), some (.ref am), some (.ref out), some (.int (Int32.ofNat i)), some (.int v922), x6] [.int v940] _ ((ck + c922) + c940) ((sk + s922) + s940) _
  refine ls_istore (i := 6) (p := 945) (by decide +kernel) (Nat.le_of_ble_eq_true rfl) ?_
  refine ls_goto (p := 1639) (by decide +kernel) ?_
  exact hN _ _ c h _ _ _ _ _ _ ⟨⟨hH, hci, k_th, k_am, k_out, h3, k_rd, hl, hm, hc⟩, ⟨hh1, hp, hg⟩, hrc, hrm, hbc, hbi⟩ (by omega) (by omega)
theorem lw_c19 (hI : lw_I K G th am out rd s0 s1 aw ai c h cn im) (hi : i + 6 ≤ n) (hn : n ≤ 3072) (hN : ∀ (K' : et_K) (G' : eg_G) (c' h' : Nat) (cn' im' : Nat → Nat) (ck' sk' : Nat) (y5 y6 : Option Value), lw_I K' G' th am out rd s0 s1 aw ai c' h' cn' im' → ck' ≤ ck + 841 → sk' ≤ sk + 7168 → et_go (some (n, f)) (d + 41) 1000 1639 [some (.ref 150), some (.ref th), some (.ref am), some (.ref out), some (.int (Int32.ofNat i)), y5, y6] [] G' ck' sk' Z) : et_go (some (n, f)) (d + 41) 1000 948 [some (.ref 150), some (.ref th), some (.ref am), some (.ref out), some (.int (Int32.ofNat i)), x5, x6] [] G ck sk Z := by
  obtain ⟨⟨hH, hci, k_th, k_am, k_out, h3, k_rd, hl, hm, hc⟩, ⟨hh1, hp, hg⟩, hrc, hrm, hbc, hbi⟩ := hI
  refine ls_aload (i := 1) (p := 949) (by decide +kernel) rfl ?_
  refine ls_arg (j := 1) (by decide +kernel) (by omega) hn ?_
  refine ls_arg (j := 2) (by decide +kernel) (by omega) hn ?_
  refine ls_arg (j := 3) (by decide +kernel) (by omega) hn ?_
  refine ls_aload (i := 3) (p := 968) (by decide +kernel) rfl ?_
  refine ls_calls (mi := 15) (na := 5) (lk := 7) (lm := 6) (L0 := eg_en (eg_mL 15) [.ref th, .int (f (i + 1)), .int (f (i + 2)), .int (f (i + 3)), .ref out]) (by decide +kernel) rfl rfl rfl rfl rfl rfl (by rw [show eg_mL 15 = 6 from by decide +kernel]; first | done | rfl) ?_
  refine (hh_c15 (K, [], G) [.ref th, .int (f (i + 1)), .int (f (i + 2)), .int (f (i + 3)), .ref out] _ hH (by omega) rfl (ht_ac (.inr ⟨by decide, _, rfl, k_th⟩) (ht_ac hi_any (ht_ac hi_any (ht_ac hi_any (ht_ac (.inr ⟨by decide, _, rfl, k_out⟩) ht_an)))))).mono (fun u hu => ls_cbv hu (fun v968 K968 G968 c968 s968 x968 f968 hH hv968 cl968 sl968 => ?_))
  have hci := hci.fr x968 f968 (by decide +kernel)
  have h3 := (f968.2 th 12 k_th 3 rfl).trans h3
  have hl := (f968.2 rd 7 k_rd 1 rfl).trans hl
  have hm := (f968.2 am 13 k_am 5 rfl).trans hm
  have hp := (f968.2 th 12 k_th 2 rfl).trans hp
  have hg := (f968.2 am 13 k_am 3 rfl).trans hg
  have hrc := hrc.fr k_th x968 f968 (by decide +kernel)
  have hrm := hrm.fr k_am x968 f968 (by decide +kernel)
  have k_th := x968 _ _ k_th
  have k_am := x968 _ _ k_am
  have k_out := x968 _ _ k_out
  have k_rd := x968 _ _ k_rd
  obtain ⟨v968, rfl, -⟩ := hv968
  show et_go _ _ 1000 971 [some (.ref 150), some (.ref th), some (.ref am), some (.ref out), some (.int (Int32.ofNat i)), x5, x6] [.int v968] _ (ck + c968) (sk + s968) _
  refine ls_istore (i := 5) (p := 973) (by decide +kernel) (Nat.le_of_ble_eq_true rfl) ?_
  refine ls_aload (i := 2) (p := 974) (by decide +kernel) rfl ?_
  refine ls_arg (j := 1) (by decide +kernel) (by omega) hn ?_
  refine ls_arg (j := 2) (by decide +kernel) (by omega) hn ?_
  refine ls_arg (j := 3) (by decide +kernel) (by omega) hn ?_
  refine lt_callv (T := et_TT) (t := 13) (mi := 259) (na := 3) (ci := 11) (lk := 7) (lm := 4) (L0 := eg_en (eg_mL 259) [.ref am, .int (f (i + 1)), .int (f (i + 2)), .int (f (i + 3))]) (by decide +kernel) rfl hH k_am rfl rfl rfl rfl rfl (by rw [show eg_mL 259 = 4 from by decide +kernel]; first | done | rfl) ?_
  refine (er_p259_ok (K968, [], G968) [.ref am, .int (f (i + 1)), .int (f (i + 2)), .int (f (i + 3))] _ hH (by omega) rfl (ht_ac (.inr ⟨by decide, _, rfl, k_am⟩) (ht_ac hi_any (ht_ac hi_any (ht_ac hi_any ht_an))))).mono (fun u hu => ls_cbv hu (fun v992 K992 G992 c992 s992 x992 f992 hH hv992 cl992 sl992 => ?_))
  have hci := hci.fr x992 f992 (by decide +kernel)
  have h3 := (f992.2 th 12 k_th 3 rfl).trans h3
  have hl := (f992.2 rd 7 k_rd 1 rfl).trans hl
  have hm := (f992.2 am 13 k_am 5 rfl).trans hm
  have hp := (f992.2 th 12 k_th 2 rfl).trans hp
  have hg := (f992.2 am 13 k_am 3 rfl).trans hg
  have hrc := hrc.fr k_th x992 f992 (by decide +kernel)
  have hrm := hrm.fr k_am x992 f992 (by decide +kernel)
  have k_th := x992 _ _ k_th
  have k_am := x992 _ _ k_am
  have k_out := x992 _ _ k_out
  have k_rd := x992 _ _ k_rd
  obtain ⟨v992, rfl, -⟩ := hv992
  show et_go _ _ 1000 995 [some (.ref 150), some (.ref th), some (.ref am), some (.ref out), some (.int (Int32.ofNat i)), some (.int v968), x6] [.int v992] _ ((ck + c968) + c992) ((sk + s968) + s992) _
  refine ls_istore (i := 6) (p := 997) (by decide +kernel) (Nat.le_of_ble_eq_true rfl) ?_
  refine ls_goto (p := 1639) (by decide +kernel) ?_
  exact hN _ _ c h _ _ _ _ _ _ ⟨⟨hH, hci, k_th, k_am, k_out, h3, k_rd, hl, hm, hc⟩, ⟨hh1, hp, hg⟩, hrc, hrm, hbc, hbi⟩ (by omega) (by omega)
theorem lw_c20 (hI : lw_I K G th am out rd s0 s1 aw ai c h cn im) (hi : i + 6 ≤ n) (hn : n ≤ 3072) (hN : ∀ (K' : et_K) (G' : eg_G) (c' h' : Nat) (cn' im' : Nat → Nat) (ck' sk' : Nat) (y5 y6 : Option Value), lw_I K' G' th am out rd s0 s1 aw ai c' h' cn' im' → ck' ≤ ck + 841 → sk' ≤ sk + 7168 → et_go (some (n, f)) (d + 41) 1000 1639 [some (.ref 150), some (.ref th), some (.ref am), some (.ref out), some (.int (Int32.ofNat i)), y5, y6] [] G' ck' sk' Z) : et_go (some (n, f)) (d + 41) 1000 1000 [some (.ref 150), some (.ref th), some (.ref am), some (.ref out), some (.int (Int32.ofNat i)), x5, x6] [] G ck sk Z := by
  obtain ⟨⟨hH, hci, k_th, k_am, k_out, h3, k_rd, hl, hm, hc⟩, ⟨hh1, hp, hg⟩, hrc, hrm, hbc, hbi⟩ := hI
  refine ls_aload (i := 1) (p := 1001) (by decide +kernel) rfl ?_
  refine ls_arg (j := 1) (by decide +kernel) (by omega) hn ?_
  refine ls_arg (j := 2) (by decide +kernel) (by omega) hn ?_
  refine ls_aload (i := 3) (p := 1014) (by decide +kernel) rfl ?_
  refine ls_calls (mi := 16) (na := 4) (lk := 7) (lm := 5) (L0 := eg_en (eg_mL 16) [.ref th, .int (f (i + 1)), .int (f (i + 2)), .ref out]) (by decide +kernel) rfl rfl rfl rfl rfl rfl (by rw [show eg_mL 16 = 5 from by decide +kernel]; first | done | rfl) ?_
  refine (hh_c16 (K, [], G) [.ref th, .int (f (i + 1)), .int (f (i + 2)), .ref out] _ hH (by omega) rfl (ht_ac (.inr ⟨by decide, _, rfl, k_th⟩) (ht_ac hi_any (ht_ac hi_any (ht_ac (.inr ⟨by decide, _, rfl, k_out⟩) ht_an))))).mono (fun u hu => ls_cbv hu (fun v1014 K1014 G1014 c1014 s1014 x1014 f1014 hH hv1014 cl1014 sl1014 => ?_))
  have hci := hci.fr x1014 f1014 (by decide +kernel)
  have h3 := (f1014.2 th 12 k_th 3 rfl).trans h3
  have hl := (f1014.2 rd 7 k_rd 1 rfl).trans hl
  have hm := (f1014.2 am 13 k_am 5 rfl).trans hm
  have hp := (f1014.2 th 12 k_th 2 rfl).trans hp
  have hg := (f1014.2 am 13 k_am 3 rfl).trans hg
  have hrc := hrc.fr k_th x1014 f1014 (by decide +kernel)
  have hrm := hrm.fr k_am x1014 f1014 (by decide +kernel)
  have k_th := x1014 _ _ k_th
  have k_am := x1014 _ _ k_am
  have k_out := x1014 _ _ k_out
  have k_rd := x1014 _ _ k_rd
  obtain ⟨v1014, rfl, -⟩ := hv1014
  show et_go _ _ 1000 1017 [some (.ref 150), some (.ref th), some (.ref am), some (.ref out), some (.int (Int32.ofNat i)), x5, x6] [.int v1014] _ (ck + c1014) (sk + s1014) _
  refine ls_istore (i := 5) (p := 1019) (by decide +kernel) (Nat.le_of_ble_eq_true rfl) ?_
  refine ls_aload (i := 2) (p := 1020) (by decide +kernel) rfl ?_
  refine ls_arg (j := 1) (by decide +kernel) (by omega) hn ?_
  refine ls_arg (j := 2) (by decide +kernel) (by omega) hn ?_
  refine lt_callv (T := et_TT) (t := 13) (mi := 260) (na := 2) (ci := 11) (lk := 7) (lm := 3) (L0 := eg_en (eg_mL 260) [.ref am, .int (f (i + 1)), .int (f (i + 2))]) (by decide +kernel) rfl hH k_am rfl rfl rfl rfl rfl (by rw [show eg_mL 260 = 3 from by decide +kernel]; first | done | rfl) ?_
  refine (er_p260_ok (K1014, [], G1014) [.ref am, .int (f (i + 1)), .int (f (i + 2))] _ hH (by omega) rfl (ht_ac (.inr ⟨by decide, _, rfl, k_am⟩) (ht_ac hi_any (ht_ac hi_any ht_an)))).mono (fun u hu => ls_cbv hu (fun v1032 K1032 G1032 c1032 s1032 x1032 f1032 hH hv1032 cl1032 sl1032 => ?_))
  have hci := hci.fr x1032 f1032 (by decide +kernel)
  have h3 := (f1032.2 th 12 k_th 3 rfl).trans h3
  have hl := (f1032.2 rd 7 k_rd 1 rfl).trans hl
  have hm := (f1032.2 am 13 k_am 5 rfl).trans hm
  have hp := (f1032.2 th 12 k_th 2 rfl).trans hp
  have hg := (f1032.2 am 13 k_am 3 rfl).trans hg
  have hrc := hrc.fr k_th x1032 f1032 (by decide +kernel)
  have hrm := hrm.fr k_am x1032 f1032 (by decide +kernel)
  have k_th := x1032 _ _ k_th
  have k_am := x1032 _ _ k_am
  have k_out := x1032 _ _ k_out
  have k_rd := x1032 _ _ k_rd
  obtain ⟨v1032, rfl, -⟩ := hv1032
  show et_go _ _ 1000 1035 [some (.ref 150), some (.ref th), some (.ref am), some (.ref out), some (.int (Int32.ofNat i)), some (.int v1014), x6] [.int v1032] _ ((ck + c1014) + c1032) ((sk + s1014) + s1032) _
  refine ls_istore (i := 6) (p := 1037) (by decide +kernel) (Nat.le_of_ble_eq_true rfl) ?_
  refine ls_goto (p := 1639) (by decide +kernel) ?_
  exact hN _ _ c h _ _ _ _ _ _ ⟨⟨hH, hci, k_th, k_am, k_out, h3, k_rd, hl, hm, hc⟩, ⟨hh1, hp, hg⟩, hrc, hrm, hbc, hbi⟩ (by omega) (by omega)
theorem lw_c21 (hI : lw_I K G th am out rd s0 s1 aw ai c h cn im) (hi : i + 6 ≤ n) (hn : n ≤ 3072) (hN : ∀ (K' : et_K) (G' : eg_G) (c' h' : Nat) (cn' im' : Nat → Nat) (ck' sk' : Nat) (y5 y6 : Option Value), lw_I K' G' th am out rd s0 s1 aw ai c' h' cn' im' → ck' ≤ ck + 841 → sk' ≤ sk + 7168 → et_go (some (n, f)) (d + 41) 1000 1639 [some (.ref 150), some (.ref th), some (.ref am), some (.ref out), some (.int (Int32.ofNat i)), y5, y6] [] G' ck' sk' Z) : et_go (some (n, f)) (d + 41) 1000 1040 [some (.ref 150), some (.ref th), some (.ref am), some (.ref out), some (.int (Int32.ofNat i)), x5, x6] [] G ck sk Z := by
  obtain ⟨⟨hH, hci, k_th, k_am, k_out, h3, k_rd, hl, hm, hc⟩, ⟨hh1, hp, hg⟩, hrc, hrm, hbc, hbi⟩ := hI
  refine ls_aload (i := 1) (p := 1041) (by decide +kernel) rfl ?_
  refine ls_arg (j := 1) (by decide +kernel) (by omega) hn ?_
  refine ls_arg (j := 2) (by decide +kernel) (by omega) hn ?_
  refine ls_aload (i := 3) (p := 1054) (by decide +kernel) rfl ?_
  refine ls_calls (mi := 17) (na := 4) (lk := 7) (lm := 5) (L0 := eg_en (eg_mL 17) [.ref th, .int (f (i + 1)), .int (f (i + 2)), .ref out]) (by decide +kernel) rfl rfl rfl rfl rfl rfl (by rw [show eg_mL 17 = 5 from by decide +kernel]; first | done | rfl) ?_
  refine (hh_c17 (K, [], G) [.ref th, .int (f (i + 1)), .int (f (i + 2)), .ref out] _ hH (by omega) rfl (ht_ac (.inr ⟨by decide, _, rfl, k_th⟩) (ht_ac hi_any (ht_ac hi_any (ht_ac (.inr ⟨by decide, _, rfl, k_out⟩) ht_an))))).mono (fun u hu => ls_cbv hu (fun v1054 K1054 G1054 c1054 s1054 x1054 f1054 hH hv1054 cl1054 sl1054 => ?_))
  have hci := hci.fr x1054 f1054 (by decide +kernel)
  have h3 := (f1054.2 th 12 k_th 3 rfl).trans h3
  have hl := (f1054.2 rd 7 k_rd 1 rfl).trans hl
  have hm := (f1054.2 am 13 k_am 5 rfl).trans hm
  have hp := (f1054.2 th 12 k_th 2 rfl).trans hp
  have hg := (f1054.2 am 13 k_am 3 rfl).trans hg
  have hrc := hrc.fr k_th x1054 f1054 (by decide +kernel)
  have hrm := hrm.fr k_am x1054 f1054 (by decide +kernel)
  have k_th := x1054 _ _ k_th
  have k_am := x1054 _ _ k_am
  have k_out := x1054 _ _ k_out
  have k_rd := x1054 _ _ k_rd
  obtain ⟨v1054, rfl, -⟩ := hv1054
  show et_go _ _ 1000 1057 [some (.ref 150), some (.ref th), some (.ref am), some (.ref out), some (.int (Int32.ofNat i)), x5, x6] [.int v1054] _ (ck + c1054) (sk + s1054) _
  refine ls_istore (i := 5) (p := 1059) (by decide +kernel) (Nat.le_of_ble_eq_true rfl) ?_
  refine ls_aload (i := 2) (p := 1060) (by decide +kernel) rfl ?_
  refine ls_arg (j := 1) (by decide +kernel) (by omega) hn ?_
  refine ls_arg (j := 2) (by decide +kernel) (by omega) hn ?_
  refine lt_callv (T := et_TT) (t := 13) (mi := 261) (na := 2) (ci := 11) (lk := 7) (lm := 15) (L0 := eg_en (eg_mL 261) [.ref am, .int (f (i + 1)), .int (f (i + 2))]) (by decide +kernel) rfl hH k_am rfl rfl rfl rfl rfl (by rw [show eg_mL 261 = 15 from by decide +kernel]; first | done | rfl) ?_
  refine (hc_bd (K1054, [], G1054) [.ref am, .int (f (i + 1)), .int (f (i + 2))] _ hH (by omega) rfl (ht_ac (.inr ⟨by decide, _, rfl, k_am⟩) (ht_ac hi_any (ht_ac hi_any ht_an)))).mono (fun u hu => ls_cbv hu (fun v1072 K1072 G1072 c1072 s1072 x1072 f1072 hH hv1072 cl1072 sl1072 => ?_))
  have hci := hci.fr x1072 f1072 (by decide +kernel)
  have h3 := (f1072.2 th 12 k_th 3 rfl).trans h3
  have hl := (f1072.2 rd 7 k_rd 1 rfl).trans hl
  have hm := (f1072.2 am 13 k_am 5 rfl).trans hm
  have hp := (f1072.2 th 12 k_th 2 rfl).trans hp
  have hg := (f1072.2 am 13 k_am 3 rfl).trans hg
  have hrc := hrc.fr k_th x1072 f1072 (by decide +kernel)
  have hrm := hrm.fr k_am x1072 f1072 (by decide +kernel)
  have k_th := x1072 _ _ k_th
  have k_am := x1072 _ _ k_am
  have k_out := x1072 _ _ k_out
  have k_rd := x1072 _ _ k_rd
  obtain ⟨v1072, rfl, -⟩ := hv1072
  show et_go _ _ 1000 1075 [some (.ref 150), some (.ref th), some (.ref am), some (.ref out), some (.int (Int32.ofNat i)), some (.int v1054), x6] [.int v1072] _ ((ck + c1054) + c1072) ((sk + s1054) + s1072) _
  refine ls_istore (i := 6) (p := 1077) (by decide +kernel) (Nat.le_of_ble_eq_true rfl) ?_
  refine ls_goto (p := 1639) (by decide +kernel) ?_
  exact hN _ _ c h _ _ _ _ _ _ ⟨⟨hH, hci, k_th, k_am, k_out, h3, k_rd, hl, hm, hc⟩, ⟨hh1, hp, hg⟩, hrc, hrm, hbc, hbi⟩ (by omega) (by omega)
theorem lw_c22 (hI : lw_I K G th am out rd s0 s1 aw ai c h cn im) (hi : i + 6 ≤ n) (hn : n ≤ 3072) (hN : ∀ (K' : et_K) (G' : eg_G) (c' h' : Nat) (cn' im' : Nat → Nat) (ck' sk' : Nat) (y5 y6 : Option Value), lw_I K' G' th am out rd s0 s1 aw ai c' h' cn' im' → ck' ≤ ck + 841 → sk' ≤ sk + 7168 → et_go (some (n, f)) (d + 41) 1000 1639 [some (.ref 150), some (.ref th), some (.ref am), some (.ref out), some (.int (Int32.ofNat i)), y5, y6] [] G' ck' sk' Z) : et_go (some (n, f)) (d + 41) 1000 1080 [some (.ref 150), some (.ref th), some (.ref am), some (.ref out), some (.int (Int32.ofNat i)), x5, x6] [] G ck sk Z := by
  obtain ⟨⟨hH, hci, k_th, k_am, k_out, h3, k_rd, hl, hm, hc⟩, ⟨hh1, hp, hg⟩, hrc, hrm, hbc, hbi⟩ := hI
  refine ls_aload (i := 1) (p := 1081) (by decide +kernel) rfl ?_
  refine ls_arg (j := 1) (by decide +kernel) (by omega) hn ?_
  refine ls_arg (j := 2) (by decide +kernel) (by omega) hn ?_
  refine ls_aload (i := 3) (p := 1094) (by decide +kernel) rfl ?_
  refine ls_calls (mi := 18) (na := 4) (lk := 7) (lm := 5) (L0 := eg_en (eg_mL 18) [.ref th, .int (f (i + 1)), .int (f (i + 2)), .ref out]) (by decide +kernel) rfl rfl rfl rfl rfl rfl (by rw [show eg_mL 18 = 5 from by decide +kernel]; first | done | rfl) ?_
  refine (hh_c18 (K, [], G) [.ref th, .int (f (i + 1)), .int (f (i + 2)), .ref out] _ hH (by omega) rfl (ht_ac (.inr ⟨by decide, _, rfl, k_th⟩) (ht_ac hi_any (ht_ac hi_any (ht_ac (.inr ⟨by decide, _, rfl, k_out⟩) ht_an))))).mono (fun u hu => ls_cbv hu (fun v1094 K1094 G1094 c1094 s1094 x1094 f1094 hH hv1094 cl1094 sl1094 => ?_))
  have hci := hci.fr x1094 f1094 (by decide +kernel)
  have h3 := (f1094.2 th 12 k_th 3 rfl).trans h3
  have hl := (f1094.2 rd 7 k_rd 1 rfl).trans hl
  have hm := (f1094.2 am 13 k_am 5 rfl).trans hm
  have hp := (f1094.2 th 12 k_th 2 rfl).trans hp
  have hg := (f1094.2 am 13 k_am 3 rfl).trans hg
  have hrc := hrc.fr k_th x1094 f1094 (by decide +kernel)
  have hrm := hrm.fr k_am x1094 f1094 (by decide +kernel)
  have k_th := x1094 _ _ k_th
  have k_am := x1094 _ _ k_am
  have k_out := x1094 _ _ k_out
  have k_rd := x1094 _ _ k_rd
  obtain ⟨v1094, rfl, -⟩ := hv1094
  show et_go _ _ 1000 1097 [some (.ref 150), some (.ref th), some (.ref am), some (.ref out), some (.int (Int32.ofNat i)), x5, x6] [.int v1094] _ (ck + c1094) (sk + s1094) _
  refine ls_istore (i := 5) (p := 1099) (by decide +kernel) (Nat.le_of_ble_eq_true rfl) ?_
  refine ls_aload (i := 2) (p := 1100) (by decide +kernel) rfl ?_
  refine ls_arg (j := 1) (by decide +kernel) (by omega) hn ?_
  refine ls_arg (j := 2) (by decide +kernel) (by omega) hn ?_
  refine lt_callv (T := et_TT) (t := 13) (mi := 262) (na := 2) (ci := 11) (lk := 7) (lm := 3) (L0 := eg_en (eg_mL 262) [.ref am, .int (f (i + 1)), .int (f (i + 2))]) (by decide +kernel) rfl hH k_am rfl rfl rfl rfl rfl (by rw [show eg_mL 262 = 3 from by decide +kernel]; first | done | rfl) ?_
  refine (er_p262_ok (K1094, [], G1094) [.ref am, .int (f (i + 1)), .int (f (i + 2))] _ hH (by omega) rfl (ht_ac (.inr ⟨by decide, _, rfl, k_am⟩) (ht_ac hi_any (ht_ac hi_any ht_an)))).mono (fun u hu => ls_cbv hu (fun v1112 K1112 G1112 c1112 s1112 x1112 f1112 hH hv1112 cl1112 sl1112 => ?_))
  have hci := hci.fr x1112 f1112 (by decide +kernel)
  have h3 := (f1112.2 th 12 k_th 3 rfl).trans h3
  have hl := (f1112.2 rd 7 k_rd 1 rfl).trans hl
  have hm := (f1112.2 am 13 k_am 5 rfl).trans hm
  have hp := (f1112.2 th 12 k_th 2 rfl).trans hp
  have hg := (f1112.2 am 13 k_am 3 rfl).trans hg
  have hrc := hrc.fr k_th x1112 f1112 (by decide +kernel)
  have hrm := hrm.fr k_am x1112 f1112 (by decide +kernel)
  have k_th := x1112 _ _ k_th
  have k_am := x1112 _ _ k_am
  have k_out := x1112 _ _ k_out
  have k_rd := x1112 _ _ k_rd
  obtain ⟨v1112, rfl, -⟩ := hv1112
  show et_go _ _ 1000 1115 [some (.ref 150), some (.ref th), some (.ref am), some (.ref out), some (.int (Int32.ofNat i)), some (.int v1094), x6] [.int v1112] _ ((ck + c1094) + c1112) ((sk + s1094) + s1112) _
  refine ls_istore (i := 6) (p := 1117) (by decide +kernel) (Nat.le_of_ble_eq_true rfl) ?_
  refine ls_goto (p := 1639) (by decide +kernel) ?_
  exact hN _ _ c h _ _ _ _ _ _ ⟨⟨hH, hci, k_th, k_am, k_out, h3, k_rd, hl, hm, hc⟩, ⟨hh1, hp, hg⟩, hrc, hrm, hbc, hbi⟩ (by omega) (by omega)
theorem lw_c23 (hI : lw_I K G th am out rd s0 s1 aw ai c h cn im) (hi : i + 6 ≤ n) (hn : n ≤ 3072) (hN : ∀ (K' : et_K) (G' : eg_G) (c' h' : Nat) (cn' im' : Nat → Nat) (ck' sk' : Nat) (y5 y6 : Option Value), lw_I K' G' th am out rd s0 s1 aw ai c' h' cn' im' → ck' ≤ ck + 841 → sk' ≤ sk + 7168 → et_go (some (n, f)) (d + 41) 1000 1639 [some (.ref 150), some (.ref th), some (.ref am), some (.ref out), some (.int (Int32.ofNat i)), y5, y6] [] G' ck' sk' Z) : et_go (some (n, f)) (d + 41) 1000 1120 [some (.ref 150), some (.ref th), some (.ref am), some (.ref out), some (.int (Int32.ofNat i)), x5, x6] [] G ck sk Z := by
  obtain ⟨⟨hH, hci, k_th, k_am, k_out, h3, k_rd, hl, hm, hc⟩, ⟨hh1, hp, hg⟩, hrc, hrm, hbc, hbi⟩ := hI
  refine ls_aload (i := 1) (p := 1121) (by decide +kernel) rfl ?_
  refine ls_arg (j := 1) (by decide +kernel) (by omega) hn ?_
  refine ls_arg (j := 2) (by decide +kernel) (by omega) hn ?_
  refine ls_arg (j := 3) (by decide +kernel) (by omega) hn ?_
  refine ls_aload (i := 3) (p := 1140) (by decide +kernel) rfl ?_
  refine ls_calls (mi := 19) (na := 5) (lk := 7) (lm := 6) (L0 := eg_en (eg_mL 19) [.ref th, .int (f (i + 1)), .int (f (i + 2)), .int (f (i + 3)), .ref out]) (by decide +kernel) rfl rfl rfl rfl rfl rfl (by rw [show eg_mL 19 = 6 from by decide +kernel]; first | done | rfl) ?_
  refine (hh_c19 (K, [], G) [.ref th, .int (f (i + 1)), .int (f (i + 2)), .int (f (i + 3)), .ref out] _ hH (by omega) rfl (ht_ac (.inr ⟨by decide, _, rfl, k_th⟩) (ht_ac hi_any (ht_ac hi_any (ht_ac hi_any (ht_ac (.inr ⟨by decide, _, rfl, k_out⟩) ht_an)))))).mono (fun u hu => ls_cbv hu (fun v1140 K1140 G1140 c1140 s1140 x1140 f1140 hH hv1140 cl1140 sl1140 => ?_))
  have hci := hci.fr x1140 f1140 (by decide +kernel)
  have h3 := (f1140.2 th 12 k_th 3 rfl).trans h3
  have hl := (f1140.2 rd 7 k_rd 1 rfl).trans hl
  have hm := (f1140.2 am 13 k_am 5 rfl).trans hm
  have hp := (f1140.2 th 12 k_th 2 rfl).trans hp
  have hg := (f1140.2 am 13 k_am 3 rfl).trans hg
  have hrc := hrc.fr k_th x1140 f1140 (by decide +kernel)
  have hrm := hrm.fr k_am x1140 f1140 (by decide +kernel)
  have k_th := x1140 _ _ k_th
  have k_am := x1140 _ _ k_am
  have k_out := x1140 _ _ k_out
  have k_rd := x1140 _ _ k_rd
  obtain ⟨v1140, rfl, -⟩ := hv1140
  show et_go _ _ 1000 1143 [some (.ref 150), some (.ref th), some (.ref am), some (.ref out), some (.int (Int32.ofNat i)), x5, x6] [.int v1140] _ (ck + c1140) (sk + s1140) _
  refine ls_istore (i := 5) (p := 1145) (by decide +kernel) (Nat.le_of_ble_eq_true rfl) ?_
  refine ls_aload (i := 2) (p := 1146) (by decide +kernel) rfl ?_
  refine ls_arg (j := 1) (by decide +kernel) (by omega) hn ?_
  refine ls_arg (j := 2) (by decide +kernel) (by omega) hn ?_
  refine ls_arg (j := 3) (by decide +kernel) (by omega) hn ?_
  refine lt_callv (T := et_TT) (t := 13) (mi := 270) (na := 3) (ci := 11) (lk := 7) (lm := 4) (L0 := eg_en (eg_mL 270) [.ref am, .int (f (i + 1)), .int (f (i + 2)), .int (f (i + 3))]) (by decide +kernel) rfl hH k_am rfl rfl rfl rfl rfl (by rw [show eg_mL 270 = 4 from by decide +kernel]; first | done | rfl) ?_
  refine (er_p270_ok (K1140, [], G1140) [.ref am, .int (f (i + 1)), .int (f (i + 2)), .int (f (i + 3))] _ hH (by omega) rfl (ht_ac (.inr ⟨by decide, _, rfl, k_am⟩) (ht_ac hi_any (ht_ac hi_any (ht_ac hi_any ht_an))))).mono (fun u hu => ls_cbv hu (fun v1164 K1164 G1164 c1164 s1164 x1164 f1164 hH hv1164 cl1164 sl1164 => ?_))
  have hci := hci.fr x1164 f1164 (by decide +kernel)
  have h3 := (f1164.2 th 12 k_th 3 rfl).trans h3
  have hl := (f1164.2 rd 7 k_rd 1 rfl).trans hl
  have hm := (f1164.2 am 13 k_am 5 rfl).trans hm
  have hp := (f1164.2 th 12 k_th 2 rfl).trans hp
  have hg := (f1164.2 am 13 k_am 3 rfl).trans hg
  have hrc := hrc.fr k_th x1164 f1164 (by decide +kernel)
  have hrm := hrm.fr k_am x1164 f1164 (by decide +kernel)
  have k_th := x1164 _ _ k_th
  have k_am := x1164 _ _ k_am
  have k_out := x1164 _ _ k_out
  have k_rd := x1164 _ _ k_rd
  obtain ⟨v1164, rfl, -⟩ := hv1164
  show et_go _ _ 1000 1167 [some (.ref 150), some (.ref th), some (.ref am), some (.ref out), some (.int (Int32.ofNat i)), some (.int v1140), x6] [.int v1164] _ ((ck + c1140) + c1164) ((sk + s1140) + s1164) _
  refine ls_istore (i := 6) (p := 1169) (by decide +kernel) (Nat.le_of_ble_eq_true rfl) ?_
  refine ls_goto (p := 1639) (by decide +kernel) ?_
  exact hN _ _ c h _ _ _ _ _ _ ⟨⟨hH, hci, k_th, k_am, k_out, h3, k_rd, hl, hm, hc⟩, ⟨hh1, hp, hg⟩, hrc, hrm, hbc, hbi⟩ (by omega) (by omega)
theorem lw_c24 (hI : lw_I K G th am out rd s0 s1 aw ai c h cn im) (hi : i + 6 ≤ n) (hn : n ≤ 3072) (hN : ∀ (K' : et_K) (G' : eg_G) (c' h' : Nat) (cn' im' : Nat → Nat) (ck' sk' : Nat) (y5 y6 : Option Value), lw_I K' G' th am out rd s0 s1 aw ai c' h' cn' im' → ck' ≤ ck + 841 → sk' ≤ sk + 7168 → et_go (some (n, f)) (d + 41) 1000 1639 [some (.ref 150), some (.ref th), some (.ref am), some (.ref out), some (.int (Int32.ofNat i)), y5, y6] [] G' ck' sk' Z) : et_go (some (n, f)) (d + 41) 1000 1172 [some (.ref 150), some (.ref th), some (.ref am), some (.ref out), some (.int (Int32.ofNat i)), x5, x6] [] G ck sk Z := by
  obtain ⟨⟨hH, hci, k_th, k_am, k_out, h3, k_rd, hl, hm, hc⟩, ⟨hh1, hp, hg⟩, hrc, hrm, hbc, hbi⟩ := hI
  refine ls_aload (i := 1) (p := 1173) (by decide +kernel) rfl ?_
  refine ls_arg (j := 1) (by decide +kernel) (by omega) hn ?_
  refine ls_arg (j := 2) (by decide +kernel) (by omega) hn ?_
  refine ls_aload (i := 3) (p := 1186) (by decide +kernel) rfl ?_
  refine ls_calls (mi := 20) (na := 4) (lk := 7) (lm := 5) (L0 := eg_en (eg_mL 20) [.ref th, .int (f (i + 1)), .int (f (i + 2)), .ref out]) (by decide +kernel) rfl rfl rfl rfl rfl rfl (by rw [show eg_mL 20 = 5 from by decide +kernel]; first | done | rfl) ?_
  refine (hh_c20 (K, [], G) [.ref th, .int (f (i + 1)), .int (f (i + 2)), .ref out] _ hH (by omega) rfl (ht_ac (.inr ⟨by decide, _, rfl, k_th⟩) (ht_ac hi_any (ht_ac hi_any (ht_ac (.inr ⟨by decide, _, rfl, k_out⟩) ht_an))))).mono (fun u hu => ls_cbv hu (fun v1186 K1186 G1186 c1186 s1186 x1186 f1186 hH hv1186 cl1186 sl1186 => ?_))
  have hci := hci.fr x1186 f1186 (by decide +kernel)
  have h3 := (f1186.2 th 12 k_th 3 rfl).trans h3
  have hl := (f1186.2 rd 7 k_rd 1 rfl).trans hl
  have hm := (f1186.2 am 13 k_am 5 rfl).trans hm
  have hp := (f1186.2 th 12 k_th 2 rfl).trans hp
  have hg := (f1186.2 am 13 k_am 3 rfl).trans hg
  have hrc := hrc.fr k_th x1186 f1186 (by decide +kernel)
  have hrm := hrm.fr k_am x1186 f1186 (by decide +kernel)
  have k_th := x1186 _ _ k_th
  have k_am := x1186 _ _ k_am
  have k_out := x1186 _ _ k_out
  have k_rd := x1186 _ _ k_rd
  obtain ⟨v1186, rfl, -⟩ := hv1186
  show et_go _ _ 1000 1189 [some (.ref 150), some (.ref th), some (.ref am), some (.ref out), some (.int (Int32.ofNat i)), x5, x6] [.int v1186] _ (ck + c1186) (sk + s1186) _
  refine ls_istore (i := 5) (p := 1191) (by decide +kernel) (Nat.le_of_ble_eq_true rfl) ?_
  refine ls_aload (i := 2) (p := 1192) (by decide +kernel) rfl ?_
  refine ls_arg (j := 1) (by decide +kernel) (by omega) hn ?_
  refine ls_arg (j := 2) (by decide +kernel) (by omega) hn ?_
  refine lt_callv (T := et_TT) (t := 13) (mi := 272) (na := 2) (ci := 11) (lk := 7) (lm := 3) (L0 := eg_en (eg_mL 272) [.ref am, .int (f (i + 1)), .int (f (i + 2))]) (by decide +kernel) rfl hH k_am rfl rfl rfl rfl rfl (by rw [show eg_mL 272 = 3 from by decide +kernel]; first | done | rfl) ?_
  refine (er_p272_ok (K1186, [], G1186) [.ref am, .int (f (i + 1)), .int (f (i + 2))] _ hH (by omega) rfl (ht_ac (.inr ⟨by decide, _, rfl, k_am⟩) (ht_ac hi_any (ht_ac hi_any ht_an)))).mono (fun u hu => ls_cbv hu (fun v1204 K1204 G1204 c1204 s1204 x1204 f1204 hH hv1204 cl1204 sl1204 => ?_))
  have hci := hci.fr x1204 f1204 (by decide +kernel)
  have h3 := (f1204.2 th 12 k_th 3 rfl).trans h3
  have hl := (f1204.2 rd 7 k_rd 1 rfl).trans hl
  have hm := (f1204.2 am 13 k_am 5 rfl).trans hm
  have hp := (f1204.2 th 12 k_th 2 rfl).trans hp
  have hg := (f1204.2 am 13 k_am 3 rfl).trans hg
  have hrc := hrc.fr k_th x1204 f1204 (by decide +kernel)
  have hrm := hrm.fr k_am x1204 f1204 (by decide +kernel)
  have k_th := x1204 _ _ k_th
  have k_am := x1204 _ _ k_am
  have k_out := x1204 _ _ k_out
  have k_rd := x1204 _ _ k_rd
  obtain ⟨v1204, rfl, -⟩ := hv1204
  show et_go _ _ 1000 1207 [some (.ref 150), some (.ref th), some (.ref am), some (.ref out), some (.int (Int32.ofNat i)), some (.int v1186), x6] [.int v1204] _ ((ck + c1186) + c1204) ((sk + s1186) + s1204) _
  refine ls_istore (i := 6) (p := 1209) (by decide +kernel) (Nat.le_of_ble_eq_true rfl) ?_
  refine ls_goto (p := 1639) (by decide +kernel) ?_
  exact hN _ _ c h _ _ _ _ _ _ ⟨⟨hH, hci, k_th, k_am, k_out, h3, k_rd, hl, hm, hc⟩, ⟨hh1, hp, hg⟩, hrc, hrm, hbc, hbi⟩ (by omega) (by omega)
theorem lw_c25 (hI : lw_I K G th am out rd s0 s1 aw ai c h cn im) (hi : i + 6 ≤ n) (hn : n ≤ 3072) (hN : ∀ (K' : et_K) (G' : eg_G) (c' h' : Nat) (cn' im' : Nat → Nat) (ck' sk' : Nat) (y5 y6 : Option Value), lw_I K' G' th am out rd s0 s1 aw ai c' h' cn' im' → ck' ≤ ck + 841 → sk' ≤ sk + 7168 → et_go (some (n, f)) (d + 41) 1000 1639 [some (.ref 150), some (.ref th), some (.ref am), some (.ref out), some (.int (Int32.ofNat i)), y5, y6] [] G' ck' sk' Z) : et_go (some (n, f)) (d + 41) 1000 1212 [some (.ref 150), some (.ref th), some (.ref am), some (.ref out), some (.int (Int32.ofNat i)), x5, x6] [] G ck sk Z := by
  obtain ⟨⟨hH, hci, k_th, k_am, k_out, h3, k_rd, hl, hm, hc⟩, ⟨hh1, hp, hg⟩, hrc, hrm, hbc, hbi⟩ := hI
  refine ls_aload (i := 1) (p := 1213) (by decide +kernel) rfl ?_
  refine ls_arg (j := 1) (by decide +kernel) (by omega) hn ?_
  refine ls_aload (i := 3) (p := 1220) (by decide +kernel) rfl ?_
  refine ls_calls (mi := 21) (na := 3) (lk := 7) (lm := 4) (L0 := eg_en (eg_mL 21) [.ref th, .int (f (i + 1)), .ref out]) (by decide +kernel) rfl rfl rfl rfl rfl rfl (by rw [show eg_mL 21 = 4 from by decide +kernel]; first | done | rfl) ?_
  refine (hh_c21 (K, [], G) [.ref th, .int (f (i + 1)), .ref out] _ hH (by omega) rfl (ht_ac (.inr ⟨by decide, _, rfl, k_th⟩) (ht_ac hi_any (ht_ac (.inr ⟨by decide, _, rfl, k_out⟩) ht_an)))).mono (fun u hu => ls_cbv hu (fun v1220 K1220 G1220 c1220 s1220 x1220 f1220 hH hv1220 cl1220 sl1220 => ?_))
  have hci := hci.fr x1220 f1220 (by decide +kernel)
  have h3 := (f1220.2 th 12 k_th 3 rfl).trans h3
  have hl := (f1220.2 rd 7 k_rd 1 rfl).trans hl
  have hm := (f1220.2 am 13 k_am 5 rfl).trans hm
  have hp := (f1220.2 th 12 k_th 2 rfl).trans hp
  have hg := (f1220.2 am 13 k_am 3 rfl).trans hg
  have hrc := hrc.fr k_th x1220 f1220 (by decide +kernel)
  have hrm := hrm.fr k_am x1220 f1220 (by decide +kernel)
  have k_th := x1220 _ _ k_th
  have k_am := x1220 _ _ k_am
  have k_out := x1220 _ _ k_out
  have k_rd := x1220 _ _ k_rd
  obtain ⟨v1220, rfl, -⟩ := hv1220
  show et_go _ _ 1000 1223 [some (.ref 150), some (.ref th), some (.ref am), some (.ref out), some (.int (Int32.ofNat i)), x5, x6] [.int v1220] _ (ck + c1220) (sk + s1220) _
  refine ls_istore (i := 5) (p := 1225) (by decide +kernel) (Nat.le_of_ble_eq_true rfl) ?_
  refine ls_aload (i := 2) (p := 1226) (by decide +kernel) rfl ?_
  refine ls_arg (j := 1) (by decide +kernel) (by omega) hn ?_
  refine lt_callv (T := et_TT) (t := 13) (mi := 275) (na := 1) (ci := 11) (lk := 7) (lm := 6) (L0 := eg_en (eg_mL 275) [.ref am, .int (f (i + 1))]) (by decide +kernel) rfl hH k_am rfl rfl rfl rfl rfl (by rw [show eg_mL 275 = 6 from by decide +kernel]; first | done | rfl) ?_
  refine (er_p275_ok (K1220, [], G1220) [.ref am, .int (f (i + 1))] _ hH (by omega) rfl (ht_ac (.inr ⟨by decide, _, rfl, k_am⟩) (ht_ac hi_any ht_an))).mono (fun u hu => ls_cbv hu (fun v1232 K1232 G1232 c1232 s1232 x1232 f1232 hH hv1232 cl1232 sl1232 => ?_))
  have hci := hci.fr x1232 f1232 (by decide +kernel)
  have h3 := (f1232.2 th 12 k_th 3 rfl).trans h3
  have hl := (f1232.2 rd 7 k_rd 1 rfl).trans hl
  have hm := (f1232.2 am 13 k_am 5 rfl).trans hm
  have hp := (f1232.2 th 12 k_th 2 rfl).trans hp
  have hg := (f1232.2 am 13 k_am 3 rfl).trans hg
  have hrc := hrc.fr k_th x1232 f1232 (by decide +kernel)
  have hrm := hrm.fr k_am x1232 f1232 (by decide +kernel)
  have k_th := x1232 _ _ k_th
  have k_am := x1232 _ _ k_am
  have k_out := x1232 _ _ k_out
  have k_rd := x1232 _ _ k_rd
  obtain ⟨v1232, rfl, -⟩ := hv1232
  show et_go _ _ 1000 1235 [some (.ref 150), some (.ref th), some (.ref am), some (.ref out), some (.int (Int32.ofNat i)), some (.int v1220), x6] [.int v1232] _ ((ck + c1220) + c1232) ((sk + s1220) + s1232) _
  refine ls_istore (i := 6) (p := 1237) (by decide +kernel) (Nat.le_of_ble_eq_true rfl) ?_
  refine ls_goto (p := 1639) (by decide +kernel) ?_
  exact hN _ _ c h _ _ _ _ _ _ ⟨⟨hH, hci, k_th, k_am, k_out, h3, k_rd, hl, hm, hc⟩, ⟨hh1, hp, hg⟩, hrc, hrm, hbc, hbi⟩ (by omega) (by omega)
theorem lw_c26 (hI : lw_I K G th am out rd s0 s1 aw ai c h cn im) (hi : i + 6 ≤ n) (hn : n ≤ 3072) (hN : ∀ (K' : et_K) (G' : eg_G) (c' h' : Nat) (cn' im' : Nat → Nat) (ck' sk' : Nat) (y5 y6 : Option Value), lw_I K' G' th am out rd s0 s1 aw ai c' h' cn' im' → ck' ≤ ck + 841 → sk' ≤ sk + 7168 → et_go (some (n, f)) (d + 41) 1000 1639 [some (.ref 150), some (.ref th), some (.ref am), some (.ref out), some (.int (Int32.ofNat i)), y5, y6] [] G' ck' sk' Z) : et_go (some (n, f)) (d + 41) 1000 1240 [some (.ref 150), some (.ref th), some (.ref am), some (.ref out), some (.int (Int32.ofNat i)), x5, x6] [] G ck sk Z := by
  obtain ⟨⟨hH, hci, k_th, k_am, k_out, h3, k_rd, hl, hm, hc⟩, ⟨hh1, hp, hg⟩, hrc, hrm, hbc, hbi⟩ := hI
  refine ls_aload (i := 1) (p := 1241) (by decide +kernel) rfl ?_
  refine ls_arg (j := 1) (by decide +kernel) (by omega) hn ?_
  refine ls_aload (i := 3) (p := 1248) (by decide +kernel) rfl ?_
  refine ls_calls (mi := 22) (na := 3) (lk := 7) (lm := 4) (L0 := eg_en (eg_mL 22) [.ref th, .int (f (i + 1)), .ref out]) (by decide +kernel) rfl rfl rfl rfl rfl rfl (by rw [show eg_mL 22 = 4 from by decide +kernel]; first | done | rfl) ?_
  refine (hh_c22 (K, [], G) [.ref th, .int (f (i + 1)), .ref out] _ hH (by omega) rfl (ht_ac (.inr ⟨by decide, _, rfl, k_th⟩) (ht_ac hi_any (ht_ac (.inr ⟨by decide, _, rfl, k_out⟩) ht_an)))).mono (fun u hu => ls_cbv hu (fun v1248 K1248 G1248 c1248 s1248 x1248 f1248 hH hv1248 cl1248 sl1248 => ?_))
  have hci := hci.fr x1248 f1248 (by decide +kernel)
  have h3 := (f1248.2 th 12 k_th 3 rfl).trans h3
  have hl := (f1248.2 rd 7 k_rd 1 rfl).trans hl
  have hm := (f1248.2 am 13 k_am 5 rfl).trans hm
  have hp := (f1248.2 th 12 k_th 2 rfl).trans hp
  have hg := (f1248.2 am 13 k_am 3 rfl).trans hg
  have hrc := hrc.fr k_th x1248 f1248 (by decide +kernel)
  have hrm := hrm.fr k_am x1248 f1248 (by decide +kernel)
  have k_th := x1248 _ _ k_th
  have k_am := x1248 _ _ k_am
  have k_out := x1248 _ _ k_out
  have k_rd := x1248 _ _ k_rd
  obtain ⟨v1248, rfl, -⟩ := hv1248
  show et_go _ _ 1000 1251 [some (.ref 150), some (.ref th), some (.ref am), some (.ref out), some (.int (Int32.ofNat i)), x5, x6] [.int v1248] _ (ck + c1248) (sk + s1248) _
  refine ls_istore (i := 5) (p := 1253) (by decide +kernel) (Nat.le_of_ble_eq_true rfl) ?_
  refine ls_aload (i := 2) (p := 1254) (by decide +kernel) rfl ?_
  refine ls_arg (j := 1) (by decide +kernel) (by omega) hn ?_
  refine lt_callv (T := et_TT) (t := 13) (mi := 276) (na := 1) (ci := 11) (lk := 7) (lm := 2) (L0 := eg_en (eg_mL 276) [.ref am, .int (f (i + 1))]) (by decide +kernel) rfl hH k_am rfl rfl rfl rfl rfl (by rw [show eg_mL 276 = 2 from by decide +kernel]; first | done | rfl) ?_
  refine (er_p276_ok (K1248, [], G1248) [.ref am, .int (f (i + 1))] _ hH (by omega) rfl (ht_ac (.inr ⟨by decide, _, rfl, k_am⟩) (ht_ac hi_any ht_an))).mono (fun u hu => ls_cbv hu (fun v1260 K1260 G1260 c1260 s1260 x1260 f1260 hH hv1260 cl1260 sl1260 => ?_))
  have hci := hci.fr x1260 f1260 (by decide +kernel)
  have h3 := (f1260.2 th 12 k_th 3 rfl).trans h3
  have hl := (f1260.2 rd 7 k_rd 1 rfl).trans hl
  have hm := (f1260.2 am 13 k_am 5 rfl).trans hm
  have hp := (f1260.2 th 12 k_th 2 rfl).trans hp
  have hg := (f1260.2 am 13 k_am 3 rfl).trans hg
  have hrc := hrc.fr k_th x1260 f1260 (by decide +kernel)
  have hrm := hrm.fr k_am x1260 f1260 (by decide +kernel)
  have k_th := x1260 _ _ k_th
  have k_am := x1260 _ _ k_am
  have k_out := x1260 _ _ k_out
  have k_rd := x1260 _ _ k_rd
  obtain ⟨v1260, rfl, -⟩ := hv1260
  show et_go _ _ 1000 1263 [some (.ref 150), some (.ref th), some (.ref am), some (.ref out), some (.int (Int32.ofNat i)), some (.int v1248), x6] [.int v1260] _ ((ck + c1248) + c1260) ((sk + s1248) + s1260) _
  refine ls_istore (i := 6) (p := 1265) (by decide +kernel) (Nat.le_of_ble_eq_true rfl) ?_
  refine ls_goto (p := 1639) (by decide +kernel) ?_
  exact hN _ _ c h _ _ _ _ _ _ ⟨⟨hH, hci, k_th, k_am, k_out, h3, k_rd, hl, hm, hc⟩, ⟨hh1, hp, hg⟩, hrc, hrm, hbc, hbi⟩ (by omega) (by omega)
theorem lw_c27 (hI : lw_I K G th am out rd s0 s1 aw ai c h cn im) (hi : i + 6 ≤ n) (hn : n ≤ 3072) (hN : ∀ (K' : et_K) (G' : eg_G) (c' h' : Nat) (cn' im' : Nat → Nat) (ck' sk' : Nat) (y5 y6 : Option Value), lw_I K' G' th am out rd s0 s1 aw ai c' h' cn' im' → ck' ≤ ck + 841 → sk' ≤ sk + 7168 → et_go (some (n, f)) (d + 41) 1000 1639 [some (.ref 150), some (.ref th), some (.ref am), some (.ref out), some (.int (Int32.ofNat i)), y5, y6] [] G' ck' sk' Z) : et_go (some (n, f)) (d + 41) 1000 1268 [some (.ref 150), some (.ref th), some (.ref am), some (.ref out), some (.int (Int32.ofNat i)), x5, x6] [] G ck sk Z := by
  obtain ⟨⟨hH, hci, k_th, k_am, k_out, h3, k_rd, hl, hm, hc⟩, ⟨hh1, hp, hg⟩, hrc, hrm, hbc, hbi⟩ := hI
  refine ls_aload (i := 1) (p := 1269) (by decide +kernel) rfl ?_
  refine lt_callv (T := et_TT) (t := 12) (mi := 121) (na := 0) (ci := 10) (lk := 7) (lm := 3) (L0 := eg_en (eg_mL 121) [.ref th]) (by decide +kernel) rfl hH k_th rfl rfl rfl rfl rfl (by rw [show eg_mL 121 = 3 from by decide +kernel]; first | done | rfl) ?_
  refine (ek_p121_ok (K, [], G) [.ref th] _ hH (by omega) rfl (ht_ac (.inr ⟨by decide, _, rfl, k_th⟩) ht_an)).mono (fun u hu => ls_cbv hu (fun v1269 K1269 G1269 c1269 s1269 x1269 f1269 hH hv1269 cl1269 sl1269 => ?_))
  have hci := hci.fr x1269 f1269 (by decide +kernel)
  have h3 := (f1269.2 th 12 k_th 3 rfl).trans h3
  have hl := (f1269.2 rd 7 k_rd 1 rfl).trans hl
  have hm := (f1269.2 am 13 k_am 5 rfl).trans hm
  have hp := (f1269.2 th 12 k_th 2 rfl).trans hp
  have hg := (f1269.2 am 13 k_am 3 rfl).trans hg
  have hrc := hrc.fr k_th x1269 f1269 (by decide +kernel)
  have hrm := hrm.fr k_am x1269 f1269 (by decide +kernel)
  have k_th := x1269 _ _ k_th
  have k_am := x1269 _ _ k_am
  have k_out := x1269 _ _ k_out
  have k_rd := x1269 _ _ k_rd
  obtain ⟨v1269, rfl, -⟩ := hv1269
  show et_go _ _ 1000 1272 [some (.ref 150), some (.ref th), some (.ref am), some (.ref out), some (.int (Int32.ofNat i)), x5, x6] [.int v1269] _ (ck + c1269) (sk + s1269) _
  refine ls_pop (p := 1273) (by decide +kernel) ?_
  refine ls_aload (i := 2) (p := 1274) (by decide +kernel) rfl ?_
  refine lt_callv (T := et_TT) (t := 13) (mi := 278) (na := 0) (ci := 11) (lk := 7) (lm := 3) (L0 := eg_en (eg_mL 278) [.ref am]) (by decide +kernel) rfl hH k_am rfl rfl rfl rfl rfl (by rw [show eg_mL 278 = 3 from by decide +kernel]; first | done | rfl) ?_
  refine (er_p278_ok (K1269, [], G1269) [.ref am] _ hH (by omega) rfl (ht_ac (.inr ⟨by decide, _, rfl, k_am⟩) ht_an)).mono (fun u hu => ls_cbv hu (fun v1274 K1274 G1274 c1274 s1274 x1274 f1274 hH hv1274 cl1274 sl1274 => ?_))
  have hci := hci.fr x1274 f1274 (by decide +kernel)
  have h3 := (f1274.2 th 12 k_th 3 rfl).trans h3
  have hl := (f1274.2 rd 7 k_rd 1 rfl).trans hl
  have hm := (f1274.2 am 13 k_am 5 rfl).trans hm
  have hp := (f1274.2 th 12 k_th 2 rfl).trans hp
  have hg := (f1274.2 am 13 k_am 3 rfl).trans hg
  have hrc := hrc.fr k_th x1274 f1274 (by decide +kernel)
  have hrm := hrm.fr k_am x1274 f1274 (by decide +kernel)
  have k_th := x1274 _ _ k_th
  have k_am := x1274 _ _ k_am
  have k_out := x1274 _ _ k_out
  have k_rd := x1274 _ _ k_rd
  obtain ⟨v1274, rfl, -⟩ := hv1274
  show et_go _ _ 1000 1277 [some (.ref 150), some (.ref th), some (.ref am), some (.ref out), some (.int (Int32.ofNat i)), x5, x6] [.int v1274] _ ((ck + c1269) + c1274) ((sk + s1269) + s1274) _
  refine ls_pop (p := 1278) (by decide +kernel) ?_
  refine ls_goto (p := 1639) (by decide +kernel) ?_
  exact hN _ _ c h _ _ _ _ _ _ ⟨⟨hH, hci, k_th, k_am, k_out, h3, k_rd, hl, hm, hc⟩, ⟨hh1, hp, hg⟩, hrc, hrm, hbc, hbi⟩ (by omega) (by omega)
theorem lw_c28 (hI : lw_I K G th am out rd s0 s1 aw ai c h cn im) (hi : i + 6 ≤ n) (hn : n ≤ 3072) (hN : ∀ (K' : et_K) (G' : eg_G) (c' h' : Nat) (cn' im' : Nat → Nat) (ck' sk' : Nat) (y5 y6 : Option Value), lw_I K' G' th am out rd s0 s1 aw ai c' h' cn' im' → ck' ≤ ck + 841 → sk' ≤ sk + 7168 → et_go (some (n, f)) (d + 41) 1000 1639 [some (.ref 150), some (.ref th), some (.ref am), some (.ref out), some (.int (Int32.ofNat i)), y5, y6] [] G' ck' sk' Z) : et_go (some (n, f)) (d + 41) 1000 1281 [some (.ref 150), some (.ref th), some (.ref am), some (.ref out), some (.int (Int32.ofNat i)), x5, x6] [] G ck sk Z := by
  obtain ⟨⟨hH, hci, k_th, k_am, k_out, h3, k_rd, hl, hm, hc⟩, ⟨hh1, hp, hg⟩, hrc, hrm, hbc, hbi⟩ := hI
  refine ls_aload (i := 1) (p := 1282) (by decide +kernel) rfl ?_
  refine ls_arg (j := 1) (by decide +kernel) (by omega) hn ?_
  refine ls_arg (j := 2) (by decide +kernel) (by omega) hn ?_
  refine ls_aload (i := 3) (p := 1295) (by decide +kernel) rfl ?_
  refine ls_calls (mi := 23) (na := 4) (lk := 7) (lm := 5) (L0 := eg_en (eg_mL 23) [.ref th, .int (f (i + 1)), .int (f (i + 2)), .ref out]) (by decide +kernel) rfl rfl rfl rfl rfl rfl (by rw [show eg_mL 23 = 5 from by decide +kernel]; first | done | rfl) ?_
  refine (hh_c23 (K, [], G) [.ref th, .int (f (i + 1)), .int (f (i + 2)), .ref out] _ hH (by omega) rfl (ht_ac (.inr ⟨by decide, _, rfl, k_th⟩) (ht_ac hi_any (ht_ac hi_any (ht_ac (.inr ⟨by decide, _, rfl, k_out⟩) ht_an))))).mono (fun u hu => ls_cbv hu (fun v1295 K1295 G1295 c1295 s1295 x1295 f1295 hH hv1295 cl1295 sl1295 => ?_))
  have hci := hci.fr x1295 f1295 (by decide +kernel)
  have h3 := (f1295.2 th 12 k_th 3 rfl).trans h3
  have hl := (f1295.2 rd 7 k_rd 1 rfl).trans hl
  have hm := (f1295.2 am 13 k_am 5 rfl).trans hm
  have hp := (f1295.2 th 12 k_th 2 rfl).trans hp
  have hg := (f1295.2 am 13 k_am 3 rfl).trans hg
  have hrc := hrc.fr k_th x1295 f1295 (by decide +kernel)
  have hrm := hrm.fr k_am x1295 f1295 (by decide +kernel)
  have k_th := x1295 _ _ k_th
  have k_am := x1295 _ _ k_am
  have k_out := x1295 _ _ k_out
  have k_rd := x1295 _ _ k_rd
  obtain ⟨v1295, rfl, -⟩ := hv1295
  show et_go _ _ 1000 1298 [some (.ref 150), some (.ref th), some (.ref am), some (.ref out), some (.int (Int32.ofNat i)), x5, x6] [.int v1295] _ (ck + c1295) (sk + s1295) _
  refine ls_istore (i := 5) (p := 1300) (by decide +kernel) (Nat.le_of_ble_eq_true rfl) ?_
  refine ls_aload (i := 2) (p := 1301) (by decide +kernel) rfl ?_
  refine ls_arg (j := 1) (by decide +kernel) (by omega) hn ?_
  refine ls_arg (j := 2) (by decide +kernel) (by omega) hn ?_
  refine lt_callv (T := et_TT) (t := 13) (mi := 279) (na := 2) (ci := 11) (lk := 7) (lm := 6) (L0 := eg_en (eg_mL 279) [.ref am, .int (f (i + 1)), .int (f (i + 2))]) (by decide +kernel) rfl hH k_am rfl rfl rfl rfl rfl (by rw [show eg_mL 279 = 6 from by decide +kernel]; first | done | rfl) ?_
  refine (er_p279_ok (K1295, [], G1295) [.ref am, .int (f (i + 1)), .int (f (i + 2))] _ hH (by omega) rfl (ht_ac (.inr ⟨by decide, _, rfl, k_am⟩) (ht_ac hi_any (ht_ac hi_any ht_an)))).mono (fun u hu => ls_cbv hu (fun v1313 K1313 G1313 c1313 s1313 x1313 f1313 hH hv1313 cl1313 sl1313 => ?_))
  have hci := hci.fr x1313 f1313 (by decide +kernel)
  have h3 := (f1313.2 th 12 k_th 3 rfl).trans h3
  have hl := (f1313.2 rd 7 k_rd 1 rfl).trans hl
  have hm := (f1313.2 am 13 k_am 5 rfl).trans hm
  have hp := (f1313.2 th 12 k_th 2 rfl).trans hp
  have hg := (f1313.2 am 13 k_am 3 rfl).trans hg
  have hrc := hrc.fr k_th x1313 f1313 (by decide +kernel)
  have hrm := hrm.fr k_am x1313 f1313 (by decide +kernel)
  have k_th := x1313 _ _ k_th
  have k_am := x1313 _ _ k_am
  have k_out := x1313 _ _ k_out
  have k_rd := x1313 _ _ k_rd
  obtain ⟨v1313, rfl, -⟩ := hv1313
  show et_go _ _ 1000 1316 [some (.ref 150), some (.ref th), some (.ref am), some (.ref out), some (.int (Int32.ofNat i)), some (.int v1295), x6] [.int v1313] _ ((ck + c1295) + c1313) ((sk + s1295) + s1313) _
  refine ls_istore (i := 6) (p := 1318) (by decide +kernel) (Nat.le_of_ble_eq_true rfl) ?_
  refine ls_goto (p := 1639) (by decide +kernel) ?_
  exact hN _ _ c h _ _ _ _ _ _ ⟨⟨hH, hci, k_th, k_am, k_out, h3, k_rd, hl, hm, hc⟩, ⟨hh1, hp, hg⟩, hrc, hrm, hbc, hbi⟩ (by omega) (by omega)
theorem lw_c29 (hI : lw_I K G th am out rd s0 s1 aw ai c h cn im) (hi : i + 6 ≤ n) (hn : n ≤ 3072) (hN : ∀ (K' : et_K) (G' : eg_G) (c' h' : Nat) (cn' im' : Nat → Nat) (ck' sk' : Nat) (y5 y6 : Option Value), lw_I K' G' th am out rd s0 s1 aw ai c' h' cn' im' → ck' ≤ ck + 841 → sk' ≤ sk + 7168 → et_go (some (n, f)) (d + 41) 1000 1639 [some (.ref 150), some (.ref th), some (.ref am), some (.ref out), some (.int (Int32.ofNat i)), y5, y6] [] G' ck' sk' Z) : et_go (some (n, f)) (d + 41) 1000 1321 [some (.ref 150), some (.ref th), some (.ref am), some (.ref out), some (.int (Int32.ofNat i)), x5, x6] [] G ck sk Z := by
  obtain ⟨⟨hH, hci, k_th, k_am, k_out, h3, k_rd, hl, hm, hc⟩, ⟨hh1, hp, hg⟩, hrc, hrm, hbc, hbi⟩ := hI
  refine ls_aload (i := 1) (p := 1322) (by decide +kernel) rfl ?_
  refine ls_arg (j := 1) (by decide +kernel) (by omega) hn ?_
  refine ls_aload (i := 3) (p := 1329) (by decide +kernel) rfl ?_
  refine ls_calls (mi := 24) (na := 3) (lk := 7) (lm := 4) (L0 := eg_en (eg_mL 24) [.ref th, .int (f (i + 1)), .ref out]) (by decide +kernel) rfl rfl rfl rfl rfl rfl (by rw [show eg_mL 24 = 4 from by decide +kernel]; first | done | rfl) ?_
  refine (hh_c24 (K, [], G) [.ref th, .int (f (i + 1)), .ref out] _ hH (by omega) rfl (ht_ac (.inr ⟨by decide, _, rfl, k_th⟩) (ht_ac hi_any (ht_ac (.inr ⟨by decide, _, rfl, k_out⟩) ht_an)))).mono (fun u hu => ls_cbv hu (fun v1329 K1329 G1329 c1329 s1329 x1329 f1329 hH hv1329 cl1329 sl1329 => ?_))
  have hci := hci.fr x1329 f1329 (by decide +kernel)
  have h3 := (f1329.2 th 12 k_th 3 rfl).trans h3
  have hl := (f1329.2 rd 7 k_rd 1 rfl).trans hl
  have hm := (f1329.2 am 13 k_am 5 rfl).trans hm
  have hp := (f1329.2 th 12 k_th 2 rfl).trans hp
  have hg := (f1329.2 am 13 k_am 3 rfl).trans hg
  have hrc := hrc.fr k_th x1329 f1329 (by decide +kernel)
  have hrm := hrm.fr k_am x1329 f1329 (by decide +kernel)
  have k_th := x1329 _ _ k_th
  have k_am := x1329 _ _ k_am
  have k_out := x1329 _ _ k_out
  have k_rd := x1329 _ _ k_rd
  obtain ⟨v1329, rfl, -⟩ := hv1329
  show et_go _ _ 1000 1332 [some (.ref 150), some (.ref th), some (.ref am), some (.ref out), some (.int (Int32.ofNat i)), x5, x6] [.int v1329] _ (ck + c1329) (sk + s1329) _
  refine ls_istore (i := 5) (p := 1334) (by decide +kernel) (Nat.le_of_ble_eq_true rfl) ?_
  refine ls_aload (i := 2) (p := 1335) (by decide +kernel) rfl ?_
  refine ls_arg (j := 1) (by decide +kernel) (by omega) hn ?_
  refine lt_callv (T := et_TT) (t := 13) (mi := 280) (na := 1) (ci := 11) (lk := 7) (lm := 5) (L0 := eg_en (eg_mL 280) [.ref am, .int (f (i + 1))]) (by decide +kernel) rfl hH k_am rfl rfl rfl rfl rfl (by rw [show eg_mL 280 = 5 from by decide +kernel]; first | done | rfl) ?_
  refine (er_p280_ok (K1329, [], G1329) [.ref am, .int (f (i + 1))] _ hH (by omega) rfl (ht_ac (.inr ⟨by decide, _, rfl, k_am⟩) (ht_ac hi_any ht_an))).mono (fun u hu => ls_cbv hu (fun v1341 K1341 G1341 c1341 s1341 x1341 f1341 hH hv1341 cl1341 sl1341 => ?_))
  have hci := hci.fr x1341 f1341 (by decide +kernel)
  have h3 := (f1341.2 th 12 k_th 3 rfl).trans h3
  have hl := (f1341.2 rd 7 k_rd 1 rfl).trans hl
  have hm := (f1341.2 am 13 k_am 5 rfl).trans hm
  have hp := (f1341.2 th 12 k_th 2 rfl).trans hp
  have hg := (f1341.2 am 13 k_am 3 rfl).trans hg
  have hrc := hrc.fr k_th x1341 f1341 (by decide +kernel)
  have hrm := hrm.fr k_am x1341 f1341 (by decide +kernel)
  have k_th := x1341 _ _ k_th
  have k_am := x1341 _ _ k_am
  have k_out := x1341 _ _ k_out
  have k_rd := x1341 _ _ k_rd
  obtain ⟨v1341, rfl, -⟩ := hv1341
  show et_go _ _ 1000 1344 [some (.ref 150), some (.ref th), some (.ref am), some (.ref out), some (.int (Int32.ofNat i)), some (.int v1329), x6] [.int v1341] _ ((ck + c1329) + c1341) ((sk + s1329) + s1341) _
  refine ls_istore (i := 6) (p := 1346) (by decide +kernel) (Nat.le_of_ble_eq_true rfl) ?_
  refine ls_goto (p := 1639) (by decide +kernel) ?_
  exact hN _ _ c h _ _ _ _ _ _ ⟨⟨hH, hci, k_th, k_am, k_out, h3, k_rd, hl, hm, hc⟩, ⟨hh1, hp, hg⟩, hrc, hrm, hbc, hbi⟩ (by omega) (by omega)
theorem lw_c30 (hI : lw_I K G th am out rd s0 s1 aw ai c h cn im) (hi : i + 6 ≤ n) (hn : n ≤ 3072) (hN : ∀ (K' : et_K) (G' : eg_G) (c' h' : Nat) (cn' im' : Nat → Nat) (ck' sk' : Nat) (y5 y6 : Option Value), lw_I K' G' th am out rd s0 s1 aw ai c' h' cn' im' → ck' ≤ ck + 841 → sk' ≤ sk + 7168 → et_go (some (n, f)) (d + 41) 1000 1639 [some (.ref 150), some (.ref th), some (.ref am), some (.ref out), some (.int (Int32.ofNat i)), y5, y6] [] G' ck' sk' Z) : et_go (some (n, f)) (d + 41) 1000 1349 [some (.ref 150), some (.ref th), some (.ref am), some (.ref out), some (.int (Int32.ofNat i)), x5, x6] [] G ck sk Z := by
  obtain ⟨⟨hH, hci, k_th, k_am, k_out, h3, k_rd, hl, hm, hc⟩, ⟨hh1, hp, hg⟩, hrc, hrm, hbc, hbi⟩ := hI
  refine ls_aload (i := 1) (p := 1350) (by decide +kernel) rfl ?_
  refine ls_arg (j := 1) (by decide +kernel) (by omega) hn ?_
  refine ls_arg (j := 2) (by decide +kernel) (by omega) hn ?_
  refine ls_arg (j := 3) (by decide +kernel) (by omega) hn ?_
  refine ls_aload (i := 3) (p := 1369) (by decide +kernel) rfl ?_
  refine ls_calls (mi := 25) (na := 5) (lk := 7) (lm := 6) (L0 := eg_en (eg_mL 25) [.ref th, .int (f (i + 1)), .int (f (i + 2)), .int (f (i + 3)), .ref out]) (by decide +kernel) rfl rfl rfl rfl rfl rfl (by rw [show eg_mL 25 = 6 from by decide +kernel]; first | done | rfl) ?_
  refine (hh_c25 (K, [], G) [.ref th, .int (f (i + 1)), .int (f (i + 2)), .int (f (i + 3)), .ref out] _ hH (by omega) rfl (ht_ac (.inr ⟨by decide, _, rfl, k_th⟩) (ht_ac hi_any (ht_ac hi_any (ht_ac hi_any (ht_ac (.inr ⟨by decide, _, rfl, k_out⟩) ht_an)))))).mono (fun u hu => ls_cbv hu (fun v1369 K1369 G1369 c1369 s1369 x1369 f1369 hH hv1369 cl1369 sl1369 => ?_))
  have hci := hci.fr x1369 f1369 (by decide +kernel)
  have h3 := (f1369.2 th 12 k_th 3 rfl).trans h3
  have hl := (f1369.2 rd 7 k_rd 1 rfl).trans hl
  have hm := (f1369.2 am 13 k_am 5 rfl).trans hm
  have hp := (f1369.2 th 12 k_th 2 rfl).trans hp
  have hg := (f1369.2 am 13 k_am 3 rfl).trans hg
  have hrc := hrc.fr k_th x1369 f1369 (by decide +kernel)
  have hrm := hrm.fr k_am x1369 f1369 (by decide +kernel)
  have k_th := x1369 _ _ k_th
  have k_am := x1369 _ _ k_am
  have k_out := x1369 _ _ k_out
  have k_rd := x1369 _ _ k_rd
  obtain ⟨v1369, rfl, -⟩ := hv1369
  show et_go _ _ 1000 1372 [some (.ref 150), some (.ref th), some (.ref am), some (.ref out), some (.int (Int32.ofNat i)), x5, x6] [.int v1369] _ (ck + c1369) (sk + s1369) _
  refine ls_istore (i := 5) (p := 1374) (by decide +kernel) (Nat.le_of_ble_eq_true rfl) ?_
  refine ls_aload (i := 2) (p := 1375) (by decide +kernel) rfl ?_
  refine ls_arg (j := 1) (by decide +kernel) (by omega) hn ?_
  refine ls_arg (j := 2) (by decide +kernel) (by omega) hn ?_
  refine ls_arg (j := 3) (by decide +kernel) (by omega) hn ?_
  refine lt_callv (T := et_TT) (t := 13) (mi := 281) (na := 3) (ci := 11) (lk := 7) (lm := 8) (L0 := eg_en (eg_mL 281) [.ref am, .int (f (i + 1)), .int (f (i + 2)), .int (f (i + 3))]) (by decide +kernel) rfl hH k_am rfl rfl rfl rfl rfl (by rw [show eg_mL 281 = 8 from by decide +kernel]; first | done | rfl) ?_
  refine (er_p281_ok (K1369, [], G1369) [.ref am, .int (f (i + 1)), .int (f (i + 2)), .int (f (i + 3))] _ hH (by omega) rfl (ht_ac (.inr ⟨by decide, _, rfl, k_am⟩) (ht_ac hi_any (ht_ac hi_any (ht_ac hi_any ht_an))))).mono (fun u hu => ls_cbv hu (fun v1393 K1393 G1393 c1393 s1393 x1393 f1393 hH hv1393 cl1393 sl1393 => ?_))
  have hci := hci.fr x1393 f1393 (by decide +kernel)
  have h3 := (f1393.2 th 12 k_th 3 rfl).trans h3
  have hl := (f1393.2 rd 7 k_rd 1 rfl).trans hl
  have hm := (f1393.2 am 13 k_am 5 rfl).trans hm
  have hp := (f1393.2 th 12 k_th 2 rfl).trans hp
  have hg := (f1393.2 am 13 k_am 3 rfl).trans hg
  have hrc := hrc.fr k_th x1393 f1393 (by decide +kernel)
  have hrm := hrm.fr k_am x1393 f1393 (by decide +kernel)
  have k_th := x1393 _ _ k_th
  have k_am := x1393 _ _ k_am
  have k_out := x1393 _ _ k_out
  have k_rd := x1393 _ _ k_rd
  obtain ⟨v1393, rfl, -⟩ := hv1393
  show et_go _ _ 1000 1396 [some (.ref 150), some (.ref th), some (.ref am), some (.ref out), some (.int (Int32.ofNat i)), some (.int v1369), x6] [.int v1393] _ ((ck + c1369) + c1393) ((sk + s1369) + s1393) _
  refine ls_istore (i := 6) (p := 1398) (by decide +kernel) (Nat.le_of_ble_eq_true rfl) ?_
  refine ls_goto (p := 1639) (by decide +kernel) ?_
  exact hN _ _ c h _ _ _ _ _ _ ⟨⟨hH, hci, k_th, k_am, k_out, h3, k_rd, hl, hm, hc⟩, ⟨hh1, hp, hg⟩, hrc, hrm, hbc, hbi⟩ (by omega) (by omega)
theorem lw_c31 (hI : lw_I K G th am out rd s0 s1 aw ai c h cn im) (hi : i + 6 ≤ n) (hn : n ≤ 3072) (hN : ∀ (K' : et_K) (G' : eg_G) (c' h' : Nat) (cn' im' : Nat → Nat) (ck' sk' : Nat) (y5 y6 : Option Value), lw_I K' G' th am out rd s0 s1 aw ai c' h' cn' im' → ck' ≤ ck + 841 → sk' ≤ sk + 7168 → et_go (some (n, f)) (d + 41) 1000 1639 [some (.ref 150), some (.ref th), some (.ref am), some (.ref out), some (.int (Int32.ofNat i)), y5, y6] [] G' ck' sk' Z) : et_go (some (n, f)) (d + 41) 1000 1401 [some (.ref 150), some (.ref th), some (.ref am), some (.ref out), some (.int (Int32.ofNat i)), x5, x6] [] G ck sk Z := by
  obtain ⟨⟨hH, hci, k_th, k_am, k_out, h3, k_rd, hl, hm, hc⟩, ⟨hh1, hp, hg⟩, hrc, hrm, hbc, hbi⟩ := hI
  refine ls_aload (i := 1) (p := 1402) (by decide +kernel) rfl ?_
  refine ls_arg (j := 1) (by decide +kernel) (by omega) hn ?_
  refine ls_arg (j := 2) (by decide +kernel) (by omega) hn ?_
  refine ls_aload (i := 3) (p := 1415) (by decide +kernel) rfl ?_
  refine ls_calls (mi := 26) (na := 4) (lk := 7) (lm := 5) (L0 := eg_en (eg_mL 26) [.ref th, .int (f (i + 1)), .int (f (i + 2)), .ref out]) (by decide +kernel) rfl rfl rfl rfl rfl rfl (by rw [show eg_mL 26 = 5 from by decide +kernel]; first | done | rfl) ?_
  refine (hh_c26 (K, [], G) [.ref th, .int (f (i + 1)), .int (f (i + 2)), .ref out] _ hH (by omega) rfl (ht_ac (.inr ⟨by decide, _, rfl, k_th⟩) (ht_ac hi_any (ht_ac hi_any (ht_ac (.inr ⟨by decide, _, rfl, k_out⟩) ht_an))))).mono (fun u hu => ls_cbv hu (fun v1415 K1415 G1415 c1415 s1415 x1415 f1415 hH hv1415 cl1415 sl1415 => ?_))
  have hci := hci.fr x1415 f1415 (by decide +kernel)
  have h3 := (f1415.2 th 12 k_th 3 rfl).trans h3
  have hl := (f1415.2 rd 7 k_rd 1 rfl).trans hl
  have hm := (f1415.2 am 13 k_am 5 rfl).trans hm
  have hp := (f1415.2 th 12 k_th 2 rfl).trans hp
  have hg := (f1415.2 am 13 k_am 3 rfl).trans hg
  have hrc := hrc.fr k_th x1415 f1415 (by decide +kernel)
  have hrm := hrm.fr k_am x1415 f1415 (by decide +kernel)
  have k_th := x1415 _ _ k_th
  have k_am := x1415 _ _ k_am
  have k_out := x1415 _ _ k_out
  have k_rd := x1415 _ _ k_rd
  obtain ⟨v1415, rfl, -⟩ := hv1415
  show et_go _ _ 1000 1418 [some (.ref 150), some (.ref th), some (.ref am), some (.ref out), some (.int (Int32.ofNat i)), x5, x6] [.int v1415] _ (ck + c1415) (sk + s1415) _
  refine ls_istore (i := 5) (p := 1420) (by decide +kernel) (Nat.le_of_ble_eq_true rfl) ?_
  refine ls_aload (i := 2) (p := 1421) (by decide +kernel) rfl ?_
  refine ls_arg (j := 1) (by decide +kernel) (by omega) hn ?_
  refine ls_arg (j := 2) (by decide +kernel) (by omega) hn ?_
  refine lt_callv (T := et_TT) (t := 13) (mi := 282) (na := 2) (ci := 11) (lk := 7) (lm := 13) (L0 := eg_en (eg_mL 282) [.ref am, .int (f (i + 1)), .int (f (i + 2))]) (by decide +kernel) rfl hH k_am rfl rfl rfl rfl rfl (by rw [show eg_mL 282 = 13 from by decide +kernel]; first | done | rfl) ?_
  refine (hc_so (K1415, [], G1415) [.ref am, .int (f (i + 1)), .int (f (i + 2))] _ hH (by omega) rfl (ht_ac (.inr ⟨by decide, _, rfl, k_am⟩) (ht_ac hi_any (ht_ac hi_any ht_an)))).mono (fun u hu => ls_cbv hu (fun v1433 K1433 G1433 c1433 s1433 x1433 f1433 hH hv1433 cl1433 sl1433 => ?_))
  have hci := hci.fr x1433 f1433 (by decide +kernel)
  have h3 := (f1433.2 th 12 k_th 3 rfl).trans h3
  have hl := (f1433.2 rd 7 k_rd 1 rfl).trans hl
  have hm := (f1433.2 am 13 k_am 5 rfl).trans hm
  have hp := (f1433.2 th 12 k_th 2 rfl).trans hp
  have hg := (f1433.2 am 13 k_am 3 rfl).trans hg
  have hrc := hrc.fr k_th x1433 f1433 (by decide +kernel)
  have hrm := hrm.fr k_am x1433 f1433 (by decide +kernel)
  have k_th := x1433 _ _ k_th
  have k_am := x1433 _ _ k_am
  have k_out := x1433 _ _ k_out
  have k_rd := x1433 _ _ k_rd
  obtain ⟨v1433, rfl, -⟩ := hv1433
  show et_go _ _ 1000 1436 [some (.ref 150), some (.ref th), some (.ref am), some (.ref out), some (.int (Int32.ofNat i)), some (.int v1415), x6] [.int v1433] _ ((ck + c1415) + c1433) ((sk + s1415) + s1433) _
  refine ls_istore (i := 6) (p := 1438) (by decide +kernel) (Nat.le_of_ble_eq_true rfl) ?_
  refine ls_goto (p := 1639) (by decide +kernel) ?_
  exact hN _ _ c h _ _ _ _ _ _ ⟨⟨hH, hci, k_th, k_am, k_out, h3, k_rd, hl, hm, hc⟩, ⟨hh1, hp, hg⟩, hrc, hrm, hbc, hbi⟩ (by omega) (by omega)
theorem lw_c32 (hI : lw_I K G th am out rd s0 s1 aw ai c h cn im) (hi : i + 6 ≤ n) (hn : n ≤ 3072) (hN : ∀ (K' : et_K) (G' : eg_G) (c' h' : Nat) (cn' im' : Nat → Nat) (ck' sk' : Nat) (y5 y6 : Option Value), lw_I K' G' th am out rd s0 s1 aw ai c' h' cn' im' → ck' ≤ ck + 841 → sk' ≤ sk + 7168 → et_go (some (n, f)) (d + 41) 1000 1639 [some (.ref 150), some (.ref th), some (.ref am), some (.ref out), some (.int (Int32.ofNat i)), y5, y6] [] G' ck' sk' Z) : et_go (some (n, f)) (d + 41) 1000 1441 [some (.ref 150), some (.ref th), some (.ref am), some (.ref out), some (.int (Int32.ofNat i)), x5, x6] [] G ck sk Z := by
  obtain ⟨⟨hH, hci, k_th, k_am, k_out, h3, k_rd, hl, hm, hc⟩, ⟨hh1, hp, hg⟩, hrc, hrm, hbc, hbi⟩ := hI
  refine ls_aload (i := 1) (p := 1442) (by decide +kernel) rfl ?_
  refine ls_arg (j := 1) (by decide +kernel) (by omega) hn ?_
  refine ls_arg (j := 2) (by decide +kernel) (by omega) hn ?_
  refine ls_aload (i := 3) (p := 1455) (by decide +kernel) rfl ?_
  refine ls_calls (mi := 27) (na := 4) (lk := 7) (lm := 5) (L0 := eg_en (eg_mL 27) [.ref th, .int (f (i + 1)), .int (f (i + 2)), .ref out]) (by decide +kernel) rfl rfl rfl rfl rfl rfl (by rw [show eg_mL 27 = 5 from by decide +kernel]; first | done | rfl) ?_
  refine (hh_c27 (K, [], G) [.ref th, .int (f (i + 1)), .int (f (i + 2)), .ref out] _ hH (by omega) rfl (ht_ac (.inr ⟨by decide, _, rfl, k_th⟩) (ht_ac hi_any (ht_ac hi_any (ht_ac (.inr ⟨by decide, _, rfl, k_out⟩) ht_an))))).mono (fun u hu => ls_cbv hu (fun v1455 K1455 G1455 c1455 s1455 x1455 f1455 hH hv1455 cl1455 sl1455 => ?_))
  have hci := hci.fr x1455 f1455 (by decide +kernel)
  have h3 := (f1455.2 th 12 k_th 3 rfl).trans h3
  have hl := (f1455.2 rd 7 k_rd 1 rfl).trans hl
  have hm := (f1455.2 am 13 k_am 5 rfl).trans hm
  have hp := (f1455.2 th 12 k_th 2 rfl).trans hp
  have hg := (f1455.2 am 13 k_am 3 rfl).trans hg
  have hrc := hrc.fr k_th x1455 f1455 (by decide +kernel)
  have hrm := hrm.fr k_am x1455 f1455 (by decide +kernel)
  have k_th := x1455 _ _ k_th
  have k_am := x1455 _ _ k_am
  have k_out := x1455 _ _ k_out
  have k_rd := x1455 _ _ k_rd
  obtain ⟨v1455, rfl, -⟩ := hv1455
  show et_go _ _ 1000 1458 [some (.ref 150), some (.ref th), some (.ref am), some (.ref out), some (.int (Int32.ofNat i)), x5, x6] [.int v1455] _ (ck + c1455) (sk + s1455) _
  refine ls_istore (i := 5) (p := 1460) (by decide +kernel) (Nat.le_of_ble_eq_true rfl) ?_
  refine ls_aload (i := 2) (p := 1461) (by decide +kernel) rfl ?_
  refine ls_arg (j := 1) (by decide +kernel) (by omega) hn ?_
  refine ls_arg (j := 2) (by decide +kernel) (by omega) hn ?_
  refine lt_callv (T := et_TT) (t := 13) (mi := 285) (na := 2) (ci := 11) (lk := 7) (lm := 3) (L0 := eg_en (eg_mL 285) [.ref am, .int (f (i + 1)), .int (f (i + 2))]) (by decide +kernel) rfl hH k_am rfl rfl rfl rfl rfl (by rw [show eg_mL 285 = 3 from by decide +kernel]; first | done | rfl) ?_
  refine (er_p285_ok (K1455, [], G1455) [.ref am, .int (f (i + 1)), .int (f (i + 2))] _ hH (by omega) rfl (ht_ac (.inr ⟨by decide, _, rfl, k_am⟩) (ht_ac hi_any (ht_ac hi_any ht_an)))).mono (fun u hu => ls_cbv hu (fun v1473 K1473 G1473 c1473 s1473 x1473 f1473 hH hv1473 cl1473 sl1473 => ?_))
  have hci := hci.fr x1473 f1473 (by decide +kernel)
  have h3 := (f1473.2 th 12 k_th 3 rfl).trans h3
  have hl := (f1473.2 rd 7 k_rd 1 rfl).trans hl
  have hm := (f1473.2 am 13 k_am 5 rfl).trans hm
  have hp := (f1473.2 th 12 k_th 2 rfl).trans hp
  have hg := (f1473.2 am 13 k_am 3 rfl).trans hg
  have hrc := hrc.fr k_th x1473 f1473 (by decide +kernel)
  have hrm := hrm.fr k_am x1473 f1473 (by decide +kernel)
  have k_th := x1473 _ _ k_th
  have k_am := x1473 _ _ k_am
  have k_out := x1473 _ _ k_out
  have k_rd := x1473 _ _ k_rd
  obtain ⟨v1473, rfl, -⟩ := hv1473
  show et_go _ _ 1000 1476 [some (.ref 150), some (.ref th), some (.ref am), some (.ref out), some (.int (Int32.ofNat i)), some (.int v1455), x6] [.int v1473] _ ((ck + c1455) + c1473) ((sk + s1455) + s1473) _
  refine ls_istore (i := 6) (p := 1478) (by decide +kernel) (Nat.le_of_ble_eq_true rfl) ?_
  refine ls_goto (p := 1639) (by decide +kernel) ?_
  exact hN _ _ c h _ _ _ _ _ _ ⟨⟨hH, hci, k_th, k_am, k_out, h3, k_rd, hl, hm, hc⟩, ⟨hh1, hp, hg⟩, hrc, hrm, hbc, hbi⟩ (by omega) (by omega)
theorem lw_c33 (hI : lw_I K G th am out rd s0 s1 aw ai c h cn im) (hi : i + 6 ≤ n) (hn : n ≤ 3072) (hN : ∀ (K' : et_K) (G' : eg_G) (c' h' : Nat) (cn' im' : Nat → Nat) (ck' sk' : Nat) (y5 y6 : Option Value), lw_I K' G' th am out rd s0 s1 aw ai c' h' cn' im' → ck' ≤ ck + 841 → sk' ≤ sk + 7168 → et_go (some (n, f)) (d + 41) 1000 1639 [some (.ref 150), some (.ref th), some (.ref am), some (.ref out), some (.int (Int32.ofNat i)), y5, y6] [] G' ck' sk' Z) : et_go (some (n, f)) (d + 41) 1000 1481 [some (.ref 150), some (.ref th), some (.ref am), some (.ref out), some (.int (Int32.ofNat i)), x5, x6] [] G ck sk Z := by
  obtain ⟨⟨hH, hci, k_th, k_am, k_out, h3, k_rd, hl, hm, hc⟩, ⟨hh1, hp, hg⟩, hrc, hrm, hbc, hbi⟩ := hI
  refine ls_aload (i := 1) (p := 1482) (by decide +kernel) rfl ?_
  refine lt_callv (T := et_TT) (t := 12) (mi := 123) (na := 0) (ci := 10) (lk := 7) (lm := 4) (L0 := eg_en (eg_mL 123) [.ref th]) (by decide +kernel) rfl hH k_th rfl rfl rfl rfl rfl (by rw [show eg_mL 123 = 4 from by decide +kernel]; first | done | rfl) ?_
  refine (ek_p123_ok (K, [], G) [.ref th] _ hH (by omega) rfl (ht_ac (.inr ⟨by decide, _, rfl, k_th⟩) ht_an)).mono (fun u hu => ls_cbv hu (fun v1482 K1482 G1482 c1482 s1482 x1482 f1482 hH hv1482 cl1482 sl1482 => ?_))
  have hci := hci.fr x1482 f1482 (by decide +kernel)
  have h3 := (f1482.2 th 12 k_th 3 rfl).trans h3
  have hl := (f1482.2 rd 7 k_rd 1 rfl).trans hl
  have hm := (f1482.2 am 13 k_am 5 rfl).trans hm
  have hp := (f1482.2 th 12 k_th 2 rfl).trans hp
  have hg := (f1482.2 am 13 k_am 3 rfl).trans hg
  have hrc := hrc.fr k_th x1482 f1482 (by decide +kernel)
  have hrm := hrm.fr k_am x1482 f1482 (by decide +kernel)
  have k_th := x1482 _ _ k_th
  have k_am := x1482 _ _ k_am
  have k_out := x1482 _ _ k_out
  have k_rd := x1482 _ _ k_rd
  obtain ⟨v1482, rfl, -⟩ := hv1482
  show et_go _ _ 1000 1485 [some (.ref 150), some (.ref th), some (.ref am), some (.ref out), some (.int (Int32.ofNat i)), x5, x6] [.int v1482] _ (ck + c1482) (sk + s1482) _
  refine ls_pop (p := 1486) (by decide +kernel) ?_
  refine ls_aload (i := 2) (p := 1487) (by decide +kernel) rfl ?_
  refine lt_callv (T := et_TT) (t := 13) (mi := 287) (na := 0) (ci := 11) (lk := 7) (lm := 4) (L0 := eg_en (eg_mL 287) [.ref am]) (by decide +kernel) rfl hH k_am rfl rfl rfl rfl rfl (by rw [show eg_mL 287 = 4 from by decide +kernel]; first | done | rfl) ?_
  refine (er_p287_ok (K1482, [], G1482) [.ref am] _ hH (by omega) rfl (ht_ac (.inr ⟨by decide, _, rfl, k_am⟩) ht_an)).mono (fun u hu => ls_cbv hu (fun v1487 K1487 G1487 c1487 s1487 x1487 f1487 hH hv1487 cl1487 sl1487 => ?_))
  have hci := hci.fr x1487 f1487 (by decide +kernel)
  have h3 := (f1487.2 th 12 k_th 3 rfl).trans h3
  have hl := (f1487.2 rd 7 k_rd 1 rfl).trans hl
  have hm := (f1487.2 am 13 k_am 5 rfl).trans hm
  have hp := (f1487.2 th 12 k_th 2 rfl).trans hp
  have hg := (f1487.2 am 13 k_am 3 rfl).trans hg
  have hrc := hrc.fr k_th x1487 f1487 (by decide +kernel)
  have hrm := hrm.fr k_am x1487 f1487 (by decide +kernel)
  have k_th := x1487 _ _ k_th
  have k_am := x1487 _ _ k_am
  have k_out := x1487 _ _ k_out
  have k_rd := x1487 _ _ k_rd
  obtain ⟨v1487, rfl, -⟩ := hv1487
  show et_go _ _ 1000 1490 [some (.ref 150), some (.ref th), some (.ref am), some (.ref out), some (.int (Int32.ofNat i)), x5, x6] [.int v1487] _ ((ck + c1482) + c1487) ((sk + s1482) + s1487) _
  refine ls_pop (p := 1491) (by decide +kernel) ?_
  refine ls_goto (p := 1639) (by decide +kernel) ?_
  exact hN _ _ c h _ _ _ _ _ _ ⟨⟨hH, hci, k_th, k_am, k_out, h3, k_rd, hl, hm, hc⟩, ⟨hh1, hp, hg⟩, hrc, hrm, hbc, hbi⟩ (by omega) (by omega)
theorem lw_c34 (hI : lw_I K G th am out rd s0 s1 aw ai c h cn im) (hi : i + 6 ≤ n) (hn : n ≤ 3072) (hN : ∀ (K' : et_K) (G' : eg_G) (c' h' : Nat) (cn' im' : Nat → Nat) (ck' sk' : Nat) (y5 y6 : Option Value), lw_I K' G' th am out rd s0 s1 aw ai c' h' cn' im' → ck' ≤ ck + 841 → sk' ≤ sk + 7168 → et_go (some (n, f)) (d + 41) 1000 1639 [some (.ref 150), some (.ref th), some (.ref am), some (.ref out), some (.int (Int32.ofNat i)), y5, y6] [] G' ck' sk' Z) : et_go (some (n, f)) (d + 41) 1000 1494 [some (.ref 150), some (.ref th), some (.ref am), some (.ref out), some (.int (Int32.ofNat i)), x5, x6] [] G ck sk Z := by
  obtain ⟨⟨hH, hci, k_th, k_am, k_out, h3, k_rd, hl, hm, hc⟩, ⟨hh1, hp, hg⟩, hrc, hrm, hbc, hbi⟩ := hI
  refine ls_aload (i := 1) (p := 1495) (by decide +kernel) rfl ?_
  refine ls_arg (j := 1) (by decide +kernel) (by omega) hn ?_
  refine ls_arg (j := 2) (by decide +kernel) (by omega) hn ?_
  refine ls_arg (j := 3) (by decide +kernel) (by omega) hn ?_
  refine ls_bool (by decide +kernel) (fun b1513 hb1513 hbe1513 => ?_)
  refine ls_aload (i := 3) (p := 1522) (by decide +kernel) rfl ?_
  refine ls_calls (mi := 28) (na := 5) (lk := 7) (lm := 6) (L0 := eg_en (eg_mL 28) [.ref th, .int (f (i + 1)), .int (f (i + 2)), .int (Int32.ofNat b1513), .ref out]) (by decide +kernel) rfl rfl rfl rfl rfl rfl (by rw [show eg_mL 28 = 6 from by decide +kernel]; first | done | rfl) ?_
  refine (hh_c28 (K, [], G) [.ref th, .int (f (i + 1)), .int (f (i + 2)), .int (Int32.ofNat b1513), .ref out] _ hH (by omega) rfl (ht_ac (.inr ⟨by decide, _, rfl, k_th⟩) (ht_ac hi_any (ht_ac hi_any (ht_ac (hi_nv (by omega) (by omega)) (ht_ac (.inr ⟨by decide, _, rfl, k_out⟩) ht_an)))))).mono (fun u hu => ls_cbv hu (fun v1522 K1522 G1522 c1522 s1522 x1522 f1522 hH hv1522 cl1522 sl1522 => ?_))
  have hci := hci.fr x1522 f1522 (by decide +kernel)
  have h3 := (f1522.2 th 12 k_th 3 rfl).trans h3
  have hl := (f1522.2 rd 7 k_rd 1 rfl).trans hl
  have hm := (f1522.2 am 13 k_am 5 rfl).trans hm
  have hp := (f1522.2 th 12 k_th 2 rfl).trans hp
  have hg := (f1522.2 am 13 k_am 3 rfl).trans hg
  have hrc := hrc.fr k_th x1522 f1522 (by decide +kernel)
  have hrm := hrm.fr k_am x1522 f1522 (by decide +kernel)
  have k_th := x1522 _ _ k_th
  have k_am := x1522 _ _ k_am
  have k_out := x1522 _ _ k_out
  have k_rd := x1522 _ _ k_rd
  obtain ⟨v1522, rfl, -⟩ := hv1522
  show et_go _ _ 1000 1525 [some (.ref 150), some (.ref th), some (.ref am), some (.ref out), some (.int (Int32.ofNat i)), x5, x6] [.int v1522] _ (ck + c1522) (sk + s1522) _
  refine ls_istore (i := 5) (p := 1527) (by decide +kernel) (Nat.le_of_ble_eq_true rfl) ?_
  refine ls_aload (i := 2) (p := 1528) (by decide +kernel) rfl ?_
  refine ls_arg (j := 1) (by decide +kernel) (by omega) hn ?_
  refine ls_arg (j := 2) (by decide +kernel) (by omega) hn ?_
  refine ls_arg (j := 3) (by decide +kernel) (by omega) hn ?_
  refine ls_bool (by decide +kernel) (fun b1546 hb1546 hbe1546 => ?_)
  refine lt_callv (T := et_TT) (t := 13) (mi := 288) (na := 3) (ci := 11) (lk := 7) (lm := 8) (L0 := eg_en (eg_mL 288) [.ref am, .int (f (i + 1)), .int (f (i + 2)), .int (Int32.ofNat b1546)]) (by decide +kernel) rfl hH k_am rfl rfl rfl rfl rfl (by rw [show eg_mL 288 = 8 from by decide +kernel]; first | done | rfl) ?_
  refine (er_p288_ok (K1522, [], G1522) [.ref am, .int (f (i + 1)), .int (f (i + 2)), .int (Int32.ofNat b1546)] _ hH (by omega) rfl (ht_ac (.inr ⟨by decide, _, rfl, k_am⟩) (ht_ac hi_any (ht_ac hi_any (ht_ac (hi_nv (by omega) (by omega)) ht_an))))).mono (fun u hu => ls_cbv hu (fun v1554 K1554 G1554 c1554 s1554 x1554 f1554 hH hv1554 cl1554 sl1554 => ?_))
  have hci := hci.fr x1554 f1554 (by decide +kernel)
  have h3 := (f1554.2 th 12 k_th 3 rfl).trans h3
  have hl := (f1554.2 rd 7 k_rd 1 rfl).trans hl
  have hm := (f1554.2 am 13 k_am 5 rfl).trans hm
  have hp := (f1554.2 th 12 k_th 2 rfl).trans hp
  have hg := (f1554.2 am 13 k_am 3 rfl).trans hg
  have hrc := hrc.fr k_th x1554 f1554 (by decide +kernel)
  have hrm := hrm.fr k_am x1554 f1554 (by decide +kernel)
  have k_th := x1554 _ _ k_th
  have k_am := x1554 _ _ k_am
  have k_out := x1554 _ _ k_out
  have k_rd := x1554 _ _ k_rd
  obtain ⟨v1554, rfl, -⟩ := hv1554
  show et_go _ _ 1000 1557 [some (.ref 150), some (.ref th), some (.ref am), some (.ref out), some (.int (Int32.ofNat i)), some (.int v1522), x6] [.int v1554] _ ((ck + c1522) + c1554) ((sk + s1522) + s1554) _
  refine ls_istore (i := 6) (p := 1559) (by decide +kernel) (Nat.le_of_ble_eq_true rfl) ?_
  refine ls_goto (p := 1639) (by decide +kernel) ?_
  exact hN _ _ c h _ _ _ _ _ _ ⟨⟨hH, hci, k_th, k_am, k_out, h3, k_rd, hl, hm, hc⟩, ⟨hh1, hp, hg⟩, hrc, hrm, hbc, hbi⟩ (by omega) (by omega)
theorem lw_c35 (hI : lw_I K G th am out rd s0 s1 aw ai c h cn im) (hi : i + 6 ≤ n) (hn : n ≤ 3072) (hN : ∀ (K' : et_K) (G' : eg_G) (c' h' : Nat) (cn' im' : Nat → Nat) (ck' sk' : Nat) (y5 y6 : Option Value), lw_I K' G' th am out rd s0 s1 aw ai c' h' cn' im' → ck' ≤ ck + 841 → sk' ≤ sk + 7168 → et_go (some (n, f)) (d + 41) 1000 1639 [some (.ref 150), some (.ref th), some (.ref am), some (.ref out), some (.int (Int32.ofNat i)), y5, y6] [] G' ck' sk' Z) : et_go (some (n, f)) (d + 41) 1000 1562 [some (.ref 150), some (.ref th), some (.ref am), some (.ref out), some (.int (Int32.ofNat i)), x5, x6] [] G ck sk Z := by
  obtain ⟨⟨hH, hci, k_th, k_am, k_out, h3, k_rd, hl, hm, hc⟩, ⟨hh1, hp, hg⟩, hrc, hrm, hbc, hbi⟩ := hI
  refine ls_aload (i := 1) (p := 1563) (by decide +kernel) rfl ?_
  refine ls_arg (j := 1) (by decide +kernel) (by omega) hn ?_
  refine ls_aload (i := 3) (p := 1570) (by decide +kernel) rfl ?_
  refine ls_calls (mi := 29) (na := 3) (lk := 7) (lm := 4) (L0 := eg_en (eg_mL 29) [.ref th, .int (f (i + 1)), .ref out]) (by decide +kernel) rfl rfl rfl rfl rfl rfl (by rw [show eg_mL 29 = 4 from by decide +kernel]; first | done | rfl) ?_
  refine (hh_c29 (K, [], G) [.ref th, .int (f (i + 1)), .ref out] _ hH (by omega) rfl (ht_ac (.inr ⟨by decide, _, rfl, k_th⟩) (ht_ac hi_any (ht_ac (.inr ⟨by decide, _, rfl, k_out⟩) ht_an)))).mono (fun u hu => ls_cbv hu (fun v1570 K1570 G1570 c1570 s1570 x1570 f1570 hH hv1570 cl1570 sl1570 => ?_))
  have hci := hci.fr x1570 f1570 (by decide +kernel)
  have h3 := (f1570.2 th 12 k_th 3 rfl).trans h3
  have hl := (f1570.2 rd 7 k_rd 1 rfl).trans hl
  have hm := (f1570.2 am 13 k_am 5 rfl).trans hm
  have hp := (f1570.2 th 12 k_th 2 rfl).trans hp
  have hg := (f1570.2 am 13 k_am 3 rfl).trans hg
  have hrc := hrc.fr k_th x1570 f1570 (by decide +kernel)
  have hrm := hrm.fr k_am x1570 f1570 (by decide +kernel)
  have k_th := x1570 _ _ k_th
  have k_am := x1570 _ _ k_am
  have k_out := x1570 _ _ k_out
  have k_rd := x1570 _ _ k_rd
  obtain ⟨v1570, rfl, -⟩ := hv1570
  show et_go _ _ 1000 1573 [some (.ref 150), some (.ref th), some (.ref am), some (.ref out), some (.int (Int32.ofNat i)), x5, x6] [.int v1570] _ (ck + c1570) (sk + s1570) _
  refine ls_istore (i := 5) (p := 1575) (by decide +kernel) (Nat.le_of_ble_eq_true rfl) ?_
  refine ls_aload (i := 2) (p := 1576) (by decide +kernel) rfl ?_
  refine ls_arg (j := 1) (by decide +kernel) (by omega) hn ?_
  refine lt_callv (T := et_TT) (t := 13) (mi := 291) (na := 1) (ci := 11) (lk := 7) (lm := 2) (L0 := eg_en (eg_mL 291) [.ref am, .int (f (i + 1))]) (by decide +kernel) rfl hH k_am rfl rfl rfl rfl rfl (by rw [show eg_mL 291 = 2 from by decide +kernel]; first | done | rfl) ?_
  refine (er_p291_ok (K1570, [], G1570) [.ref am, .int (f (i + 1))] _ hH (by omega) rfl (ht_ac (.inr ⟨by decide, _, rfl, k_am⟩) (ht_ac hi_any ht_an))).mono (fun u hu => ls_cbv hu (fun v1582 K1582 G1582 c1582 s1582 x1582 f1582 hH hv1582 cl1582 sl1582 => ?_))
  have hci := hci.fr x1582 f1582 (by decide +kernel)
  have h3 := (f1582.2 th 12 k_th 3 rfl).trans h3
  have hl := (f1582.2 rd 7 k_rd 1 rfl).trans hl
  have hm := (f1582.2 am 13 k_am 5 rfl).trans hm
  have hp := (f1582.2 th 12 k_th 2 rfl).trans hp
  have hg := (f1582.2 am 13 k_am 3 rfl).trans hg
  have hrc := hrc.fr k_th x1582 f1582 (by decide +kernel)
  have hrm := hrm.fr k_am x1582 f1582 (by decide +kernel)
  have k_th := x1582 _ _ k_th
  have k_am := x1582 _ _ k_am
  have k_out := x1582 _ _ k_out
  have k_rd := x1582 _ _ k_rd
  obtain ⟨v1582, rfl, -⟩ := hv1582
  show et_go _ _ 1000 1585 [some (.ref 150), some (.ref th), some (.ref am), some (.ref out), some (.int (Int32.ofNat i)), some (.int v1570), x6] [.int v1582] _ ((ck + c1570) + c1582) ((sk + s1570) + s1582) _
  refine ls_istore (i := 6) (p := 1587) (by decide +kernel) (Nat.le_of_ble_eq_true rfl) ?_
  refine ls_goto (p := 1639) (by decide +kernel) ?_
  exact hN _ _ c h _ _ _ _ _ _ ⟨⟨hH, hci, k_th, k_am, k_out, h3, k_rd, hl, hm, hc⟩, ⟨hh1, hp, hg⟩, hrc, hrm, hbc, hbi⟩ (by omega) (by omega)
theorem lw_c36 (hI : lw_I K G th am out rd s0 s1 aw ai c h cn im) (hi : i + 6 ≤ n) (hn : n ≤ 3072) (hN : ∀ (K' : et_K) (G' : eg_G) (c' h' : Nat) (cn' im' : Nat → Nat) (ck' sk' : Nat) (y5 y6 : Option Value), lw_I K' G' th am out rd s0 s1 aw ai c' h' cn' im' → ck' ≤ ck + 841 → sk' ≤ sk + 7168 → et_go (some (n, f)) (d + 41) 1000 1639 [some (.ref 150), some (.ref th), some (.ref am), some (.ref out), some (.int (Int32.ofNat i)), y5, y6] [] G' ck' sk' Z) : et_go (some (n, f)) (d + 41) 1000 1590 [some (.ref 150), some (.ref th), some (.ref am), some (.ref out), some (.int (Int32.ofNat i)), x5, x6] [] G ck sk Z := by
  obtain ⟨⟨hH, hci, k_th, k_am, k_out, h3, k_rd, hl, hm, hc⟩, ⟨hh1, hp, hg⟩, hrc, hrm, hbc, hbi⟩ := hI
  refine ls_aload (i := 1) (p := 1591) (by decide +kernel) rfl ?_
  refine lt_callv (T := et_TT) (t := 12) (mi := 124) (na := 0) (ci := 10) (lk := 7) (lm := 1) (L0 := eg_en (eg_mL 124) [.ref th]) (by decide +kernel) rfl hH k_th rfl rfl rfl rfl rfl (by rw [show eg_mL 124 = 1 from by decide +kernel]; first | done | rfl) ?_
  obtain ⟨t0, t1, ra0, ca0, rc0, ec0, cc0, ra1, ca1, rc1, ec1, cc1, hC⟩ := id hci
  obtain rfl : s0 = t0 := Value.ref.inj (Option.some.inj (hrc.2.1.1.symm.trans hC.2.1.1))
  obtain rfl : s1 = t1 := Value.ref.inj (Option.some.inj (hrc.2.1.2.symm.trans hC.2.1.2))
  have ee0 : ec0 = cn 4 := xi_inj (by have := hC.2.2.2.1.2.2.2.1.2.1; omega) (by have := hbc 4; omega) (hC.2.2.2.1.2.2.1.2.1.symm.trans (hrc.2.2 (5, 4) (by decide)).1)
  have ee1 : ec1 = im 4 := xi_inj (by have := hC.2.2.2.2.2.2.2.1.2.1; omega) (by have := hbi 4; omega) (hC.2.2.2.2.2.2.1.2.1.symm.trans (hrc.2.2 (5, 4) (by decide)).2)
  refine ((hc_imageX hH hci (by omega)).and (fc_image hH hC (by omega))).mono (fun u hu => ls_cbwQ (Q := fun u => ph_at u.2.1 th 1 ∧ (et_pl (eg_at u.2.1 s0) 5 = some (.int (Int32.ofNat ec0)) ∧ et_pl (eg_at u.2.1 s1) 5 = some (.int (Int32.ofNat ec0)))) ⟨hu.1.1, hu.1.2, hu.2⟩ (fun K1591 G1591 x1591 f1591 hH hci hQ => ?_))
  obtain ⟨hP, q0, q1⟩ := hQ
  rw [ee0] at q0 q1
  have hrc : rc lw_ks K1591 G1591 th s0 s1 cn cn := ⟨⟨x1591 _ _ hrc.1.1, x1591 _ _ hrc.1.2.1, hrc.1.2.2⟩, ⟨(f1591.2 th 12 k_th 0 rfl).trans hrc.2.1.1, (f1591.2 th 12 k_th 1 rfl).trans hrc.2.1.2⟩, fun q hq => by obtain rfl := List.mem_singleton.mp hq; exact ⟨q0, q1⟩⟩
  have h3 := (f1591.2 th 12 k_th 3 rfl).trans h3
  have hl := (f1591.2 rd 7 k_rd 1 rfl).trans hl
  have hm := (f1591.2 am 13 k_am 5 rfl).trans hm
  have hp := hP
  have hg := (f1591.2 am 13 k_am 3 rfl).trans hg
  have hrm := hrm.fr k_am x1591 f1591 (by decide +kernel)
  have k_th := x1591 _ _ k_th
  have k_am := x1591 _ _ k_am
  have k_out := x1591 _ _ k_out
  have k_rd := x1591 _ _ k_rd
  show et_go _ _ 1000 1594 [some (.ref 150), some (.ref th), some (.ref am), some (.ref out), some (.int (Int32.ofNat i)), x5, x6] [] _ ck sk _
  refine ls_aload (i := 2) (p := 1595) (by decide +kernel) rfl ?_
  refine lt_callv (T := et_TT) (t := 13) (mi := 175) (na := 0) (ci := 11) (lk := 7) (lm := 2) (L0 := eg_en (eg_mL 175) [.ref am]) (by decide +kernel) rfl hH k_am rfl rfl rfl rfl rfl (by rw [show eg_mL 175 = 2 from by decide +kernel]; first | done | rfl) ?_
  refine ((hc_imageM (w := (K1591, [], G1591)) hH k_am).and (fm_image hH k_am hrm.2.1.1 hrm.2.1.2)).mono (fun u hu => ls_cbnQ (Q := fun u => pg_at u.2.1 am 1 ∧ ∀ k, k < 11900 → et_pl (eg_at u.2.1 aw) k = et_pl (eg_at G1591 aw) k ∧ et_pl (eg_at u.2.1 ai) k = et_pl (eg_at G1591 aw) k) ⟨hu.1.1, hu.1.2, hu.2⟩ (fun K1595 G1595 c1595 s1595 x1595 f1595 hH cl1595 sl1595 hQ => ?_))
  obtain ⟨hP, hQ⟩ := hQ
  have hrm : rm lw_ks K1595 G1595 am aw ai cn cn := ⟨⟨x1595 _ _ hrm.1.1, x1595 _ _ hrm.1.2⟩, ⟨(f1595.2 am 13 k_am 1 rfl).trans hrm.2.1.1, (f1595.2 am 13 k_am 2 rfl).trans hrm.2.1.2⟩, fun q hq => ⟨(hQ q.2 (lw_kl q hq)).1.trans (hrm.2.2 q hq).1, (hQ q.2 (lw_kl q hq)).2.trans (hrm.2.2 q hq).1⟩⟩
  have hbi := hbc
  have hci := hci.fr x1595 f1595 (by decide +kernel)
  have h3 := (f1595.2 th 12 k_th 3 rfl).trans h3
  have hl := (f1595.2 rd 7 k_rd 1 rfl).trans hl
  have hm := (f1595.2 am 13 k_am 5 rfl).trans hm
  have hp := (f1595.2 th 12 k_th 2 rfl).trans hp
  have hg := hP
  have hrc := hrc.fr k_th x1595 f1595 (by decide +kernel)
  have k_th := x1595 _ _ k_th
  have k_am := x1595 _ _ k_am
  have k_out := x1595 _ _ k_out
  have k_rd := x1595 _ _ k_rd
  show et_go _ _ 1000 1598 [some (.ref 150), some (.ref th), some (.ref am), some (.ref out), some (.int (Int32.ofNat i)), x5, x6] [] _ (ck + c1595) (sk + s1595) _
  refine ls_goto (p := 1639) (by decide +kernel) ?_
  exact hN _ _ c 1 _ _ _ _ _ _ ⟨⟨hH, hci, k_th, k_am, k_out, h3, k_rd, hl, hm, hc⟩, ⟨(by decide), hp, hg⟩, hrc, hrm, hbc, hbi⟩ (by omega) (by omega)
theorem lw_c37 (hI : lw_I K G th am out rd s0 s1 aw ai c h cn im) (hi : i + 6 ≤ n) (hn : n ≤ 3072) (hN : ∀ (K' : et_K) (G' : eg_G) (c' h' : Nat) (cn' im' : Nat → Nat) (ck' sk' : Nat) (y5 y6 : Option Value), lw_I K' G' th am out rd s0 s1 aw ai c' h' cn' im' → ck' ≤ ck + 841 → sk' ≤ sk + 7168 → et_go (some (n, f)) (d + 41) 1000 1639 [some (.ref 150), some (.ref th), some (.ref am), some (.ref out), some (.int (Int32.ofNat i)), y5, y6] [] G' ck' sk' Z) : et_go (some (n, f)) (d + 41) 1000 1601 [some (.ref 150), some (.ref th), some (.ref am), some (.ref out), some (.int (Int32.ofNat i)), x5, x6] [] G ck sk Z := by
  obtain ⟨⟨hH, hci, k_th, k_am, k_out, h3, k_rd, hl, hm, hc⟩, ⟨hh1, hp, hg⟩, hrc, hrm, hbc, hbi⟩ := hI
  refine ls_aload (i := 1) (p := 1602) (by decide +kernel) rfl ?_
  refine lt_callv (T := et_TT) (t := 12) (mi := 125) (na := 0) (ci := 10) (lk := 7) (lm := 1) (L0 := eg_en (eg_mL 125) [.ref th]) (by decide +kernel) rfl hH k_th rfl rfl rfl rfl rfl (by rw [show eg_mL 125 = 1 from by decide +kernel]; first | done | rfl) ?_
  obtain ⟨t0, t1, ra0, ca0, rc0, ec0, cc0, ra1, ca1, rc1, ec1, cc1, hC⟩ := id hci
  obtain rfl : s0 = t0 := Value.ref.inj (Option.some.inj (hrc.2.1.1.symm.trans hC.2.1.1))
  obtain rfl : s1 = t1 := Value.ref.inj (Option.some.inj (hrc.2.1.2.symm.trans hC.2.1.2))
  have ee0 : ec0 = cn 4 := xi_inj (by have := hC.2.2.2.1.2.2.2.1.2.1; omega) (by have := hbc 4; omega) (hC.2.2.2.1.2.2.1.2.1.symm.trans (hrc.2.2 (5, 4) (by decide)).1)
  have ee1 : ec1 = im 4 := xi_inj (by have := hC.2.2.2.2.2.2.2.1.2.1; omega) (by have := hbi 4; omega) (hC.2.2.2.2.2.2.1.2.1.symm.trans (hrc.2.2 (5, 4) (by decide)).2)
  refine ((hc_backX hH hci hp hh1 (by omega)).and (fc_back hH hC hp hh1 (by omega))).mono (fun u hu => ls_cbrQ (Q := fun u => (u.1 = .inl (some (.int (Int32.ofNat h))) ∧ ph_at u.2.1 th h) ∧ (et_pl (eg_at u.2.1 s0) 5 = some (.int (Int32.ofNat (if h = 0 then ec0 else ec1))) ∧ et_pl (eg_at u.2.1 s1) 5 = some (.int (Int32.ofNat ec1)))) ⟨hu.1.1, hu.1.2, hu.2⟩ (fun v1602 K1602 G1602 c1602 s1602 x1602 f1602 hH hci _ cl1602 sl1602 hQ => ?_))
  obtain ⟨⟨ev, hP⟩, q0, q1⟩ := hQ
  cases ev
  rw [ee0, ee1] at q0
  rw [ee1] at q1
  have hrc : rc lw_ks K1602 G1602 th s0 s1 (fun k => if h = 0 then cn k else im k) im := ⟨⟨x1602 _ _ hrc.1.1, x1602 _ _ hrc.1.2.1, hrc.1.2.2⟩, ⟨(f1602.2 th 12 k_th 0 rfl).trans hrc.2.1.1, (f1602.2 th 12 k_th 1 rfl).trans hrc.2.1.2⟩, fun q hq => by obtain rfl := List.mem_singleton.mp hq; exact ⟨q0, q1⟩⟩
  have h3 := (f1602.2 th 12 k_th 3 rfl).trans h3
  have hl := (f1602.2 rd 7 k_rd 1 rfl).trans hl
  have hm := (f1602.2 am 13 k_am 5 rfl).trans hm
  have hp := hP
  have hg := (f1602.2 am 13 k_am 3 rfl).trans hg
  have hrm := hrm.fr k_am x1602 f1602 (by decide +kernel)
  have k_th := x1602 _ _ k_th
  have k_am := x1602 _ _ k_am
  have k_out := x1602 _ _ k_out
  have k_rd := x1602 _ _ k_rd
  show et_go _ _ 1000 1605 [some (.ref 150), some (.ref th), some (.ref am), some (.ref out), some (.int (Int32.ofNat i)), x5, x6] [.int (Int32.ofNat h)] _ (ck + c1602) (sk + s1602) _
  refine ls_pop (p := 1606) (by decide +kernel) ?_
  refine ls_aload (i := 2) (p := 1607) (by decide +kernel) rfl ?_
  refine lt_callv (T := et_TT) (t := 13) (mi := 176) (na := 0) (ci := 11) (lk := 7) (lm := 2) (L0 := eg_en (eg_mL 176) [.ref am]) (by decide +kernel) rfl hH k_am rfl rfl rfl rfl rfl (by rw [show eg_mL 176 = 2 from by decide +kernel]; first | done | rfl) ?_
  refine ((hc_backM (w := (K1602, [], G1602)) hH k_am hg hh1).and (fm_back hH k_am hrm.2.1.1 hrm.2.1.2 hg hh1)).mono (fun u hu => ls_cbvQ (Q := fun u => u.1 = .inl (some (.int (Int32.ofNat h))) ∧ ∀ k, k < 11900 → et_pl (eg_at u.2.1 aw) k = (if h = 0 then et_pl (eg_at G1602 aw) k else et_pl (eg_at G1602 ai) k) ∧ et_pl (eg_at u.2.1 ai) k = et_pl (eg_at G1602 ai) k) ⟨hu.1.1, hu.1.2, hu.2⟩ (fun v1607 K1607 G1607 c1607 s1607 x1607 f1607 hH hv1607 cl1607 sl1607 hQ => ?_))
  obtain ⟨ev, hQ⟩ := hQ
  cases ev
  have hrm : rm lw_ks K1607 G1607 am aw ai (fun k => if h = 0 then cn k else im k) im := ⟨⟨x1607 _ _ hrm.1.1, x1607 _ _ hrm.1.2⟩, ⟨(f1607.2 am 13 k_am 1 rfl).trans hrm.2.1.1, (f1607.2 am 13 k_am 2 rfl).trans hrm.2.1.2⟩, fun q hq => ⟨(hQ q.2 (lw_kl q hq)).1.trans (by split; exact (hrm.2.2 q hq).1; exact (hrm.2.2 q hq).2), (hQ q.2 (lw_kl q hq)).2.trans (hrm.2.2 q hq).2⟩⟩
  have hbc : ∀ k, (if h = 0 then cn k else im k) ≤ 400 := fun k => by split; exact hbc k; exact hbi k
  have hci := hci.fr x1607 f1607 (by decide +kernel)
  have h3 := (f1607.2 th 12 k_th 3 rfl).trans h3
  have hl := (f1607.2 rd 7 k_rd 1 rfl).trans hl
  have hm := (f1607.2 am 13 k_am 5 rfl).trans hm
  have hp := (f1607.2 th 12 k_th 2 rfl).trans hp
  have hg := (f1607.2 am 13 k_am 3 rfl).trans hg
  have hrc := hrc.fr k_th x1607 f1607 (by decide +kernel)
  have k_th := x1607 _ _ k_th
  have k_am := x1607 _ _ k_am
  have k_out := x1607 _ _ k_out
  have k_rd := x1607 _ _ k_rd
  show et_go _ _ 1000 1610 [some (.ref 150), some (.ref th), some (.ref am), some (.ref out), some (.int (Int32.ofNat i)), x5, x6] [.int (Int32.ofNat h)] _ ((ck + c1602) + c1607) ((sk + s1602) + s1607) _
  refine ls_pop (p := 1611) (by decide +kernel) ?_
  refine ls_goto (p := 1639) (by decide +kernel) ?_
  exact hN _ _ c h _ _ _ _ _ _ ⟨⟨hH, hci, k_th, k_am, k_out, h3, k_rd, hl, hm, hc⟩, ⟨hh1, hp, hg⟩, hrc, hrm, hbc, hbi⟩ (by omega) (by omega)
theorem lw_c38 (hI : lw_I K G th am out rd s0 s1 aw ai c h cn im) (hi : i + 6 ≤ n) (hn : n ≤ 3072) (hN : ∀ (K' : et_K) (G' : eg_G) (c' h' : Nat) (cn' im' : Nat → Nat) (ck' sk' : Nat) (y5 y6 : Option Value), lw_I K' G' th am out rd s0 s1 aw ai c' h' cn' im' → ck' ≤ ck + 841 → sk' ≤ sk + 7168 → et_go (some (n, f)) (d + 41) 1000 1639 [some (.ref 150), some (.ref th), some (.ref am), some (.ref out), some (.int (Int32.ofNat i)), y5, y6] [] G' ck' sk' Z) : et_go (some (n, f)) (d + 41) 1000 1614 [some (.ref 150), some (.ref th), some (.ref am), some (.ref out), some (.int (Int32.ofNat i)), x5, x6] [] G ck sk Z := by
  obtain ⟨⟨hH, hci, k_th, k_am, k_out, h3, k_rd, hl, hm, hc⟩, ⟨hh1, hp, hg⟩, hrc, hrm, hbc, hbi⟩ := hI
  refine ls_aload (i := 1) (p := 1615) (by decide +kernel) rfl ?_
  refine ls_arg (j := 1) (by decide +kernel) (by omega) hn ?_
  refine lt_callv (T := et_TT) (t := 12) (mi := 126) (na := 1) (ci := 10) (lk := 7) (lm := 4) (L0 := eg_en (eg_mL 126) [.ref th, .int (f (i + 1))]) (by decide +kernel) rfl hH k_th rfl rfl rfl rfl rfl (by rw [show eg_mL 126 = 4 from by decide +kernel]; first | done | rfl) ?_
  refine (hc_countI hH hci (by omega)).mono (fun u hu => ls_cbr hu (fun v1621 K1621 G1621 c1621 s1621 x1621 f1621 hH hci hP cl1621 sl1621 => ?_))
  have h3 := (f1621.2 th 12 k_th 3 rfl).trans h3
  have hl := (f1621.2 rd 7 k_rd 1 rfl).trans hl
  have hm := (f1621.2 am 13 k_am 5 rfl).trans hm
  have hp := (f1621.2 th 12 k_th 2 rfl).trans hp
  have hg := (f1621.2 am 13 k_am 3 rfl).trans hg
  have hrc := hrc.fr k_th x1621 f1621 (by decide +kernel)
  have hrm := hrm.fr k_am x1621 f1621 (by decide +kernel)
  have k_th := x1621 _ _ k_th
  have k_am := x1621 _ _ k_am
  have k_out := x1621 _ _ k_out
  have k_rd := x1621 _ _ k_rd
  show et_go _ _ 1000 1624 [some (.ref 150), some (.ref th), some (.ref am), some (.ref out), some (.int (Int32.ofNat i)), x5, x6] [.int v1621] _ (ck + c1621) (sk + s1621) _
  refine ls_pop (p := 1625) (by decide +kernel) ?_
  refine ls_aload (i := 2) (p := 1626) (by decide +kernel) rfl ?_
  refine ls_arg (j := 1) (by decide +kernel) (by omega) hn ?_
  refine lt_callv (T := et_TT) (t := 13) (mi := 293) (na := 1) (ci := 11) (lk := 7) (lm := 4) (L0 := eg_en (eg_mL 293) [.ref am, .int (f (i + 1))]) (by decide +kernel) rfl hH k_am rfl rfl rfl rfl rfl (by rw [show eg_mL 293 = 4 from by decide +kernel]; first | done | rfl) ?_
  refine (er_p293_ok (K1621, [], G1621) [.ref am, .int (f (i + 1))] _ hH (by omega) rfl (ht_ac (.inr ⟨by decide, _, rfl, k_am⟩) (ht_ac hi_any ht_an))).mono (fun u hu => ls_cbv hu (fun v1632 K1632 G1632 c1632 s1632 x1632 f1632 hH hv1632 cl1632 sl1632 => ?_))
  have hci := hci.fr x1632 f1632 (by decide +kernel)
  have h3 := (f1632.2 th 12 k_th 3 rfl).trans h3
  have hl := (f1632.2 rd 7 k_rd 1 rfl).trans hl
  have hm := (f1632.2 am 13 k_am 5 rfl).trans hm
  have hp := (f1632.2 th 12 k_th 2 rfl).trans hp
  have hg := (f1632.2 am 13 k_am 3 rfl).trans hg
  have hrc := hrc.fr k_th x1632 f1632 (by decide +kernel)
  have hrm := hrm.fr k_am x1632 f1632 (by decide +kernel)
  have k_th := x1632 _ _ k_th
  have k_am := x1632 _ _ k_am
  have k_out := x1632 _ _ k_out
  have k_rd := x1632 _ _ k_rd
  obtain ⟨v1632, rfl, -⟩ := hv1632
  show et_go _ _ 1000 1635 [some (.ref 150), some (.ref th), some (.ref am), some (.ref out), some (.int (Int32.ofNat i)), x5, x6] [.int v1632] _ ((ck + c1621) + c1632) ((sk + s1621) + s1632) _
  refine ls_pop (p := 1636) (by decide +kernel) ?_
  refine ls_goto (p := 1639) (by decide +kernel) ?_
  exact hN _ _ c h _ _ _ _ _ _ ⟨⟨hH, hci, k_th, k_am, k_out, h3, k_rd, hl, hm, hc⟩, ⟨hh1, hp, hg⟩, hrc, hrm, hbc, hbi⟩ (by omega) (by omega)
end LWA
