def hh_q3 : et_Co := (3, [.inr (.inr (0, 12)), .inl (et_mn, et_mx), .inl (et_mn, et_mx), .inr (.inr (0, 31))], [(4, 0, 0), (31, 0, 100000)], [(.inl (some (.inl (et_mn, et_mx))), 2, 1030)], 34)
theorem hh_c3 : et_cv et_TT hh_q3 := et_cok_ok (Ks := [ek_p134 [.inl (et_mn, et_mx), .inl (et_mn, et_mx)]]) (an := an_no) (List.forall_mem_cons.mpr ⟨ek_p134_ok, fun _ h => absurd h List.not_mem_nil⟩) (by decide +kernel) -- right
def hh_q4 : et_Co := (4, [.inr (.inr (0, 12)), .inl (et_mn, et_mx), .inl (0, 1), .inr (.inr (0, 31))], [(10, 2, 2), (12, 6, 6), (12, 7, 7), (17, 0, 100000), (27, 0, 100000), (31, 0, 100000)], [(.inl (some (.inl (et_mn, et_mx))), 1, 6)], 4)
theorem hh_c4 : et_cv et_TT hh_q4 := et_cok_ok (Ks := [ek_p136 [.inl (et_mn, et_mx), .inl (0, 1)]]) (an := an_no) (List.forall_mem_cons.mpr ⟨ek_p136_ok, fun _ h => absurd h List.not_mem_nil⟩) (by decide +kernel) -- card
def hh_q5 : et_Co := (5, [.inr (.inr (0, 12)), .inl (et_mn, et_mx), .inl (et_mn, et_mx), .inr (.inr (0, 31))], [(4, 0, 0), (10, 2, 2), (12, 6, 6), (12, 7, 7), (17, 0, 100000), (27, 0, 100000), (31, 0, 100000)], [(.inl (some (.inl (et_mn, et_mx))), 1, 6)], 34)
theorem hh_c5 : et_cv et_TT hh_q5 := et_cok_ok (Ks := [ek_p138 [.inl (et_mn, et_mx), .inl (et_mn, et_mx)]]) (an := an_no) (List.forall_mem_cons.mpr ⟨ek_p138_ok, fun _ h => absurd h List.not_mem_nil⟩) (by decide +kernel) -- made
def hh_q7 : et_Co := (7, [.inr (.inr (0, 12)), .inl (et_mn, et_mx), .inl (et_mn, et_mx), .inl (et_mn, et_mx), .inr (.inr (0, 31))], [(3, 0, 0), (12, 6, 6), (12, 7, 7), (15, 0, 100000), (31, 0, 100000)], [(.inl (some (.inl (et_mn, et_mx))), 1, 6)], 3)
theorem hh_c7 : et_cv et_TT hh_q7 := et_cok_ok (Ks := [ek_p140 [.inl (et_mn, et_mx), .inl (et_mn, et_mx), .inl (et_mn, et_mx)]]) (an := an_no) (List.forall_mem_cons.mpr ⟨ek_p140_ok, fun _ h => absurd h List.not_mem_nil⟩) (by decide +kernel) -- wire
def hh_q8 : et_Co := (8, [.inr (.inr (0, 12)), .inl (et_mn, et_mx), .inl (et_mn, et_mx), .inl (et_mn, et_mx), .inr (.inr (0, 31))], [(3, 4, 4), (15, 0, 100000), (31, 0, 100000)], [(.inl (some (.inl (et_mn, et_mx))), 1, 6)], 3)
theorem hh_c8 : et_cv et_TT hh_q8 := et_cok_ok (Ks := [ek_p141 [.inl (et_mn, et_mx), .inl (et_mn, et_mx), .inl (et_mn, et_mx)]]) (an := an_no) (List.forall_mem_cons.mpr ⟨ek_p141_ok, fun _ h => absurd h List.not_mem_nil⟩) (by decide +kernel) -- knob
def hh_q9 : et_Co := (9, [.inr (.inr (0, 12)), .inl (et_mn, et_mx), .inl (et_mn, et_mx), .inl (et_mn, et_mx)], [(3, 6, 6), (3, 7, 7)], [(.inl (some (.inl (et_mn, et_mx))), 1, 6)], 3)
theorem hh_c9 : et_cv et_TT hh_q9 := et_cok_ok (Ks := [ek_p143 [.inl (et_mn, et_mx), .inl (et_mn, et_mx), .inl (et_mn, et_mx)]]) (an := an_no) (List.forall_mem_cons.mpr ⟨ek_p143_ok, fun _ h => absurd h List.not_mem_nil⟩) (by decide +kernel) -- stuck
def hh_q10 : et_Co := (10, [.inr (.inr (0, 12)), .inl (et_mn, et_mx), .inl (et_mn, et_mx), .inr (.inr (0, 31))], [(31, 0, 100000)], [(.inl (some (.inl (et_mn, et_mx))), 1, 6)], 7)
theorem hh_c10 : et_cv et_TT hh_q10 := et_cok_ok (Ks := [ek_p144 [.inl (et_mn, et_mx), .inl (et_mn, et_mx)]]) (an := an_no) (List.forall_mem_cons.mpr ⟨ek_p144_ok, fun _ h => absurd h List.not_mem_nil⟩) (by decide +kernel) -- look
def hh_q11 : et_Co := (11, [.inr (.inr (0, 12)), .inl (et_mn, et_mx), .inl (et_mn, et_mx), .inr (.inr (0, 31))], [(31, 0, 100000)], [(.inl (some (.inl (et_mn, et_mx))), 1, 6)], 6)
theorem hh_c11 : et_cv et_TT hh_q11 := et_cok_ok (Ks := [ek_p145 [.inl (et_mn, et_mx), .inl (et_mn, et_mx)]]) (an := an_no) (List.forall_mem_cons.mpr ⟨ek_p145_ok, fun _ h => absurd h List.not_mem_nil⟩) (by decide +kernel) -- sees
def hh_q12 : et_Co := (12, [.inr (.inr (0, 12)), .inl (et_mn, et_mx), .inl (et_mn, et_mx), .inl (et_mn, et_mx), .inr (.inr (0, 31))], [(3, 4, 4), (3, 5, 5), (4, 1, 1), (4, 2, 2), (4, 3, 3), (4, 4, 4), (4, 5, 5), (4, 6, 6), (15, 0, 100000), (31, 0, 100000)], [(.inl (some (.inl (et_mn, et_mx))), 2, 1030)], 35)
theorem hh_c12 : et_cv et_TT hh_q12 := et_cok_ok (Ks := [ek_p146 [.inl (et_mn, et_mx), .inl (et_mn, et_mx), .inl (et_mn, et_mx)]]) (an := an_no) (List.forall_mem_cons.mpr ⟨ek_p146_ok, fun _ h => absurd h List.not_mem_nil⟩) (by decide +kernel) -- show
def hh_q13 : et_Co := (13, [.inr (.inr (0, 12)), .inl (et_mn, et_mx), .inl (et_mn, et_mx), .inl (et_mn, et_mx), .inr (.inr (0, 31))], [(3, 4, 4), (3, 5, 5), (4, 1, 1), (4, 2, 2), (4, 3, 3), (4, 4, 4), (4, 5, 5), (4, 6, 6), (15, 0, 100000), (31, 0, 100000)], [(.inl (some (.inl (et_mn, et_mx))), 1, 6)], 35)
theorem hh_c13 : et_cv et_TT hh_q13 := et_cok_ok (Ks := [ek_p148 [.inl (et_mn, et_mx), .inl (et_mn, et_mx), .inl (et_mn, et_mx)]]) (an := an_no) (List.forall_mem_cons.mpr ⟨ek_p148_ok, fun _ h => absurd h List.not_mem_nil⟩) (by decide +kernel) -- turned
def hh_q14 : et_Co := (14, [.inr (.inr (0, 12)), .inl (et_mn, et_mx), .inl (et_mn, et_mx), .inr (.inr (0, 31))], [(9, 4, 4), (9, 5, 5), (9, 6, 6), (9, 7, 7), (9, 8, 8), (9, 9, 9), (9, 13, 13), (9, 15, 15), (9, 16, 16), (12, 6, 6), (12, 7, 7), (51, 0, 100000), (19, 0, 100000), (45, 0, 100000), (31, 0, 100000)], [(.inl (some (.inl (et_mn, et_mx))), 1, 6)], 16)
theorem hh_c14 : et_cv et_TT hh_q14 := et_cok_ok (Ks := [es_p149 [.inl (et_mn, et_mx), .inl (et_mn, et_mx)]]) (an := an_no) (List.forall_mem_cons.mpr ⟨es_s149, fun _ h => absurd h List.not_mem_nil⟩) (by decide +kernel) -- can
def hh_q15 : et_Co := (15, [.inr (.inr (0, 12)), .inl (et_mn, et_mx), .inl (et_mn, et_mx), .inl (et_mn, et_mx), .inr (.inr (0, 31))], [(9, 4, 4), (9, 5, 5), (9, 6, 6), (9, 7, 7), (9, 8, 8), (9, 9, 9), (9, 13, 13), (9, 15, 15), (9, 16, 16), (12, 6, 6), (12, 7, 7), (51, 0, 100000), (19, 0, 100000), (45, 0, 100000), (31, 0, 100000)], [(.inl (some (.inl (et_mn, et_mx))), 1, 6)], 16)
theorem hh_c15 : et_cv et_TT hh_q15 := et_cok_ok (Ks := [es_p152 [.inl (et_mn, et_mx), .inl (et_mn, et_mx), .inl (et_mn, et_mx)]]) (an := an_no) (List.forall_mem_cons.mpr ⟨es_s152, fun _ h => absurd h List.not_mem_nil⟩) (by decide +kernel) -- found
def hh_q16 : et_Co := (16, [.inr (.inr (0, 12)), .inl (et_mn, et_mx), .inl (et_mn, et_mx), .inr (.inr (0, 31))], [(9, 4, 4), (9, 5, 5), (9, 6, 6), (9, 7, 7), (9, 8, 8), (9, 9, 9), (9, 13, 13), (9, 15, 15), (9, 16, 16), (12, 6, 6), (12, 7, 7), (51, 0, 100000), (19, 0, 100000), (45, 0, 100000), (31, 0, 100000)], [(.inl (some (.inl (et_mn, et_mx))), 1, 6)], 15)
theorem hh_c16 : et_cv et_TT hh_q16 := et_cok_ok (Ks := [es_p154 [.inl (et_mn, et_mx), .inl (et_mn, et_mx)]]) (an := an_no) (List.forall_mem_cons.mpr ⟨es_s154, fun _ h => absurd h List.not_mem_nil⟩) (by decide +kernel) -- bars
def hh_q17 : et_Co := (17, [.inr (.inr (0, 12)), .inl (et_mn, et_mx), .inl (et_mn, et_mx), .inr (.inr (0, 31))], [(9, 4, 4), (9, 5, 5), (9, 6, 6), (9, 7, 7), (9, 8, 8), (9, 9, 9), (9, 13, 13), (9, 15, 15), (9, 16, 16), (12, 6, 6), (12, 7, 7), (51, 0, 100000), (19, 0, 100000), (45, 0, 100000), (31, 0, 100000)], [(.inl (some (.inl (et_mn, et_mx))), 1, 6)], 16)
theorem hh_c17 : et_cv et_TT hh_q17 := et_cok_ok (Ks := [es_p155 [.inl (et_mn, et_mx), .inl (et_mn, et_mx)]]) (an := an_no) (List.forall_mem_cons.mpr ⟨es_s155, fun _ h => absurd h List.not_mem_nil⟩) (by decide +kernel) -- bound
def hh_q18 : et_Co := (18, [.inr (.inr (0, 12)), .inl (et_mn, et_mx), .inl (et_mn, et_mx), .inr (.inr (0, 31))], [(4, 0, 0), (5, 2, 2), (8, 1, 1), (23, 0, 100000), (28, 0, 100000), (31, 0, 100000)], [(.inl (some (.inl (et_mn, et_mx))), 2, 1030)], 35)
theorem hh_c18 : et_cv et_TT hh_q18 := et_cok_ok (Ks := [ek_p157 [.inl (et_mn, et_mx), .inl (et_mn, et_mx)]]) (an := an_no) (List.forall_mem_cons.mpr ⟨ek_p157_ok, fun _ h => absurd h List.not_mem_nil⟩) (by decide +kernel) -- blind
def hh_q19 : et_Co := (19, [.inr (.inr (0, 12)), .inl (et_mn, et_mx), .inl (et_mn, et_mx), .inl (et_mn, et_mx), .inr (.inr (0, 31))], [(4, 0, 0), (8, 1, 1), (28, 0, 100000), (31, 0, 100000)], [(.inl (some (.inl (et_mn, et_mx))), 3, 2054)], 35)
theorem hh_c19 : et_cv et_TT hh_q19 := et_cok_ok (Ks := [ek_p159 [.inl (et_mn, et_mx), .inl (et_mn, et_mx), .inl (et_mn, et_mx)]]) (an := an_no) (List.forall_mem_cons.mpr ⟨ek_p159_ok, fun _ h => absurd h List.not_mem_nil⟩) (by decide +kernel) -- odds
def hh_q20 : et_Co := (20, [.inr (.inr (0, 12)), .inl (et_mn, et_mx), .inl (et_mn, et_mx), .inr (.inr (0, 31))], [(31, 0, 100000)], [(.inl (some (.inl (et_mn, et_mx))), 3, 2054)], 7)
theorem hh_c20 : et_cv et_TT hh_q20 := et_cok_ok (Ks := [ek_p160 [.inl (et_mn, et_mx), .inl (et_mn, et_mx)]]) (an := an_no) (List.forall_mem_cons.mpr ⟨ek_p160_ok, fun _ h => absurd h List.not_mem_nil⟩) (by decide +kernel) -- covered
def hh_q21 : et_Co := (21, [.inr (.inr (0, 12)), .inl (et_mn, et_mx), .inr (.inr (0, 31))], [(31, 0, 100000)], [(.inl (some (.inl (et_mn, et_mx))), 3, 2054)], 7)
theorem hh_c21 : et_cv et_TT hh_q21 := et_cok_ok (Ks := [ek_p162 [.inl (et_mn, et_mx)]]) (an := an_no) (List.forall_mem_cons.mpr ⟨ek_p162_ok, fun _ h => absurd h List.not_mem_nil⟩) (by decide +kernel) -- goesBy
def hh_q22 : et_Co := (22, [.inr (.inr (0, 12)), .inl (et_mn, et_mx), .inr (.inr (0, 31))], [(31, 0, 100000)], [(.inl (some (.inl (et_mn, et_mx))), 2, 1030)], 4)
theorem hh_c22 : et_cv et_TT hh_q22 := et_cok_ok (Ks := [ek_p163 [.inl (et_mn, et_mx)]]) (an := an_no) (List.forall_mem_cons.mpr ⟨ek_p163_ok, fun _ h => absurd h List.not_mem_nil⟩) (by decide +kernel) -- along
def hh_q23 : et_Co := (23, [.inr (.inr (0, 12)), .inl (et_mn, et_mx), .inl (et_mn, et_mx), .inr (.inr (0, 31))], [(4, 0, 0), (31, 0, 100000)], [(.inl (some (.inl (et_mn, et_mx))), 3, 2054)], 34)
theorem hh_c23 : et_cv et_TT hh_q23 := et_cok_ok (Ks := [ek_p164 [.inl (et_mn, et_mx), .inl (et_mn, et_mx)]]) (an := an_no) (List.forall_mem_cons.mpr ⟨ek_p164_ok, fun _ h => absurd h List.not_mem_nil⟩) (by decide +kernel) -- mend
def hh_q24 : et_Co := (24, [.inr (.inr (0, 12)), .inl (et_mn, et_mx), .inr (.inr (0, 31))], [(31, 0, 100000)], [(.inl (some (.inl (et_mn, et_mx))), 3, 2054)], 6)
theorem hh_c24 : et_cv et_TT hh_q24 := et_cok_ok (Ks := [ek_p165 [.inl (et_mn, et_mx)]]) (an := an_no) (List.forall_mem_cons.mpr ⟨ek_p165_ok, fun _ h => absurd h List.not_mem_nil⟩) (by decide +kernel) -- bear
def hh_q25 : et_Co := (25, [.inr (.inr (0, 12)), .inl (et_mn, et_mx), .inl (et_mn, et_mx), .inl (et_mn, et_mx), .inr (.inr (0, 31))], [(3, 0, 0), (3, 4, 4), (3, 5, 5), (3, 6, 6), (3, 7, 7), (15, 0, 100000), (31, 0, 100000)], [(.inl (some (.inl (et_mn, et_mx))), 3, 2054)], 6)
theorem hh_c25 : et_cv et_TT hh_q25 := et_cok_ok (Ks := [ek_p166 [.inl (et_mn, et_mx), .inl (et_mn, et_mx), .inl (et_mn, et_mx)]]) (an := an_no) (List.forall_mem_cons.mpr ⟨ek_p166_ok, fun _ h => absurd h List.not_mem_nil⟩) (by decide +kernel) -- swapped
def hh_q26 : et_Co := (26, [.inr (.inr (0, 12)), .inl (et_mn, et_mx), .inl (et_mn, et_mx), .inr (.inr (0, 31))], [(3, 0, 0), (3, 4, 4), (3, 5, 5), (3, 6, 6), (3, 7, 7), (4, 1, 1), (4, 2, 2), (4, 3, 3), (4, 4, 4), (4, 5, 5), (4, 6, 6), (12, 10, 10), (15, 0, 100000), (32, 0, 100000), (31, 0, 100000)], [(.inl (some (.inl (et_mn, et_mx))), 3, 2054)], 36)
theorem hh_c26 : et_cv et_TT hh_q26 := et_cok_ok (Ks := [ek_p167 [.inl (et_mn, et_mx), .inl (et_mn, et_mx)]]) (an := an_no) (List.forall_mem_cons.mpr ⟨ek_p167_ok, fun _ h => absurd h List.not_mem_nil⟩) (by decide +kernel) -- soonest
def hh_q27 : et_Co := (27, [.inr (.inr (0, 12)), .inl (et_mn, et_mx), .inl (et_mn, et_mx), .inr (.inr (0, 31))], [(31, 0, 100000)], [(.inl (some (.inl (et_mn, et_mx))), 2, 1030)], 7)
theorem hh_c27 : et_cv et_TT hh_q27 := et_cok_ok (Ks := [ek_p170 [.inl (et_mn, et_mx), .inl (et_mn, et_mx)]]) (an := an_no) (List.forall_mem_cons.mpr ⟨ek_p170_ok, fun _ h => absurd h List.not_mem_nil⟩) (by decide +kernel) -- together
def hh_q28 : et_Co := (28, [.inr (.inr (0, 12)), .inl (et_mn, et_mx), .inl (et_mn, et_mx), .inl (0, 1), .inr (.inr (0, 31))], [(9, 4, 4), (9, 5, 5), (9, 6, 6), (9, 7, 7), (9, 8, 8), (9, 9, 9), (9, 10, 10), (9, 11, 11), (9, 12, 12), (9, 13, 13), (9, 15, 15), (9, 16, 16), (12, 6, 6), (12, 7, 7), (51, 0, 100000), (19, 0, 100000), (45, 0, 100000), (31, 0, 100000)], [(.inl (some (.inl (et_mn, et_mx))), 1, 6)], 22)
theorem hh_c28 : et_cv et_TT hh_q28 := et_cok_ok (Ks := [es_p171 [.inl (et_mn, et_mx), .inl (et_mn, et_mx), .inl (0, 1)]]) (an := an_no) (List.forall_mem_cons.mpr ⟨es_s171, fun _ h => absurd h List.not_mem_nil⟩) (by decide +kernel) -- read
def hh_q29 : et_Co := (29, [.inr (.inr (0, 12)), .inl (et_mn, et_mx), .inr (.inr (0, 31))], [(4, 0, 0), (4, 6, 6), (4, 7, 7), (4, 8, 8), (4, 9, 9), (4, 10, 10), (4, 11, 11), (8, 1, 1), (28, 0, 100000), (31, 0, 100000)], [(.inl (some (.inl (et_mn, et_mx))), 2, 1030)], 36)
theorem hh_c29 : et_cv et_TT hh_q29 := et_cok_ok (Ks := [ek_p173 [.inl (et_mn, et_mx)]]) (an := an_no) (List.forall_mem_cons.mpr ⟨ek_p173_ok, fun _ h => absurd h List.not_mem_nil⟩) (by decide +kernel) -- holds
/-! BY HAND: the law's helpers -/
theorem ht_lst {T : List et_D} {M : et_M} {K : et_K} {d k pc ck sk a t n N p : Nat} {x : Int64} {L : eg_Ls} {r : List Value} {G : eg_G} {Z : eg_O → Prop} (hc : hs_o k pc = some (.lastore, p)) (hT : T[t]? = some (.inr (2, N, []))) (ht : 2 ≤ t) (hH : et_H T K G) (ha : K a = some t) (hn : n < N) (hN : N < 2147483648) (hM : et_mm M t n = true) (h : ∀ G', et_H T K G' → et_fr M K G G' → et_go none d k p L r G' ck sk Z) : et_go none d k pc L (.long x :: .int (Int32.ofNat n) :: .ref a :: r) G ck sk Z := by
  obtain ⟨f, e⟩ := hi_arrL hH ha hT (by omega)
  refine hs_last hc e (hi_at hH ha ht) hN hn (h _ (hi_uarrL hH ha ht hT) (hi_frM hH ha ht (fun i hi => ?_)))
  rw [e]
  have ei : ¬ i = n := fun h => by
    rw [h, hM] at hi
    cases hi
  show (if i < N then some (Value.long (vp_updL f n x i)) else none) = (if i < N then some (Value.long (f i)) else none)
  unfold vp_updL
  rw [if_neg ei]
section PPM
variable {K : et_K} {G : eg_G} {d2 th out rd : Nat} {pl n : Int32}
theorem hh_i0 (hH : et_H et_TT K G) (hci : ci K G th) (k_th : K th = some 12) (k_out : K out = some 31) (h3 : et_pl (eg_at G th) 3 = some (.ref rd)) (k_rd : K rd = some 7) (hd : 27 ≤ d2) : et_go none d2 0 0 (eg_en (eg_mL 0) [.ref th, .ref out]) [] G 0 0 (pr_Z (ru_M ++ [(31, 0, 100000)]) K G th [] 806 4836 (fun g => pl_at g rd 0)) := by
  obtain ⟨d, rfl⟩ : ∃ d, d2 = d + 27 := ⟨d2 - 27, by omega⟩
  rw [show eg_mL 0 = 3 from by decide +kernel]
  show et_go none (d + 27) 0 0 [some (.ref th), some (.ref out), none] [] G 0 0 _
  refine hs_aload (i := 1) (p := 1) (by decide +kernel) rfl ?_
  refine hs_k (x := Int32.ofNat 0) (p := 2) (by decide +kernel) ?_
  refine hs_aload (i := 0) (p := 3) (by decide +kernel) rfl ?_
  refine ht_callv (T := et_TT) (t := 12) (mi := 131) (na := 0) (ci := 10) (lk := 3) (lm := 2) (L0 := eg_en (eg_mL 131) [.ref th]) (by decide +kernel) rfl hH k_th rfl rfl rfl rfl rfl (by rw [show eg_mL 131 = 2 from by decide +kernel]; first | done | rfl) ?_
  refine (hc_ruleI hH hci (by omega)).mono (fun u hu => ?_)
  obtain ⟨K2, x2, f2, hH2, hci2, hP, hr, hc, hs⟩ := hu
  obtain ⟨u1, u2, u3, u4⟩ := u
  have hc : u3 ≤ 806 := hc
  have hs : u4 ≤ 4836 := hs
  rcases hr with ⟨n, e⟩ | ⟨x, hx, e⟩
  · have e : u1 = .inl (some (.int n)) := e
    subst e
    refine hs_cb ?_
    show et_go none _ 0 6 _ [.int n, .int (Int32.ofNat 0), .ref out] u2 (0 + u3) (0 + u4) _
    refine hs_i2l (p := 7) (by decide +kernel) ?_
    refine ht_lst (M := [(31, 0, 100000)]) (t := 31) (N := 1) (p := 8) (by decide +kernel) rfl (by decide) hH2 (x2 _ _ k_out) (by decide) (by decide) (by decide +kernel) (fun G7 hH f7 => ?_)
    refine hs_goto (p := 17) (by decide +kernel) ?_
    refine hs_k (x := Int32.ofNat 0) (p := 18) (by decide +kernel) ?_
    refine hs_iret (by decide +kernel) ?_
    exact ⟨K2, x2, (f2.wk (by decide +kernel)).tr x2 (f7.wk (by decide +kernel)), hH, hci2.fr et_ex.rf f7 (by decide +kernel), (f7.2 rd 7 (x2 _ _ k_rd) 1 rfl).trans (hP rd h3), .inl ⟨_, rfl⟩, by show 0 + u3 ≤ 806; omega, by show 0 + u4 ≤ 4836; omega⟩
  · have e : u1 = .inr x := e
    subst e
    rcases List.mem_cons.mp hx with rfl | hx
    · refine hs_ch (h := 11) (i := 2) (n := 1) (hh := (eg_mh 0).getD []) (by decide +kernel) ⟨by decide +kernel, by decide +kernel⟩ (Nat.le_of_ble_eq_true rfl) ?_
      show et_go none _ 0 12 [some (.ref th), some (.ref out), none] [] u2 (0 + u3) (0 + u4) _
      refine hs_k (x := Int32.ofNat 1) (p := 13) (by decide +kernel) ?_
      refine hs_iret (by decide +kernel) ?_
      exact ⟨K2, x2, f2.wk (by decide +kernel), hH2, hci2, hP rd h3, .inl ⟨_, rfl⟩, by show 0 + u3 ≤ 806; omega, by show 0 + u4 ≤ 4836; omega⟩
    obtain rfl := List.mem_singleton.mp hx
    refine hs_ch (h := 14) (i := 2) (n := 1) (hh := (eg_mh 0).getD []) (by decide +kernel) ⟨by decide +kernel, by decide +kernel⟩ (Nat.le_of_ble_eq_true rfl) ?_
    show et_go none _ 0 15 [some (.ref th), some (.ref out), none] [] u2 (0 + u3) (0 + u4) _
    refine hs_k (x := Int32.ofNat 2) (p := 16) (by decide +kernel) ?_
    refine hs_iret (by decide +kernel) ?_
    exact ⟨K2, x2, f2.wk (by decide +kernel), hH2, hci2, hP rd h3, .inl ⟨_, rfl⟩, by show 0 + u3 ≤ 806; omega, by show 0 + u4 ≤ 4836; omega⟩
theorem hh_i1 (hH : et_H et_TT K G) (hci : ci K G th) (k_th : K th = some 12) (k_out : K out = some 31) (h3 : et_pl (eg_at G th) 3 = some (.ref rd)) (k_rd : K rd = some 7) (hd : 29 ≤ d2) : et_go none d2 1 0 (eg_en (eg_mL 1) [.ref th, .ref out]) [] G 0 0 (pr_Z (tu_M ++ [(31, 0, 100000)]) K G th [] 841 5106 (fun g => pl_at g rd 0)) := by
  obtain ⟨d, rfl⟩ : ∃ d, d2 = d + 29 := ⟨d2 - 29, by omega⟩
  rw [show eg_mL 1 = 3 from by decide +kernel]
  show et_go none (d + 29) 1 0 [some (.ref th), some (.ref out), none] [] G 0 0 _
  refine hs_aload (i := 1) (p := 1) (by decide +kernel) rfl ?_
  refine hs_k (x := Int32.ofNat 0) (p := 2) (by decide +kernel) ?_
  refine hs_aload (i := 0) (p := 3) (by decide +kernel) rfl ?_
  refine ht_callv (T := et_TT) (t := 12) (mi := 132) (na := 0) (ci := 10) (lk := 3) (lm := 2) (L0 := eg_en (eg_mL 132) [.ref th]) (by decide +kernel) rfl hH k_th rfl rfl rfl rfl rfl (by rw [show eg_mL 132 = 2 from by decide +kernel]; first | done | rfl) ?_
  refine (hc_turnerI hH hci (by omega)).mono (fun u hu => ?_)
  obtain ⟨K2, x2, f2, hH2, hci2, hP, hr, hc, hs⟩ := hu
  obtain ⟨u1, u2, u3, u4⟩ := u
  have hc : u3 ≤ 841 := hc
  have hs : u4 ≤ 5106 := hs
  rcases hr with ⟨n, e⟩ | ⟨x, hx, e⟩
  · have e : u1 = .inl (some (.int n)) := e
    subst e
    refine hs_cb ?_
    show et_go none _ 1 6 _ [.int n, .int (Int32.ofNat 0), .ref out] u2 (0 + u3) (0 + u4) _
    refine hs_i2l (p := 7) (by decide +kernel) ?_
    refine ht_lst (M := [(31, 0, 100000)]) (t := 31) (N := 1) (p := 8) (by decide +kernel) rfl (by decide) hH2 (x2 _ _ k_out) (by decide) (by decide) (by decide +kernel) (fun G7 hH f7 => ?_)
    refine hs_goto (p := 17) (by decide +kernel) ?_
    refine hs_k (x := Int32.ofNat 0) (p := 18) (by decide +kernel) ?_
    refine hs_iret (by decide +kernel) ?_
    exact ⟨K2, x2, (f2.wk (by decide +kernel)).tr x2 (f7.wk (by decide +kernel)), hH, hci2.fr et_ex.rf f7 (by decide +kernel), (f7.2 rd 7 (x2 _ _ k_rd) 1 rfl).trans (hP rd h3), .inl ⟨_, rfl⟩, by show 0 + u3 ≤ 841; omega, by show 0 + u4 ≤ 5106; omega⟩
  · have e : u1 = .inr x := e
    subst e
    rcases List.mem_cons.mp hx with rfl | hx
    · refine hs_ch (h := 11) (i := 2) (n := 1) (hh := (eg_mh 1).getD []) (by decide +kernel) ⟨by decide +kernel, by decide +kernel⟩ (Nat.le_of_ble_eq_true rfl) ?_
      show et_go none _ 1 12 [some (.ref th), some (.ref out), none] [] u2 (0 + u3) (0 + u4) _
      refine hs_k (x := Int32.ofNat 1) (p := 13) (by decide +kernel) ?_
      refine hs_iret (by decide +kernel) ?_
      exact ⟨K2, x2, f2.wk (by decide +kernel), hH2, hci2, hP rd h3, .inl ⟨_, rfl⟩, by show 0 + u3 ≤ 841; omega, by show 0 + u4 ≤ 5106; omega⟩
    obtain rfl := List.mem_singleton.mp hx
    refine hs_ch (h := 14) (i := 2) (n := 1) (hh := (eg_mh 1).getD []) (by decide +kernel) ⟨by decide +kernel, by decide +kernel⟩ (Nat.le_of_ble_eq_true rfl) ?_
    show et_go none _ 1 15 [some (.ref th), some (.ref out), none] [] u2 (0 + u3) (0 + u4) _
    refine hs_k (x := Int32.ofNat 2) (p := 16) (by decide +kernel) ?_
    refine hs_iret (by decide +kernel) ?_
    exact ⟨K2, x2, f2.wk (by decide +kernel), hH2, hci2, hP rd h3, .inl ⟨_, rfl⟩, by show 0 + u3 ≤ 841; omega, by show 0 + u4 ≤ 5106; omega⟩
theorem hh_i2 (hH : et_H et_TT K G) (hci : ci K G th) (k_th : K th = some 12) (k_out : K out = some 31) (h3 : et_pl (eg_at G th) 3 = some (.ref rd)) (k_rd : K rd = some 7) (hd : 27 ≤ d2) : et_go none d2 2 0 (eg_en (eg_mL 2) [.ref th, .int pl, .int n, .ref out]) [] G 0 0 (pr_Z (cl_M ++ [(31, 0, 100000)]) K G th [] 806 4836 (fun g => pl_at g rd 0)) := by
  obtain ⟨d, rfl⟩ : ∃ d, d2 = d + 27 := ⟨d2 - 27, by omega⟩
  rw [show eg_mL 2 = 5 from by decide +kernel]
  show et_go none (d + 27) 2 0 [some (.ref th), some (.int pl), some (.int n), some (.ref out), none] [] G 0 0 _
  refine hs_aload (i := 3) (p := 1) (by decide +kernel) rfl ?_
  refine hs_k (x := Int32.ofNat 0) (p := 2) (by decide +kernel) ?_
  refine hs_aload (i := 0) (p := 3) (by decide +kernel) rfl ?_
  refine hs_iload (i := 1) (p := 4) (by decide +kernel) rfl ?_
  refine hs_iload (i := 2) (p := 5) (by decide +kernel) rfl ?_
  refine ht_callv (T := et_TT) (t := 12) (mi := 133) (na := 2) (ci := 10) (lk := 5) (lm := 4) (L0 := eg_en (eg_mL 133) [.ref th, .int pl, .int n]) (by decide +kernel) rfl hH k_th rfl rfl rfl rfl rfl (by rw [show eg_mL 133 = 4 from by decide +kernel]; first | done | rfl) ?_
  refine (hc_claimI hH hci (by omega)).mono (fun u hu => ?_)
  obtain ⟨K2, x2, f2, hH2, hci2, hP, hr, hc, hs⟩ := hu
  obtain ⟨u1, u2, u3, u4⟩ := u
  have hc : u3 ≤ 806 := hc
  have hs : u4 ≤ 4836 := hs
  rcases hr with ⟨n, e⟩ | ⟨x, hx, e⟩
  · have e : u1 = .inl (some (.int n)) := e
    subst e
    refine hs_cb ?_
    show et_go none _ 2 8 _ [.int n, .int (Int32.ofNat 0), .ref out] u2 (0 + u3) (0 + u4) _
    refine hs_i2l (p := 9) (by decide +kernel) ?_
    refine ht_lst (M := [(31, 0, 100000)]) (t := 31) (N := 1) (p := 10) (by decide +kernel) rfl (by decide) hH2 (x2 _ _ k_out) (by decide) (by decide) (by decide +kernel) (fun G7 hH f7 => ?_)
    refine hs_goto (p := 25) (by decide +kernel) ?_
    refine hs_k (x := Int32.ofNat 0) (p := 26) (by decide +kernel) ?_
    refine hs_iret (by decide +kernel) ?_
    exact ⟨K2, x2, (f2.wk (by decide +kernel)).tr x2 (f7.wk (by decide +kernel)), hH, hci2.fr et_ex.rf f7 (by decide +kernel), (f7.2 rd 7 (x2 _ _ k_rd) 1 rfl).trans (hP rd h3), .inl ⟨_, rfl⟩, by show 0 + u3 ≤ 806; omega, by show 0 + u4 ≤ 4836; omega⟩
  · have e : u1 = .inr x := e
    subst e
    rcases List.mem_cons.mp hx with rfl | hx
    · refine hs_ch (h := 17) (i := 4) (n := 2) (hh := (eg_mh 2).getD []) (by decide +kernel) ⟨by decide +kernel, by decide +kernel⟩ (Nat.le_of_ble_eq_true rfl) ?_
      show et_go none _ 2 19 [some (.ref th), some (.int pl), some (.int n), some (.ref out), none] [] u2 (0 + u3) (0 + u4) _
      refine hs_k (x := Int32.ofNat 2) (p := 20) (by decide +kernel) ?_
      refine hs_iret (by decide +kernel) ?_
      exact ⟨K2, x2, f2.wk (by decide +kernel), hH2, hci2, hP rd h3, .inl ⟨_, rfl⟩, by show 0 + u3 ≤ 806; omega, by show 0 + u4 ≤ 4836; omega⟩
    rcases List.mem_cons.mp hx with rfl | hx
    · refine hs_ch (h := 13) (i := 4) (n := 2) (hh := (eg_mh 2).getD []) (by decide +kernel) ⟨by decide +kernel, by decide +kernel⟩ (Nat.le_of_ble_eq_true rfl) ?_
      show et_go none _ 2 15 [some (.ref th), some (.int pl), some (.int n), some (.ref out), none] [] u2 (0 + u3) (0 + u4) _
      refine hs_k (x := Int32.ofNat 1) (p := 16) (by decide +kernel) ?_
      refine hs_iret (by decide +kernel) ?_
      exact ⟨K2, x2, f2.wk (by decide +kernel), hH2, hci2, hP rd h3, .inl ⟨_, rfl⟩, by show 0 + u3 ≤ 806; omega, by show 0 + u4 ≤ 4836; omega⟩
    obtain rfl := List.mem_singleton.mp hx
    refine hs_ch (h := 21) (i := 4) (n := 2) (hh := (eg_mh 2).getD []) (by decide +kernel) ⟨by decide +kernel, by decide +kernel⟩ (Nat.le_of_ble_eq_true rfl) ?_
    show et_go none _ 2 23 [some (.ref th), some (.int pl), some (.int n), some (.ref out), none] [] u2 (0 + u3) (0 + u4) _
    refine hs_k (x := Int32.ofNat 3) (p := 24) (by decide +kernel) ?_
    refine hs_iret (by decide +kernel) ?_
    exact ⟨K2, x2, f2.wk (by decide +kernel), hH2, hci2, hP rd h3, .inl ⟨_, rfl⟩, by show 0 + u3 ≤ 806; omega, by show 0 + u4 ≤ 4836; omega⟩
theorem hh_i6 (hH : et_H et_TT K G) (hci : ci K G th) (k_th : K th = some 12) (k_out : K out = some 31) (hd : 1 ≤ d2) : et_go none d2 6 0 (eg_en (eg_mL 6) [.ref th, .ref out]) [] G 0 0 (pr_Z ([(10, 5, 5)] ++ [(31, 0, 100000)]) K G th [] 1 6 (fun _ => True)) := by
  obtain ⟨d, rfl⟩ : ∃ d, d2 = d + 1 := ⟨d2 - 1, by omega⟩
  rw [show eg_mL 6 = 3 from by decide +kernel]
  show et_go none (d + 1) 6 0 [some (.ref th), some (.ref out), none] [] G 0 0 _
  refine hs_aload (i := 1) (p := 1) (by decide +kernel) rfl ?_
  refine hs_k (x := Int32.ofNat 0) (p := 2) (by decide +kernel) ?_
  refine hs_aload (i := 0) (p := 3) (by decide +kernel) rfl ?_
  refine ht_callv (T := et_TT) (t := 12) (mi := 139) (na := 0) (ci := 10) (lk := 3) (lm := 1) (L0 := eg_en (eg_mL 139) [.ref th]) (by decide +kernel) rfl hH k_th rfl rfl rfl rfl rfl (by rw [show eg_mL 139 = 1 from by decide +kernel]; first | done | rfl) ?_
  refine (hc_eyeI hH hci).mono (fun u hu => ?_)
  obtain ⟨K2, x2, f2, hH2, hci2, hP, hr, hc, hs⟩ := hu
  obtain ⟨u1, u2, u3, u4⟩ := u
  have hc : u3 ≤ 1 := hc
  have hs : u4 ≤ 6 := hs
  rcases hr with ⟨n, e⟩ | ⟨x, hx, e⟩
  · have e : u1 = .inl (some (.int n)) := e
    subst e
    refine hs_cb ?_
    show et_go none _ 6 6 _ [.int n, .int (Int32.ofNat 0), .ref out] u2 (0 + u3) (0 + u4) _
    refine hs_i2l (p := 7) (by decide +kernel) ?_
    refine ht_lst (M := [(31, 0, 100000)]) (t := 31) (N := 1) (p := 8) (by decide +kernel) rfl (by decide) hH2 (x2 _ _ k_out) (by decide) (by decide) (by decide +kernel) (fun G7 hH f7 => ?_)
    refine hs_goto (p := 14) (by decide +kernel) ?_
    refine hs_k (x := Int32.ofNat 0) (p := 15) (by decide +kernel) ?_
    refine hs_iret (by decide +kernel) ?_
    exact ⟨K2, x2, (f2.wk (by decide +kernel)).tr x2 (f7.wk (by decide +kernel)), hH, hci2.fr et_ex.rf f7 (by decide +kernel), trivial, .inl ⟨_, rfl⟩, by show 0 + u3 ≤ 1; omega, by show 0 + u4 ≤ 6; omega⟩
  · have e : u1 = .inr x := e
    subst e
    obtain rfl := List.mem_singleton.mp hx
    refine hs_ch (h := 11) (i := 2) (n := 1) (hh := (eg_mh 6).getD []) (by decide +kernel) ⟨by decide +kernel, by decide +kernel⟩ (Nat.le_of_ble_eq_true rfl) ?_
    show et_go none _ 6 12 [some (.ref th), some (.ref out), none] [] u2 (0 + u3) (0 + u4) _
    refine hs_k (x := Int32.ofNat 1) (p := 13) (by decide +kernel) ?_
    refine hs_iret (by decide +kernel) ?_
    exact ⟨K2, x2, f2.wk (by decide +kernel), hH2, hci2, trivial, .inl ⟨_, rfl⟩, by show 0 + u3 ≤ 1; omega, by show 0 + u4 ≤ 6; omega⟩
end PPM
