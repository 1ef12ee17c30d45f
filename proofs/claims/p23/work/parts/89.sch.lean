/-! THE CLASS: SEARCH: loops and contracts, written by program (gen54.py) -/
-- KnobEye$Eye.sumWith.([II)I
def es_an33 (pc : Nat) : Option et_A := if pc = 5 then some ([(3, .inl (et_mn, et_mx)), (4, .inl (0, 6))], 2, [], []) else none
-- KnobEye$Search.run.()V
def es_an93 (pc : Nat) : Option et_A := if pc = 4 then some ([(1, .inl (0, 1)), (2, .inl (0, 151))], 2, [(45, 0, 100000)], []) else if pc = 40 then some ([(3, .inl ((-1), 5))], 1, [(45, 0, 100000)], []) else none
-- KnobEye$Search.choose.(II)V
def es_an94 (pc : Nat) : Option et_A := if pc = 26 then some ([(3, .inl (et_mn, et_mx))], 0, [(9, 13, 13), (9, 15, 15), (9, 16, 16), (51, 0, 100000), (19, 0, 100000), (45, 0, 100000)], []) else none
-- KnobEye$Search.take.(I)V
def es_an95 (pc : Nat) : Option et_A := if pc = 35 then some ([(2, .inl (0, 6))], 0, [(51, 0, 100000)], []) else none
-- KnobEye$Search.countLines.()V
def es_an96 (pc : Nat) : Option et_A := if pc = 22 then some ([(2, .inl (et_mn, 9)), (4, .inl (0, 151))], 2, [], []) else if pc = 54 then some ([(1, .inl ((-9), et_mx)), (4, .inl (0, 151))], 2, [], []) else if pc = 101 then some ([(4, .inl (0, 31))], 0, [(19, 0, 100000)], []) else none
-- KnobEye$Search.addsUp.(II)Z
def es_an97 (pc : Nat) : Option et_A := if pc = 38 then some ([(7, .inl (0, 151))], 0, [(45, 0, 100000)], []) else none
-- KnobEye$State.yesCards.()I
def es_an105 (pc : Nat) : Option et_A := if pc = 4 then some ([(1, .inl (et_mn, et_mx)), (2, .inl (0, 20))], 2, [], []) else none
-- KnobEye.lineFound.(LKnobEye$Eye;)I
def es_an153 (pc : Nat) : Option et_A := if pc = 11 then some ([(2, .inl ((-1073741824), et_mx)), (3, .inl (et_mn, 1073741824)), (4, .inl (0, 20))], 4, [], []) else none
-- KnobEye.bars.(II)I
def es_an154 (pc : Nat) : Option et_A := if pc = 32 then some ([(4, .inl (0, 20)), (5, .inl (0, 21)), (6, .inl (0, 20))], 4, [(9, 4, 4), (9, 5, 5), (9, 6, 6), (9, 7, 7), (9, 8, 8), (9, 9, 9), (9, 13, 13), (9, 15, 15), (9, 16, 16), (51, 0, 100000), (19, 0, 100000), (45, 0, 100000)], []) else none
-- KnobEye.nextCard.()I
def es_an172 (pc : Nat) : Option et_A := if pc = 8 then some ([(1, .inl (0, 30)), (2, .inl (et_mn, 1073741824)), (3, .inl (0, 31))], 4, [], []) else none
def es_an (k pc : Nat) : Option et_A := if k < 97 then (if k < 94 then (if k < 93 then (if k = 33 then es_an33 pc else none) else (if k = 93 then es_an93 pc else none)) else (if k < 95 then (if k = 94 then es_an94 pc else none) else (if k < 96 then (if k = 95 then es_an95 pc else none) else (if k = 96 then es_an96 pc else none)))) else (if k < 153 then (if k < 105 then (if k = 97 then es_an97 pc else none) else (if k = 105 then es_an105 pc else none)) else (if k < 154 then (if k = 153 then es_an153 pc else none) else (if k < 172 then (if k = 154 then es_an154 pc else none) else (if k = 172 then es_an172 pc else none))))
-- KnobEye$Search.addsUp.(II)Z, 66 steps
def es_q0 : et_Co := (97, [.inr (.inr (0, 9)), .inl (0, 1), .inl (et_mn, et_mx)], [(45, 0, 100000)], [(.inl (some (.inl (0, 1))), 0, 0)], 1)
-- KnobEye$Search.addsUp.(II)Z, 66 steps
def es_q1 : et_Co := (97, [.inr (.inr (0, 9)), .inl (2, 2), .inl (et_mn, et_mx)], [(45, 0, 100000)], [(.inl (some (.inl (0, 1))), 0, 0)], 1)
-- KnobEye$Search.addsUp.(II)Z, 66 steps
def es_q2 : et_Co := (97, [.inr (.inr (0, 9)), .inl (3, 3), .inl (et_mn, et_mx)], [(45, 0, 100000)], [(.inl (some (.inl (0, 1))), 0, 0)], 1)
-- KnobEye$Search.addsUp.(II)Z, 66 steps
def es_q3 : et_Co := (97, [.inr (.inr (0, 9)), .inl (4, 4), .inl (et_mn, et_mx)], [(45, 0, 100000)], [(.inl (some (.inl (0, 1))), 0, 0)], 1)
-- KnobEye$Search.addsUp.(II)Z, 66 steps
def es_q4 : et_Co := (97, [.inr (.inr (0, 9)), .inl (5, 5), .inl (et_mn, et_mx)], [(45, 0, 100000)], [(.inl (some (.inl (0, 1))), 0, 0)], 1)
-- KnobEye$Search.countLines.()V, 90 steps
def es_q5 : et_Co := (96, [.inr (.inr (0, 9))], [(9, 16, 16), (19, 0, 100000)], [(.inl none, 0, 0)], 1)
-- KnobEye$Search.take.(I)V, 142 steps
def es_q6 : et_Co := (95, [.inr (.inr (0, 9)), .inl (et_mn, et_mx)], [(9, 13, 13), (9, 15, 15), (9, 16, 16), (51, 0, 100000), (19, 0, 100000)], [(.inl none, 0, 0)], 2)
-- KnobEye$Search.choose.(II)V, 150 steps
def es_q7 : et_Co := (94, [.inr (.inr (0, 9)), .inl (6, 6), .inl (et_mn, et_mx)], [(9, 13, 13), (9, 15, 15), (9, 16, 16), (51, 0, 100000), (19, 0, 100000), (45, 0, 100000)], [(.inl none, 0, 0)], 5)
-- KnobEye$Search.choose.(II)V, 268 steps
def es_q8 : et_Co := (94, [.inr (.inr (0, 9)), .inl (5, 5), .inl (et_mn, et_mx)], [(9, 13, 13), (9, 15, 15), (9, 16, 16), (51, 0, 100000), (19, 0, 100000), (45, 0, 100000)], [(.inl none, 0, 0)], 6)
-- KnobEye$Search.choose.(II)V, 386 steps
def es_q9 : et_Co := (94, [.inr (.inr (0, 9)), .inl (4, 4), .inl (et_mn, et_mx)], [(9, 13, 13), (9, 15, 15), (9, 16, 16), (51, 0, 100000), (19, 0, 100000), (45, 0, 100000)], [(.inl none, 0, 0)], 7)
-- KnobEye$Search.choose.(II)V, 504 steps
def es_q10 : et_Co := (94, [.inr (.inr (0, 9)), .inl (3, 3), .inl (et_mn, et_mx)], [(9, 13, 13), (9, 15, 15), (9, 16, 16), (51, 0, 100000), (19, 0, 100000), (45, 0, 100000)], [(.inl none, 0, 0)], 8)
-- KnobEye$Search.choose.(II)V, 622 steps
def es_q11 : et_Co := (94, [.inr (.inr (0, 9)), .inl (2, 2), .inl (et_mn, et_mx)], [(9, 13, 13), (9, 15, 15), (9, 16, 16), (51, 0, 100000), (19, 0, 100000), (45, 0, 100000)], [(.inl none, 0, 0)], 9)
-- KnobEye$Search.choose.(II)V, 674 steps
def es_q12 : et_Co := (94, [.inr (.inr (0, 9)), .inl (1, 1), .inl (et_mn, et_mx)], [(9, 13, 13), (9, 15, 15), (9, 16, 16), (51, 0, 100000), (19, 0, 100000), (45, 0, 100000)], [(.inl none, 0, 0)], 10)
-- KnobEye$Search.choose.(II)V, 792 steps
def es_q13 : et_Co := (94, [.inr (.inr (0, 9)), .inl (0, 0), .inl (0, 0)], [(9, 13, 13), (9, 15, 15), (9, 16, 16), (51, 0, 100000), (19, 0, 100000), (45, 0, 100000)], [(.inl none, 0, 0)], 11)
-- KnobEye$Search.run.()V, 944 steps
def es_q14 : et_Co := (93, [.inr (.inr (0, 9))], [(9, 13, 13), (9, 15, 15), (9, 16, 16), (51, 0, 100000), (19, 0, 100000), (45, 0, 100000)], [(.inl none, 0, 0)], 12)
-- KnobEye$Search.leastOf.(LKnobEye$Eye;LKnobEye$State;I)V, 954 steps
def es_q15 : et_Co := (90, [.inr (.inr (0, 9)), .inr (.inr (0, 3)), .inr (.inr (0, 10)), .inl (1, 3)], [(9, 4, 4), (9, 5, 5), (9, 6, 6), (9, 7, 7), (9, 8, 8), (9, 9, 9), (9, 13, 13), (9, 15, 15), (9, 16, 16), (51, 0, 100000), (19, 0, 100000), (45, 0, 100000)], [(.inl none, 0, 0)], 13)
-- KnobEye.findLeast.(II)V, 1023 steps
def es_q16 : et_Co := (151, [.inr (.inr (0, 12)), .inl (0, 2), .inl (1, 3)], [(9, 4, 4), (9, 5, 5), (9, 6, 6), (9, 7, 7), (9, 8, 8), (9, 9, 9), (9, 13, 13), (9, 15, 15), (9, 16, 16), (12, 6, 6), (12, 7, 7), (51, 0, 100000), (19, 0, 100000), (45, 0, 100000)], [(.inr 1, 1, 6), (.inl none, 0, 0)], 14)
-- KnobEye$Eye.sumWith.([II)I, 76 steps
def es_q17 : et_Co := (33, [.inr (.inr (0, 3)), .inr (.inr (0, 51)), .inl (et_mn, et_mx)], [], [(.inl (some (.inl (et_mn, et_mx))), 0, 0)], 3)
-- KnobEye.lineFound.(LKnobEye$Eye;)I, 132 steps
def es_q18 : et_Co := (153, [.inr (.inr (0, 12)), .inr (.inr (0, 3))], [], [(.inl (some (.inl (et_mn, et_mx))), 0, 0)], 4)
-- KnobEye$Search.first.(LKnobEye$Eye;LKnobEye$State;II)V, 12 steps
def es_q19 : et_Co := (98, [.inr (.inr (0, 9)), .inr (.inr (0, 3)), .inr (.inr (0, 10)), .inl (0, 20), .inl (1, 3)], [(9, 4, 4), (9, 5, 5), (9, 6, 6), (9, 7, 7), (9, 8, 8), (9, 9, 9), (9, 13, 13), (9, 15, 15), (9, 16, 16), (51, 0, 100000), (19, 0, 100000), (45, 0, 100000)], [(.inl none, 0, 0)], 13)
-- KnobEye$State.yesCards.()I, 20 steps
def es_q20 : et_Co := (105, [.inr (.inr (0, 10))], [], [(.inl (some (.inl (et_mn, et_mx))), 0, 0)], 1)
-- KnobEye.nextCard.()I, 50 steps
def es_q21 : et_Co := (172, [.inr (.inr (0, 12))], [], [(.inl (some (.inl (16, 46))), 0, 0)], 1)
def es_p149 (ps : List et_P) : et_Co := (149, .inr (.inr (0, 12)) :: ps, [(9, 4, 4), (9, 5, 5), (9, 6, 6), (9, 7, 7), (9, 8, 8), (9, 9, 9), (9, 13, 13), (9, 15, 15), (9, 16, 16), (12, 6, 6), (12, 7, 7), (51, 0, 100000), (19, 0, 100000), (45, 0, 100000)], [(.inl (some (.inl (0, 1))), 0, 0), (.inr 0, 1, 6), (.inr 1, 1, 6)], 15)
def es_p152 (ps : List et_P) : et_Co := (152, .inr (.inr (0, 12)) :: ps, [(9, 4, 4), (9, 5, 5), (9, 6, 6), (9, 7, 7), (9, 8, 8), (9, 9, 9), (9, 13, 13), (9, 15, 15), (9, 16, 16), (12, 6, 6), (12, 7, 7), (51, 0, 100000), (19, 0, 100000), (45, 0, 100000)], [(.inl (some (.inl (et_mn, et_mx))), 0, 0), (.inr 0, 1, 6), (.inr 1, 1, 6), (.inr 3, 1, 6)], 15)
def es_p154 (ps : List et_P) : et_Co := (154, .inr (.inr (0, 12)) :: ps, [(9, 4, 4), (9, 5, 5), (9, 6, 6), (9, 7, 7), (9, 8, 8), (9, 9, 9), (9, 13, 13), (9, 15, 15), (9, 16, 16), (12, 6, 6), (12, 7, 7), (51, 0, 100000), (19, 0, 100000), (45, 0, 100000)], [(.inl (some (.inl (et_mn, et_mx))), 0, 0), (.inr 0, 1, 6), (.inr 1, 1, 6)], 14)
def es_p155 (ps : List et_P) : et_Co := (155, .inr (.inr (0, 12)) :: ps, [(9, 4, 4), (9, 5, 5), (9, 6, 6), (9, 7, 7), (9, 8, 8), (9, 9, 9), (9, 13, 13), (9, 15, 15), (9, 16, 16), (12, 6, 6), (12, 7, 7), (51, 0, 100000), (19, 0, 100000), (45, 0, 100000)], [(.inl (some (.inl (et_mn, et_mx))), 0, 0), (.inr 0, 1, 6), (.inr 1, 1, 6)], 15)
def es_p171 (ps : List et_P) : et_Co := (171, .inr (.inr (0, 12)) :: ps, [(9, 4, 4), (9, 5, 5), (9, 6, 6), (9, 7, 7), (9, 8, 8), (9, 9, 9), (9, 10, 10), (9, 11, 11), (9, 12, 12), (9, 13, 13), (9, 15, 15), (9, 16, 16), (12, 6, 6), (12, 7, 7), (51, 0, 100000), (19, 0, 100000), (45, 0, 100000)], [(.inl (some (.inl (et_mn, et_mx))), 0, 0), (.inr 0, 1, 6), (.inr 1, 1, 6)], 21)
def hq_begin : et_Co := (91, [.inr (.inr (0, 9)), .inr (.inr (0, 3)), .inr (.inr (0, 10)), .inl (et_mn, et_mx), .inl (0, 3)], [(9, 4, 4), (9, 5, 5), (9, 6, 6), (9, 7, 7), (9, 8, 8), (9, 9, 9), (9, 13, 13), (9, 15, 15), (9, 16, 16), (45, 0, 100000)], [(.inl none, 0, 0)], 4)
def hq_each : et_Co := (99, [.inr (.inr (0, 9)), .inr (.inr (0, 3)), .inr (.inr (0, 10)), .inl (0, 3), .inl (0, 46)], [(9, 4, 4), (9, 5, 5), (9, 6, 6), (9, 7, 7), (9, 8, 8), (9, 9, 9), (9, 10, 10), (9, 11, 11), (9, 12, 12), (9, 13, 13), (9, 15, 15), (9, 16, 16), (51, 0, 100000), (19, 0, 100000), (45, 0, 100000)], [(.inl none, 0, 0)], 20)
def hq_boundOf : et_Co := (156, [.inr (.inr (0, 12)), .inr (.inr (0, 3))], [], [(.inl (some (.inl (et_mn, et_mx))), 0, 0)], 4)
/-! THE CLASS: SEARCH: contracts hold, if these three do -/
theorem es_c0 : et_cv et_TT es_q0 := et_cok_ok (Ks := []) (an := es_an) (fun _ h => absurd h List.not_mem_nil) (by decide +kernel)
theorem es_c1 : et_cv et_TT es_q1 := et_cok_ok (Ks := []) (an := es_an) (fun _ h => absurd h List.not_mem_nil) (by decide +kernel)
theorem es_c2 : et_cv et_TT es_q2 := et_cok_ok (Ks := []) (an := es_an) (fun _ h => absurd h List.not_mem_nil) (by decide +kernel)
theorem es_c3 : et_cv et_TT es_q3 := et_cok_ok (Ks := []) (an := es_an) (fun _ h => absurd h List.not_mem_nil) (by decide +kernel)
theorem es_c4 : et_cv et_TT es_q4 := et_cok_ok (Ks := []) (an := es_an) (fun _ h => absurd h List.not_mem_nil) (by decide +kernel)
theorem es_c5 : et_cv et_TT es_q5 := et_cok_ok (Ks := []) (an := es_an) (fun _ h => absurd h List.not_mem_nil) (by decide +kernel)
theorem es_c6 : et_cv et_TT es_q6 := et_cok_ok (Ks := [es_q5]) (an := es_an) (List.forall_mem_cons.mpr ⟨es_c5, (fun _ h => absurd h List.not_mem_nil)⟩) (by decide +kernel)
theorem es_c7 : et_cv et_TT es_q7 := et_cok_ok (Ks := [es_q6]) (an := es_an) (List.forall_mem_cons.mpr ⟨es_c6, (fun _ h => absurd h List.not_mem_nil)⟩) (by decide +kernel)
theorem es_c8 : et_cv et_TT es_q8 := et_cok_ok (Ks := [es_q6, es_q7, es_q4]) (an := es_an) (List.forall_mem_cons.mpr ⟨es_c6, (List.forall_mem_cons.mpr ⟨es_c7, (List.forall_mem_cons.mpr ⟨es_c4, (fun _ h => absurd h List.not_mem_nil)⟩)⟩)⟩) (by decide +kernel)
theorem es_c9 : et_cv et_TT es_q9 := et_cok_ok (Ks := [es_q3, es_q8, es_q6]) (an := es_an) (List.forall_mem_cons.mpr ⟨es_c3, (List.forall_mem_cons.mpr ⟨es_c8, (List.forall_mem_cons.mpr ⟨es_c6, (fun _ h => absurd h List.not_mem_nil)⟩)⟩)⟩) (by decide +kernel)
theorem es_c10 : et_cv et_TT es_q10 := et_cok_ok (Ks := [es_q2, es_q6, es_q9]) (an := es_an) (List.forall_mem_cons.mpr ⟨es_c2, (List.forall_mem_cons.mpr ⟨es_c6, (List.forall_mem_cons.mpr ⟨es_c9, (fun _ h => absurd h List.not_mem_nil)⟩)⟩)⟩) (by decide +kernel)
theorem es_c11 : et_cv et_TT es_q11 := et_cok_ok (Ks := [es_q10, es_q1, es_q6]) (an := es_an) (List.forall_mem_cons.mpr ⟨es_c10, (List.forall_mem_cons.mpr ⟨es_c1, (List.forall_mem_cons.mpr ⟨es_c6, (fun _ h => absurd h List.not_mem_nil)⟩)⟩)⟩) (by decide +kernel)
theorem es_c12 : et_cv et_TT es_q12 := et_cok_ok (Ks := [es_q6, es_q11, es_q0]) (an := es_an) (List.forall_mem_cons.mpr ⟨es_c6, (List.forall_mem_cons.mpr ⟨es_c11, (List.forall_mem_cons.mpr ⟨es_c0, (fun _ h => absurd h List.not_mem_nil)⟩)⟩)⟩) (by decide +kernel)
theorem es_c13 : et_cv et_TT es_q13 := et_cok_ok (Ks := [es_q6, es_q12, es_q0]) (an := es_an) (List.forall_mem_cons.mpr ⟨es_c6, (List.forall_mem_cons.mpr ⟨es_c12, (List.forall_mem_cons.mpr ⟨es_c0, (fun _ h => absurd h List.not_mem_nil)⟩)⟩)⟩) (by decide +kernel)
theorem es_c14 : et_cv et_TT es_q14 := et_cok_ok (Ks := [es_q13]) (an := es_an) (List.forall_mem_cons.mpr ⟨es_c13, (fun _ h => absurd h List.not_mem_nil)⟩) (by decide +kernel)
theorem es_c15 (hb : et_cv et_TT hq_begin) (he : et_cv et_TT hq_each) (ho : et_cv et_TT hq_boundOf) : et_cv et_TT es_q15 := et_cok_ok (Ks := [es_q14, hq_begin]) (an := es_an) (List.forall_mem_cons.mpr ⟨es_c14, (List.forall_mem_cons.mpr ⟨hb, (fun _ h => absurd h List.not_mem_nil)⟩)⟩) (by decide +kernel)
theorem es_c16 (hb : et_cv et_TT hq_begin) (he : et_cv et_TT hq_each) (ho : et_cv et_TT hq_boundOf) : et_cv et_TT es_q16 := et_cok_ok (Ks := [es_q15, hq_begin]) (an := es_an) (List.forall_mem_cons.mpr ⟨(es_c15 hb he ho), (List.forall_mem_cons.mpr ⟨hb, (fun _ h => absurd h List.not_mem_nil)⟩)⟩) (by decide +kernel)
theorem es_c17 : et_cv et_TT es_q17 := et_cok_ok (Ks := []) (an := es_an) (fun _ h => absurd h List.not_mem_nil) (by decide +kernel)
theorem es_c18 : et_cv et_TT es_q18 := et_cok_ok (Ks := [es_q17]) (an := es_an) (List.forall_mem_cons.mpr ⟨es_c17, (fun _ h => absurd h List.not_mem_nil)⟩) (by decide +kernel)
theorem es_c19 (hb : et_cv et_TT hq_begin) (he : et_cv et_TT hq_each) (ho : et_cv et_TT hq_boundOf) : et_cv et_TT es_q19 := et_cok_ok (Ks := [es_q14, hq_begin]) (an := es_an) (List.forall_mem_cons.mpr ⟨es_c14, (List.forall_mem_cons.mpr ⟨hb, (fun _ h => absurd h List.not_mem_nil)⟩)⟩) (by decide +kernel)
theorem es_c20 : et_cv et_TT es_q20 := et_cok_ok (Ks := []) (an := es_an) (fun _ h => absurd h List.not_mem_nil) (by decide +kernel)
theorem es_c21 : et_cv et_TT es_q21 := et_cok_ok (Ks := []) (an := es_an) (fun _ h => absurd h List.not_mem_nil) (by decide +kernel)
theorem es_p149_ok (hb : et_cv et_TT hq_begin) (he : et_cv et_TT hq_each) (ho : et_cv et_TT hq_boundOf) : et_cv et_TT (es_p149 [.inl (et_mn, et_mx), .inl (et_mn, et_mx)]) := et_cok_ok (Ks := [es_q0, es_q1, es_q2, es_q3, es_q4, es_q5, es_q6, es_q7, es_q8, es_q9, es_q10, es_q11, es_q12, es_q13, es_q14, es_q15, es_q16, hq_begin]) (an := es_an) (List.forall_mem_cons.mpr ⟨es_c0, (List.forall_mem_cons.mpr ⟨es_c1, (List.forall_mem_cons.mpr ⟨es_c2, (List.forall_mem_cons.mpr ⟨es_c3, (List.forall_mem_cons.mpr ⟨es_c4, (List.forall_mem_cons.mpr ⟨es_c5, (List.forall_mem_cons.mpr ⟨es_c6, (List.forall_mem_cons.mpr ⟨es_c7, (List.forall_mem_cons.mpr ⟨es_c8, (List.forall_mem_cons.mpr ⟨es_c9, (List.forall_mem_cons.mpr ⟨es_c10, (List.forall_mem_cons.mpr ⟨es_c11, (List.forall_mem_cons.mpr ⟨es_c12, (List.forall_mem_cons.mpr ⟨es_c13, (List.forall_mem_cons.mpr ⟨es_c14, (List.forall_mem_cons.mpr ⟨(es_c15 hb he ho), (List.forall_mem_cons.mpr ⟨(es_c16 hb he ho), (List.forall_mem_cons.mpr ⟨hb, (fun _ h => absurd h List.not_mem_nil)⟩)⟩)⟩)⟩)⟩)⟩)⟩)⟩)⟩)⟩)⟩)⟩)⟩)⟩)⟩)⟩)⟩)⟩) (by decide +kernel) -- can
theorem es_p152_ok (hb : et_cv et_TT hq_begin) (he : et_cv et_TT hq_each) (ho : et_cv et_TT hq_boundOf) : et_cv et_TT (es_p152 [.inl (et_mn, et_mx), .inl (et_mn, et_mx), .inl (et_mn, et_mx)]) := et_cok_ok (Ks := [es_q0, es_q1, es_q2, es_q3, es_q4, es_q5, es_q6, es_q7, es_q8, es_q9, es_q10, es_q11, es_q12, es_q13, es_q14, es_q15, es_q16, es_q17, es_q18, hq_begin]) (an := es_an) (List.forall_mem_cons.mpr ⟨es_c0, (List.forall_mem_cons.mpr ⟨es_c1, (List.forall_mem_cons.mpr ⟨es_c2, (List.forall_mem_cons.mpr ⟨es_c3, (List.forall_mem_cons.mpr ⟨es_c4, (List.forall_mem_cons.mpr ⟨es_c5, (List.forall_mem_cons.mpr ⟨es_c6, (List.forall_mem_cons.mpr ⟨es_c7, (List.forall_mem_cons.mpr ⟨es_c8, (List.forall_mem_cons.mpr ⟨es_c9, (List.forall_mem_cons.mpr ⟨es_c10, (List.forall_mem_cons.mpr ⟨es_c11, (List.forall_mem_cons.mpr ⟨es_c12, (List.forall_mem_cons.mpr ⟨es_c13, (List.forall_mem_cons.mpr ⟨es_c14, (List.forall_mem_cons.mpr ⟨(es_c15 hb he ho), (List.forall_mem_cons.mpr ⟨(es_c16 hb he ho), (List.forall_mem_cons.mpr ⟨es_c17, (List.forall_mem_cons.mpr ⟨es_c18, (List.forall_mem_cons.mpr ⟨hb, (fun _ h => absurd h List.not_mem_nil)⟩)⟩)⟩)⟩)⟩)⟩)⟩)⟩)⟩)⟩)⟩)⟩)⟩)⟩)⟩)⟩)⟩)⟩)⟩)⟩) (by decide +kernel) -- found
theorem es_p154_ok (hb : et_cv et_TT hq_begin) (he : et_cv et_TT hq_each) (ho : et_cv et_TT hq_boundOf) : et_cv et_TT (es_p154 [.inl (et_mn, et_mx), .inl (et_mn, et_mx)]) := et_cok_ok (Ks := [es_q0, es_q1, es_q2, es_q3, es_q4, es_q5, es_q6, es_q7, es_q8, es_q9, es_q10, es_q11, es_q12, es_q13, es_q14, es_q19, hq_begin]) (an := es_an) (List.forall_mem_cons.mpr ⟨es_c0, (List.forall_mem_cons.mpr ⟨es_c1, (List.forall_mem_cons.mpr ⟨es_c2, (List.forall_mem_cons.mpr ⟨es_c3, (List.forall_mem_cons.mpr ⟨es_c4, (List.forall_mem_cons.mpr ⟨es_c5, (List.forall_mem_cons.mpr ⟨es_c6, (List.forall_mem_cons.mpr ⟨es_c7, (List.forall_mem_cons.mpr ⟨es_c8, (List.forall_mem_cons.mpr ⟨es_c9, (List.forall_mem_cons.mpr ⟨es_c10, (List.forall_mem_cons.mpr ⟨es_c11, (List.forall_mem_cons.mpr ⟨es_c12, (List.forall_mem_cons.mpr ⟨es_c13, (List.forall_mem_cons.mpr ⟨es_c14, (List.forall_mem_cons.mpr ⟨(es_c19 hb he ho), (List.forall_mem_cons.mpr ⟨hb, (fun _ h => absurd h List.not_mem_nil)⟩)⟩)⟩)⟩)⟩)⟩)⟩)⟩)⟩)⟩)⟩)⟩)⟩)⟩)⟩)⟩)⟩) (by decide +kernel) -- bars
theorem es_p155_ok (hb : et_cv et_TT hq_begin) (he : et_cv et_TT hq_each) (ho : et_cv et_TT hq_boundOf) : et_cv et_TT (es_p155 [.inl (et_mn, et_mx), .inl (et_mn, et_mx)]) := et_cok_ok (Ks := [es_q0, es_q1, es_q2, es_q3, es_q4, es_q5, es_q6, es_q7, es_q8, es_q9, es_q10, es_q11, es_q12, es_q13, es_q14, es_q15, es_q16, es_q17, es_q20, hq_begin, hq_boundOf]) (an := es_an) (List.forall_mem_cons.mpr ⟨es_c0, (List.forall_mem_cons.mpr ⟨es_c1, (List.forall_mem_cons.mpr ⟨es_c2, (List.forall_mem_cons.mpr ⟨es_c3, (List.forall_mem_cons.mpr ⟨es_c4, (List.forall_mem_cons.mpr ⟨es_c5, (List.forall_mem_cons.mpr ⟨es_c6, (List.forall_mem_cons.mpr ⟨es_c7, (List.forall_mem_cons.mpr ⟨es_c8, (List.forall_mem_cons.mpr ⟨es_c9, (List.forall_mem_cons.mpr ⟨es_c10, (List.forall_mem_cons.mpr ⟨es_c11, (List.forall_mem_cons.mpr ⟨es_c12, (List.forall_mem_cons.mpr ⟨es_c13, (List.forall_mem_cons.mpr ⟨es_c14, (List.forall_mem_cons.mpr ⟨(es_c15 hb he ho), (List.forall_mem_cons.mpr ⟨(es_c16 hb he ho), (List.forall_mem_cons.mpr ⟨es_c17, (List.forall_mem_cons.mpr ⟨es_c20, (List.forall_mem_cons.mpr ⟨hb, (List.forall_mem_cons.mpr ⟨ho, (fun _ h => absurd h List.not_mem_nil)⟩)⟩)⟩)⟩)⟩)⟩)⟩)⟩)⟩)⟩)⟩)⟩)⟩)⟩)⟩)⟩)⟩)⟩)⟩)⟩)⟩) (by decide +kernel) -- bound
theorem es_p171_ok (hb : et_cv et_TT hq_begin) (he : et_cv et_TT hq_each) (ho : et_cv et_TT hq_boundOf) : et_cv et_TT (es_p171 [.inl (et_mn, et_mx), .inl (et_mn, et_mx), .inl (0, 1)]) := et_cok_ok (Ks := [es_q0, es_q1, es_q2, es_q3, es_q4, es_q5, es_q6, es_q7, es_q8, es_q9, es_q10, es_q11, es_q12, es_q13, es_q14, es_q21, hq_each]) (an := es_an) (List.forall_mem_cons.mpr ⟨es_c0, (List.forall_mem_cons.mpr ⟨es_c1, (List.forall_mem_cons.mpr ⟨es_c2, (List.forall_mem_cons.mpr ⟨es_c3, (List.forall_mem_cons.mpr ⟨es_c4, (List.forall_mem_cons.mpr ⟨es_c5, (List.forall_mem_cons.mpr ⟨es_c6, (List.forall_mem_cons.mpr ⟨es_c7, (List.forall_mem_cons.mpr ⟨es_c8, (List.forall_mem_cons.mpr ⟨es_c9, (List.forall_mem_cons.mpr ⟨es_c10, (List.forall_mem_cons.mpr ⟨es_c11, (List.forall_mem_cons.mpr ⟨es_c12, (List.forall_mem_cons.mpr ⟨es_c13, (List.forall_mem_cons.mpr ⟨es_c14, (List.forall_mem_cons.mpr ⟨es_c21, (List.forall_mem_cons.mpr ⟨he, (fun _ h => absurd h List.not_mem_nil)⟩)⟩)⟩)⟩)⟩)⟩)⟩)⟩)⟩)⟩)⟩)⟩)⟩)⟩)⟩)⟩)⟩) (by decide +kernel) -- read
