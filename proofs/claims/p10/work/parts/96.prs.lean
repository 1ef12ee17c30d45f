/-! THE PARSER: loops and contracts, written by program (gen54.py) -/
-- KnobEye$Reader.endOf.(I)I
def ep_an71 (pc : Nat) : Option et_A := if pc = 4 then some ([(2, .inl (1, 400))], 0, [], []) else none
-- KnobEye$Reader.numberOf.(II)I
def ep_an74 (pc : Nat) : Option et_A := if pc = 26 then some ([(3, .inl (et_mn, et_mx)), (4, .inl (0, 400))], 2, [], []) else none
def ep_an (k pc : Nat) : Option et_A := if k < 74 then (if k = 71 then ep_an71 pc else none) else (if k = 74 then ep_an74 pc else none)
-- KnobEye$Reader.is.(LKnobEye$Word;)Z, 19 steps
def ep_q0 : et_Co := (78, [.inr (.inr (0, 7)), .inr (.inr (0, 0))], [], [(.inl (some (.inl (0, 1))), 0, 0)], 1)
-- KnobEye$Reader.goesOn.(I)Z, 153 steps
def ep_q1 : et_Co := (68, [.inr (.inr (0, 7)), .inl (et_mn, et_mx)], [], [(.inl (some (.inl (0, 1))), 0, 0)], 2)
-- KnobEye$Reader.endOf.(I)I, 171 steps
def ep_q2 : et_Co := (71, [.inr (.inr (0, 7)), .inl (0, 399)], [], [(.inl (some (.inl (0, 400))), 0, 0)], 3)
-- KnobEye$Reader.numberOf.(II)I, 51 steps
def ep_q3 : et_Co := (74, [.inr (.inr (0, 7)), .inl (0, 399), .inl (0, 400)], [], [(.inl (some (.inl (et_mn, et_mx))), 0, 0)], 2)
-- KnobEye$Reader.fail.()LKnobEye$Node;, 22 steps
def ep_q4 : et_Co := (76, [.inr (.inr (0, 7))], [(7, 2, 2)], [(.inl (some (.inr (.inr (2, 6)))), 0, 0)], 1)
-- KnobEye$Reader.takeNumber.(I)I, 165 steps
def ep_q5 : et_Co := (83, [.inr (.inr (0, 7)), .inl (et_mn, et_mx)], [(7, 2, 2), (7, 8, 8)], [(.inl (some (.inl ((-1), et_mx))), 0, 0)], 2)
def hq_wordOf : et_Co := (72, [.inr (.inr (0, 7)), .inl (0, 399), .inl (et_mn, et_mx), .inl (et_mn, et_mx)], [], [(.inl (some (.inr (.inr (0, 0)))), 0, 0)], 4)
/-! THE PARSER: contracts hold -/
theorem ep_c0 : et_cv et_TT ep_q0 := et_cok_ok (Ks := []) (an := ep_an) (fun _ h => absurd h List.not_mem_nil) (by decide +kernel)
theorem ep_c1 : et_cv et_TT ep_q1 := et_cok_ok (Ks := []) (an := ep_an) (fun _ h => absurd h List.not_mem_nil) (by decide +kernel)
theorem ep_c2 : et_cv et_TT ep_q2 := et_cok_ok (Ks := []) (an := ep_an) (fun _ h => absurd h List.not_mem_nil) (by decide +kernel)
theorem ep_c3 : et_cv et_TT ep_q3 := et_cok_ok (Ks := []) (an := ep_an) (fun _ h => absurd h List.not_mem_nil) (by decide +kernel)
theorem ep_c4 : et_cv et_TT ep_q4 := et_cok_ok (Ks := []) (an := ep_an) (fun _ h => absurd h List.not_mem_nil) (by decide +kernel)
theorem ep_c5 : et_cv et_TT ep_q5 := et_cok_ok (Ks := []) (an := ep_an) (fun _ h => absurd h List.not_mem_nil) (by decide +kernel)
