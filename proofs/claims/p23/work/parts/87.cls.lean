/-! THE CLASS: loops and contracts, written by program (gen54.py) -/
-- KnobEye$Eye.sumWith.([II)I
def ek_an33 (pc : Nat) : Option et_A := if pc = 5 then some ([(3, .inl (et_mn, et_mx)), (4, .inl (0, 6))], 2, [], []) else none
-- KnobEye$Eye.takeFrom.(LKnobEye$Eye;)V
def ek_an35 (pc : Nat) : Option et_A := if pc = 10 then some ([(2, .inl (0, 6))], 0, [(15, 0, 100000)], []) else none
-- KnobEye$Eye.knobsTogether.()I
def ek_an36 (pc : Nat) : Option et_A := if pc = 4 then some ([(1, .inl (et_mn, et_mx)), (2, .inl (0, 6))], 2, [], []) else none
-- KnobEye$Eye.valuesOf.(I)I
def ek_an37 (pc : Nat) : Option et_A := if pc = 4 then some ([(2, .inl (et_mn, et_mx)), (3, .inl (0, 6))], 2, [], []) else none
-- KnobEye$Eye.near.()I
def ek_an41 (pc : Nat) : Option et_A := if pc = 4 then some ([(1, .inl (0, 7)), (2, .inl (0, 6))], 2, [], []) else none
-- KnobEye$Eye.reach.(III)I
def ek_an42 (pc : Nat) : Option et_A := if pc = 8 then some ([(3, .inl ((-1), 6)), (4, .inl ((-1), 6)), (5, .inl (0, 6))], 4, [], []) else if pc = 20 then some ([(6, .inl (0, 1)), (7, .inl (0, 6))], 2, [], []) else none
-- KnobEye$Eye.turnBy.(IZLKnobEye$Turner;LKnobEye$Facts;)Z
def ek_an44 (pc : Nat) : Option et_A := if pc = 93 then some ([(8, .inl (0, 6))], 0, [(4, 4, 4), (4, 5, 5), (15, 0, 100000)], []) else none
-- KnobEye$Eye.fall.()V
def ek_an47 (pc : Nat) : Option et_A := if pc = 2 then some ([(1, .inl (0, 6))], 0, [(15, 0, 100000)], []) else none
-- KnobEye$Eye.saysWithout.(II)Z
def ek_an49 (pc : Nat) : Option et_A := if pc = 5 then some ([(3, .inl (et_mn, et_mx)), (4, .inl (0, 6))], 2, [], []) else none
-- KnobEye$Likes.firstLike.(II)I
def ek_an59 (pc : Nat) : Option et_A := if pc = 11 then some ([(3, .inl (0, 65535)), (4, .inl (0, 65536))], 2, [(23, 0, 100000)], []) else none
-- KnobEye$Reader.add.(I)V
def ek_an64 (pc : Nat) : Option et_A := if pc = 3 then some ([(2, .inl ((-9), 24))], 1, [(7, 1, 1), (33, 0, 100000)], []) else none
-- KnobEye$Rule.makeReady.(LKnobEye$Facts;)V
def ek_an86 (pc : Nat) : Option et_A := if pc = 16 then some ([(3, .inl (0, 65536))], 0, [(4, 0, 0), (28, 0, 100000)], []) else none
-- KnobEye$State.goingAlong.(I)I
def ek_an102 (pc : Nat) : Option et_A := if pc = 4 then some ([(2, .inl (et_mn, et_mx)), (3, .inl (0, 20))], 2, [], []) else none
-- KnobEye$State.eyesSayingYes.(I)I
def ek_an103 (pc : Nat) : Option et_A := if pc = 4 then some ([(2, .inl (et_mn, et_mx)), (3, .inl (0, 6))], 2, [], []) else none
-- KnobEye$State.takeFrom.(LKnobEye$State;)V
def ek_an104 (pc : Nat) : Option et_A := if pc = 10 then some ([(2, .inl (0, 6))], 0, [(37, 0, 100000)], []) else if pc = 43 then some ([(2, .inl (0, 20))], 0, [(17, 0, 100000), (27, 0, 100000)], []) else if pc = 89 then some ([(2, .inl (0, 6))], 0, [(3, 0, 0), (3, 4, 4), (3, 5, 5), (3, 6, 6), (3, 7, 7), (15, 0, 100000)], []) else if pc = 125 then some ([(2, .inl (0, 6))], 0, [(38, 0, 100000)], []) else if pc = 158 then some ([(2, .inl (0, 6))], 0, [(39, 0, 100000)], []) else none
-- KnobEye$State.rightCards.(LKnobEye$Eye;)I
def ek_an106 (pc : Nat) : Option et_A := if pc = 4 then some ([(2, .inl (et_mn, et_mx)), (3, .inl (0, 20))], 2, [], []) else none
-- KnobEye$State.blindPair.(LKnobEye$Eye;)I
def ek_an107 (pc : Nat) : Option et_A := if pc = 2 then some ([(2, .inl (0, 20))], 0, [], []) else if pc = 26 then some ([(4, .inl (1, 20))], 0, [], []) else none
-- KnobEye$State.otherwiseWithout.(LKnobEye$Eye;I)I
def ek_an109 (pc : Nat) : Option et_A := if pc = 5 then some ([(3, .inl (et_mn, et_mx)), (4, .inl (0, 20))], 2, [], []) else none
-- KnobEye$State.rightWithout.(LKnobEye$Eye;I)Z
def ek_an110 (pc : Nat) : Option et_A := if pc = 2 then some ([(3, .inl (0, 20))], 0, [], []) else none
-- KnobEye$State.rightOnFirst.(LKnobEye$Eye;I)Z
def ek_an111 (pc : Nat) : Option et_A := if pc = 2 then some ([(3, .inl (0, 20))], 0, [], []) else none
-- KnobEye$Turner.numberBy.(ZLKnobEye$Facts;)I
def ek_an114 (pc : Nat) : Option et_A := if pc = 2 then some ([(3, .inl (0, 20))], 0, [], []) else none
-- KnobEye.cloud.()I
def ek_an121 (pc : Nat) : Option et_A := if pc = 16 then some ([(1, .inl (0, 20)), (2, .inl (1, 20))], 2, [], []) else none
-- KnobEye.layer.()I
def ek_an123 (pc : Nat) : Option et_A := if pc = 14 then some ([(1, .inl (1, 6))], 0, [], []) else if pc = 23 then some ([(2, .inl (0, 1)), (3, .inl (0, 20))], 2, [], []) else none
-- KnobEye.needRule.(I)LKnobEye$Rule;
def ek_an129 (pc : Nat) : Option et_A := if pc = 15 then some ([], 1001, [], []) else none
-- KnobEye.rightOfAll.(LKnobEye$Eye;LKnobEye$Rule;I)I
def ek_an130 (pc : Nat) : Option et_A := if pc = 19 then some ([(4, .inl (et_mn, et_mx)), (5, .inl (0, 65536))], 2, [(4, 0, 0)], []) else none
-- KnobEye.needTurner.(I)LKnobEye$Turner;
def ek_an147 (pc : Nat) : Option et_A := if pc = 15 then some ([], 1001, [], []) else none
-- KnobEye.turned.(III)I
def ek_an148 (pc : Nat) : Option et_A := if pc = 36 then some ([(6, .inl (1, 151))], 0, [(3, 4, 4), (3, 5, 5), (4, 1, 1), (4, 2, 2), (4, 3, 3), (4, 4, 4), (4, 5, 5), (4, 6, 6), (15, 0, 100000)], []) else if pc = 48 then some ([(7, .inl (0, 1)), (8, .inl (0, 20))], 2, [(3, 4, 4), (3, 5, 5), (4, 1, 1), (4, 2, 2), (4, 3, 3), (4, 4, 4), (4, 5, 5), (4, 6, 6), (15, 0, 100000)], []) else none
-- KnobEye.blindBy.(LKnobEye$Eye;LKnobEye$Rule;)I
def ek_an158 (pc : Nat) : Option et_A := if pc = 22 then some ([(3, .inl (et_mn, 65536)), (4, .inl (0, 65536))], 2, [(4, 0, 0), (23, 0, 100000)], []) else none
-- KnobEye.goesBy.(I)I
def ek_an162 (pc : Nat) : Option et_A := if pc = 14 then some ([(3, .inl ((-1), 20)), (4, .inl (0, et_mx)), (5, .inl (0, 20))], 4, [], []) else none
-- KnobEye.mend.(II)I
def ek_an164 (pc : Nat) : Option et_A := if pc = 40 then some ([(5, .inl (0, 65536))], 0, [(4, 0, 0)], []) else none
-- KnobEye.bear.(I)I
def ek_an165 (pc : Nat) : Option et_A := if pc = 16 then some ([(3, .inl (0, 7)), (4, .inl (0, et_mx))], 2, [], []) else none
-- KnobEye.swapped.(III)I
def ek_an166 (pc : Nat) : Option et_A := if pc = 43 then some ([(5, .inl (et_mn, et_mx)), (6, .inl (0, 20))], 2, [], []) else none
-- KnobEye.soonest.(II)I
def ek_an167 (pc : Nat) : Option et_A := if pc = 38 then some ([(6, .inl (et_mn, et_mx)), (7, .inl (0, 6))], 2, [], []) else if pc = 61 then some ([(7, .inl (0, et_mx))], 0, [(3, 0, 0), (3, 4, 4), (3, 5, 5), (3, 6, 6), (3, 7, 7), (4, 1, 1), (4, 2, 2), (4, 3, 3), (4, 4, 4), (4, 5, 5), (4, 6, 6), (12, 10, 10), (15, 0, 100000), (32, 0, 100000)], []) else none
-- KnobEye.setOrder.(II)Z
def ek_an168 (pc : Nat) : Option et_A := if pc = 8 then some ([(3, .inl (et_mn, et_mx)), (4, .inl (et_mn, et_mx)), (5, .inl (0, 6))], 4, [(32, 0, 100000)], []) else none
-- KnobEye.tryOrder.(LKnobEye$Eye;LKnobEye$Turner;I)V
def ek_an169 (pc : Nat) : Option et_A := if pc = 14 then some ([(4, .inl (0, et_mx)), (5, .inl (0, 20))], 2, [(3, 4, 4), (3, 5, 5), (4, 1, 1), (4, 2, 2), (4, 3, 3), (4, 4, 4), (4, 5, 5), (4, 6, 6), (12, 10, 10), (15, 0, 100000)], []) else if pc = 24 then some ([(4, .inl (0, et_mx)), (6, .inl (0, 6))], 2, [(3, 4, 4), (3, 5, 5), (4, 1, 1), (4, 2, 2), (4, 3, 3), (4, 4, 4), (4, 5, 5), (4, 6, 6), (12, 10, 10), (15, 0, 100000)], []) else none
-- KnobEye.holds.(I)Z
def ek_an173 (pc : Nat) : Option et_A := if pc = 15 then some ([], 1001, [], []) else none
def ek_an (k pc : Nat) : Option et_A := if k < 110 then (if k < 59 then (if k < 41 then (if k < 36 then (if k < 35 then (if k = 33 then ek_an33 pc else none) else (if k = 35 then ek_an35 pc else none)) else (if k < 37 then (if k = 36 then ek_an36 pc else none) else (if k = 37 then ek_an37 pc else none))) else (if k < 44 then (if k < 42 then (if k = 41 then ek_an41 pc else none) else (if k = 42 then ek_an42 pc else none)) else (if k < 47 then (if k = 44 then ek_an44 pc else none) else (if k < 49 then (if k = 47 then ek_an47 pc else none) else (if k = 49 then ek_an49 pc else none))))) else (if k < 103 then (if k < 86 then (if k < 64 then (if k = 59 then ek_an59 pc else none) else (if k = 64 then ek_an64 pc else none)) else (if k < 102 then (if k = 86 then ek_an86 pc else none) else (if k = 102 then ek_an102 pc else none))) else (if k < 106 then (if k < 104 then (if k = 103 then ek_an103 pc else none) else (if k = 104 then ek_an104 pc else none)) else (if k < 107 then (if k = 106 then ek_an106 pc else none) else (if k < 109 then (if k = 107 then ek_an107 pc else none) else (if k = 109 then ek_an109 pc else none)))))) else (if k < 158 then (if k < 123 then (if k < 114 then (if k < 111 then (if k = 110 then ek_an110 pc else none) else (if k = 111 then ek_an111 pc else none)) else (if k < 121 then (if k = 114 then ek_an114 pc else none) else (if k = 121 then ek_an121 pc else none))) else (if k < 130 then (if k < 129 then (if k = 123 then ek_an123 pc else none) else (if k = 129 then ek_an129 pc else none)) else (if k < 147 then (if k = 130 then ek_an130 pc else none) else (if k < 148 then (if k = 147 then ek_an147 pc else none) else (if k = 148 then ek_an148 pc else none))))) else (if k < 166 then (if k < 164 then (if k < 162 then (if k = 158 then ek_an158 pc else none) else (if k = 162 then ek_an162 pc else none)) else (if k < 165 then (if k = 164 then ek_an164 pc else none) else (if k = 165 then ek_an165 pc else none))) else (if k < 168 then (if k < 167 then (if k = 166 then ek_an166 pc else none) else (if k = 167 then ek_an167 pc else none)) else (if k < 169 then (if k = 168 then ek_an168 pc else none) else (if k < 173 then (if k = 169 then ek_an169 pc else none) else (if k = 173 then ek_an173 pc else none))))))
-- KnobEye$Reader.add.(I)V, 29 steps
def ek_q0 : et_Co := (64, [.inr (.inr (0, 7)), .inl (et_mn, et_mx)], [(7, 1, 1), (33, 0, 100000)], [(.inl none, 0, 0)], 1)
-- KnobEye$State.goingAlong.(I)I, 47 steps
def ek_q1 : et_Co := (102, [.inr (.inr (0, 10)), .inl (et_mn, et_mx)], [], [(.inl (some (.inl (et_mn, et_mx))), 0, 0)], 2)
-- KnobEye$Eye.sumWith.([II)I, 76 steps
def ek_q2 : et_Co := (33, [.inr (.inr (0, 3)), .inr (.inr (0, 15)), .inl (et_mn, et_mx)], [], [(.inl (some (.inl (et_mn, et_mx))), 0, 0)], 3)
-- KnobEye$Eye.says.(I)Z, 89 steps
def ek_q3 : et_Co := (32, [.inr (.inr (0, 3)), .inl (et_mn, et_mx)], [], [(.inl (some (.inl (0, 1))), 0, 0)], 4)
-- KnobEye$State.eyesSayingYes.(I)I, 112 steps
def ek_q4 : et_Co := (103, [.inr (.inr (0, 10)), .inl (et_mn, et_mx)], [], [(.inl (some (.inl (et_mn, et_mx))), 0, 0)], 5)
-- KnobEye$Eye.takeFrom.(LKnobEye$Eye;)V, 52 steps
def ek_q5 : et_Co := (35, [.inr (.inr (0, 3)), .inr (.inr (0, 3))], [(3, 0, 0), (3, 4, 4), (3, 5, 5), (3, 6, 6), (3, 7, 7), (15, 0, 100000)], [(.inl none, 0, 0)], 1)
-- KnobEye$State.takeFrom.(LKnobEye$State;)V, 157 steps
def ek_q6 : et_Co := (104, [.inr (.inr (0, 10)), .inr (.inr (0, 10))], [(3, 0, 0), (3, 4, 4), (3, 5, 5), (3, 6, 6), (3, 7, 7), (10, 0, 0), (10, 2, 2), (10, 5, 5), (10, 7, 7), (10, 9, 9), (15, 0, 100000), (17, 0, 100000), (27, 0, 100000), (37, 0, 100000), (38, 0, 100000), (39, 0, 100000)], [(.inl none, 0, 0)], 2)
-- KnobEye$Eye.reach.(III)I, 77 steps
def ek_q7 : et_Co := (42, [.inl (et_mn, et_mx), .inl (et_mn, et_mx), .inl (et_mn, et_mx)], [], [(.inl (some (.inl ((-6), 7))), 0, 0)], 2)
-- KnobEye$Eye.near.()I, 107 steps
def ek_q8 : et_Co := (41, [.inr (.inr (0, 3))], [], [(.inl (some (.inl (0, 7))), 0, 0)], 3)
-- KnobEye$State.rightCards.(LKnobEye$Eye;)I, 36 steps
def ek_q9 : et_Co := (106, [.inr (.inr (0, 10)), .inr (.inr (0, 3))], [], [(.inl (some (.inl (et_mn, et_mx))), 0, 0)], 5)
-- KnobEye$Eye.sum.(I)I, 6 steps
def ek_q10 : et_Co := (43, [.inr (.inr (0, 3)), .inl (et_mn, et_mx)], [], [(.inl (some (.inl (et_mn, et_mx))), 0, 0)], 4)
-- KnobEye$Turner.numberBy.(ZLKnobEye$Facts;)I, 41 steps
def ek_q11 : et_Co := (114, [.inr (.inr (0, 11)), .inl (0, 1), .inr (.inr (0, 4))], [], [(.inl (some (.inl (et_mn, et_mx))), 0, 0)], 32)
-- KnobEye$Eye.fall.()V, 58 steps
def ek_q12 : et_Co := (47, [.inr (.inr (0, 3))], [(15, 0, 100000)], [(.inl none, 0, 0)], 2)
-- KnobEye$Eye.turnBy.(IZLKnobEye$Turner;LKnobEye$Facts;)Z, 1272 steps
def ek_q13 : et_Co := (44, [.inr (.inr (0, 3)), .inl (et_mn, et_mx), .inl (0, 1), .inr (.inr (0, 11)), .inr (.inr (0, 4))], [(3, 4, 4), (3, 5, 5), (4, 1, 1), (4, 2, 2), (4, 3, 3), (4, 4, 4), (4, 5, 5), (4, 6, 6), (15, 0, 100000)], [(.inl (some (.inl (0, 1))), 0, 0)], 33)
-- KnobEye$Eye.valuesOf.(I)I, 68 steps
def ek_q14 : et_Co := (37, [.inr (.inr (0, 3)), .inl (et_mn, et_mx)], [], [(.inl (some (.inl (et_mn, et_mx))), 0, 0)], 3)
-- KnobEye$State.blindPair.(LKnobEye$Eye;)I, 120 steps
def ek_q15 : et_Co := (107, [.inr (.inr (0, 10)), .inr (.inr (0, 3))], [], [(.inl (some (.inl ((-1), 399))), 0, 0)], 4)
-- KnobEye$Rule.makeReady.(LKnobEye$Facts;)V, 43 steps
def ek_q16 : et_Co := (86, [.inr (.inr (0, 8)), .inr (.inr (0, 4))], [(4, 0, 0), (8, 1, 1), (28, 0, 100000)], [(.inl none, 1, 1024)], 32)
-- KnobEye$Likes.firstLike.(II)I, 60 steps
def ek_q17 : et_Co := (59, [.inr (.inr (0, 5)), .inl (et_mn, et_mx), .inl (et_mn, et_mx)], [(23, 0, 100000)], [(.inl (some (.inl (et_mn, et_mx))), 0, 0)], 1)
-- KnobEye.blindBy.(LKnobEye$Eye;LKnobEye$Rule;)I, 322 steps
def ek_q18 : et_Co := (158, [.inr (.inr (0, 12)), .inr (.inr (0, 3)), .inr (.inr (0, 8))], [(4, 0, 0), (5, 2, 2), (8, 1, 1), (23, 0, 100000), (28, 0, 100000)], [(.inl (some (.inl (et_mn, 65535))), 1, 1024)], 33)
-- KnobEye.rightOfAll.(LKnobEye$Eye;LKnobEye$Rule;I)I, 395 steps
def ek_q19 : et_Co := (130, [.inr (.inr (0, 12)), .inr (.inr (0, 3)), .inr (.inr (0, 8)), .inl (et_mn, et_mx)], [(4, 0, 0), (8, 1, 1), (28, 0, 100000)], [(.inl (some (.inl (et_mn, et_mx))), 1, 1024)], 33)
-- KnobEye$State.otherwiseWithout.(LKnobEye$Eye;I)I, 54 steps
def ek_q20 : et_Co := (109, [.inr (.inr (0, 10)), .inr (.inr (0, 3)), .inl (et_mn, et_mx)], [], [(.inl (some (.inl (et_mn, et_mx))), 0, 0)], 5)
-- KnobEye$Eye.saysWithout.(II)Z, 88 steps
def ek_q21 : et_Co := (49, [.inr (.inr (0, 3)), .inl (et_mn, et_mx), .inl (et_mn, et_mx)], [], [(.inl (some (.inl (0, 1))), 0, 0)], 3)
-- KnobEye$State.rightWithout.(LKnobEye$Eye;I)Z, 121 steps
def ek_q22 : et_Co := (110, [.inr (.inr (0, 10)), .inr (.inr (0, 3)), .inl (et_mn, et_mx)], [], [(.inl (some (.inl (0, 1))), 0, 0)], 4)
-- KnobEye.setOrder.(II)Z, 58 steps
def ek_q23 : et_Co := (168, [.inr (.inr (0, 12)), .inl (et_mn, et_mx), .inl (et_mn, et_mx)], [(32, 0, 100000)], [(.inl (some (.inl (0, 1))), 0, 0)], 1)
-- KnobEye$State.rightOnFirst.(LKnobEye$Eye;I)Z, 37 steps
def ek_q24 : et_Co := (111, [.inr (.inr (0, 10)), .inr (.inr (0, 3)), .inl (et_mn, et_mx)], [], [(.inl (some (.inl (0, 1))), 0, 0)], 5)
-- KnobEye.tryOrder.(LKnobEye$Eye;LKnobEye$Turner;I)V, 139 steps
def ek_q25 : et_Co := (169, [.inr (.inr (0, 12)), .inr (.inr (0, 3)), .inr (.inr (0, 11)), .inl (0, 5)], [(3, 0, 0), (3, 4, 4), (3, 5, 5), (3, 6, 6), (3, 7, 7), (4, 1, 1), (4, 2, 2), (4, 3, 3), (4, 4, 4), (4, 5, 5), (4, 6, 6), (12, 10, 10), (15, 0, 100000)], [(.inl none, 0, 0)], 34)
-- KnobEye$Eye.knobsTogether.()I, 20 steps
def ek_q26 : et_Co := (36, [.inr (.inr (0, 3))], [], [(.inl (some (.inl (et_mn, et_mx))), 0, 0)], 1)
-- KnobEye.isTrueNow.(LKnobEye$Claim;)Z, 416 steps
def ek_q27 : et_Co := (127, [.inr (.inr (0, 12)), .inr (.inr (0, 2))], [(4, 0, 0), (4, 6, 6), (4, 7, 7), (4, 8, 8), (4, 9, 9), (4, 10, 10), (4, 11, 11), (8, 1, 1), (28, 0, 100000)], [(.inr 1, 2, 1030), (.inl (some (.inl (0, 1))), 1, 1024)], 34)
def ek_p116 (ps : List et_P) : et_Co := (116, .inr (.inr (0, 12)) :: ps, [(7, 1, 1), (33, 0, 100000)], [(.inl (some (.inl (et_mn, et_mx))), 0, 0)], 2)
def ek_p117 (ps : List et_P) : et_Co := (117, .inr (.inr (0, 12)) :: ps, [(7, 1, 1)], [(.inl (some (.inl (0, 1))), 0, 0)], 2)
def ek_p118 (ps : List et_P) : et_Co := (118, .inr (.inr (0, 12)) :: ps, [], [(.inl (some (.inl (et_mn, et_mx))), 0, 0)], 1)
def ek_p119 (ps : List et_P) : et_Co := (119, .inr (.inr (0, 12)) :: ps, [(10, 2, 2), (12, 6, 6), (12, 7, 7)], [(.inl (some (.inl (et_mn, et_mx))), 0, 0)], 2)
def ek_p121 (ps : List et_P) : et_Co := (121, .inr (.inr (0, 12)) :: ps, [], [(.inl (some (.inl (et_mn, et_mx))), 0, 0)], 3)
def ek_p123 (ps : List et_P) : et_Co := (123, .inr (.inr (0, 12)) :: ps, [], [(.inl (some (.inl (et_mn, et_mx))), 0, 0)], 6)
def ek_p124 (ps : List et_P) : et_Co := (124, .inr (.inr (0, 12)) :: ps, [(3, 0, 0), (3, 4, 4), (3, 5, 5), (3, 6, 6), (3, 7, 7), (10, 0, 0), (10, 2, 2), (10, 5, 5), (10, 7, 7), (10, 9, 9), (12, 2, 2), (15, 0, 100000), (17, 0, 100000), (27, 0, 100000), (37, 0, 100000), (38, 0, 100000), (39, 0, 100000)], [(.inl none, 0, 0)], 3)
def ek_p125 (ps : List et_P) : et_Co := (125, .inr (.inr (0, 12)) :: ps, [(3, 0, 0), (3, 4, 4), (3, 5, 5), (3, 6, 6), (3, 7, 7), (10, 0, 0), (10, 2, 2), (10, 5, 5), (10, 7, 7), (10, 9, 9), (12, 6, 6), (12, 7, 7), (15, 0, 100000), (17, 0, 100000), (27, 0, 100000), (37, 0, 100000), (38, 0, 100000), (39, 0, 100000)], [(.inl (some (.inl (0, 1))), 0, 0)], 3)
def ek_p134 (ps : List et_P) : et_Co := (134, .inr (.inr (0, 12)) :: ps, [(4, 0, 0)], [(.inl (some (.inl (0, 1))), 1, 1024), (.inr 0, 2, 1030), (.inr 1, 2, 1030)], 33)
def ek_p136 (ps : List et_P) : et_Co := (136, .inr (.inr (0, 12)) :: ps, [(10, 2, 2), (12, 6, 6), (12, 7, 7), (17, 0, 100000), (27, 0, 100000)], [(.inl (some (.inl (et_mn, et_mx))), 0, 0), (.inr 0, 1, 6), (.inr 2, 1, 6)], 3)
def ek_p138 (ps : List et_P) : et_Co := (138, .inr (.inr (0, 12)) :: ps, [(4, 0, 0), (10, 2, 2), (12, 6, 6), (12, 7, 7), (17, 0, 100000), (27, 0, 100000)], [(.inl (some (.inl (et_mn, et_mx))), 0, 0), (.inr 0, 1, 6), (.inr 1, 1, 6), (.inr 2, 1, 6)], 33)
def ek_p139 (ps : List et_P) : et_Co := (139, .inr (.inr (0, 12)) :: ps, [(10, 5, 5)], [(.inl (some (.inl (et_mn, et_mx))), 0, 0), (.inr 2, 1, 6)], 1)
def ek_p140 (ps : List et_P) : et_Co := (140, .inr (.inr (0, 12)) :: ps, [(3, 0, 0), (12, 6, 6), (12, 7, 7), (15, 0, 100000)], [(.inl (some (.inl (et_mn, et_mx))), 0, 0), (.inr 0, 1, 6), (.inr 1, 1, 6), (.inr 2, 1, 6)], 2)
def ek_p141 (ps : List et_P) : et_Co := (141, .inr (.inr (0, 12)) :: ps, [(3, 4, 4), (15, 0, 100000)], [(.inl (some (.inl (0, 1))), 0, 0), (.inr 0, 1, 6), (.inr 1, 1, 6)], 2)
def ek_p143 (ps : List et_P) : et_Co := (143, .inr (.inr (0, 12)) :: ps, [(3, 6, 6), (3, 7, 7)], [(.inl none, 0, 0), (.inr 0, 1, 6), (.inr 1, 1, 6)], 2)
def ek_p144 (ps : List et_P) : et_Co := (144, .inr (.inr (0, 12)) :: ps, [], [(.inl (some (.inl (et_mn, et_mx))), 0, 0), (.inr 1, 1, 6), (.inr 3, 1, 6)], 6)
def ek_p145 (ps : List et_P) : et_Co := (145, .inr (.inr (0, 12)) :: ps, [], [(.inl (some (.inl (et_mn, et_mx))), 0, 0), (.inr 0, 1, 6), (.inr 1, 1, 6)], 5)
def ek_p146 (ps : List et_P) : et_Co := (146, .inr (.inr (0, 12)) :: ps, [(3, 4, 4), (3, 5, 5), (4, 1, 1), (4, 2, 2), (4, 3, 3), (4, 4, 4), (4, 5, 5), (4, 6, 6), (15, 0, 100000)], [(.inl (some (.inl (0, 1))), 1, 1024), (.inr 1, 2, 1030)], 34)
def ek_p148 (ps : List et_P) : et_Co := (148, .inr (.inr (0, 12)) :: ps, [(3, 4, 4), (3, 5, 5), (4, 1, 1), (4, 2, 2), (4, 3, 3), (4, 4, 4), (4, 5, 5), (4, 6, 6), (15, 0, 100000)], [(.inl (some (.inl (et_mn, et_mx))), 0, 0), (.inr 0, 1, 6), (.inr 1, 1, 6)], 34)
def ek_p157 (ps : List et_P) : et_Co := (157, .inr (.inr (0, 12)) :: ps, [(4, 0, 0), (5, 2, 2), (8, 1, 1), (23, 0, 100000), (28, 0, 100000)], [(.inl (some (.inl (et_mn, et_mx))), 1, 1024), (.inr 1, 2, 1030)], 34)
def ek_p159 (ps : List et_P) : et_Co := (159, .inr (.inr (0, 12)) :: ps, [(4, 0, 0), (8, 1, 1), (28, 0, 100000)], [(.inl (some (.inl (et_mn, et_mx))), 2, 2048), (.inr 0, 3, 2054), (.inr 1, 3, 2054)], 34)
def ek_p160 (ps : List et_P) : et_Co := (160, .inr (.inr (0, 12)) :: ps, [], [(.inl (some (.inl (et_mn, et_mx))), 2, 2048), (.inr 1, 3, 2054)], 6)
def ek_p162 (ps : List et_P) : et_Co := (162, .inr (.inr (0, 12)) :: ps, [], [(.inl (some (.inl (et_mn, et_mx))), 2, 2048), (.inr 1, 3, 2054)], 6)
def ek_p163 (ps : List et_P) : et_Co := (163, .inr (.inr (0, 12)) :: ps, [], [(.inl (some (.inl (et_mn, et_mx))), 1, 1024), (.inr 1, 2, 1030)], 3)
def ek_p164 (ps : List et_P) : et_Co := (164, .inr (.inr (0, 12)) :: ps, [(4, 0, 0)], [(.inl (some (.inl (et_mn, et_mx))), 2, 2048), (.inr 1, 3, 2054)], 33)
def ek_p165 (ps : List et_P) : et_Co := (165, .inr (.inr (0, 12)) :: ps, [], [(.inl (some (.inl (et_mn, et_mx))), 2, 2048), (.inr 1, 3, 2054)], 5)
def ek_p166 (ps : List et_P) : et_Co := (166, .inr (.inr (0, 12)) :: ps, [(3, 0, 0), (3, 4, 4), (3, 5, 5), (3, 6, 6), (3, 7, 7), (15, 0, 100000)], [(.inl (some (.inl (et_mn, et_mx))), 2, 2048), (.inr 1, 3, 2054)], 5)
def ek_p167 (ps : List et_P) : et_Co := (167, .inr (.inr (0, 12)) :: ps, [(3, 0, 0), (3, 4, 4), (3, 5, 5), (3, 6, 6), (3, 7, 7), (4, 1, 1), (4, 2, 2), (4, 3, 3), (4, 4, 4), (4, 5, 5), (4, 6, 6), (12, 10, 10), (15, 0, 100000), (32, 0, 100000)], [(.inl (some (.inl (et_mn, et_mx))), 2, 2048), (.inr 1, 3, 2054)], 35)
def ek_p170 (ps : List et_P) : et_Co := (170, .inr (.inr (0, 12)) :: ps, [], [(.inl (some (.inl (0, 1))), 1, 1024), (.inr 0, 2, 1030)], 6)
def ek_p173 (ps : List et_P) : et_Co := (173, .inr (.inr (0, 12)) :: ps, [(4, 0, 0), (4, 6, 6), (4, 7, 7), (4, 8, 8), (4, 9, 9), (4, 10, 10), (4, 11, 11), (8, 1, 1), (28, 0, 100000)], [(.inl (some (.inl (0, 1))), 1, 1024), (.inr 1, 2, 1030)], 35)
/-! THE CLASS: contracts hold -/
theorem ek_c0 : et_cv et_TT ek_q0 := et_cok_ok (Ks := []) (an := ek_an) (fun _ h => absurd h List.not_mem_nil) (by decide +kernel)
theorem ek_c1 : et_cv et_TT ek_q1 := et_cok_ok (Ks := []) (an := ek_an) (fun _ h => absurd h List.not_mem_nil) (by decide +kernel)
theorem ek_c2 : et_cv et_TT ek_q2 := et_cok_ok (Ks := []) (an := ek_an) (fun _ h => absurd h List.not_mem_nil) (by decide +kernel)
theorem ek_c3 : et_cv et_TT ek_q3 := et_cok_ok (Ks := [ek_q2]) (an := ek_an) (List.forall_mem_cons.mpr ⟨ek_c2, (fun _ h => absurd h List.not_mem_nil)⟩) (by decide +kernel)
theorem ek_c4 : et_cv et_TT ek_q4 := et_cok_ok (Ks := [ek_q3]) (an := ek_an) (List.forall_mem_cons.mpr ⟨ek_c3, (fun _ h => absurd h List.not_mem_nil)⟩) (by decide +kernel)
theorem ek_c5 : et_cv et_TT ek_q5 := et_cok_ok (Ks := []) (an := ek_an) (fun _ h => absurd h List.not_mem_nil) (by decide +kernel)
theorem ek_c6 : et_cv et_TT ek_q6 := et_cok_ok (Ks := [ek_q5]) (an := ek_an) (List.forall_mem_cons.mpr ⟨ek_c5, (fun _ h => absurd h List.not_mem_nil)⟩) (by decide +kernel)
theorem ek_c7 : et_cv et_TT ek_q7 := et_cok_ok (Ks := []) (an := ek_an) (fun _ h => absurd h List.not_mem_nil) (by decide +kernel)
theorem ek_c8 : et_cv et_TT ek_q8 := et_cok_ok (Ks := [ek_q7]) (an := ek_an) (List.forall_mem_cons.mpr ⟨ek_c7, (fun _ h => absurd h List.not_mem_nil)⟩) (by decide +kernel)
theorem ek_c9 : et_cv et_TT ek_q9 := et_cok_ok (Ks := [ek_q3]) (an := ek_an) (List.forall_mem_cons.mpr ⟨ek_c3, (fun _ h => absurd h List.not_mem_nil)⟩) (by decide +kernel)
theorem ek_c10 : et_cv et_TT ek_q10 := et_cok_ok (Ks := [ek_q2]) (an := ek_an) (List.forall_mem_cons.mpr ⟨ek_c2, (fun _ h => absurd h List.not_mem_nil)⟩) (by decide +kernel)
theorem ek_c11 : et_cv et_TT ek_q11 := et_cok_ok (Ks := [(hq_isT 0 22)]) (an := ek_an) (List.forall_mem_cons.mpr ⟨hc_isT, (fun _ h => absurd h List.not_mem_nil)⟩) (by decide +kernel)
theorem ek_c12 : et_cv et_TT ek_q12 := et_cok_ok (Ks := []) (an := ek_an) (fun _ h => absurd h List.not_mem_nil) (by decide +kernel)
theorem ek_c13 : et_cv et_TT ek_q13 := et_cok_ok (Ks := [ek_q10, ek_q12, ek_q11, (hq_isT 0 22)]) (an := ek_an) (List.forall_mem_cons.mpr ⟨ek_c10, (List.forall_mem_cons.mpr ⟨ek_c12, (List.forall_mem_cons.mpr ⟨ek_c11, (List.forall_mem_cons.mpr ⟨hc_isT, (fun _ h => absurd h List.not_mem_nil)⟩)⟩)⟩)⟩) (by decide +kernel)
theorem ek_c14 : et_cv et_TT ek_q14 := et_cok_ok (Ks := []) (an := ek_an) (fun _ h => absurd h List.not_mem_nil) (by decide +kernel)
theorem ek_c15 : et_cv et_TT ek_q15 := et_cok_ok (Ks := [ek_q14]) (an := ek_an) (List.forall_mem_cons.mpr ⟨ek_c14, (fun _ h => absurd h List.not_mem_nil)⟩) (by decide +kernel)
theorem ek_c16 : et_cv et_TT ek_q16 := et_cok_ok (Ks := [(hq_isT 0 22)]) (an := ek_an) (List.forall_mem_cons.mpr ⟨hc_isT, (fun _ h => absurd h List.not_mem_nil)⟩) (by decide +kernel)
theorem ek_c17 : et_cv et_TT ek_q17 := et_cok_ok (Ks := []) (an := ek_an) (fun _ h => absurd h List.not_mem_nil) (by decide +kernel)
theorem ek_c18 : et_cv et_TT ek_q18 := et_cok_ok (Ks := [ek_q14, ek_q16, ek_q17, (hq_isT 0 22)]) (an := ek_an) (List.forall_mem_cons.mpr ⟨ek_c14, (List.forall_mem_cons.mpr ⟨ek_c16, (List.forall_mem_cons.mpr ⟨ek_c17, (List.forall_mem_cons.mpr ⟨hc_isT, (fun _ h => absurd h List.not_mem_nil)⟩)⟩)⟩)⟩) (by decide +kernel)
theorem ek_c19 : et_cv et_TT ek_q19 := et_cok_ok (Ks := [ek_q3, ek_q16, (hq_isT 0 22)]) (an := ek_an) (List.forall_mem_cons.mpr ⟨ek_c3, (List.forall_mem_cons.mpr ⟨ek_c16, (List.forall_mem_cons.mpr ⟨hc_isT, (fun _ h => absurd h List.not_mem_nil)⟩)⟩)⟩) (by decide +kernel)
theorem ek_c20 : et_cv et_TT ek_q20 := et_cok_ok (Ks := [ek_q3]) (an := ek_an) (List.forall_mem_cons.mpr ⟨ek_c3, (fun _ h => absurd h List.not_mem_nil)⟩) (by decide +kernel)
theorem ek_c21 : et_cv et_TT ek_q21 := et_cok_ok (Ks := []) (an := ek_an) (fun _ h => absurd h List.not_mem_nil) (by decide +kernel)
theorem ek_c22 : et_cv et_TT ek_q22 := et_cok_ok (Ks := [ek_q21]) (an := ek_an) (List.forall_mem_cons.mpr ⟨ek_c21, (fun _ h => absurd h List.not_mem_nil)⟩) (by decide +kernel)
theorem ek_c23 : et_cv et_TT ek_q23 := et_cok_ok (Ks := []) (an := ek_an) (fun _ h => absurd h List.not_mem_nil) (by decide +kernel)
theorem ek_c24 : et_cv et_TT ek_q24 := et_cok_ok (Ks := [ek_q3]) (an := ek_an) (List.forall_mem_cons.mpr ⟨ek_c3, (fun _ h => absurd h List.not_mem_nil)⟩) (by decide +kernel)
theorem ek_c25 : et_cv et_TT ek_q25 := et_cok_ok (Ks := [ek_q13, ek_q5, ek_q24, (hq_isT 0 22)]) (an := ek_an) (List.forall_mem_cons.mpr ⟨ek_c13, (List.forall_mem_cons.mpr ⟨ek_c5, (List.forall_mem_cons.mpr ⟨ek_c24, (List.forall_mem_cons.mpr ⟨hc_isT, (fun _ h => absurd h List.not_mem_nil)⟩)⟩)⟩)⟩) (by decide +kernel)
theorem ek_c26 : et_cv et_TT ek_q26 := et_cok_ok (Ks := []) (an := ek_an) (fun _ h => absurd h List.not_mem_nil) (by decide +kernel)
theorem ek_c27 : et_cv et_TT ek_q27 := et_cok_ok (Ks := [ek_q19, ek_q15, ek_q26, ek_q9, (hq_isT 0 22)]) (an := ek_an) (List.forall_mem_cons.mpr ⟨ek_c19, (List.forall_mem_cons.mpr ⟨ek_c15, (List.forall_mem_cons.mpr ⟨ek_c26, (List.forall_mem_cons.mpr ⟨ek_c9, (List.forall_mem_cons.mpr ⟨hc_isT, (fun _ h => absurd h List.not_mem_nil)⟩)⟩)⟩)⟩)⟩) (by decide +kernel)
