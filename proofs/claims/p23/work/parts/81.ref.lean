/-! THE REFERENCE: loops and contracts, written by program (gen54.py) -/
-- KnobEyeModel.feed.(IIIII)I
def er_an177 (pc : Nat) : Option et_A := if pc = 60 then some ([(6, .inl (0, 20))], 0, [(34, 0, 100000)], []) else none
-- KnobEyeModel.ruled.(II)Z
def er_an213 (pc : Nat) : Option et_A := if pc = 61 then some ([(3, .inl (0, 6))], 0, [(14, 0, 100000)], []) else none
-- KnobEyeModel.isPiece.(I)Z
def er_an215 (pc : Nat) : Option et_A := if pc = 7 then some ([(1, .inl (et_mn, et_mx)), (2, .inl (0, 20))], 2, [], []) else none
-- KnobEyeModel.eye.()I
def er_an222 (pc : Nat) : Option et_A := if pc = 49 then some ([(2, .inl (0, 30))], 0, [(46, 0, 100000)], []) else none
-- KnobEyeModel.rightMany.(I)I
def er_an232 (pc : Nat) : Option et_A := if pc = 4 then some ([(2, .inl (et_mn, et_mx)), (3, .inl (0, 20))], 2, [], []) else none
-- KnobEyeModel.seesWithout.(III)I
def er_an237 (pc : Nat) : Option et_A := if pc = 6 then some ([(4, .inl (et_mn, et_mx)), (5, .inl (0, 6))], 2, [], []) else none
-- KnobEyeModel.nearOf.(I)I
def er_an241 (pc : Nat) : Option et_A := if pc = 4 then some ([(2, .inl (et_mn, et_mx)), (3, .inl (0, 6))], 2, [], []) else if pc = 35 then some ([(5, .inl (et_mn, et_mx)), (6, .inl (et_mn, et_mx)), (7, .inl (0, 6))], 4, [], []) else none
-- KnobEyeModel.shows.(III)Z
def er_an247 (pc : Nat) : Option et_A := if pc = 120 then some ([(8, .inl (0, 6))], 0, [(14, 0, 100000), (29, 0, 100000), (46, 0, 100000)], []) else if pc = 289 then some ([(8, .inl (0, 6))], 0, [(46, 0, 100000)], []) else none
-- KnobEyeModel.turned.(III)I
def er_an252 (pc : Nat) : Option et_A := if pc = 62 then some ([(4, .inl (1, 151))], 0, [(14, 0, 100000), (24, 0, 100000), (29, 0, 100000), (46, 0, 100000)], []) else if pc = 74 then some ([(5, .inl (0, 1)), (6, .inl (0, 20))], 2, [(14, 0, 100000), (24, 0, 100000), (29, 0, 100000), (46, 0, 100000)], []) else none
-- KnobEyeModel.tries.(II)V
def er_an255 (pc : Nat) : Option et_A := if pc = 20 then some ([(3, .inl (et_mn, et_mx)), (4, .inl (0, 6))], 2, [], []) else if pc = 47 then some ([(4, .inl (0, 6))], 0, [(49, 0, 100000)], []) else if pc = 75 then some ([(4, .inl (0, et_mx))], 0, [(13, 23, 23), (13, 24, 24), (13, 25, 25), (13, 26, 26), (13, 27, 27), (13, 29, 29), (49, 0, 100000), (50, 0, 100000)], []) else if pc = 95 then some ([(5, .inl ((-1), 5))], 1, [(49, 0, 100000)], []) else none
-- KnobEyeModel.laysValues.(I)V
def er_an256 (pc : Nat) : Option et_A := if pc = 2 then some ([(2, .inl (0, 20))], 0, [(20, 0, 100000)], []) else if pc = 12 then some ([(3, .inl (0, 6))], 0, [(20, 0, 100000)], []) else none
-- KnobEyeModel.triedOn.(II)I
def er_an258 (pc : Nat) : Option et_A := if pc = 5 then some ([(3, .inl (et_mn, et_mx)), (4, .inl (0, 6))], 2, [], []) else none
-- KnobEyeModel.blindShown.(I)I
def er_an263 (pc : Nat) : Option et_A := if pc = 2 then some ([(2, .inl (0, 20))], 0, [], []) else if pc = 14 then some ([(3, .inl (1, 20))], 0, [], []) else none
-- KnobEyeModel.codeOf.(II)I
def er_an264 (pc : Nat) : Option et_A := if pc = 5 then some ([(3, .inl (et_mn, et_mx)), (4, .inl (0, 6))], 2, [], []) else none
-- KnobEyeModel.blindBy.(II)I
def er_an265 (pc : Nat) : Option et_A := if pc = 7 then some ([(3, .inl (0, 65536))], 0, [(48, 0, 100000)], []) else if pc = 63 then some ([(3, .inl ((-1), 65535)), (4, .inl (0, 65535)), (5, .inl (1, 65536))], 4, [], []) else none
-- KnobEyeModel.knows.(I)V
def er_an266 (pc : Nat) : Option et_A := if pc = 27 then some ([(3, .inl (0, 65535))], 0, [(30, 0, 100000)], []) else if pc = 51 then some ([(3, .inl (0, 65536))], 0, [(13, 16, 16), (14, 0, 100000), (24, 0, 100000), (29, 0, 100000), (30, 0, 100000)], []) else none
-- KnobEyeModel.oddsOf.(III)I
def er_an271 (pc : Nat) : Option et_A := if pc = 11 then some ([(4, .inl (et_mn, et_mx)), (5, .inl (0, 65536))], 2, [], []) else none
-- KnobEyeModel.coveredBy.(II)I
def er_an274 (pc : Nat) : Option et_A := if pc = 5 then some ([(3, .inl (et_mn, et_mx)), (4, .inl (0, 20))], 2, [], []) else none
-- KnobEyeModel.goesBy.(I)I
def er_an275 (pc : Nat) : Option et_A := if pc = 27 then some ([(2, .inl (0, et_mx)), (3, .inl ((-1), 20)), (4, .inl (0, 20))], 4, [], []) else none
-- KnobEyeModel.goesAlong.(I)I
def er_an277 (pc : Nat) : Option et_A := if pc = 4 then some ([(2, .inl (et_mn, et_mx)), (3, .inl (0, 20))], 2, [], []) else none
-- KnobEyeModel.cloud.()I
def er_an278 (pc : Nat) : Option et_A := if pc = 18 then some ([(1, .inl (0, 20)), (2, .inl (1, 20))], 2, [], []) else none
-- KnobEyeModel.mend.(II)I
def er_an279 (pc : Nat) : Option et_A := if pc = 65 then some ([(4, .inl (0, 1)), (5, .inl (0, 65536))], 2, [], []) else none
-- KnobEyeModel.bear.(I)I
def er_an280 (pc : Nat) : Option et_A := if pc = 30 then some ([(2, .inl (et_mn, et_mx)), (3, .inl (0, et_mx))], 2, [], []) else if pc = 44 then some ([(2, .inl (et_mn, et_mx)), (4, .inl (0, 20))], 2, [], []) else none
-- KnobEyeModel.swapped.(III)I
def er_an281 (pc : Nat) : Option et_A := if pc = 44 then some ([(4, .inl (et_mn, et_mx)), (5, .inl (0, 20))], 2, [], []) else none
-- KnobEyeModel.layer.()I
def er_an287 (pc : Nat) : Option et_A := if pc = 18 then some ([(1, .inl (1, 6))], 0, [], []) else if pc = 27 then some ([(2, .inl (0, 1)), (3, .inl (0, 20))], 2, [], []) else none
-- KnobEyeModel.read.(IIZ)I
def er_an288 (pc : Nat) : Option et_A := if pc = 30 then some ([(4, .inl (0, 31))], 0, [(19, 0, 100000)], []) else if pc = 57 then some ([(4, .inl (et_mn, et_mx)), (5, .inl (0, 6))], 2, [], []) else if pc = 86 then some ([(5, .inl (0, et_mx))], 0, [(13, 28, 28), (19, 0, 100000), (49, 0, 100000)], []) else if pc = 100 then some ([(6, .inl (0, 2147483646)), (7, .inl (0, 6))], 2, [(49, 0, 100000)], []) else if pc = 178 then some ([(5, .inl (0, 30)), (6, .inl (1, 31))], 2, [], []) else none
-- KnobEyeModel.readsTried.(I)V
def er_an289 (pc : Nat) : Option et_A := if pc = 9 then some ([(2, .inl ((-9), et_mx)), (3, .inl (et_mn, 9)), (4, .inl (0, 20))], 4, [], []) else if pc = 84 then some ([(4, .inl (0, 31))], 0, [(19, 0, 100000)], []) else if pc = 97 then some ([(5, .inl (et_mn, et_mx)), (6, .inl (0, 6))], 2, [], []) else none
-- KnobEyeModel.isHeld.(I)Z
def er_an292 (pc : Nat) : Option et_A := if pc = 0 then some ([], 1001, [], []) else if pc = 12 then some ([], 1002, [], []) else if pc = 91 then some ([(5, .inl (0, 6))], 0, [(14, 0, 100000)], []) else none
-- KnobEyeModel.count.(I)I
def er_an293 (pc : Nat) : Option et_A := if pc = 70 then some ([(2, .inl (et_mn, et_mx)), (3, .inl (0, 20))], 2, [], []) else if pc = 125 then some ([(2, .inl (et_mn, et_mx)), (3, .inl (0, 6))], 2, [(13, 16, 16), (14, 0, 100000), (24, 0, 100000), (25, 0, 100000), (29, 0, 100000), (30, 0, 100000)], []) else none
def er_an (k pc : Nat) : Option et_A := if k < 265 then (if k < 247 then (if k < 222 then (if k < 213 then (if k = 177 then er_an177 pc else none) else (if k < 215 then (if k = 213 then er_an213 pc else none) else (if k = 215 then er_an215 pc else none))) else (if k < 237 then (if k < 232 then (if k = 222 then er_an222 pc else none) else (if k = 232 then er_an232 pc else none)) else (if k < 241 then (if k = 237 then er_an237 pc else none) else (if k = 241 then er_an241 pc else none)))) else (if k < 256 then (if k < 252 then (if k = 247 then er_an247 pc else none) else (if k < 255 then (if k = 252 then er_an252 pc else none) else (if k = 255 then er_an255 pc else none))) else (if k < 263 then (if k < 258 then (if k = 256 then er_an256 pc else none) else (if k = 258 then er_an258 pc else none)) else (if k < 264 then (if k = 263 then er_an263 pc else none) else (if k = 264 then er_an264 pc else none))))) else (if k < 279 then (if k < 274 then (if k < 266 then (if k = 265 then er_an265 pc else none) else (if k < 271 then (if k = 266 then er_an266 pc else none) else (if k = 271 then er_an271 pc else none))) else (if k < 277 then (if k < 275 then (if k = 274 then er_an274 pc else none) else (if k = 275 then er_an275 pc else none)) else (if k < 278 then (if k = 277 then er_an277 pc else none) else (if k = 278 then er_an278 pc else none)))) else (if k < 288 then (if k < 281 then (if k < 280 then (if k = 279 then er_an279 pc else none) else (if k = 280 then er_an280 pc else none)) else (if k < 287 then (if k = 281 then er_an281 pc else none) else (if k = 287 then er_an287 pc else none))) else (if k < 292 then (if k < 289 then (if k = 288 then er_an288 pc else none) else (if k = 289 then er_an289 pc else none)) else (if k < 293 then (if k = 292 then er_an292 pc else none) else (if k = 293 then er_an293 pc else none)))))
-- KnobEyeModel.isPiece.(I)Z, 50 steps
def er_q0 : et_Co := (215, [.inl (et_mn, et_mx)], [], [(.inl (some (.inl (0, 1))), 0, 0)], 1)
-- KnobEyeModel.ruled.(II)Z, 303 steps
def er_q1 : et_Co := (213, [.inr (.inr (0, 13)), .inl (0, 3), .inl (0, 65535)], [(13, 16, 16), (14, 0, 100000), (24, 0, 100000), (29, 0, 100000)], [(.inl (some (.inl (0, 1))), 0, 0)], 4)
-- KnobEyeModel.spanOf.(I)I, 970 steps
def er_q2 : et_Co := (242, [.inl (et_mn, et_mx)], [], [(.inl (some (.inl (et_mn, et_mx))), 0, 0)], 2)
-- KnobEyeModel.nearOf.(I)I, 1098 steps
def er_q3 : et_Co := (241, [.inr (.inr (0, 13)), .inl (0, 0)], [], [(.inl (some (.inl (et_mn, et_mx))), 0, 0)], 3)
-- KnobEyeModel.litOf.(I)I, 9 steps
def er_q4 : et_Co := (234, [.inr (.inr (0, 13)), .inl (0, 19)], [], [(.inl (some (.inl (et_mn, et_mx))), 0, 0)], 1)
-- KnobEyeModel.valueOf.(III)I, 79 steps
def er_q5 : et_Co := (238, [.inr (.inr (0, 13)), .inl (0, 0), .inl (0, 5), .inl (et_mn, et_mx)], [], [(.inl (some (.inl (et_mn, et_mx))), 0, 0)], 4)
-- KnobEyeModel.seesWithout.(III)I, 150 steps
def er_q6 : et_Co := (237, [.inr (.inr (0, 13)), .inl (0, 0), .inl (et_mn, et_mx), .inl (0, 0)], [], [(.inl (some (.inl (et_mn, et_mx))), 0, 0)], 5)
-- KnobEyeModel.seen.(II)I, 156 steps
def er_q7 : et_Co := (236, [.inr (.inr (0, 13)), .inl (0, 0), .inl (et_mn, et_mx)], [], [(.inl (some (.inl (et_mn, et_mx))), 0, 0)], 6)
-- KnobEyeModel.says.(II)Z, 181 steps
def er_q8 : et_Co := (235, [.inr (.inr (0, 13)), .inl (0, 0), .inl (et_mn, et_mx)], [], [(.inl (some (.inl (0, 1))), 0, 0)], 7)
-- KnobEyeModel.isYes.(I)Z, 17 steps
def er_q9 : et_Co := (240, [.inr (.inr (0, 13)), .inl (0, 19)], [], [(.inl (some (.inl (0, 1))), 0, 0)], 1)
-- KnobEyeModel.isRightOn.(II)Z, 233 steps
def er_q10 : et_Co := (233, [.inr (.inr (0, 13)), .inl (0, 0), .inl (0, 19)], [], [(.inl (some (.inl (0, 1))), 0, 0)], 8)
-- KnobEyeModel.rightMany.(I)I, 3620 steps
def er_q11 : et_Co := (232, [.inr (.inr (0, 13)), .inl (0, 0)], [], [(.inl (some (.inl (et_mn, et_mx))), 0, 0)], 9)
-- KnobEyeModel.nearOf.(I)I, 128 steps
def er_q12 : et_Co := (241, [.inr (.inr (0, 13)), .inl (1, 1)], [], [(.inl (some (.inl (et_mn, et_mx))), 0, 0)], 3)
-- KnobEyeModel.valueOf.(III)I, 79 steps
def er_q13 : et_Co := (238, [.inr (.inr (0, 13)), .inl (1, 1), .inl (0, 5), .inl (et_mn, et_mx)], [], [(.inl (some (.inl (et_mn, et_mx))), 0, 0)], 4)
-- KnobEyeModel.seesWithout.(III)I, 150 steps
def er_q14 : et_Co := (237, [.inr (.inr (0, 13)), .inl (1, 1), .inl (et_mn, et_mx), .inl (0, 0)], [], [(.inl (some (.inl (et_mn, et_mx))), 0, 0)], 5)
-- KnobEyeModel.seen.(II)I, 156 steps
def er_q15 : et_Co := (236, [.inr (.inr (0, 13)), .inl (1, 1), .inl (et_mn, et_mx)], [], [(.inl (some (.inl (et_mn, et_mx))), 0, 0)], 6)
-- KnobEyeModel.says.(II)Z, 181 steps
def er_q16 : et_Co := (235, [.inr (.inr (0, 13)), .inl (1, 1), .inl (et_mn, et_mx)], [], [(.inl (some (.inl (0, 1))), 0, 0)], 7)
-- KnobEyeModel.isRightOn.(II)Z, 207 steps
def er_q17 : et_Co := (233, [.inr (.inr (0, 13)), .inl (1, 1), .inl (0, 19)], [], [(.inl (some (.inl (0, 1))), 0, 0)], 8)
-- KnobEyeModel.rightMany.(I)I, 552 steps
def er_q18 : et_Co := (232, [.inr (.inr (0, 13)), .inl (1, 1)], [], [(.inl (some (.inl (et_mn, et_mx))), 0, 0)], 9)
-- KnobEyeModel.nearOf.(I)I, 128 steps
def er_q19 : et_Co := (241, [.inr (.inr (0, 13)), .inl (2, 2)], [], [(.inl (some (.inl (et_mn, et_mx))), 0, 0)], 3)
-- KnobEyeModel.valueOf.(III)I, 79 steps
def er_q20 : et_Co := (238, [.inr (.inr (0, 13)), .inl (2, 2), .inl (0, 5), .inl (et_mn, et_mx)], [], [(.inl (some (.inl (et_mn, et_mx))), 0, 0)], 4)
-- KnobEyeModel.seesWithout.(III)I, 150 steps
def er_q21 : et_Co := (237, [.inr (.inr (0, 13)), .inl (2, 2), .inl (et_mn, et_mx), .inl (0, 0)], [], [(.inl (some (.inl (et_mn, et_mx))), 0, 0)], 5)
-- KnobEyeModel.seen.(II)I, 156 steps
def er_q22 : et_Co := (236, [.inr (.inr (0, 13)), .inl (2, 2), .inl (et_mn, et_mx)], [], [(.inl (some (.inl (et_mn, et_mx))), 0, 0)], 6)
-- KnobEyeModel.says.(II)Z, 181 steps
def er_q23 : et_Co := (235, [.inr (.inr (0, 13)), .inl (2, 2), .inl (et_mn, et_mx)], [], [(.inl (some (.inl (0, 1))), 0, 0)], 7)
-- KnobEyeModel.isRightOn.(II)Z, 207 steps
def er_q24 : et_Co := (233, [.inr (.inr (0, 13)), .inl (2, 2), .inl (0, 19)], [], [(.inl (some (.inl (0, 1))), 0, 0)], 8)
-- KnobEyeModel.rightMany.(I)I, 552 steps
def er_q25 : et_Co := (232, [.inr (.inr (0, 13)), .inl (2, 2)], [], [(.inl (some (.inl (et_mn, et_mx))), 0, 0)], 9)
-- KnobEyeModel.isStuck.(II)Z, 26 steps
def er_q26 : et_Co := (248, [.inr (.inr (0, 13)), .inl (0, 2), .inl (et_mn, et_mx)], [], [(.inl (some (.inl (0, 1))), 0, 0)], 2)
-- KnobEyeModel.held.(II)I, 7 steps
def er_q27 : et_Co := (251, [.inl (et_mn, et_mx), .inl (et_mn, et_mx)], [], [(.inl (some (.inl (et_mn, et_mx))), 0, 0)], 1)
-- KnobEyeModel.shows.(III)Z, 7826 steps
def er_q28 : et_Co := (247, [.inr (.inr (0, 13)), .inl (0, 0), .inl (0, 19), .inl (0, 3)], [(14, 0, 100000), (24, 0, 100000), (29, 0, 100000), (46, 46, 67)], [(.inl (some (.inl (0, 1))), 0, 0)], 9)
-- KnobEyeModel.shows.(III)Z, 7793 steps
def er_q29 : et_Co := (247, [.inr (.inr (0, 13)), .inl (1, 1), .inl (0, 19), .inl (0, 3)], [(14, 0, 100000), (24, 0, 100000), (29, 0, 100000), (46, 69, 90)], [(.inl (some (.inl (0, 1))), 0, 0)], 9)
-- KnobEyeModel.isStuck.(II)Z, 26 steps
def er_q30 : et_Co := (248, [.inr (.inr (0, 13)), .inl (0, 2), .inl (et_mn, et_mx)], [], [(.inl (some (.inl (0, 1))), 0, 0)], 2)
-- KnobEyeModel.shows.(III)Z, 7819 steps
def er_q31 : et_Co := (247, [.inr (.inr (0, 13)), .inl (2, 2), .inl (0, 19), .inl (0, 3)], [(14, 0, 100000), (24, 0, 100000), (29, 0, 100000), (46, 92, 113)], [(.inl (some (.inl (0, 1))), 0, 0)], 9)
-- KnobEyeModel.laysValues.(I)V, 54 steps
def er_q32 : et_Co := (256, [.inr (.inr (0, 13)), .inl (0, 0)], [(20, 0, 100000)], [(.inl none, 0, 0)], 5)
-- KnobEyeModel.tries.(II)V, 253 steps
def er_q33 : et_Co := (255, [.inr (.inr (0, 13)), .inl (0, 0), .inl (et_mn, et_mx)], [(13, 23, 23), (13, 24, 24), (13, 25, 25), (13, 26, 26), (13, 27, 27), (13, 29, 29), (20, 0, 100000), (49, 0, 100000), (50, 0, 100000)], [(.inl none, 0, 0)], 9)
-- KnobEyeModel.laysValues.(I)V, 54 steps
def er_q34 : et_Co := (256, [.inr (.inr (0, 13)), .inl (1, 1)], [(20, 0, 100000)], [(.inl none, 0, 0)], 5)
-- KnobEyeModel.tries.(II)V, 253 steps
def er_q35 : et_Co := (255, [.inr (.inr (0, 13)), .inl (1, 1), .inl (et_mn, et_mx)], [(13, 23, 23), (13, 24, 24), (13, 25, 25), (13, 26, 26), (13, 27, 27), (13, 29, 29), (20, 0, 100000), (49, 0, 100000), (50, 0, 100000)], [(.inl none, 0, 0)], 9)
-- KnobEyeModel.laysValues.(I)V, 54 steps
def er_q36 : et_Co := (256, [.inr (.inr (0, 13)), .inl (2, 2)], [(20, 0, 100000)], [(.inl none, 0, 0)], 5)
-- KnobEyeModel.tries.(II)V, 253 steps
def er_q37 : et_Co := (255, [.inr (.inr (0, 13)), .inl (2, 2), .inl (et_mn, et_mx)], [(13, 23, 23), (13, 24, 24), (13, 25, 25), (13, 26, 26), (13, 27, 27), (13, 29, 29), (20, 0, 100000), (49, 0, 100000), (50, 0, 100000)], [(.inl none, 0, 0)], 9)
-- KnobEyeModel.knows.(I)V, 63 steps
def er_q38 : et_Co := (266, [.inr (.inr (0, 13)), .inl (0, 3)], [(13, 16, 16), (14, 0, 100000), (24, 0, 100000), (25, 0, 100000), (29, 0, 100000), (30, 0, 100000)], [(.inl none, 0, 0)], 5)
-- KnobEyeModel.codeOf.(II)I, 39 steps
def er_q39 : et_Co := (264, [.inr (.inr (0, 13)), .inl (0, 0), .inl (et_mn, et_mx)], [], [(.inl (some (.inl (et_mn, et_mx))), 0, 0)], 5)
-- KnobEyeModel.blindBy.(II)I, 331 steps
def er_q40 : et_Co := (265, [.inr (.inr (0, 13)), .inl (0, 0), .inl (0, 3)], [(13, 16, 16), (14, 0, 100000), (22, 0, 100000), (24, 0, 100000), (25, 0, 100000), (29, 0, 100000), (30, 0, 100000), (35, 0, 100000), (48, 0, 100000)], [(.inl (some (.inl (et_mn, et_mx))), 0, 0)], 7)
-- KnobEyeModel.isYes.(I)Z, 17 steps
def er_q41 : et_Co := (240, [.inr (.inr (0, 13)), .inl (1, 19)], [], [(.inl (some (.inl (0, 1))), 0, 0)], 1)
-- KnobEyeModel.litOf.(I)I, 9 steps
def er_q42 : et_Co := (234, [.inr (.inr (0, 13)), .inl (1, 19)], [], [(.inl (some (.inl (et_mn, et_mx))), 0, 0)], 1)
-- KnobEyeModel.blindShown.(I)I, 113 steps
def er_q43 : et_Co := (263, [.inr (.inr (0, 13)), .inl (0, 0)], [], [(.inl (some (.inl (et_mn, et_mx))), 0, 0)], 6)
-- KnobEyeModel.codeOf.(II)I, 39 steps
def er_q44 : et_Co := (264, [.inr (.inr (0, 13)), .inl (1, 1), .inl (et_mn, et_mx)], [], [(.inl (some (.inl (et_mn, et_mx))), 0, 0)], 5)
-- KnobEyeModel.blindBy.(II)I, 268 steps
def er_q45 : et_Co := (265, [.inr (.inr (0, 13)), .inl (1, 1), .inl (0, 3)], [(13, 16, 16), (14, 0, 100000), (22, 0, 100000), (24, 0, 100000), (25, 0, 100000), (29, 0, 100000), (30, 0, 100000), (35, 0, 100000), (48, 0, 100000)], [(.inl (some (.inl (et_mn, et_mx))), 0, 0)], 7)
-- KnobEyeModel.blindShown.(I)I, 87 steps
def er_q46 : et_Co := (263, [.inr (.inr (0, 13)), .inl (1, 1)], [], [(.inl (some (.inl (et_mn, et_mx))), 0, 0)], 6)
-- KnobEyeModel.codeOf.(II)I, 39 steps
def er_q47 : et_Co := (264, [.inr (.inr (0, 13)), .inl (2, 2), .inl (et_mn, et_mx)], [], [(.inl (some (.inl (et_mn, et_mx))), 0, 0)], 5)
-- KnobEyeModel.blindBy.(II)I, 268 steps
def er_q48 : et_Co := (265, [.inr (.inr (0, 13)), .inl (2, 2), .inl (0, 3)], [(13, 16, 16), (14, 0, 100000), (22, 0, 100000), (24, 0, 100000), (25, 0, 100000), (29, 0, 100000), (30, 0, 100000), (35, 0, 100000), (48, 0, 100000)], [(.inl (some (.inl (et_mn, et_mx))), 0, 0)], 7)
-- KnobEyeModel.blindShown.(I)I, 87 steps
def er_q49 : et_Co := (263, [.inr (.inr (0, 13)), .inl (2, 2)], [], [(.inl (some (.inl (et_mn, et_mx))), 0, 0)], 6)
-- KnobEyeModel.oddsOf.(III)I, 195 steps
def er_q50 : et_Co := (271, [.inr (.inr (0, 13)), .inl (0, 0), .inl (0, 3), .inl ((-1), 16)], [(13, 16, 16), (14, 0, 100000), (24, 0, 100000), (25, 0, 100000), (29, 0, 100000), (30, 0, 100000)], [(.inl (some (.inl (et_mn, et_mx))), 0, 0)], 8)
-- KnobEyeModel.oddsOf.(III)I, 195 steps
def er_q51 : et_Co := (271, [.inr (.inr (0, 13)), .inl (1, 1), .inl (0, 3), .inl ((-1), 16)], [(13, 16, 16), (14, 0, 100000), (24, 0, 100000), (25, 0, 100000), (29, 0, 100000), (30, 0, 100000)], [(.inl (some (.inl (et_mn, et_mx))), 0, 0)], 8)
-- KnobEyeModel.oddsOf.(III)I, 195 steps
def er_q52 : et_Co := (271, [.inr (.inr (0, 13)), .inl (2, 2), .inl (0, 3), .inl ((-1), 16)], [(13, 16, 16), (14, 0, 100000), (24, 0, 100000), (25, 0, 100000), (29, 0, 100000), (30, 0, 100000)], [(.inl (some (.inl (et_mn, et_mx))), 0, 0)], 8)
-- KnobEyeModel.coveredBy.(II)I, 72 steps
def er_q53 : et_Co := (274, [.inr (.inr (0, 13)), .inl (0, 0), .inl (et_mn, et_mx)], [], [(.inl (some (.inl (et_mn, et_mx))), 0, 0)], 8)
-- KnobEyeModel.coveredBy.(II)I, 72 steps
def er_q54 : et_Co := (274, [.inr (.inr (0, 13)), .inl (1, 1), .inl (et_mn, et_mx)], [], [(.inl (some (.inl (et_mn, et_mx))), 0, 0)], 8)
-- KnobEyeModel.coveredBy.(II)I, 72 steps
def er_q55 : et_Co := (274, [.inr (.inr (0, 13)), .inl (2, 2), .inl (et_mn, et_mx)], [], [(.inl (some (.inl (et_mn, et_mx))), 0, 0)], 8)
-- KnobEyeModel.goesAlong.(I)I, 60 steps
def er_q56 : et_Co := (277, [.inr (.inr (0, 13)), .inl (et_mn, et_mx)], [], [(.inl (some (.inl (et_mn, et_mx))), 0, 0)], 2)
-- KnobEyeModel.seesWithout.(III)I, 77 steps
def er_q57 : et_Co := (237, [.inr (.inr (0, 13)), .inl (0, 0), .inl (et_mn, et_mx), .inl (et_mn, et_mx)], [], [(.inl (some (.inl (et_mn, et_mx))), 0, 0)], 5)
-- KnobEyeModel.seesWithout.(III)I, 77 steps
def er_q58 : et_Co := (237, [.inr (.inr (0, 13)), .inl (1, 1), .inl (et_mn, et_mx), .inl (et_mn, et_mx)], [], [(.inl (some (.inl (et_mn, et_mx))), 0, 0)], 5)
-- KnobEyeModel.seesWithout.(III)I, 77 steps
def er_q59 : et_Co := (237, [.inr (.inr (0, 13)), .inl (2, 2), .inl (et_mn, et_mx), .inl (et_mn, et_mx)], [], [(.inl (some (.inl (et_mn, et_mx))), 0, 0)], 5)
-- KnobEyeModel.saysBy.(II)Z, 340 steps
def er_q60 : et_Co := (286, [.inr (.inr (0, 13)), .inl (et_mn, et_mx), .inl (et_mn, et_mx)], [], [(.inl (some (.inl (0, 1))), 0, 0)], 8)
-- KnobEyeModel.triedOn.(II)I, 45 steps
def er_q61 : et_Co := (258, [.inr (.inr (0, 13)), .inl (0, 0), .inl (0, 19)], [], [(.inl (some (.inl (et_mn, et_mx))), 0, 0)], 3)
-- KnobEyeModel.valueOf.(III)I, 79 steps
def er_q62 : et_Co := (238, [.inr (.inr (0, 13)), .inl (0, 0), .inl (0, 5), .inl (3, 49152)], [], [(.inl (some (.inl (et_mn, et_mx))), 0, 0)], 4)
-- KnobEyeModel.valueOf.(III)I, 79 steps
def er_q63 : et_Co := (238, [.inr (.inr (0, 13)), .inl (0, 0), .inl (0, 5), .inl (1, 32768)], [], [(.inl (some (.inl (et_mn, et_mx))), 0, 0)], 4)
-- KnobEyeModel.readsTried.(I)V, 389 steps
def er_q64 : et_Co := (289, [.inr (.inr (0, 13)), .inl (0, 0)], [(13, 28, 28), (19, 0, 100000)], [(.inl none, 0, 0)], 5)
-- KnobEyeModel.triedOn.(II)I, 45 steps
def er_q65 : et_Co := (258, [.inr (.inr (0, 13)), .inl (1, 1), .inl (0, 19)], [], [(.inl (some (.inl (et_mn, et_mx))), 0, 0)], 3)
-- KnobEyeModel.valueOf.(III)I, 79 steps
def er_q66 : et_Co := (238, [.inr (.inr (0, 13)), .inl (1, 1), .inl (0, 5), .inl (3, 49152)], [], [(.inl (some (.inl (et_mn, et_mx))), 0, 0)], 4)
-- KnobEyeModel.valueOf.(III)I, 79 steps
def er_q67 : et_Co := (238, [.inr (.inr (0, 13)), .inl (1, 1), .inl (0, 5), .inl (1, 32768)], [], [(.inl (some (.inl (et_mn, et_mx))), 0, 0)], 4)
-- KnobEyeModel.readsTried.(I)V, 389 steps
def er_q68 : et_Co := (289, [.inr (.inr (0, 13)), .inl (1, 1)], [(13, 28, 28), (19, 0, 100000)], [(.inl none, 0, 0)], 5)
-- KnobEyeModel.triedOn.(II)I, 45 steps
def er_q69 : et_Co := (258, [.inr (.inr (0, 13)), .inl (2, 2), .inl (0, 19)], [], [(.inl (some (.inl (et_mn, et_mx))), 0, 0)], 3)
-- KnobEyeModel.valueOf.(III)I, 79 steps
def er_q70 : et_Co := (238, [.inr (.inr (0, 13)), .inl (2, 2), .inl (0, 5), .inl (3, 49152)], [], [(.inl (some (.inl (et_mn, et_mx))), 0, 0)], 4)
-- KnobEyeModel.valueOf.(III)I, 79 steps
def er_q71 : et_Co := (238, [.inr (.inr (0, 13)), .inl (2, 2), .inl (0, 5), .inl (1, 32768)], [], [(.inl (some (.inl (et_mn, et_mx))), 0, 0)], 4)
-- KnobEyeModel.readsTried.(I)V, 389 steps
def er_q72 : et_Co := (289, [.inr (.inr (0, 13)), .inl (2, 2)], [(13, 28, 28), (19, 0, 100000)], [(.inl none, 0, 0)], 5)
-- KnobEyeModel.oddsOf.(III)I, 100 steps
def er_q73 : et_Co := (271, [.inr (.inr (0, 13)), .inl (2, 2), .inl (0, 3), .inl ((-1), (-1))], [(13, 16, 16), (14, 0, 100000), (24, 0, 100000), (25, 0, 100000), (29, 0, 100000), (30, 0, 100000)], [(.inl (some (.inl (et_mn, et_mx))), 0, 0)], 8)
-- KnobEyeModel.oddsOf.(III)I, 100 steps
def er_q74 : et_Co := (271, [.inr (.inr (0, 13)), .inl (1, 1), .inl (0, 3), .inl ((-1), (-1))], [(13, 16, 16), (14, 0, 100000), (24, 0, 100000), (25, 0, 100000), (29, 0, 100000), (30, 0, 100000)], [(.inl (some (.inl (et_mn, et_mx))), 0, 0)], 8)
-- KnobEyeModel.oddsOf.(III)I, 100 steps
def er_q75 : et_Co := (271, [.inr (.inr (0, 13)), .inl (0, 0), .inl (0, 3), .inl ((-1), (-1))], [(13, 16, 16), (14, 0, 100000), (24, 0, 100000), (25, 0, 100000), (29, 0, 100000), (30, 0, 100000)], [(.inl (some (.inl (et_mn, et_mx))), 0, 0)], 8)
-- KnobEyeModel.isHeld.(I)Z, 5127 steps
def er_q76 : et_Co := (292, [.inr (.inr (0, 13)), .inl (0, 5)], [(13, 16, 16), (14, 0, 100000), (24, 0, 100000), (25, 0, 100000), (29, 0, 100000), (30, 0, 100000)], [(.inl (some (.inl (0, 1))), 0, 0)], 10)
def er_p177 (ps : List et_P) : et_Co := (177, .inr (.inr (0, 13)) :: ps, [(13, 0, 0), (13, 5, 5), (14, 0, 100000), (34, 0, 100000)], [(.inl (some (.inl (et_mn, et_mx))), 0, 0)], 1)
def er_p178 (ps : List et_P) : et_Co := (178, .inr (.inr (0, 13)) :: ps, [(13, 0, 0), (13, 5, 5)], [(.inl (some (.inl (0, 1))), 0, 0)], 1)
def er_p179 (ps : List et_P) : et_Co := (179, .inr (.inr (0, 13)) :: ps, [(13, 0, 0)], [(.inl (some (.inl (et_mn, et_mx))), 0, 0)], 1)
def er_p211 (ps : List et_P) : et_Co := (211, .inr (.inr (0, 13)) :: ps, [(13, 0, 0), (13, 16, 16), (14, 0, 100000), (24, 0, 100000), (29, 0, 100000)], [(.inl (some (.inl (0, 1))), 0, 0)], 5)
def er_p217 (ps : List et_P) : et_Co := (217, .inr (.inr (0, 13)) :: ps, [(13, 0, 0), (46, 3, 3), (46, 5, 44)], [(.inl (some (.inl (et_mn, et_mx))), 0, 0)], 3)
def er_p220 (ps : List et_P) : et_Co := (220, .inr (.inr (0, 13)) :: ps, [(13, 0, 0), (13, 16, 16), (14, 0, 100000), (24, 0, 100000), (29, 0, 100000), (46, 3, 3), (46, 5, 44)], [(.inl (some (.inl (et_mn, et_mx))), 0, 0)], 5)
def er_p221 (ps : List et_P) : et_Co := (221, .inr (.inr (0, 13)) :: ps, [(13, 0, 0), (46, 3, 3)], [(.inl (some (.inl (et_mn, et_mx))), 0, 0)], 2)
def er_p222 (ps : List et_P) : et_Co := (222, .inr (.inr (0, 13)) :: ps, [(13, 0, 0), (46, 4, 4), (46, 45, 113)], [(.inl (some (.inl (et_mn, et_mx))), 0, 0)], 2)
def er_p223 (ps : List et_P) : et_Co := (223, .inr (.inr (0, 13)) :: ps, [(13, 0, 0), (46, 45, 63), (46, 68, 86), (46, 91, 109)], [(.inl (some (.inl (et_mn, et_mx))), 0, 0)], 3)
def er_p227 (ps : List et_P) : et_Co := (227, .inr (.inr (0, 13)) :: ps, [(13, 0, 0), (46, 46, 64), (46, 69, 87), (46, 92, 110)], [(.inl (some (.inl (0, 1))), 0, 0)], 4)
def er_p229 (ps : List et_P) : et_Co := (229, .inr (.inr (0, 13)) :: ps, [(13, 0, 0), (46, 65, 66), (46, 88, 89), (46, 111, 112)], [(.inl none, 0, 0)], 3)
def er_p230 (ps : List et_P) : et_Co := (230, .inr (.inr (0, 13)) :: ps, [(13, 0, 0)], [(.inl (some (.inl (et_mn, et_mx))), 0, 0)], 10)
def er_p243 (ps : List et_P) : et_Co := (243, .inr (.inr (0, 13)) :: ps, [(13, 0, 0)], [(.inl (some (.inl (et_mn, et_mx))), 0, 0)], 7)
def er_p244 (ps : List et_P) : et_Co := (244, .inr (.inr (0, 13)) :: ps, [(13, 0, 0), (14, 0, 100000), (24, 0, 100000), (29, 0, 100000), (46, 46, 67), (46, 69, 90), (46, 92, 113)], [(.inl (some (.inl (0, 1))), 0, 0)], 10)
def er_p252 (ps : List et_P) : et_Co := (252, .inr (.inr (0, 13)) :: ps, [(13, 0, 0), (14, 0, 100000), (24, 0, 100000), (29, 0, 100000), (46, 46, 67), (46, 69, 90), (46, 92, 113)], [(.inl (some (.inl (et_mn, et_mx))), 0, 0)], 10)
def er_p253 (ps : List et_P) : et_Co := (253, .inr (.inr (0, 13)) :: ps, [(13, 0, 0), (13, 23, 23), (13, 24, 24), (13, 25, 25), (13, 26, 26), (13, 27, 27), (13, 29, 29), (20, 0, 100000), (49, 0, 100000), (50, 0, 100000)], [(.inl (some (.inl (0, 1))), 0, 0)], 10)
def er_p259 (ps : List et_P) : et_Co := (259, .inr (.inr (0, 13)) :: ps, [(13, 0, 0), (13, 23, 23), (13, 24, 24), (13, 25, 25), (13, 26, 26), (13, 27, 27), (13, 29, 29), (20, 0, 100000), (49, 0, 100000), (50, 0, 100000)], [(.inl (some (.inl (et_mn, et_mx))), 0, 0)], 10)
def er_p260 (ps : List et_P) : et_Co := (260, .inr (.inr (0, 13)) :: ps, [(13, 0, 0), (13, 23, 23), (13, 24, 24), (13, 25, 25), (13, 26, 26), (13, 27, 27), (13, 29, 29), (20, 0, 100000), (49, 0, 100000), (50, 0, 100000)], [(.inl (some (.inl (et_mn, et_mx))), 0, 0)], 10)
def er_p262 (ps : List et_P) : et_Co := (262, .inr (.inr (0, 13)) :: ps, [(13, 0, 0), (13, 16, 16), (14, 0, 100000), (22, 0, 100000), (24, 0, 100000), (25, 0, 100000), (29, 0, 100000), (30, 0, 100000), (35, 0, 100000), (48, 0, 100000)], [(.inl (some (.inl (et_mn, et_mx))), 0, 0)], 8)
def er_p270 (ps : List et_P) : et_Co := (270, .inr (.inr (0, 13)) :: ps, [(13, 0, 0), (13, 16, 16), (14, 0, 100000), (24, 0, 100000), (25, 0, 100000), (29, 0, 100000), (30, 0, 100000)], [(.inl (some (.inl (et_mn, et_mx))), 0, 0)], 9)
def er_p272 (ps : List et_P) : et_Co := (272, .inr (.inr (0, 13)) :: ps, [(13, 0, 0)], [(.inl (some (.inl (et_mn, et_mx))), 0, 0)], 9)
def er_p275 (ps : List et_P) : et_Co := (275, .inr (.inr (0, 13)) :: ps, [(13, 0, 0)], [(.inl (some (.inl (et_mn, et_mx))), 0, 0)], 9)
def er_p276 (ps : List et_P) : et_Co := (276, .inr (.inr (0, 13)) :: ps, [(13, 0, 0)], [(.inl (some (.inl (et_mn, et_mx))), 0, 0)], 3)
def er_p278 (ps : List et_P) : et_Co := (278, .inr (.inr (0, 13)) :: ps, [(13, 0, 0)], [(.inl (some (.inl (et_mn, et_mx))), 0, 0)], 3)
def er_p279 (ps : List et_P) : et_Co := (279, .inr (.inr (0, 13)) :: ps, [(13, 0, 0), (13, 16, 16), (14, 0, 100000), (24, 0, 100000), (25, 0, 100000), (29, 0, 100000), (30, 0, 100000)], [(.inl (some (.inl (et_mn, et_mx))), 0, 0)], 6)
def er_p280 (ps : List et_P) : et_Co := (280, .inr (.inr (0, 13)) :: ps, [(13, 0, 0)], [(.inl (some (.inl (et_mn, et_mx))), 0, 0)], 6)
def er_p281 (ps : List et_P) : et_Co := (281, .inr (.inr (0, 13)) :: ps, [(13, 0, 0)], [(.inl (some (.inl (et_mn, et_mx))), 0, 0)], 8)
def er_p285 (ps : List et_P) : et_Co := (285, .inr (.inr (0, 13)) :: ps, [(13, 0, 0)], [(.inl (some (.inl (0, 1))), 0, 0)], 9)
def er_p287 (ps : List et_P) : et_Co := (287, .inr (.inr (0, 13)) :: ps, [(13, 0, 0)], [(.inl (some (.inl (et_mn, et_mx))), 0, 0)], 9)
def er_p288 (ps : List et_P) : et_Co := (288, .inr (.inr (0, 13)) :: ps, [(13, 0, 0), (13, 28, 28), (19, 0, 100000), (20, 0, 100000), (49, 0, 100000)], [(.inl (some (.inl (et_mn, et_mx))), 0, 0)], 6)
def er_p291 (ps : List et_P) : et_Co := (291, .inr (.inr (0, 13)) :: ps, [(13, 0, 0), (13, 16, 16), (14, 0, 100000), (24, 0, 100000), (25, 0, 100000), (29, 0, 100000), (30, 0, 100000)], [(.inl (some (.inl (0, 1))), 0, 0)], 11)
def er_p293 (ps : List et_P) : et_Co := (293, .inr (.inr (0, 13)) :: ps, [(13, 0, 0), (13, 16, 16), (14, 0, 100000), (24, 0, 100000), (25, 0, 100000), (29, 0, 100000), (30, 0, 100000)], [(.inl (some (.inl (et_mn, et_mx))), 0, 0)], 11)
