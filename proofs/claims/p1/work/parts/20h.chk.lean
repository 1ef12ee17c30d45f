def ea_one1 (o : ea_O) : Bool := (match o.2.1 with
  | .inl (some (.int x)) => decide (x = 1)
  | _ => false) && (decide (o.2.2.2.1 ≤ 600002) && decide (o.2.2.2.2 ≤ 7302232))
def ea_chk (r : Option (List ea_O)) : Bool := match r with
  | none => false
  | some l => l.all ea_one1
def ea_I0 (a b : Int) : ea_I := [(ea_lo, ea_hi), (ea_lo, ea_hi), (ea_lo, ea_hi), (ea_lo, ea_hi), (ea_lo, ea_hi), (ea_lo, ea_hi), (a, b)]
def ea_go (a b : Int) : Bool := ea_chk (ea_rn 5000 (some 6) (ea_I0 a b) 1700 eg_LK 0 (eg_en 7 [.ref 150]) [] eg_G0 0 0)
theorem ea_go5 : ea_go 5 5 = true := by decide +kernel
theorem ea_go6 : ea_go 6 6 = true := by decide +kernel
theorem ea_go7 : ea_go 7 7 = true := by decide +kernel
theorem ea_go8 : ea_go 8 8 = true := by decide +kernel
theorem ea_go9 : ea_go 9 9 = true := by decide +kernel
theorem ea_go10 : ea_go 10 10 = true := by decide +kernel
theorem ea_go11 : ea_go 11 11 = true := by decide +kernel
