def ea_one1 (o : ea_O) : Bool := (match o.2.1 with
  | .inl (some (.int x)) => decide (x = 1)
  | _ => false) && (decide (o.2.2.2.1 ≤ 600002) && decide (o.2.2.2.2 ≤ 7302232))
def ea_chk (r : Option (List ea_O)) : Bool := match r with
  | none => false
  | some l => l.all ea_one1
def ea_I0 (a b : Int) : ea_I := [(ea_lo, ea_hi), (ea_lo, ea_hi), (ea_lo, ea_hi), (ea_lo, ea_hi), (ea_lo, ea_hi), (ea_lo, ea_hi), (a, b)]
def ea_gg (n : Nat) (a b : Int) : Bool := ea_chk (ea_rn 5000 (some n) (ea_I0 a b) 1700 eg_LK 0 (eg_en 7 [.ref 150]) [] eg_G0 0 0)
def ea_go (a b : Int) : Bool := ea_gg 6 a b
