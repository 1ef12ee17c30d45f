/-! THE TYPED INTERPRETER: definitions. A state: tokens, cache, pc, locals, stack, counters -/
abbrev et_X : Type := List et_N × et_C × Nat × eg_Ls × List Value × Nat × Nat
def et_ib (E : List et_N) (v : Value) : Option (Int × Int) := match v with
  | .int x => some (x.toInt, x.toInt)
  | .float k => (match E[k.toNat]? with
    | some (.inl p, _) => some p
    | _ => none)
  | _ => none
def et_lb (E : List et_N) (v : Value) : Option (Int × Int) := match v with
  | .long x => some (x.toInt, x.toInt)
  | .double k => (match E[k.toNat]? with
    | some (.inr (.inl p), _) => some p
    | _ => none)
  | _ => none
def et_rb (E : List et_N) (v : Value) : Option (Nat × Nat) := match v with
  | .retAddr k => (match E[k]? with
    | some (.inr (.inr p), _) => some p
    | _ => none)
  | _ => none
def et_tk (p : et_P) (n : Nat) : Value := match p with
  | .inl _ => .float (UInt32.ofNat n)
  | .inr (.inl _) => .double (UInt64.ofNat n)
  | .inr (.inr _) => .retAddr n
/-- an int that has one value only is that value -/
def et_cn (E : List et_N) (v : Value) : Value := match v with
  | .float k => (match E[k.toNat]? with
    | some (.inl (lo, hi), _) => if lo = hi ∧ et_mn ≤ lo ∧ lo ≤ et_mx then .int (Int32.ofInt lo) else v
    | _ => v)
  | _ => v
def et_ft (E : List et_N) (p : et_P) (v : Value) : Bool := match p with
  | .inl (lo, hi) => (match et_ib E v with
    | some (a, b) => decide (lo ≤ a) && decide (b ≤ hi)
    | none => false)
  | .inr (.inl (lo, hi)) => (match et_lb E v with
    | some (a, b) => decide (lo ≤ a) && decide (b ≤ hi)
    | none => false)
  | .inr (.inr (nl, t)) => (match v with
    | .null => decide (0 < nl)
    | .ref a => decide (nl < 2) && (decide (a < 36) && decide (t = 0))
    | _ => (match et_rb E v with
      | some (nm, u) => if nm = 0 then decide (nl < 2) && decide (u = t) else if nm = 1 then decide (nl = 1) && decide (u = t) else decide (nm = 2) && decide (0 < nl)
      | none => false))
/-- and so for the number that it came from -/
def et_nu (E : List et_N) (d : Option (Nat × Int)) (lo hi : Int) : List et_N := match d with
  | some (j, c) => (match E[j]? with
    | some (.inl (a, b), d2) => E.set j (.inl (max a (lo - c), min b (hi - c)), d2)
    | _ => E)
  | none => E
/-- narrower ends for a value; none if there is nothing left -/
def et_nw (E : List et_N) (v : Value) (lo hi : Int) : Option (List et_N) := match v with
  | .int x => if lo ≤ x.toInt ∧ x.toInt ≤ hi then some E else none
  | .float k => (match E[k.toNat]? with
    | some (.inl (a, b), d) => if max a lo ≤ min b hi then some (et_nu (E.set k.toNat (.inl (max a lo, min b hi), d)) d (max a lo) (min b hi)) else none
    | _ => some E)
  | _ => some E
def et_nw2 (E : List et_N) (x : Value) (a b : Int) (y : Value) (c d : Int) : Option (List et_N) := match et_nw E x a b with
  | some F => et_nw F y c d
  | none => none
/-- what is known where x c y holds -/
def et_as (E : List et_N) (c : Jvm.ClassFile.Cond) (x y : Value) : Option (List et_N) := match et_ib E x, et_ib E y with
  | some (a, b), some (s, t) => (match c with
    | .lt => et_nw2 E x et_mn (t - 1) y (a + 1) et_mx
    | .le => et_nw2 E x et_mn t y a et_mx
    | .gt => et_nw2 E x (s + 1) et_mx y et_mn (b - 1)
    | .ge => et_nw2 E x s et_mx y et_mn b
    | .eq => et_nw2 E x s t y a b
    | .ne => if s = t then (if a = b then (if a = s then none else some E) else if a = s then et_nw E x (a + 1) et_mx else if b = s then et_nw E x et_mn (b - 1) else some E)
        else if a = b then (if s = a then et_nw E y (s + 1) et_mx else if t = a then et_nw E y et_mn (t - 1) else some E) else some E)
  | _, _ => some E
def et_ng (c : Jvm.ClassFile.Cond) : Jvm.ClassFile.Cond := match c with
  | .eq => .ne
  | .ne => .eq
  | .lt => .ge
  | .ge => .lt
  | .gt => .le
  | .le => .gt
def et_hb (c : Jvm.ClassFile.Cond) (x y : Int32) : Prop := match c with
  | .eq => x = y
  | .ne => ¬ x = y
  | .lt => x < y
  | .ge => y ≤ x
  | .gt => y < x
  | .le => x ≤ y
