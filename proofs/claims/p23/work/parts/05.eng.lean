section
/-! THE ABSTRACT MACHINE: a frame is pc, locals, stack; a heap is cells at the numbers 0, 1, ..; the first eg_NC numbers are the constants -/
abbrev eg_C : Type := (Nat × vp_A) ⊕ (Nat × List Value)
abbrev eg_G : Type := (Nat → eg_C) × Nat
abbrev eg_Ls : Type := List (Option Value)
abbrev eg_S : Type := Nat × eg_Ls × List Value × eg_G × Nat × Nat
def eg_con (i : Nat) : eg_C :=
  if i < 36 then .inr (12, [.int (Int32.ofNat i), .ref (36 + (eg_wf.getD i (0, 0, 0)).1), .int (eg_wf.getD i (0, 0, 0)).2.1, .int (eg_wf.getD i (0, 0, 0)).2.2])
  else if i < 36 + eg_NS then .inr (13, [.ref (i + eg_NS), .int 0])
  else if i < 36 + 2 * eg_NS then .inl (1, ((eg_by.getD (i - 36 - eg_NS) []).length, .inl (fun j => (eg_by.getD (i - 36 - eg_NS) []).getD j 0)))
  else if i = 36 + 2 * eg_NS then .inl (9, (36, .inr (.inr (.inr (.inr (fun j => some j))))))
  else if i = 36 + 2 * eg_NS + 1 then .inl (0, (36, .inl (fun j => eg_sw.getD j 0)))
  else .inr (98, [])
def eg_at (G : eg_G) (i : Nat) : eg_C := if i < eg_NC then eg_con i else G.1 i
def eg_u (G : eg_G) (i : Nat) (c : eg_C) : eg_G := (fun j => if j = i then c else G.1 j, G.2)
def eg_p (G : eg_G) (c : eg_C) : eg_G := (fun j => if j = G.2 then c else G.1 j, G.2 + 1)
-- locals
def eg_nl (x : Option Value) : Option Value := match x with
  | some (.long _) => none
  | some (.double _) => none
  | y => y
def eg_s1 : eg_Ls → Nat → Value → eg_Ls
  | [], _, _ => []
  | _ :: t, 0, v => some v :: t
  | x :: t, 1, v => eg_nl x :: eg_s1 t 0 v
  | x :: t, i + 2, v => x :: eg_s1 t (i + 1) v
def eg_s2 : eg_Ls → Nat → Value → eg_Ls
  | [], _, _ => []
  | [x], _, _ => [x]
  | _ :: _ :: t, 0, v => some v :: none :: t
  | x :: t, 1, v => eg_nl x :: eg_s2 t 0 v
  | x :: t, i + 2, v => x :: eg_s2 t (i + 1) v
def eg_ld (L : eg_Ls) (i : Nat) : Option Value := (L[i]?).join
-- numbers
def eg_tg (pc : Nat) (off : Int) : Nat := ((pc : Int) + off).toNat
def eg_rd (t : Nat) (x : vp_A) (i : Nat) : Option Value := match x.2 with
  | .inl f => if t = 0 ∨ t = 1 ∨ t = 3 ∨ t = 4 then some (.int (f i)) else none
  | .inr (.inl f) => if t = 2 then some (.long (f i)) else none
  | .inr (.inr (.inr (.inr f))) => if 5 ≤ t then some (va_rf (f i)) else none
  | _ => none
/-- which instruction reads and writes which kinds of arrays -/
def eg_ak (ins : Instr) (t : Nat) : Bool := match ins with
  | .iaload => t == 0
  | .iastore => t == 0
  | .baload => t == 1 || t == 3
  | .bastore => t == 1 || t == 3
  | .caload => t == 4
  | .castore => t == 4
  | .laload => t == 2
  | .lastore => t == 2
  | .aaload => decide (5 ≤ t) && decide (t < 12)
  | .aastore => decide (5 ≤ t) && decide (t < 11)
  | _ => false
/-- the class of the objects that an array of this kind holds -/
def eg_el (t : Nat) : Nat := match t with
  | 5 => 6
  | 6 => 1
  | 7 => 9
  | 8 => 0
  | 9 => 12
  | 10 => 4
  | _ => 99
def eg_ek (ci : Nat) : Nat := match ci with
  | 6 => 5
  | 1 => 6
  | 9 => 7
  | 0 => 8
  | 12 => 9
  | 4 => 10
  | _ => 99
def eg_is (c : eg_C) (ci : Nat) : Bool := match c with
  | .inr (k, _) => k == ci
  | .inl _ => false
def eg_wr (G : eg_G) (t : Nat) (x : vp_A) (i : Nat) (v : Value) : Option vp_A := match x.2, v with
  | .inl f, .int z => match t with
    | 0 => some (x.1, .inl (upd f i z))
    | 1 => some (x.1, .inl (upd f i (vp_nar .byte z)))
    | 3 => some (x.1, .inl (upd f i (vp_nar .boolean z)))
    | 4 => some (x.1, .inl (upd f i (vp_nar .char z)))
    | _ => none
  | .inr (.inl f), .long z => if t = 2 then some (x.1, .inr (.inl (vp_updL f i z))) else none
  | .inr (.inr (.inr (.inr f))), .null => if 5 ≤ t ∧ t < 11 then some (x.1, .inr (.inr (.inr (.inr (va_up f i none))))) else none
  | .inr (.inr (.inr (.inr f))), .ref q => if q < G.2 ∧ 5 ≤ t ∧ t < 11 ∧ eg_is (eg_at G q) (eg_el t) = true then some (x.1, .inr (.inr (.inr (.inr (va_up f i (some q)))))) else none
  | _, _ => none
def eg_fit (ty : FieldType) (v : Value) : Bool := match ty, v with
  | .int, .int _ => true
  | .long, .long _ => true
  | .boolean, .int x => decide (x = 0) || decide (x = 1)
  | .object _, .null => true
  | .object _, .ref _ => true
  | .array _, .null => true
  | .array _, .ref _ => true
  | _, _ => false
def eg_ii (pc : Nat) (L : eg_Ls) (st : List Value) (G : eg_G) (ck sk : Nat) (f : Int32 → Int32 → Int32) : Option eg_S := match st with
  | .int y :: .int x :: r => some (pc + 1, L, .int (f x y) :: r, G, ck, sk)
  | _ => none
def eg_l2 (pc : Nat) (L : eg_Ls) (st : List Value) (G : eg_G) (ck sk : Nat) (f : Int64 → Int64 → Int64) : Option eg_S := match st with
  | .long y :: .long x :: r => some (pc + 1, L, .long (f x y) :: r, G, ck, sk)
  | _ => none
def eg_ls (pc : Nat) (L : eg_Ls) (st : List Value) (G : eg_G) (ck sk : Nat) (f : Int64 → Int32 → Int64) : Option eg_S := match st with
  | .int y :: .long x :: r => some (pc + 1, L, .long (f x y) :: r, G, ck, sk)
  | _ => none
def eg_li (pc : Nat) (L : eg_Ls) (st : List Value) (G : eg_G) (ck sk : Nat) (i : Nat) (len : Nat) : Option eg_S := match eg_ld L i with
  | some (.int x) => some (pc + len, L, .int x :: st, G, ck, sk)
  | _ => none
def eg_ll (pc : Nat) (L : eg_Ls) (st : List Value) (G : eg_G) (ck sk : Nat) (i : Nat) (len : Nat) : Option eg_S := match eg_ld L i with
  | some (.long x) => some (pc + len, L, .long x :: st, G, ck, sk)
  | _ => none
def eg_la (pc : Nat) (L : eg_Ls) (st : List Value) (G : eg_G) (ck sk : Nat) (i : Nat) (len : Nat) : Option eg_S := match eg_ld L i with
  | some (.ref x) => some (pc + len, L, .ref x :: st, G, ck, sk)
  | some .null => some (pc + len, L, .null :: st, G, ck, sk)
  | _ => none
def eg_si (pc : Nat) (L : eg_Ls) (st : List Value) (G : eg_G) (ck sk : Nat) (i : Nat) (len : Nat) : Option eg_S := match st with
  | .int x :: r => if i < L.length then some (pc + len, eg_s1 L i (.int x), r, G, ck, sk) else none
  | _ => none
def eg_sl2 (pc : Nat) (L : eg_Ls) (st : List Value) (G : eg_G) (ck sk : Nat) (i : Nat) (len : Nat) : Option eg_S := match st with
  | .long x :: r => if i + 1 < L.length then some (pc + len, eg_s2 L i (.long x), r, G, ck, sk) else none
  | _ => none
def eg_sa (pc : Nat) (L : eg_Ls) (st : List Value) (G : eg_G) (ck sk : Nat) (i : Nat) (len : Nat) : Option eg_S := match st with
  | .ref x :: r => if i < L.length then some (pc + len, eg_s1 L i (.ref x), r, G, ck, sk) else none
  | .null :: r => if i < L.length then some (pc + len, eg_s1 L i .null, r, G, ck, sk) else none
  | _ => none
def eg_kk (kd : Nat) (v : Value) : Bool := match v with
  | .int _ => decide (kd < 2)
  | .long _ => kd == 2
  | .ref j => (kd == 0) && (decide (36 ≤ j) && decide (j < eg_NC))
  | _ => false
def eg_kst (o idx : Nat) (len kd : Nat) (pc : Nat) (L : eg_Ls) (st : List Value) (G : eg_G) (ck sk : Nat) : Option eg_S := match (eg_kT.getD o []).lookup idx with
  | some v => if eg_kk kd v = true then some (pc + len, L, v :: st, G, ck, sk) else none
  | none => none
def eg_ca (v : Value) : Bool := match v with
  | .null => true
  | .ref i => decide (i < 36) || decide (eg_NC ≤ i)
  | _ => false
def eg_ar (ins : Instr) (pc : Nat) (L : eg_Ls) (st : List Value) (G : eg_G) (ck sk : Nat) : Option eg_S := match st with
  | .int i :: .ref a :: r => match eg_at G a with
    | .inl (t, x) => if a < G.2 ∧ eg_ak ins t = true ∧ 0 ≤ i.toInt ∧ i.toInt < x.1 then (match eg_rd t x i.toNatClampNeg with
      | some v => some (pc + 1, L, v :: r, G, ck, sk)
      | none => none) else none
    | _ => none
  | _ => none
def eg_aw (ins : Instr) (pc : Nat) (L : eg_Ls) (st : List Value) (G : eg_G) (ck sk : Nat) : Option eg_S := match st with
  | v :: .int i :: .ref a :: r => match eg_at G a with
    | .inl (t, x) => if eg_NC ≤ a ∧ a < G.2 ∧ eg_ak ins t = true ∧ 0 ≤ i.toInt ∧ i.toInt < x.1 then (match eg_wr G t x i.toNatClampNeg v with
      | some y => some (pc + 1, L, r, eg_u G a (.inl (t, y)), ck, sk)
      | none => none) else none
    | _ => none
  | _ => none
def eg_gf (o idx : Nat) (pc : Nat) (L : eg_Ls) (st : List Value) (G : eg_G) (ck sk : Nat) : Option eg_S := match (eg_fT.getD o []).lookup idx with
  | some (ci, k, _) => (match st with
    | .ref a :: r => (match eg_at G a with
      | .inr (cj, fs) => if a < G.2 ∧ cj = ci then (match fs[k]? with
        | some v => some (pc + 3, L, v :: r, G, ck, sk)
        | none => none) else none
      | _ => none)
    | _ => none)
  | none => none
def eg_pf (o : Nat) (ini : Bool) (idx : Nat) (pc : Nat) (L : eg_Ls) (st : List Value) (G : eg_G) (ck sk : Nat) : Option eg_S := match (eg_fT.getD o []).lookup idx with
  | some (ci, k, hh) => (match st with
    | v :: .ref a :: r => (match eg_at G a with
      | .inr (cj, fs) => if eg_NC ≤ a ∧ a < G.2 ∧ cj = ci ∧ k < fs.length ∧ eg_fit ((eg_yl.getD ci (fun _ => .int)) k) v = true ∧ ((eg_fd ci k).2.2.2 = false ∨ (ini = true ∧ hh = none ∧ (eg_fd ci k).1 = eg_on o)) then
          some (pc + 3, L, r, eg_u G a (.inr (ci, fs.set k v)), ck, sk) else none
      | _ => none)
    | _ => none)
  | none => none
def eg_nc (n : Nat) (ci : Nat) : List Value := (List.range n).map (fun j => defaultValue ((eg_yl.getD ci (fun _ => .int)) j))
def eg_al (mc ms : Nat) (pc len : Nat) (L : eg_Ls) (st : List Value) (G : eg_G) (ck sk : Nat) (n : Nat) (c : eg_C) : Option eg_S :=
  if ck + 1 ≤ mc ∧ sk + n ≤ ms then some (pc + len, L, .ref G.2 :: st, eg_p G c, ck + 1, sk + n) else none
def eg_na (t : ArrayType) : Option (Nat × (Nat → vp_A)) := match t with
  | .int => some (0, fun n => (n, .inl (fun _ => 0)))
  | .byte => some (1, fun n => (n, .inl (fun _ => 0)))
  | .long => some (2, fun n => (n, .inr (.inl (fun _ => 0))))
  | .boolean => some (3, fun n => (n, .inl (fun _ => 0)))
  | .char => some (4, fun n => (n, .inl (fun _ => 0)))
  | _ => none
def eg_mg (G : eg_G) (N K : Nat) : eg_G := (fun j => if j < G.2 then G.1 j else if j = G.2 then .inl (11, (N, .inr (.inr (.inr (.inr (fun i => if i < N then some (G.2 + 1 + i) else none)))))) else if j < G.2 + 1 + N then .inl (0, (K, .inl (fun _ => 0))) else G.1 j, G.2 + 1 + N)
/-- one step, but calls, answers and throws: o the class of the code, ini whether it is a constructor, mc and ms the room -/
def eg_st (o : Nat) (ini : Bool) (mc ms : Nat) (pc len : Nat) (ins : Instr) (L : eg_Ls) (st : List Value) (G : eg_G) (ck sk : Nat) : Option eg_S := match ins with
  | .iconst n => some (pc + 1, L, .int (Int32.ofInt n) :: st, G, ck, sk)
  | .bipush n => some (pc + 2, L, .int (Int8.ofInt n).toInt32 :: st, G, ck, sk)
  | .sipush n => some (pc + 3, L, .int (Int16.ofInt n).toInt32 :: st, G, ck, sk)
  | .lconst n => some (pc + 1, L, .long (Int64.ofNat n) :: st, G, ck, sk)
  | .aconst_null => some (pc + 1, L, .null :: st, G, ck, sk)
  | .ldc i => eg_kst o i 2 0 pc L st G ck sk
  | .ldc_w i => eg_kst o i 3 1 pc L st G ck sk
  | .ldc2_w i => eg_kst o i 3 2 pc L st G ck sk
  | .iload i => eg_li pc L st G ck sk i 2
  | .iload_n i => eg_li pc L st G ck sk i 1
  | .lload i => eg_ll pc L st G ck sk i 2
  | .lload_n i => eg_ll pc L st G ck sk i 1
  | .aload i => eg_la pc L st G ck sk i 2
  | .aload_n i => eg_la pc L st G ck sk i 1
  | .istore i => eg_si pc L st G ck sk i 2
  | .istore_n i => eg_si pc L st G ck sk i 1
  | .lstore i => eg_sl2 pc L st G ck sk i 2
  | .lstore_n i => eg_sl2 pc L st G ck sk i 1
  | .astore i => eg_sa pc L st G ck sk i 2
  | .astore_n i => eg_sa pc L st G ck sk i 1
  | .iinc i n => (match eg_ld L i with
    | some (.int x) => if len = 3 ∧ i < L.length then some (pc + 3, eg_s1 L i (.int (x + Int32.ofInt n)), st, G, ck, sk) else none
    | _ => none)
  | .iadd => eg_ii pc L st G ck sk (fun x y => x + y)
  | .isub => eg_ii pc L st G ck sk (fun x y => x - y)
  | .imul => eg_ii pc L st G ck sk (fun x y => x * y)
  | .iand => eg_ii pc L st G ck sk (fun x y => x &&& y)
  | .ior => eg_ii pc L st G ck sk (fun x y => x ||| y)
  | .ixor => eg_ii pc L st G ck sk (fun x y => x ^^^ y)
  | .ishl => eg_ii pc L st G ck sk (fun x y => x <<< (y &&& 31))
  | .ishr => eg_ii pc L st G ck sk (fun x y => x >>> (y &&& 31))
  | .iushr => eg_ii pc L st G ck sk (fun x y => (x.toUInt32 >>> (y.toUInt32 &&& Int32.toUInt32 31)).toInt32)
  | .idiv => (match st with
    | .int y :: .int x :: r => if y = 0 then none else some (pc + 1, L, .int (x / y) :: r, G, ck, sk)
    | _ => none)
  | .irem => (match st with
    | .int y :: .int x :: r => if y = 0 then none else some (pc + 1, L, .int (x - x / y * y) :: r, G, ck, sk)
    | _ => none)
  | .ineg => (match st with
    | .int x :: r => some (pc + 1, L, .int (-x) :: r, G, ck, sk)
    | _ => none)
  | .ladd => eg_l2 pc L st G ck sk (fun x y => x + y)
  | .lsub => eg_l2 pc L st G ck sk (fun x y => x - y)
  | .lmul => eg_l2 pc L st G ck sk (fun x y => x * y)
  | .land => eg_l2 pc L st G ck sk (fun x y => x &&& y)
  | .lor => eg_l2 pc L st G ck sk (fun x y => x ||| y)
  | .lshl => eg_ls pc L st G ck sk (fun x y => x <<< (y.toInt64 &&& 63))
  | .lshr => eg_ls pc L st G ck sk (fun x y => x >>> (y.toInt64 &&& 63))
  | .lushr => eg_ls pc L st G ck sk (fun x y => (x.toUInt64 >>> (y.toInt64.toUInt64 &&& Int64.toUInt64 63)).toInt64)
  | .ldiv => (match st with
    | .long y :: .long x :: r => if y = 0 then none else some (pc + 1, L, .long (x / y) :: r, G, ck, sk)
    | _ => none)
  | .lcmp => (match st with
    | .long y :: .long x :: r => some (pc + 1, L, .int (lg_cmp x y) :: r, G, ck, sk)
    | _ => none)
  | .i2l => (match st with
    | .int x :: r => some (pc + 1, L, .long x.toInt64 :: r, G, ck, sk)
    | _ => none)
  | .l2i => (match st with
    | .long x :: r => some (pc + 1, L, .int x.toInt32 :: r, G, ck, sk)
    | _ => none)
  | .i2b => (match st with
    | .int x :: r => some (pc + 1, L, .int x.toInt8.toInt32 :: r, G, ck, sk)
    | _ => none)
  | .i2c => (match st with
    | .int x :: r => some (pc + 1, L, .int (x.toUInt32 % 65536).toInt32 :: r, G, ck, sk)
    | _ => none)
  | .dup => (match st with
    | v :: r => if v.category = 1 then some (pc + 1, L, v :: v :: r, G, ck, sk) else none
    | _ => none)
  | .pop => (match st with
    | v :: r => if v.category = 1 then some (pc + 1, L, r, G, ck, sk) else none
    | _ => none)
  | .dup2 => (match st with
    | v :: w :: r => if v.category = 1 ∧ w.category = 1 then some (pc + 1, L, v :: w :: v :: w :: r, G, ck, sk) else none
    | _ => none)
  | .goto off => if 0 ≤ (pc : Int) + off then some (eg_tg pc off, L, st, G, ck, sk) else none
  | .ifCond c off => (match st with
    | .int x :: r => if 0 ≤ (pc : Int) + off then some (match c with
      | .eq => (if x = 0 then eg_tg pc off else pc + 3)
      | .ne => (if ¬ x = 0 then eg_tg pc off else pc + 3)
      | .lt => (if x < 0 then eg_tg pc off else pc + 3)
      | .ge => (if 0 ≤ x then eg_tg pc off else pc + 3)
      | .gt => (if 0 < x then eg_tg pc off else pc + 3)
      | .le => (if x ≤ 0 then eg_tg pc off else pc + 3), L, r, G, ck, sk) else none
    | _ => none)
  | .if_icmp c off => (match st with
    | .int y :: .int x :: r => if 0 ≤ (pc : Int) + off then some (match c with
      | .eq => (if x = y then eg_tg pc off else pc + 3)
      | .ne => (if ¬ x = y then eg_tg pc off else pc + 3)
      | .lt => (if x < y then eg_tg pc off else pc + 3)
      | .ge => (if y ≤ x then eg_tg pc off else pc + 3)
      | .gt => (if y < x then eg_tg pc off else pc + 3)
      | .le => (if x ≤ y then eg_tg pc off else pc + 3), L, r, G, ck, sk) else none
    | _ => none)
  | .if_acmp c off => (match st with
    | w :: v :: r => if 0 ≤ (pc : Int) + off ∧ eg_ca v = true ∧ eg_ca w = true then some (match c with
      | .eq => (if v = w then eg_tg pc off else pc + 3)
      | .ne => (if ¬ v = w then eg_tg pc off else pc + 3), L, r, G, ck, sk) else none
    | _ => none)
  | .ifnull off => (match st with
    | .null :: r => if 0 ≤ (pc : Int) + off then some (eg_tg pc off, L, r, G, ck, sk) else none
    | .ref _ :: r => some (pc + 3, L, r, G, ck, sk)
    | _ => none)
  | .ifnonnull off => (match st with
    | .ref _ :: r => if 0 ≤ (pc : Int) + off then some (eg_tg pc off, L, r, G, ck, sk) else none
    | .null :: r => some (pc + 3, L, r, G, ck, sk)
    | _ => none)
  | .tableswitch d lo hi offs => (match st with
    | .int x :: r => if x.toInt < lo ∨ hi < x.toInt then (if 0 ≤ (pc : Int) + d then some (eg_tg pc d, L, r, G, ck, sk) else none) else (match offs[(x.toInt - lo).toNat]? with
      | some off => if 0 ≤ (pc : Int) + off then some (eg_tg pc off, L, r, G, ck, sk) else none
      | none => none)
    | _ => none)
  | .lookupswitch d ps => (match st with
    | .int x :: r => if (ps.toList.zip (ps.toList.drop 1)).all (fun (a, next) => a.1 < next.1) = true ∧ 0 ≤ (pc : Int) + Op.lookupswitch.offset ps.toList d x.toInt then some (eg_tg pc (Op.lookupswitch.offset ps.toList d x.toInt), L, r, G, ck, sk) else none
    | _ => none)
  | .iaload => eg_ar .iaload pc L st G ck sk
  | .baload => eg_ar .baload pc L st G ck sk
  | .caload => eg_ar .caload pc L st G ck sk
  | .laload => eg_ar .laload pc L st G ck sk
  | .aaload => eg_ar .aaload pc L st G ck sk
  | .iastore => eg_aw .iastore pc L st G ck sk
  | .bastore => eg_aw .bastore pc L st G ck sk
  | .castore => eg_aw .castore pc L st G ck sk
  | .lastore => eg_aw .lastore pc L st G ck sk
  | .aastore => eg_aw .aastore pc L st G ck sk
  | .arraylength => (match st with
    | .ref a :: r => (match eg_at G a with
      | .inl (t, x) => if a < G.2 ∧ t < 12 then some (pc + 1, L, .int (Int32.ofNat x.1) :: r, G, ck, sk) else none
      | _ => none)
    | _ => none)
  | .getfield i => eg_gf o i pc L st G ck sk
  | .putfield i => eg_pf o ini i pc L st G ck sk
  | .getstatic i => (match (eg_sT.getD o []).lookup i with
    | some (k, _) => (match eg_sv[k]? with
      | some (_, _, _, v) => some (pc + 3, L, v :: st, G, ck, sk)
      | none => none)
    | none => none)
  | .new i => (match (eg_cT.getD o []).lookup i with
    | some ci => if ci < 12 then eg_al mc ms pc 3 L st G ck sk (eg_cl.getD ci ("", eg_T0, 0)).2.2 (.inr (ci, eg_nc (eg_cl.getD ci ("", eg_T0, 0)).2.2 ci)) else none
    | none => none)
  | .newarray t => (match st, eg_na t with
    | .int n :: r, some (k, f) => if 0 ≤ n.toInt ∧ n.toInt ≤ 65536 then eg_al mc ms pc 2 L r G ck sk n.toNatClampNeg (.inl (k, f n.toNatClampNeg)) else none
    | _, _ => none)
  | .anewarray i => (match st, (eg_cT.getD o []).lookup i with
    | .int n :: r, some ci => if 0 ≤ n.toInt ∧ n.toInt ≤ 65536 ∧ 5 ≤ eg_ek ci ∧ eg_ek ci < 11 then eg_al mc ms pc 3 L r G ck sk n.toNatClampNeg (.inl (eg_ek ci, (n.toNatClampNeg, .inr (.inr (.inr (.inr (fun _ => none))))))) else none
    | _, _ => none)
  | .multianewarray i dm => (match st, (eg_cT.getD o []).lookup i with
    | .int k :: .int n :: r, some 30 => if dm = 2 ∧ 0 ≤ n.toInt ∧ n.toInt ≤ 65536 ∧ 0 ≤ k.toInt ∧ k.toInt ≤ 65536 ∧ ck + (1 + n.toNatClampNeg) ≤ mc ∧ sk + (n.toNatClampNeg + n.toNatClampNeg * k.toNatClampNeg) ≤ ms then
        some (pc + 4, L, .ref G.2 :: r, eg_mg G n.toNatClampNeg k.toNatClampNeg, ck + 1 + n.toNatClampNeg, sk + n.toNatClampNeg + n.toNatClampNeg * k.toNatClampNeg) else none
    | _, _ => none)
  | _ => none
end
section
/-! THE ABSTRACT MACHINE AND THE MACHINE -/
def eg_v (ad : Nat → Nat) (v : Value) : Value := match v with
  | .ref i => .ref (ad i)
  | w => w
def eg_r (ad : Nat → Nat) (x : vp_A) : vp_A := (x.1, match x.2 with
  | .inr (.inr (.inr (.inr f))) => .inr (.inr (.inr (.inr (fun j => (f j).map ad))))
  | z => z)
def eg_e (ad : Nat → Nat) (dA : Nat → ClassId) (c : eg_C) : va_E := match c with
  | .inl (t, x) => .inl (dA t, eg_r ad x)
  | .inr (ci, fs) => .inr (ci, fs.map (eg_v ad))
def eg_ws (ad : Nat → Nat) (dA : Nat → ClassId) (G : eg_G) : va_W := (List.range (G.2 - eg_NC)).map (fun k => (ad (eg_NC + k), eg_e ad dA (G.1 (eg_NC + k))))
def eg_tt (t : Nat) : FieldType := eg_ty.getD t .int
def eg_tys (dA : Nat → ClassId) : List (ClassId × FieldType) := (List.range 12).map (fun t => (dA t, eg_tt t))
def eg_okv (n : Nat) (v : Value) : Prop := ∀ i, v = .ref i → i < n
def eg_okx (n : Nat) (x : vp_A) : Prop := ∀ f, x.2 = .inr (.inr (.inr (.inr f))) → ∀ j r, f j = some r → r < n
def eg_okc (n : Nat) (c : eg_C) : Prop := match c with
  | .inl (_, x) => eg_okx n x
  | .inr (_, fs) => ∀ v ∈ fs, eg_okv n v
def eg_ok (G : eg_G) : Prop := eg_NC ≤ G.2 ∧ ∀ i, eg_NC ≤ i → i < G.2 → eg_okc G.2 (G.1 i)
abbrev eg_A (b0 : Nat) : Nat → Prop := fun q => b0 ≤ q
def eg_Rel (s : State) (b0 : Nat) (D : va_G) (dA : Nat → ClassId) (adc : Nat → Nat) (n0 : Nat) (ad0 ad : Nat → Nat) (G : eg_G) (H : Heap) (locs : List Loc) : Prop :=
  va_P D eg_cl (eg_ws ad dA G) H ∧ va_D (eg_A b0) (eg_ws ad dA G) ∧ va_S (eg_A b0) s.heap H locs ∧ eg_ok G ∧ (∀ i, i < eg_NC → ad i = adc i) ∧ n0 ≤ G.2 ∧ ∀ i, i < n0 → ad i = ad0 i
def eg_lq (ad : Nat → Nat) : Nat → eg_Ls → List (Nat × Value)
  | _, [] => []
  | i, none :: t => eg_lq ad (i + 1) t
  | i, some v :: t => (i, eg_v ad v) :: eg_lq ad (i + 1) t
def eg_LR (ad : Nat → Nat) (n : Nat) (ls : Array Slot) (L : eg_Ls) : Prop := lv_has ls L.length (eg_lq ad 0 L) ∧ ∀ v, some v ∈ L → eg_okv n v
-- words
def eg_fw (o : Nat) (e : Nat × Nat × Nat × Option String) : Cond := match e.2.2.2 with
  | none => .fieldLink (eg_on o) e.1 (eg_fd e.2.1 e.2.2.1).1 (eg_fd e.2.1 e.2.2.1).2.1 (eg_fd e.2.1 e.2.2.1).2.2.1
  | some h => .fieldLinkNest (eg_on o) e.1 (eg_fd e.2.1 e.2.2.1).1 (eg_fd e.2.1 e.2.2.1).2.1 (eg_fd e.2.1 e.2.2.1).2.2.1 h
def eg_sw1 (o : Nat) (e : Nat × Nat × Option String) : List Cond := match eg_sv[e.2.1]?, e.2.2 with
  | some (C, n, d, _), none => [.fieldLink (eg_on o) e.1 C n d]
  | some (C, n, d, _), some h => [.fieldLinkNest (eg_on o) e.1 C n d h]
  | none, _ => []
def eg_kw (o : Nat) (e : Nat × Value) : List Cond := match e.2 with
  | .int v => [.constant (eg_on o) e.1 v]
  | .long v => [.constantLong (eg_on o) e.1 v]
  | _ => []
def eg_cw (o : Nat) (e : Nat × Nat) : Cond := .classLink (eg_on o) e.1 (eg_cn e.2)
def eg_mw (o : Nat) (e : Nat × Nat × Nat × Option String) : List Cond :=
  let y := (eg_me e.2.1).1.1
  let hh := e.2.2.2.getD ""
  match e.2.2.1 with
  | 0 => [.methodLink (eg_on o) e.1 y, .static y, .initialized y.cls]
  | 1 => [.methodLink (eg_on o) e.1 y, .instanceMethod y, .selects y.cls y y, .initialized y.cls]
  | 2 => [.methodLink (eg_on o) e.1 y, .instanceMethod y, .initialized y.cls]
  | 3 => [.methodLinkNest (eg_on o) e.1 y hh, .static y, .initialized y.cls]
  | 4 => [.methodLinkNest (eg_on o) e.1 y hh, .instanceMethod y, .selects y.cls y y, .initialized y.cls]
  | 5 => [.methodLinkNest (eg_on o) e.1 y hh, .instanceMethod y, .initialized y.cls]
  | 6 => [.methodLink (eg_on o) e.1 objectInit, .instanceMethod objectInit, .code objectInit ⟨#[0xb1]⟩ 1 none]
  | _ => [.methodLink (eg_on o) e.1 ⟨"KnobEye$Word", "ordinal", "()I"⟩, .sameMethod "KnobEye$Word" "java/lang/Enum" "ordinal" "()I", .selects "KnobEye$Word" ⟨"KnobEye$Word", "ordinal", "()I"⟩ y, .instanceMethod y, .initialized y.cls]
def eg_yw (q : eg_MI × List (Nat × Instr × Nat)) : Cond := match q.1.2.2.2.2.1 with
  | none => .code q.1.1 q.1.2.1 q.1.2.2.1 q.1.2.2.2.1
  | some hh => .codeWith q.1.1 q.1.2.1 q.1.2.2.1 q.1.2.2.2.1 hh
def eg_no : Nat := eg_own.length
def eg_W1 : List Cond := (List.range eg_no).flatMap (fun o => (eg_fT.getD o []).map (eg_fw o))
def eg_W2 : List Cond := (List.range eg_no).flatMap (fun o => (eg_sT.getD o []).flatMap (eg_sw1 o))
def eg_W3 : List Cond := (List.range eg_no).flatMap (fun o => (eg_kT.getD o []).flatMap (eg_kw o))
def eg_W4 : List Cond := (List.range eg_no).flatMap (fun o => (eg_cT.getD o []).map (eg_cw o))
def eg_W5 : List Cond := (List.range eg_no).flatMap (fun o => (eg_mT.getD o []).flatMap (eg_mw o))
def eg_W6 : List Cond := eg_MM.flatMap (fun l => l.map eg_yw)
def eg_W7 : List Cond := eg_cl.flatMap (fun q => u_ws q.1 q.2.1 q.2.2)
def eg_W8 : List Cond := eg_cl.flatMap (fun q => [.instantiable q.1 q.2.2, .initialized q.1])
def eg_W9 : List Cond := [.arrayClass .int, .arrayClass .byte, .arrayClass .long, .arrayClass .boolean, .arrayClass .char]
def eg_W : List Cond := eg_W1 ++ (eg_W2 ++ (eg_W3 ++ (eg_W4 ++ (eg_W5 ++ (eg_W6 ++ (eg_W7 ++ (eg_W8 ++ eg_W9)))))))
-- the constants
def eg_K (s : State) (b0 : Nat) (adc : Nat → Nat) : Prop :=
  (∀ (C n d : String) (v : Value), (C, n, d, v) ∈ eg_sv → va_Z C n d (eg_v adc v) (eg_A b0) s s.heap ∨ (v = .ref 151 ∧ va_Z C n d .null (eg_A b0) s s.heap)) ∧
  (∀ (i ci : Nat) (fs : List Value), i < eg_NC → eg_con i = .inr (ci, fs) → ∀ (k : Nat) (v : Value), fs[k]? = some v → va_OF (eg_fd ci k).1 (eg_fd ci k).2.1 (eg_fd ci k).2.2.1 (eg_v adc v) (adc i) (eg_A b0) s s.heap) ∧
  (∀ (i t : Nat) (x : vp_A), i < eg_NC → eg_con i = .inl (t, x) → va_T (eg_tt t) (adc i) x.1 (fun j => eg_v adc ((eg_rd t x j).getD .null)) (eg_A b0) s s.heap) ∧
  (∀ i j : Nat, i < 36 → j < 36 → adc i = adc j → i = j) ∧ (∀ i : Nat, i < 36 → adc i < b0) ∧
  (∀ i : Nat, i < 36 → va_O "KnobEye$Word" (adc i) (eg_A b0) s s.heap) ∧ (∀ i : Nat, i < eg_NS → va_O "java/lang/String" (adc (36 + i)) (eg_A b0) s s.heap) ∧
  (∀ (o idx j : Nat), (idx, Value.ref (36 + j)) ∈ eg_kT.getD o [] → ∃ tx : String, vk_R (eg_on o) idx tx (adc (36 + j)) s)
def eg_X (p : Program) (s : State) (m : MethodId) (args : Array Value) (meth : Method) (c : Code) (R : Room) (b0 : Nat) (D : va_G) (dA : Nat → ClassId) (adc : Nat → Nat) (o : Nat) (ini : Bool) (mc ms : Nat) (cc : ByteArray) : Prop :=
  p.tables.exec = Jvm.exec ∧ c.code = cc ∧ s.vm.findClass (eg_on o) = some m.cls ∧ (∀ w ∈ eg_W, w.before args s = true) ∧ va_K D eg_cl (eg_tys dA) s ∧ eg_K s b0 adc ∧
  (∀ ci : Nat, eg_ek ci < 11 → va_AO (eg_cn ci) s) ∧ va_AOA .int s ∧ R.cells = mc ∧ R.slots = ms ∧ (ini = true → meth.name = "<init>") ∧ b0 ≤ s.heap.size
section EGJ
variable {p : Program} {l : Launch} {e : Env} {R : Room} {s : State} {m : MethodId} {args : Array Value} {below : List Frame} {meth : Method} {c : Code} {Q : State → Prop} {b0 : Nat} {D : va_G} {dA : Nat → ClassId} {adc : Nat → Nat} {n0 : Nat} {ad0 : Nat → Nat} {o : Nat} {ini : Bool} {mc ms : Nat} {cc : ByteArray}
def eg_J (p : Program) (l : Launch) (e : Env) (R : Room) (s : State) (m : MethodId) (args : Array Value) (below : List Frame) (meth : Method) (c : Code) (Q : State → Prop) (b0 : Nat) (D : va_G) (dA : Nat → ClassId) (adc : Nat → Nat) (n0 : Nat) (ad0 : Nat → Nat) (pc : Nat) (L : eg_Ls) (st : List Value) (G : eg_G) (ck sk : Nat) : Prop :=
  ∀ (ad : Nat → Nat) (H : Heap) (locs : List Loc) (ls : Array Slot), eg_Rel s b0 D dA adc n0 ad0 ad G H locs → eg_LR ad G.2 ls L → (∀ v ∈ st, eg_okv G.2 v) → W p l e R s m args below meth c H locs ck sk Q (F0 m pc ls (st.map (eg_v ad)))
variable {pc pc' len : Nat} {L L' : eg_Ls} {st st' : List Value} {G G' : eg_G} {ck sk ck' sk' : Nat} {ins : Instr}
theorem eg_oki {n : Nat} {x : Int32} : eg_okv n (.int x) := fun _ h => nomatch h
theorem eg_okl {n : Nat} {x : Int64} : eg_okv n (.long x) := fun _ h => nomatch h
theorem eg_okn {n : Nat} : eg_okv n .null := fun _ h => nomatch h
theorem eg_okr {n i : Nat} (h : i < n) : eg_okv n (.ref i) := fun _ q => by cases q; exact h
theorem eg_vcat (ad : Nat → Nat) (v : Value) : (eg_v ad v).category = v.category := by cases v <;> rfl
theorem sj_ii {f : Int32 → Int32 → Int32} (row : ∀ {H : Heap} {locs : List Loc} {ck sk : Nat} {ls : Array Slot} {rest : List Value} {x y : Int32}, W p l e R s m args below meth c H locs ck sk Q (F0 m (pc + 1) ls (.int (f x y) :: rest)) → W p l e R s m args below meth c H locs ck sk Q (F0 m pc ls (.int y :: .int x :: rest)))
    (h : eg_ii pc L st G ck sk f = some (pc', L', st', G', ck', sk')) (k : eg_J p l e R s m args below meth c Q b0 D dA adc n0 ad0 pc' L' st' G' ck' sk') : eg_J p l e R s m args below meth c Q b0 D dA adc n0 ad0 pc L st G ck sk := by
  unfold eg_ii at h
  split at h
  · cases h
    intro ad H locs ls hR hL hS
    obtain ⟨-, h2⟩ := List.forall_mem_cons.mp hS
    obtain ⟨-, h2⟩ := List.forall_mem_cons.mp h2
    exact row (k ad H locs ls hR hL (List.forall_mem_cons.mpr ⟨eg_oki, h2⟩))
  · cases h
theorem sj_l2 {f : Int64 → Int64 → Int64} (row : ∀ {H : Heap} {locs : List Loc} {ck sk : Nat} {ls : Array Slot} {rest : List Value} {x y : Int64}, W p l e R s m args below meth c H locs ck sk Q (F0 m (pc + 1) ls (.long (f x y) :: rest)) → W p l e R s m args below meth c H locs ck sk Q (F0 m pc ls (.long y :: .long x :: rest)))
    (h : eg_l2 pc L st G ck sk f = some (pc', L', st', G', ck', sk')) (k : eg_J p l e R s m args below meth c Q b0 D dA adc n0 ad0 pc' L' st' G' ck' sk') : eg_J p l e R s m args below meth c Q b0 D dA adc n0 ad0 pc L st G ck sk := by
  unfold eg_l2 at h
  split at h
  · cases h
    intro ad H locs ls hR hL hS
    obtain ⟨-, h2⟩ := List.forall_mem_cons.mp hS
    obtain ⟨-, h2⟩ := List.forall_mem_cons.mp h2
    exact row (k ad H locs ls hR hL (List.forall_mem_cons.mpr ⟨eg_okl, h2⟩))
  · cases h
theorem sj_ls {f : Int64 → Int32 → Int64} (row : ∀ {H : Heap} {locs : List Loc} {ck sk : Nat} {ls : Array Slot} {rest : List Value} {x : Int64} {y : Int32}, W p l e R s m args below meth c H locs ck sk Q (F0 m (pc + 1) ls (.long (f x y) :: rest)) → W p l e R s m args below meth c H locs ck sk Q (F0 m pc ls (.int y :: .long x :: rest)))
    (h : eg_ls pc L st G ck sk f = some (pc', L', st', G', ck', sk')) (k : eg_J p l e R s m args below meth c Q b0 D dA adc n0 ad0 pc' L' st' G' ck' sk') : eg_J p l e R s m args below meth c Q b0 D dA adc n0 ad0 pc L st G ck sk := by
  unfold eg_ls at h
  split at h
  · cases h
    intro ad H locs ls hR hL hS
    obtain ⟨-, h2⟩ := List.forall_mem_cons.mp hS
    obtain ⟨-, h2⟩ := List.forall_mem_cons.mp h2
    exact row (k ad H locs ls hR hL (List.forall_mem_cons.mpr ⟨eg_okl, h2⟩))
  · cases h
theorem eg_lq_at (ad : Nat → Nat) : ∀ (L : eg_Ls) (i k : Nat) (v : Value), L[k]? = some (some v) → (i + k, eg_v ad v) ∈ eg_lq ad i L
  | [], _, _, _, h => by simp at h
  | none :: t, i, 0, v, h => by simp at h
  | none :: t, i, k + 1, v, h => by
    have := eg_lq_at ad t (i + 1) k v (by simpa using h)
    rw [show i + (k + 1) = i + 1 + k by omega]
    exact this
  | some w :: t, i, 0, v, h => by
    simp at h
    subst h
    exact List.mem_cons_self
  | some w :: t, i, k + 1, v, h => by
    have := eg_lq_at ad t (i + 1) k v (by simpa using h)
    rw [show i + (k + 1) = i + 1 + k by omega]
    exact List.mem_cons_of_mem _ this
theorem eg_lq_of (ad : Nat → Nat) : ∀ (L : eg_Ls) (i : Nat) (q : Nat × Value), q ∈ eg_lq ad i L → ∃ (k : Nat) (v : Value), q = (i + k, eg_v ad v) ∧ L[k]? = some (some v)
  | [], _, _, h => by simp [eg_lq] at h
  | none :: t, i, q, h => by
    obtain ⟨k, v, h1, h2⟩ := eg_lq_of ad t (i + 1) q h
    exact ⟨k + 1, v, by rw [h1]; congr 1; omega, by simpa using h2⟩
  | some w :: t, i, q, h => by
    rcases List.mem_cons.mp h with h | h
    · exact ⟨0, w, h, by simp⟩
    · obtain ⟨k, v, h1, h2⟩ := eg_lq_of ad t (i + 1) q h
      exact ⟨k + 1, v, by rw [h1]; congr 1; omega, by simpa using h2⟩
theorem eg_ld_at {L : eg_Ls} {i : Nat} {v : Value} (h : eg_ld L i = some v) : L[i]? = some (some v) := by
  unfold eg_ld at h
  cases hc : L[i]? with
  | none => rw [hc] at h; cases h
  | some x => rw [hc] at h; cases x with
    | none => cases h
    | some w => cases h; rfl
theorem eg_LR_at {ad : Nat → Nat} {n : Nat} {ls : Array Slot} {L : eg_Ls} {i : Nat} {v : Value} (h : eg_LR ad n ls L) (hv : eg_ld L i = some v) : ls[i]? = some (.val (eg_v ad v)) ∧ eg_okv n v := by
  have h1 := eg_ld_at hv
  refine ⟨?_, h.2 v (List.mem_of_getElem? h1)⟩
  have h2 := eg_lq_at ad L 0 i v h1
  rw [Nat.zero_add] at h2
  exact h.1.2.2 _ h2
theorem eg_s1_len : ∀ (L : eg_Ls) (i : Nat) (v : Value), (eg_s1 L i v).length = L.length
  | [], _, _ => by simp [eg_s1]
  | _ :: t, 0, v => by simp [eg_s1]
  | x :: t, 1, v => by simp [eg_s1, eg_s1_len t 0 v]
  | x :: t, i + 2, v => by simp [eg_s1, eg_s1_len t (i + 1) v]
theorem eg_s2_len : ∀ (L : eg_Ls) (i : Nat) (v : Value), (eg_s2 L i v).length = L.length
  | [], _, _ => by simp [eg_s2]
  | [x], _, _ => by simp [eg_s2]
  | _ :: _ :: t, 0, v => by simp [eg_s2]
  | x :: y :: t, 1, v => by simp [eg_s2, eg_s2_len (y :: t) 0 v]
  | x :: y :: t, i + 2, v => by simp [eg_s2, eg_s2_len (y :: t) (i + 1) v]
theorem eg_nl_some {x : Option Value} {w : Value} (h : eg_nl x = some w) : x = some w ∧ w.category = 1 := by
  unfold eg_nl at h
  split at h
  · cases h
  · cases h
  · rename_i h1 h2
    subst h
    refine ⟨rfl, ?_⟩
    cases w <;> first | rfl | exact absurd rfl (h1 _) | exact absurd rfl (h2 _)
theorem eg_s1_at : ∀ (L : eg_Ls) (i k : Nat) (v w : Value), (eg_s1 L i v)[k]? = some (some w) → (k = i ∧ w = v) ∨ (k ≠ i ∧ L[k]? = some (some w) ∧ (k + 1 = i → w.category = 1))
  | [], _, _, _, _, h => by simp [eg_s1] at h
  | x :: t, 0, 0, v, w, h => by
    simp [eg_s1] at h
    exact Or.inl ⟨rfl, h.symm⟩
  | x :: t, 0, k + 1, v, w, h => by
    simp [eg_s1] at h
    exact Or.inr ⟨by omega, by simpa using h, by omega⟩
  | x :: t, 1, 0, v, w, h => by
    simp [eg_s1] at h
    obtain ⟨h1, h2⟩ := eg_nl_some h
    exact Or.inr ⟨by omega, by simp [h1], fun _ => h2⟩
  | x :: t, 1, k + 1, v, w, h => by
    simp only [eg_s1, List.getElem?_cons_succ] at h
    rcases eg_s1_at t 0 k v w h with ⟨h1, h2⟩ | ⟨h1, h2, -⟩
    · exact Or.inl ⟨by omega, h2⟩
    · exact Or.inr ⟨by omega, by simpa using h2, by omega⟩
  | x :: t, i + 2, 0, v, w, h => by
    simp [eg_s1] at h
    exact Or.inr ⟨by omega, by simp [h], by omega⟩
  | x :: t, i + 2, k + 1, v, w, h => by
    simp only [eg_s1, List.getElem?_cons_succ] at h
    rcases eg_s1_at t (i + 1) k v w h with ⟨h1, h2⟩ | ⟨h1, h2, h3⟩
    · exact Or.inl ⟨by omega, h2⟩
    · exact Or.inr ⟨by omega, by simpa using h2, fun q => h3 (by omega)⟩
theorem eg_s2_at : ∀ (L : eg_Ls) (i k : Nat) (v w : Value), (eg_s2 L i v)[k]? = some (some w) → i + 1 < L.length → (k = i ∧ w = v) ∨ (k ≠ i ∧ k ≠ i + 1 ∧ L[k]? = some (some w) ∧ (k + 1 = i → w.category = 1))
  | [], _, _, _, _, _, hl => by simp at hl
  | [x], i, _, _, _, _, hl => by simp at hl
  | x :: y :: t, 0, 0, v, w, h, _ => by
    simp [eg_s2] at h
    exact Or.inl ⟨rfl, h.symm⟩
  | x :: y :: t, 0, 1, v, w, h, _ => by simp [eg_s2] at h
  | x :: y :: t, 0, k + 2, v, w, h, _ => by
    simp [eg_s2] at h
    exact Or.inr ⟨by omega, by omega, by simpa using h, by omega⟩
  | x :: y :: t, 1, 0, v, w, h, _ => by
    simp [eg_s2] at h
    obtain ⟨h1, h2⟩ := eg_nl_some h
    exact Or.inr ⟨by omega, by omega, by simp [h1], fun _ => h2⟩
  | x :: y :: t, 1, k + 1, v, w, h, hl => by
    simp only [eg_s2, List.getElem?_cons_succ] at h
    rcases eg_s2_at (y :: t) 0 k v w h (by simp at hl ⊢; omega) with ⟨h1, h2⟩ | ⟨h1, h2, h3, -⟩
    · exact Or.inl ⟨by omega, h2⟩
    · exact Or.inr ⟨by omega, by omega, by simpa using h3, by omega⟩
  | x :: y :: t, i + 2, 0, v, w, h, _ => by
    simp [eg_s2] at h
    exact Or.inr ⟨by omega, by omega, by simp [h], by omega⟩
  | x :: y :: t, i + 2, k + 1, v, w, h, hl => by
    simp only [eg_s2, List.getElem?_cons_succ] at h
    rcases eg_s2_at (y :: t) (i + 1) k v w h (by simp at hl ⊢; omega) with ⟨h1, h2⟩ | ⟨h1, h2, h3, h4⟩
    · exact Or.inl ⟨by omega, h2⟩
    · exact Or.inr ⟨by omega, by omega, by simpa using h3, fun q => h4 (by omega)⟩
theorem eg_LR_s1 {ad : Nat → Nat} {n i : Nat} {ls ls' : Array Slot} {L : eg_Ls} {v : Value} (h : eg_LR ad n ls L) (hv : eg_okv n v)
    (h' : lv_has ls' L.length ((i, eg_v ad v) :: (eg_lq ad 0 L).filter (fun q => !(q.1 == i) && !(q.1 + 1 == i && q.2.category == 2)))) : eg_LR ad n ls' (eg_s1 L i v) := by
  refine ⟨⟨by rw [eg_s1_len]; exact h'.1, h'.2.1, fun q hq => h'.2.2 q ?_⟩, fun w hw => ?_⟩
  · obtain ⟨k, w, rfl, hk⟩ := eg_lq_of ad _ _ _ hq
    rw [Nat.zero_add]
    rcases eg_s1_at L i k v w hk with ⟨rfl, rfl⟩ | ⟨h1, h2, h3⟩
    · exact List.mem_cons_self
    · refine List.mem_cons_of_mem _ (List.mem_filter.mpr ⟨?_, ?_⟩)
      · have := eg_lq_at ad L 0 k w h2
        rwa [Nat.zero_add] at this
      · simp only [eg_vcat]
        by_cases hki : k + 1 = i
        · simp [h1, hki, h3 hki]
        · simp [h1, hki]
  · obtain ⟨k, hk⟩ := List.getElem?_of_mem hw
    rcases eg_s1_at L i k v w hk with ⟨-, rfl⟩ | ⟨-, h2, -⟩
    · exact hv
    · exact h.2 w (List.mem_of_getElem? h2)
theorem eg_LR_s2 {ad : Nat → Nat} {n i : Nat} {ls ls' : Array Slot} {L : eg_Ls} {v : Value} (h : eg_LR ad n ls L) (hv : eg_okv n v) (hi : i + 1 < L.length)
    (h' : lv_has ls' L.length ((i, eg_v ad v) :: (eg_lq ad 0 L).filter (fun q => !(q.1 == i) && (!(q.1 == i + 1) && !(q.1 + 1 == i && q.2.category == 2))))) : eg_LR ad n ls' (eg_s2 L i v) := by
  refine ⟨⟨by rw [eg_s2_len]; exact h'.1, h'.2.1, fun q hq => h'.2.2 q ?_⟩, fun w hw => ?_⟩
  · obtain ⟨k, w, rfl, hk⟩ := eg_lq_of ad _ _ _ hq
    rw [Nat.zero_add]
    rcases eg_s2_at L i k v w hk hi with ⟨rfl, rfl⟩ | ⟨h1, h1', h2, h3⟩
    · exact List.mem_cons_self
    · refine List.mem_cons_of_mem _ (List.mem_filter.mpr ⟨?_, ?_⟩)
      · have := eg_lq_at ad L 0 k w h2
        rwa [Nat.zero_add] at this
      · simp only [eg_vcat]
        by_cases hki : k + 1 = i
        · simp [h1, h1', hki, h3 hki]
        · simp [h1, h1', hki]
  · obtain ⟨k, hk⟩ := List.getElem?_of_mem hw
    rcases eg_s2_at L i k v w hk hi with ⟨-, rfl⟩ | ⟨-, -, h2, -⟩
    · exact hv
    · exact h.2 w (List.mem_of_getElem? h2)
theorem sj_li {i : Nat} (row : ∀ {H : Heap} {locs : List Loc} {ck sk : Nat} {ls : Array Slot} {rest : List Value} {x : Int32}, ls[i]? = some (.val (.int x)) → W p l e R s m args below meth c H locs ck sk Q (F0 m (pc + len) ls (.int x :: rest)) → W p l e R s m args below meth c H locs ck sk Q (F0 m pc ls rest))
    (h : eg_li pc L st G ck sk i len = some (pc', L', st', G', ck', sk')) (k : eg_J p l e R s m args below meth c Q b0 D dA adc n0 ad0 pc' L' st' G' ck' sk') : eg_J p l e R s m args below meth c Q b0 D dA adc n0 ad0 pc L st G ck sk := by
  unfold eg_li at h
  split at h
  · rename_i x hx
    cases h
    intro ad H locs ls hR hL hS
    exact row (eg_LR_at hL hx).1 (k ad H locs ls hR hL (List.forall_mem_cons.mpr ⟨eg_oki, hS⟩))
  · cases h
theorem sj_ll {i : Nat} (row : ∀ {H : Heap} {locs : List Loc} {ck sk : Nat} {ls : Array Slot} {rest : List Value} {x : Int64}, ls[i]? = some (.val (.long x)) → W p l e R s m args below meth c H locs ck sk Q (F0 m (pc + len) ls (.long x :: rest)) → W p l e R s m args below meth c H locs ck sk Q (F0 m pc ls rest))
    (h : eg_ll pc L st G ck sk i len = some (pc', L', st', G', ck', sk')) (k : eg_J p l e R s m args below meth c Q b0 D dA adc n0 ad0 pc' L' st' G' ck' sk') : eg_J p l e R s m args below meth c Q b0 D dA adc n0 ad0 pc L st G ck sk := by
  unfold eg_ll at h
  split at h
  · rename_i x hx
    cases h
    intro ad H locs ls hR hL hS
    exact row (eg_LR_at hL hx).1 (k ad H locs ls hR hL (List.forall_mem_cons.mpr ⟨eg_okl, hS⟩))
  · cases h
theorem sj_la {i : Nat} (row : ∀ {H : Heap} {locs : List Loc} {ck sk : Nat} {ls : Array Slot} {rest : List Value} {x : Nat}, ls[i]? = some (.val (.ref x)) → W p l e R s m args below meth c H locs ck sk Q (F0 m (pc + len) ls (.ref x :: rest)) → W p l e R s m args below meth c H locs ck sk Q (F0 m pc ls rest))
    (rowN : ∀ {H : Heap} {locs : List Loc} {ck sk : Nat} {ls : Array Slot} {rest : List Value}, ls[i]? = some (.val .null) → W p l e R s m args below meth c H locs ck sk Q (F0 m (pc + len) ls (.null :: rest)) → W p l e R s m args below meth c H locs ck sk Q (F0 m pc ls rest))
    (h : eg_la pc L st G ck sk i len = some (pc', L', st', G', ck', sk')) (k : eg_J p l e R s m args below meth c Q b0 D dA adc n0 ad0 pc' L' st' G' ck' sk') : eg_J p l e R s m args below meth c Q b0 D dA adc n0 ad0 pc L st G ck sk := by
  unfold eg_la at h
  split at h
  · rename_i x hx
    cases h
    intro ad H locs ls hR hL hS
    exact row (eg_LR_at hL hx).1 (k ad H locs ls hR hL (List.forall_mem_cons.mpr ⟨(eg_LR_at hL hx).2, hS⟩))
  · rename_i hx
    cases h
    intro ad H locs ls hR hL hS
    exact rowN (eg_LR_at hL hx).1 (k ad H locs ls hR hL (List.forall_mem_cons.mpr ⟨eg_okn, hS⟩))
  · cases h
theorem sj_si {i : Nat} (row : ∀ {H : Heap} {locs : List Loc} {ck sk : Nat} {ls : Array Slot} {rest : List Value} {x : Int32} {nL : Nat} {lv : List (Nat × Value)}, lv_has ls nL lv → i < nL → (∀ ls' : Array Slot, lv_has ls' nL ((i, Value.int x) :: lv.filter (fun q => !(q.1 == i) && !(q.1 + 1 == i && q.2.category == 2))) → W p l e R s m args below meth c H locs ck sk Q (F0 m (pc + len) ls' rest)) → W p l e R s m args below meth c H locs ck sk Q (F0 m pc ls (.int x :: rest)))
    (h : eg_si pc L st G ck sk i len = some (pc', L', st', G', ck', sk')) (k : eg_J p l e R s m args below meth c Q b0 D dA adc n0 ad0 pc' L' st' G' ck' sk') : eg_J p l e R s m args below meth c Q b0 D dA adc n0 ad0 pc L st G ck sk := by
  unfold eg_si at h
  split at h
  · split at h
    · rename_i hi
      cases h
      intro ad H locs ls hR hL hS
      obtain ⟨h1, h2⟩ := List.forall_mem_cons.mp hS
      exact row hL.1 hi (fun ls' hl' => k ad H locs ls' hR (eg_LR_s1 (v := .int _) hL h1 hl') h2)
    · cases h
  · cases h
theorem sj_sl {i : Nat} (row : ∀ {H : Heap} {locs : List Loc} {ck sk : Nat} {ls : Array Slot} {rest : List Value} {x : Int64} {nL : Nat} {lv : List (Nat × Value)}, lv_has ls nL lv → i + 1 < nL → (∀ ls' : Array Slot, lv_has ls' nL ((i, Value.long x) :: lv.filter (fun q => !(q.1 == i) && (!(q.1 == i + 1) && !(q.1 + 1 == i && q.2.category == 2)))) → W p l e R s m args below meth c H locs ck sk Q (F0 m (pc + len) ls' rest)) → W p l e R s m args below meth c H locs ck sk Q (F0 m pc ls (.long x :: rest)))
    (h : eg_sl2 pc L st G ck sk i len = some (pc', L', st', G', ck', sk')) (k : eg_J p l e R s m args below meth c Q b0 D dA adc n0 ad0 pc' L' st' G' ck' sk') : eg_J p l e R s m args below meth c Q b0 D dA adc n0 ad0 pc L st G ck sk := by
  unfold eg_sl2 at h
  split at h
  · split at h
    · rename_i hi
      cases h
      intro ad H locs ls hR hL hS
      obtain ⟨h1, h2⟩ := List.forall_mem_cons.mp hS
      exact row hL.1 hi (fun ls' hl' => k ad H locs ls' hR (eg_LR_s2 (v := .long _) hL h1 hi hl') h2)
    · cases h
  · cases h
theorem sj_sa {i : Nat} (row : ∀ {H : Heap} {locs : List Loc} {ck sk : Nat} {ls : Array Slot} {rest : List Value} {x : Nat} {nL : Nat} {lv : List (Nat × Value)}, lv_has ls nL lv → i < nL → (∀ ls' : Array Slot, lv_has ls' nL ((i, Value.ref x) :: lv.filter (fun q => !(q.1 == i) && !(q.1 + 1 == i && q.2.category == 2))) → W p l e R s m args below meth c H locs ck sk Q (F0 m (pc + len) ls' rest)) → W p l e R s m args below meth c H locs ck sk Q (F0 m pc ls (.ref x :: rest)))
    (rowN : ∀ {H : Heap} {locs : List Loc} {ck sk : Nat} {ls : Array Slot} {rest : List Value} {nL : Nat} {lv : List (Nat × Value)}, lv_has ls nL lv → i < nL → (∀ ls' : Array Slot, lv_has ls' nL ((i, Value.null) :: lv.filter (fun q => !(q.1 == i) && !(q.1 + 1 == i && q.2.category == 2))) → W p l e R s m args below meth c H locs ck sk Q (F0 m (pc + len) ls' rest)) → W p l e R s m args below meth c H locs ck sk Q (F0 m pc ls (.null :: rest)))
    (h : eg_sa pc L st G ck sk i len = some (pc', L', st', G', ck', sk')) (k : eg_J p l e R s m args below meth c Q b0 D dA adc n0 ad0 pc' L' st' G' ck' sk') : eg_J p l e R s m args below meth c Q b0 D dA adc n0 ad0 pc L st G ck sk := by
  unfold eg_sa at h
  split at h
  · split at h
    · rename_i hi
      cases h
      intro ad H locs ls hR hL hS
      obtain ⟨h1, h2⟩ := List.forall_mem_cons.mp hS
      exact row hL.1 hi (fun ls' hl' => k ad H locs ls' hR (eg_LR_s1 (v := .ref _) hL h1 hl') h2)
    · cases h
  · split at h
    · rename_i hi
      cases h
      intro ad H locs ls hR hL hS
      obtain ⟨h1, h2⟩ := List.forall_mem_cons.mp hS
      exact rowN hL.1 hi (fun ls' hl' => k ad H locs ls' hR (eg_LR_s1 (v := .null) hL h1 hl') h2)
    · cases h
  · cases h
end EGJ
end
section
/-! the heap's steps -/
theorem eg_lk {β : Type} {i : Nat} {b : β} : ∀ {l : List (Nat × β)}, l.lookup i = some b → (i, b) ∈ l
  | [], h => by simp at h
  | (j, c) :: t, h => by
    rw [List.lookup_cons] at h
    by_cases hij : i = j
    · subst hij
      simp at h
      subst h
      exact List.mem_cons_self
    · have : (i == j) = false := by simpa using hij
      rw [this] at h
      exact List.mem_cons_of_mem _ (eg_lk h)
theorem eg_gd {α : Type} {T : List (List α)} {o n : Nat} {e : α} (h : e ∈ T.getD o []) (hl : T.length = n) : o ∈ List.range n := by
  rw [List.mem_range, ← hl]
  rcases Nat.lt_or_ge o T.length with q | q
  · exact q
  · rw [List.getD_eq_getElem?_getD, List.getElem?_eq_none q] at h
    cases h
theorem eg_w1 {o : Nat} {e : Nat × Nat × Nat × Option String} (h : e ∈ eg_fT.getD o []) : eg_fw o e ∈ eg_W :=
  List.mem_append_left _ (List.mem_flatMap.mpr ⟨o, eg_gd h rfl, List.mem_map.mpr ⟨e, h, rfl⟩⟩)
theorem eg_w2 {o : Nat} {e : Nat × Nat × Option String} (h : e ∈ eg_sT.getD o []) : ∀ w ∈ eg_sw1 o e, w ∈ eg_W := fun w hw =>
  List.mem_append_right _ (List.mem_append_left _ (List.mem_flatMap.mpr ⟨o, eg_gd h rfl, List.mem_flatMap.mpr ⟨e, h, hw⟩⟩))
theorem eg_w3 {o : Nat} {e : Nat × Value} (h : e ∈ eg_kT.getD o []) : ∀ w ∈ eg_kw o e, w ∈ eg_W := fun w hw =>
  List.mem_append_right _ (List.mem_append_right _ (List.mem_append_left _ (List.mem_flatMap.mpr ⟨o, eg_gd h rfl, List.mem_flatMap.mpr ⟨e, h, hw⟩⟩)))
theorem eg_w4 {o : Nat} {e : Nat × Nat} (h : e ∈ eg_cT.getD o []) : eg_cw o e ∈ eg_W :=
  List.mem_append_right _ (List.mem_append_right _ (List.mem_append_right _ (List.mem_append_left _ (List.mem_flatMap.mpr ⟨o, eg_gd h rfl, List.mem_map.mpr ⟨e, h, rfl⟩⟩))))
theorem eg_w5 {o : Nat} {e : Nat × Nat × Nat × Option String} (h : e ∈ eg_mT.getD o []) : ∀ w ∈ eg_mw o e, w ∈ eg_W := fun w hw =>
  List.mem_append_right _ (List.mem_append_right _ (List.mem_append_right _ (List.mem_append_right _ (List.mem_append_left _ (List.mem_flatMap.mpr ⟨o, eg_gd h rfl, List.mem_flatMap.mpr ⟨e, h, hw⟩⟩)))))
theorem eg_w6 {l : List (eg_MI × List (Nat × Instr × Nat))} {q : eg_MI × List (Nat × Instr × Nat)} (hl : l ∈ eg_MM) (h : q ∈ l) : eg_yw q ∈ eg_W :=
  List.mem_append_right _ (List.mem_append_right _ (List.mem_append_right _ (List.mem_append_right _ (List.mem_append_right _ (List.mem_append_left _ (List.mem_flatMap.mpr ⟨l, hl, List.mem_map.mpr ⟨q, h, rfl⟩⟩))))))
theorem eg_w7 {q : vw_C} (h : q ∈ eg_cl) : ∀ w ∈ u_ws q.1 q.2.1 q.2.2, w ∈ eg_W := fun w hw =>
  List.mem_append_right _ (List.mem_append_right _ (List.mem_append_right _ (List.mem_append_right _ (List.mem_append_right _ (List.mem_append_right _ (List.mem_append_left _ (List.mem_flatMap.mpr ⟨q, h, hw⟩)))))))
theorem eg_w8 {q : vw_C} (h : q ∈ eg_cl) : Cond.instantiable q.1 q.2.2 ∈ eg_W ∧ Cond.initialized q.1 ∈ eg_W := by
  have h1 : ∀ w ∈ ([.instantiable q.1 q.2.2, .initialized q.1] : List Cond), w ∈ eg_W := fun w hw =>
    List.mem_append_right _ (List.mem_append_right _ (List.mem_append_right _ (List.mem_append_right _ (List.mem_append_right _ (List.mem_append_right _ (List.mem_append_right _ (List.mem_append_left _ (List.mem_flatMap.mpr ⟨q, h, hw⟩))))))))
  exact ⟨h1 _ (by simp), h1 _ (by simp)⟩
theorem eg_w9 {w : Cond} (h : w ∈ eg_W9) : w ∈ eg_W :=
  List.mem_append_right _ (List.mem_append_right _ (List.mem_append_right _ (List.mem_append_right _ (List.mem_append_right _ (List.mem_append_right _ (List.mem_append_right _ (List.mem_append_right _ h)))))))
-- the classes' tables
theorem eg_fT_ok : eg_fT.all (fun l => l.all (fun e => decide (e.2.1 < 14) && (decide (12 ≤ e.2.1) || decide (e.2.2.1 < (eg_cl.getD e.2.1 ("", eg_T0, 0)).2.2)))) = true := by decide +kernel
theorem eg_ty_ok : (List.range 12).all (fun ci => (List.range (eg_cl.getD ci ("", eg_T0, 0)).2.2).all (fun k => decide (parseFieldDescriptor ((eg_cl.getD ci ("", eg_T0, 0)).2.1 k).2.2.1 = some (eg_yl.getD ci (fun _ => .int) k)))) = true := by decide +kernel
theorem eg_nm_ok : (List.range 12).all (fun ci => (List.range (eg_cl.getD ci ("", eg_T0, 0)).2.2).all (fun a => (List.range (eg_cl.getD ci ("", eg_T0, 0)).2.2).all (fun b => decide (a = b) || decide (((eg_cl.getD ci ("", eg_T0, 0)).2.1 a).2.1 ≠ ((eg_cl.getD ci ("", eg_T0, 0)).2.1 b).2.1)))) = true := by decide +kernel
theorem eg_cl_get {ci : Nat} {r : vw_C} (h : eg_cl[ci]? = some r) : eg_cl.getD ci ("", eg_T0, 0) = r ∧ ci < 12 := by
  refine ⟨by rw [List.getD_eq_getElem?_getD, h]; rfl, ?_⟩
  have := (List.getElem?_eq_some_iff.mp h).1
  exact this
theorem eg_cl_ty {ci : Nat} {r : vw_C} (h : eg_cl[ci]? = some r) : ∀ k, k < r.2.2 → parseFieldDescriptor (r.2.1 k).2.2.1 = some (eg_yl.getD ci (fun _ => .int) k) := by
  obtain ⟨h1, h2⟩ := eg_cl_get h
  intro k hk
  have h3 := List.all_eq_true.mp eg_ty_ok ci (List.mem_range.mpr h2)
  rw [h1] at h3
  exact of_decide_eq_true (List.all_eq_true.mp h3 k (List.mem_range.mpr hk))
theorem eg_cl_nm {ci : Nat} {r : vw_C} (h : eg_cl[ci]? = some r) : ∀ a, a < r.2.2 → ∀ b, b < r.2.2 → a ≠ b → (r.2.1 a).2.1 ≠ (r.2.1 b).2.1 := by
  obtain ⟨h1, h2⟩ := eg_cl_get h
  intro a ha b hb hab
  have h3 := List.all_eq_true.mp eg_nm_ok ci (List.mem_range.mpr h2)
  rw [h1] at h3
  have h4 := List.all_eq_true.mp (List.all_eq_true.mp h3 a (List.mem_range.mpr ha)) b (List.mem_range.mpr hb)
  rcases (Bool.or_eq_true _ _ ▸ h4 : _ ∨ _) with h5 | h5
  · exact absurd (of_decide_eq_true h5) hab
  · exact of_decide_eq_true h5
theorem eg_fd_cl {ci : Nat} {r : vw_C} (h : eg_cl[ci]? = some r) (k : Nat) : eg_fd ci k = r.2.1 k := by
  obtain ⟨h1, h2⟩ := eg_cl_get h
  match ci, h2 with
  | 0, _ => cases h; rfl
  | 1, _ => cases h; rfl
  | 2, _ => cases h; rfl
  | 3, _ => cases h; rfl
  | 4, _ => cases h; rfl
  | 5, _ => cases h; rfl
  | 6, _ => cases h; rfl
  | 7, _ => cases h; rfl
  | 8, _ => cases h; rfl
  | 9, _ => cases h; rfl
  | 10, _ => cases h; rfl
  | 11, _ => cases h; rfl
  | n + 12, h2 => exact absurd h2 (by omega)
theorem eg_fT_k {o : Nat} {e : Nat × Nat × Nat × Option String} (h : e ∈ eg_fT.getD o []) {r : vw_C} (hr : eg_cl[e.2.1]? = some r) : e.2.2.1 < r.2.2 := by
  obtain ⟨h1, h2⟩ := eg_cl_get hr
  have h0 : eg_fT.getD o [] ∈ eg_fT := by
    have := List.mem_range.mp (eg_gd h rfl)
    rw [List.getD_eq_getElem?_getD, List.getElem?_eq_getElem this]
    exact List.getElem_mem this
  have h3 := List.all_eq_true.mp (List.all_eq_true.mp eg_fT_ok _ h0) e h
  simp only [Bool.and_eq_true, Bool.or_eq_true, decide_eq_true_eq] at h3
  rcases h3.2 with h4 | h4
  · omega
  · rw [h1] at h4; exact h4
-- worlds
theorem eg_ws_at {ad : Nat → Nat} {dA : Nat → ClassId} {G : eg_G} {a : Nat} (h : eg_NC ≤ a) (h2 : a < G.2) : (eg_ws ad dA G)[a - eg_NC]? = some (ad a, eg_e ad dA (G.1 a)) := by
  unfold eg_ws
  rw [List.getElem?_map, List.getElem?_range (by omega)]
  simp only [Option.map_some]
  rw [show eg_NC + (a - eg_NC) = a by omega]
theorem eg_at_hi {G : eg_G} {a : Nat} (h : eg_NC ≤ a) : eg_at G a = G.1 a := if_neg (by omega)
theorem eg_at_lo {G : eg_G} {a : Nat} (h : a < eg_NC) : eg_at G a = eg_con a := if_pos h
theorem eg_ws_set {ad : Nat → Nat} {dA : Nat → ClassId} {G : eg_G} {a : Nat} (c : eg_C) (h : eg_NC ≤ a) : (eg_ws ad dA G).set (a - eg_NC) (ad a, eg_e ad dA c) = eg_ws ad dA (eg_u G a c) := by
  apply List.ext_getElem?
  intro k
  unfold eg_ws eg_u
  rw [List.getElem?_set]
  simp only [List.length_map, List.length_range]
  by_cases hk : a - eg_NC = k
  · subst hk
    by_cases hl : a - eg_NC < G.2 - eg_NC
    · rw [if_pos rfl, if_pos hl, List.getElem?_map, List.getElem?_range hl]
      simp only [Option.map_some]
      rw [show eg_NC + (a - eg_NC) = a by omega, if_pos rfl]
    · rw [if_pos rfl, if_neg hl, List.getElem?_map, List.getElem?_eq_none (by simp; omega)]
      rfl
  · rw [if_neg hk, List.getElem?_map, List.getElem?_map]
    by_cases hl : k < G.2 - eg_NC
    · rw [List.getElem?_range hl]
      simp only [Option.map_some]
      rw [if_neg (by omega)]
    · rw [List.getElem?_eq_none (by simp; omega)]
      rfl
theorem eg_okv.up {n n' : Nat} {v : Value} (h : eg_okv n v) (hn : n ≤ n') : eg_okv n' v := fun i q => Nat.lt_of_lt_of_le (h i q) hn
theorem eg_okc.up {n n' : Nat} {c : eg_C} (h : eg_okc n c) (hn : n ≤ n') : eg_okc n' c := by
  cases c with
  | inl x => exact fun f hf j r hj => Nat.lt_of_lt_of_le (h f hf j r hj) hn
  | inr x => exact fun v hv => (h v hv).up hn
/-- another naming of the numbers that agrees below n -/
def eg_ag (n : Nat) (ad ad' : Nat → Nat) : Prop := ∀ i, i < n → ad' i = ad i
theorem eg_ag_v {n : Nat} {ad ad' : Nat → Nat} {v : Value} (ha : eg_ag n ad ad') (h : eg_okv n v) : eg_v ad' v = eg_v ad v := by
  cases v with
  | ref i => exact congrArg Value.ref (ha i (h i rfl))
  | _ => rfl
theorem eg_ag_e {n : Nat} {ad ad' : Nat → Nat} {dA : Nat → ClassId} {c : eg_C} (ha : eg_ag n ad ad') (h : eg_okc n c) : eg_e ad' dA c = eg_e ad dA c := by
  cases c with
  | inl tx =>
    obtain ⟨t, n0, y⟩ := tx
    show Sum.inl (dA t, eg_r ad' (n0, y)) = Sum.inl (dA t, eg_r ad (n0, y))
    congr 2
    rcases y with f | f | f | f | f
    · rfl
    · rfl
    · rfl
    · rfl
    · have hf : (fun j => (f j).map ad') = fun j => (f j).map ad := by
        funext j
        cases hf : f j with
        | none => rfl
        | some r => exact congrArg some (ha r (h f rfl j r hf))
      show (n0, Sum.inr (Sum.inr (Sum.inr (Sum.inr (fun j => (f j).map ad'))))) = (n0, Sum.inr (Sum.inr (Sum.inr (Sum.inr (fun j => (f j).map ad)))))
      rw [hf]
  | inr q =>
    show Sum.inr (q.1, q.2.map (eg_v ad')) = Sum.inr (q.1, q.2.map (eg_v ad))
    congr 2
    exact List.map_congr_left (fun v hv => eg_ag_v ha (h v hv))
theorem eg_ag_ws {ad ad' : Nat → Nat} {dA : Nat → ClassId} {G : eg_G} (ha : eg_ag G.2 ad ad') (h : eg_ok G) : eg_ws ad' dA G = eg_ws ad dA G := by
  unfold eg_ws
  apply List.map_congr_left
  intro k hk
  rw [List.mem_range] at hk
  rw [ha (eg_NC + k) (by omega), eg_ag_e ha (h.2 (eg_NC + k) (by omega) (by omega))]
theorem eg_ag_lq {n : Nat} {ad ad' : Nat → Nat} (ha : eg_ag n ad ad') : ∀ (L : eg_Ls) (i : Nat), (∀ v, some v ∈ L → eg_okv n v) → eg_lq ad' i L = eg_lq ad i L
  | [], _, _ => rfl
  | none :: t, i, h => eg_ag_lq ha t (i + 1) (fun v hv => h v (List.mem_cons_of_mem _ hv))
  | some v :: t, i, h => by
    show (i, eg_v ad' v) :: eg_lq ad' (i + 1) t = (i, eg_v ad v) :: eg_lq ad (i + 1) t
    rw [eg_ag_v ha (h v List.mem_cons_self), eg_ag_lq ha t (i + 1) (fun v hv => h v (List.mem_cons_of_mem _ hv))]
theorem eg_LR.up {n n' : Nat} {ad ad' : Nat → Nat} {ls : Array Slot} {L : eg_Ls} (h : eg_LR ad n ls L) (ha : eg_ag n ad ad') (hn : n ≤ n') : eg_LR ad' n' ls L :=
  ⟨by rw [eg_ag_lq ha L 0 h.2]; exact h.1, fun v hv => (h.2 v hv).up hn⟩
theorem eg_ag_st {n : Nat} {ad ad' : Nat → Nat} {st : List Value} (ha : eg_ag n ad ad') (h : ∀ v ∈ st, eg_okv n v) : st.map (eg_v ad') = st.map (eg_v ad) := List.map_congr_left (fun v hv => eg_ag_v ha (h v hv))
theorem eg_push {ad : Nat → Nat} {dA : Nat → ClassId} {G : eg_G} {q : Nat} {c : eg_C} (h : eg_ok G) (hc : eg_okc G.2 c) : eg_ws ad dA G ++ [(q, eg_e ad dA c)] = eg_ws (fun i => if i = G.2 then q else ad i) dA (eg_p G c) := by
  have ha : eg_ag G.2 ad (fun i => if i = G.2 then q else ad i) := fun i hi => if_neg (by omega)
  have h1 := h.1
  apply List.ext_getElem?
  intro k
  rw [List.getElem?_append]
  have hlen : (eg_ws ad dA G).length = G.2 - eg_NC := by simp [eg_ws]
  rw [hlen]
  by_cases hk : k < G.2 - eg_NC
  · rw [if_pos hk]
    have e1 := eg_ws_at (ad := ad) (dA := dA) (G := G) (a := eg_NC + k) (by omega) (by omega)
    have e2 := eg_ws_at (ad := fun i => if i = G.2 then q else ad i) (dA := dA) (G := eg_p G c) (a := eg_NC + k) (by omega) (by show _ < G.2 + 1; omega)
    rw [show eg_NC + k - eg_NC = k by omega] at e1 e2
    rw [e1, e2]
    have e3 : (eg_p G c).1 (eg_NC + k) = G.1 (eg_NC + k) := if_neg (by omega)
    have e4 : (if eg_NC + k = G.2 then q else ad (eg_NC + k)) = ad (eg_NC + k) := if_neg (by omega)
    rw [e3, eg_ag_e ha (h.2 _ (by omega) (by omega))]
    exact congrArg (fun z => some (z, eg_e ad dA (G.1 (eg_NC + k)))) e4.symm
  · rw [if_neg hk]
    by_cases hk2 : k = G.2 - eg_NC
    · have e2 := eg_ws_at (ad := fun i => if i = G.2 then q else ad i) (dA := dA) (G := eg_p G c) (a := G.2) h1 (Nat.lt_succ_self G.2)
      rw [← hk2] at e2
      have e3 : (eg_p G c).1 G.2 = c := if_pos rfl
      have e4 : (if G.2 = G.2 then q else ad G.2) = q := if_pos rfl
      rw [e2, hk2, Nat.sub_self, e3, eg_ag_e ha hc]
      exact congrArg (fun z => some (z, eg_e ad dA c)) e4.symm
    · rw [List.getElem?_eq_none (by simp; omega), List.getElem?_eq_none (by simp [eg_ws, eg_p]; omega)]
theorem eg_ok_u {G : eg_G} {a : Nat} {c : eg_C} (h : eg_ok G) (hc : eg_okc G.2 c) : eg_ok (eg_u G a c) := by
  refine ⟨h.1, fun i h1 h2 => ?_⟩
  show eg_okc G.2 (if i = a then c else G.1 i)
  split
  · exact hc
  · exact h.2 i h1 h2
theorem eg_ok_p {G : eg_G} {c : eg_C} (h : eg_ok G) (hc : eg_okc G.2 c) : eg_ok (eg_p G c) := by
  refine ⟨Nat.le_succ_of_le h.1, fun i h1 h2 => ?_⟩
  show eg_okc (G.2 + 1) (if i = G.2 then c else G.1 i)
  split
  · exact hc.up (Nat.le_succ _)
  · exact (h.2 i h1 (by have : i < G.2 + 1 := h2; omega)).up (Nat.le_succ _)
theorem eg_tys_at {dA : Nat → ClassId} {t : Nat} (h : t < 12) : (eg_tys dA)[t]? = some (dA t, eg_tt t) := by
  unfold eg_tys
  rw [List.getElem?_map, List.getElem?_range h]
  rfl
theorem eg_vin {i : Int32} {n : Nat} (h : 0 ≤ i.toInt ∧ i.toInt < n) : vp_in i n := vp_in_iff.mpr h
end
section
/-! the heap's steps over the machine -/
theorem eg_v_rf (ad : Nat → Nat) (x : Option Nat) : eg_v ad (va_rf x) = va_rf (x.map ad) := by cases x <;> rfl
theorem eg_okv_rf {n : Nat} {x : Option Nat} (h : ∀ i, x = some i → i < n) : eg_okv n (va_rf x) := by
  cases x with
  | none => exact eg_okn
  | some i => exact eg_okr (h i rfl)
theorem eg_nc0 : 36 + 2 * eg_NS + 4 = eg_NC := rfl
theorem eg_con_arr {i t : Nat} {x : vp_A} (hi : i < eg_NC) (h : eg_con i = .inl (t, x)) : (t = 1 ∧ ∃ f, x.2 = .inl f) ∨ (t = 9 ∧ x = (36, .inr (.inr (.inr (.inr (fun j => some j)))))) ∨ (t = 0 ∧ ∃ f, x.2 = .inl f) := by
  unfold eg_con at h
  split at h
  · cases h
  · split at h
    · cases h
    · split at h
      · cases h
        exact Or.inl ⟨rfl, _, rfl⟩
      · split at h
        · cases h
          exact Or.inr (Or.inl ⟨rfl, rfl⟩)
        · split at h
          · cases h
            exact Or.inr (Or.inr ⟨rfl, _, rfl⟩)
          · cases h
theorem eg_tt_ref {t : Nat} (h5 : 5 ≤ t) (h6 : t < 12) : (eg_tt t).isReference = true := by
  match t, h5, h6 with
  | 5, _, _ => rfl
  | 6, _, _ => rfl
  | 7, _, _ => rfl
  | 8, _, _ => rfl
  | 9, _, _ => rfl
  | 10, _, _ => rfl
  | 11, _, _ => rfl
  | k + 12, _, h => exact absurd h (by omega)
theorem eg_tt_obj {t : Nat} (h5 : 5 ≤ t) (h6 : t < 11) : ∃ C : String, eg_tt t = .object C := by
  match t, h5, h6 with
  | 5, _, _ => exact ⟨_, rfl⟩
  | 6, _, _ => exact ⟨_, rfl⟩
  | 7, _, _ => exact ⟨_, rfl⟩
  | 8, _, _ => exact ⟨_, rfl⟩
  | 9, _, _ => exact ⟨_, rfl⟩
  | 10, _, _ => exact ⟨_, rfl⟩
  | k + 11, _, h => exact absurd h (by omega)
theorem eg_el_9 {t : Nat} (h5 : 5 ≤ t) (h6 : t < 11) : (eg_el t = 12 → t = 9) ∧ eg_el t ≠ 13 := by
  match t, h5, h6 with
  | 5, _, _ => exact ⟨by decide, by decide⟩
  | 6, _, _ => exact ⟨by decide, by decide⟩
  | 7, _, _ => exact ⟨by decide, by decide⟩
  | 8, _, _ => exact ⟨by decide, by decide⟩
  | 9, _, _ => exact ⟨by decide, by decide⟩
  | 10, _, _ => exact ⟨by decide, by decide⟩
  | k + 11, _, h => exact absurd h (by omega)
theorem eg_okc_at {G : eg_G} {a : Nat} (h : eg_ok G) (h1 : eg_NC ≤ a) (h2 : a < G.2) : eg_okc G.2 (G.1 a) := h.2 a h1 h2
section EGH
variable {p : Program} {l : Launch} {e : Env} {R : Room} {s : State} {m : MethodId} {args : Array Value} {below : List Frame} {meth : Method} {c : Code} {Q : State → Prop} {b0 : Nat} {D : va_G} {dA : Nat → ClassId} {adc : Nat → Nat} {n0 : Nat} {ad0 : Nat → Nat} {o : Nat} {ini : Bool} {mc ms : Nat} {cc : ByteArray}
variable {pc pc' len : Nat} {L L' : eg_Ls} {st st' r : List Value} {G G' : eg_G} {ck sk ck' sk' : Nat} {ins : Instr}
theorem sh_iaload0 {i : Int32} {a n : Nat} {f : Nat → Int32} (X : eg_X p s m args meth c R b0 D dA adc o ini mc ms cc) (d : decode cc pc = .ok (.iaload, 1)) (hG : G.1 a = .inl (0, (n, .inl f))) (ha : eg_NC ≤ a) (han : a < G.2) (hi : 0 ≤ i.toInt ∧ i.toInt < n)
    (k : eg_J p l e R s m args below meth c Q b0 D dA adc n0 ad0 (pc + 1) L (.int (f i.toNatClampNeg) :: r) G ck sk) : eg_J p l e R s m args below meth c Q b0 D dA adc n0 ad0 pc L (.int i :: .ref a :: r) G ck sk := by
  obtain ⟨hx, hb, hown, hts, hK, hC, hAO, hAOA, hRc, hRs, hini, hb0⟩ := X
  intro ad H locs ls hR hL hS
  obtain ⟨hP, hD, hS0, hok, hag⟩ := id hR
  obtain ⟨-, h2⟩ := List.forall_mem_cons.mp hS
  obtain ⟨-, h2⟩ := List.forall_mem_cons.mp h2
  have hw := eg_ws_at (ad := ad) (dA := dA) ha han
  rw [hG] at hw
  exact va_iald hx hb hK hP (a - eg_NC) 0 hw (eg_tys_at (by decide)) (eg_vin hi) d (k ad H locs ls hR hL (List.forall_mem_cons.mpr ⟨eg_oki, h2⟩))
theorem sh_baload1 {i : Int32} {a n : Nat} {f : Nat → Int32} (X : eg_X p s m args meth c R b0 D dA adc o ini mc ms cc) (d : decode cc pc = .ok (.baload, 1)) (hG : G.1 a = .inl (1, (n, .inl f))) (ha : eg_NC ≤ a) (han : a < G.2) (hi : 0 ≤ i.toInt ∧ i.toInt < n)
    (k : eg_J p l e R s m args below meth c Q b0 D dA adc n0 ad0 (pc + 1) L (.int (f i.toNatClampNeg) :: r) G ck sk) : eg_J p l e R s m args below meth c Q b0 D dA adc n0 ad0 pc L (.int i :: .ref a :: r) G ck sk := by
  obtain ⟨hx, hb, hown, hts, hK, hC, hAO, hAOA, hRc, hRs, hini, hb0⟩ := X
  intro ad H locs ls hR hL hS
  obtain ⟨hP, hD, hS0, hok, hag⟩ := id hR
  obtain ⟨-, h2⟩ := List.forall_mem_cons.mp hS
  obtain ⟨-, h2⟩ := List.forall_mem_cons.mp h2
  have hw := eg_ws_at (ad := ad) (dA := dA) ha han
  rw [hG] at hw
  exact va_bald hx hb hK hP (a - eg_NC) 1 hw (eg_tys_at (by decide)) (eg_vin hi) d (k ad H locs ls hR hL (List.forall_mem_cons.mpr ⟨eg_oki, h2⟩))
theorem sh_baload3 {i : Int32} {a n : Nat} {f : Nat → Int32} (X : eg_X p s m args meth c R b0 D dA adc o ini mc ms cc) (d : decode cc pc = .ok (.baload, 1)) (hG : G.1 a = .inl (3, (n, .inl f))) (ha : eg_NC ≤ a) (han : a < G.2) (hi : 0 ≤ i.toInt ∧ i.toInt < n)
    (k : eg_J p l e R s m args below meth c Q b0 D dA adc n0 ad0 (pc + 1) L (.int (f i.toNatClampNeg) :: r) G ck sk) : eg_J p l e R s m args below meth c Q b0 D dA adc n0 ad0 pc L (.int i :: .ref a :: r) G ck sk := by
  obtain ⟨hx, hb, hown, hts, hK, hC, hAO, hAOA, hRc, hRs, hini, hb0⟩ := X
  intro ad H locs ls hR hL hS
  obtain ⟨hP, hD, hS0, hok, hag⟩ := id hR
  obtain ⟨-, h2⟩ := List.forall_mem_cons.mp hS
  obtain ⟨-, h2⟩ := List.forall_mem_cons.mp h2
  have hw := eg_ws_at (ad := ad) (dA := dA) ha han
  rw [hG] at hw
  exact va_zald hx hb hK hP (a - eg_NC) 3 hw (eg_tys_at (by decide)) (eg_vin hi) d (k ad H locs ls hR hL (List.forall_mem_cons.mpr ⟨eg_oki, h2⟩))
theorem sh_caload4 {i : Int32} {a n : Nat} {f : Nat → Int32} (X : eg_X p s m args meth c R b0 D dA adc o ini mc ms cc) (d : decode cc pc = .ok (.caload, 1)) (hG : G.1 a = .inl (4, (n, .inl f))) (ha : eg_NC ≤ a) (han : a < G.2) (hi : 0 ≤ i.toInt ∧ i.toInt < n)
    (k : eg_J p l e R s m args below meth c Q b0 D dA adc n0 ad0 (pc + 1) L (.int (f i.toNatClampNeg) :: r) G ck sk) : eg_J p l e R s m args below meth c Q b0 D dA adc n0 ad0 pc L (.int i :: .ref a :: r) G ck sk := by
  obtain ⟨hx, hb, hown, hts, hK, hC, hAO, hAOA, hRc, hRs, hini, hb0⟩ := X
  intro ad H locs ls hR hL hS
  obtain ⟨hP, hD, hS0, hok, hag⟩ := id hR
  obtain ⟨-, h2⟩ := List.forall_mem_cons.mp hS
  obtain ⟨-, h2⟩ := List.forall_mem_cons.mp h2
  have hw := eg_ws_at (ad := ad) (dA := dA) ha han
  rw [hG] at hw
  exact va_cald hx hb hK hP (a - eg_NC) 4 hw (eg_tys_at (by decide)) (eg_vin hi) d (k ad H locs ls hR hL (List.forall_mem_cons.mpr ⟨eg_oki, h2⟩))
theorem sh_laload2 {i : Int32} {a n : Nat} {f : Nat → Int64} (X : eg_X p s m args meth c R b0 D dA adc o ini mc ms cc) (d : decode cc pc = .ok (.laload, 1)) (hG : G.1 a = .inl (2, (n, .inr (.inl f)))) (ha : eg_NC ≤ a) (han : a < G.2) (hi : 0 ≤ i.toInt ∧ i.toInt < n)
    (k : eg_J p l e R s m args below meth c Q b0 D dA adc n0 ad0 (pc + 1) L (.long (f i.toNatClampNeg) :: r) G ck sk) : eg_J p l e R s m args below meth c Q b0 D dA adc n0 ad0 pc L (.int i :: .ref a :: r) G ck sk := by
  obtain ⟨hx, hb, hown, hts, hK, hC, hAO, hAOA, hRc, hRs, hini, hb0⟩ := X
  intro ad H locs ls hR hL hS
  obtain ⟨hP, hD, hS0, hok, hag⟩ := id hR
  obtain ⟨-, h2⟩ := List.forall_mem_cons.mp hS
  obtain ⟨-, h2⟩ := List.forall_mem_cons.mp h2
  have hw := eg_ws_at (ad := ad) (dA := dA) ha han
  rw [hG] at hw
  exact va_lald hx hb hK hP (a - eg_NC) 2 hw (eg_tys_at (by decide)) (eg_vin hi) d (k ad H locs ls hR hL (List.forall_mem_cons.mpr ⟨eg_okl, h2⟩))
theorem sh_aaload {i : Int32} {a t n : Nat} {f : Nat → Option Nat} (X : eg_X p s m args meth c R b0 D dA adc o ini mc ms cc) (d : decode cc pc = .ok (.aaload, 1)) (hG : G.1 a = .inl (t, (n, .inr (.inr (.inr (.inr f)))))) (ha : eg_NC ≤ a) (han : a < G.2) (ht : 5 ≤ t ∧ t < 12) (hi : 0 ≤ i.toInt ∧ i.toInt < n)
    (k : eg_J p l e R s m args below meth c Q b0 D dA adc n0 ad0 (pc + 1) L (va_rf (f i.toNatClampNeg) :: r) G ck sk) : eg_J p l e R s m args below meth c Q b0 D dA adc n0 ad0 pc L (.int i :: .ref a :: r) G ck sk := by
  obtain ⟨hx, hb, hown, hts, hK, hC, hAO, hAOA, hRc, hRs, hini, hb0⟩ := X
  intro ad H locs ls hR hL hS
  obtain ⟨hP, hD, hS0, hok, hag⟩ := id hR
  obtain ⟨-, h2⟩ := List.forall_mem_cons.mp hS
  obtain ⟨-, h2⟩ := List.forall_mem_cons.mp h2
  have hw := eg_ws_at (ad := ad) (dA := dA) ha han
  rw [hG] at hw
  have hcl := eg_okc_at hok ha han
  rw [hG] at hcl
  have hv : eg_okv G.2 (va_rf (f i.toNatClampNeg)) := eg_okv_rf (fun j hj => hcl f rfl _ j hj)
  have hin := eg_vin hi
  have hlt : i.toNatClampNeg < n := Nat.not_le.mp fun q => hin (Or.inr q)
  have hkk := k ad H locs ls hR hL (List.forall_mem_cons.mpr ⟨hv, h2⟩)
  have e1 : (va_rf (f i.toNatClampNeg) :: r).map (eg_v ad) = va_rf ((f i.toNatClampNeg).map ad) :: r.map (eg_v ad) := by rw [List.map_cons, eg_v_rf]
  rw [e1] at hkk
  have hty := eg_tt_ref ht.1 ht.2
  exact W.aald (v := va_rf ((f i.toNatClampNeg).map ad)) (ty := eg_tt t) hx hb (hP _ _ hw) ((hK.2 t _ (eg_tys_at ht.2)).1 n (fun j => va_rf ((f j).map ad))) hty (fun q => by cases q) (by show ¬ (i < 0 ∨ (arrV _ _ _).slots.size ≤ _); rw [arrV_size]; exact hin) (by show (arrV (dA t) n (fun j => va_rf ((f j).map ad))).slots[_]? = _; rw [arrV_read _ _ hlt]) rfl rfl d hkk
theorem sh_conI {i : Int32} {a n : Nat} {f : Nat → Int32} (X : eg_X p s m args meth c R b0 D dA adc o ini mc ms cc) (d : decode cc pc = .ok (.iaload, 1)) (hG : eg_con a = .inl (0, (n, .inl f))) (ha : a < eg_NC) (hi : 0 ≤ i.toInt ∧ i.toInt < n)
    (k : eg_J p l e R s m args below meth c Q b0 D dA adc n0 ad0 (pc + 1) L (.int (f i.toNatClampNeg) :: r) G ck sk) : eg_J p l e R s m args below meth c Q b0 D dA adc n0 ad0 pc L (.int i :: .ref a :: r) G ck sk := by
  obtain ⟨hx, hb, hown, hts, hK, hC, hAO, hAOA, hRc, hRs, hini, hb0⟩ := X
  intro ad H locs ls hR hL hS
  obtain ⟨hP, hD, hS0, hok, hag⟩ := id hR
  obtain ⟨-, h2⟩ := List.forall_mem_cons.mp hS
  obtain ⟨-, h2⟩ := List.forall_mem_cons.mp h2
  have hT := hC.2.2.1 a 0 _ ha hG
  have hkk := k ad H locs ls hR hL (List.forall_mem_cons.mpr ⟨eg_oki, h2⟩)
  have e1 : (Value.int i :: .ref a :: r).map (eg_v ad) = .int i :: .ref (adc a) :: r.map (eg_v ad) := by
    show Value.int i :: .ref (ad a) :: _ = _
    rw [hag.1 a ha]
  rw [e1]
  exact va_ti hx hb hT hS0 (eg_vin hi) rfl d hkk
theorem sh_conB {i : Int32} {a n : Nat} {f : Nat → Int32} (X : eg_X p s m args meth c R b0 D dA adc o ini mc ms cc) (d : decode cc pc = .ok (.baload, 1)) (hG : eg_con a = .inl (1, (n, .inl f))) (ha : a < eg_NC) (hi : 0 ≤ i.toInt ∧ i.toInt < n)
    (k : eg_J p l e R s m args below meth c Q b0 D dA adc n0 ad0 (pc + 1) L (.int (f i.toNatClampNeg) :: r) G ck sk) : eg_J p l e R s m args below meth c Q b0 D dA adc n0 ad0 pc L (.int i :: .ref a :: r) G ck sk := by
  obtain ⟨hx, hb, hown, hts, hK, hC, hAO, hAOA, hRc, hRs, hini, hb0⟩ := X
  intro ad H locs ls hR hL hS
  obtain ⟨hP, hD, hS0, hok, hag⟩ := id hR
  obtain ⟨-, h2⟩ := List.forall_mem_cons.mp hS
  obtain ⟨-, h2⟩ := List.forall_mem_cons.mp h2
  have hT := hC.2.2.1 a 1 _ ha hG
  have hkk := k ad H locs ls hR hL (List.forall_mem_cons.mpr ⟨eg_oki, h2⟩)
  have e1 : (Value.int i :: .ref a :: r).map (eg_v ad) = .int i :: .ref (adc a) :: r.map (eg_v ad) := by
    show Value.int i :: .ref (ad a) :: _ = _
    rw [hag.1 a ha]
  rw [e1]
  exact va_tb hx hb hT hS0 (eg_vin hi) rfl d hkk
theorem sh_conQ {i : Int32} {a : Nat} (X : eg_X p s m args meth c R b0 D dA adc o ini mc ms cc) (d : decode cc pc = .ok (.aaload, 1)) (hG : eg_con a = .inl (9, (36, .inr (.inr (.inr (.inr (fun j => some j))))))) (ha : a < eg_NC) (hi : 0 ≤ i.toInt ∧ i.toInt < 36)
    (k : eg_J p l e R s m args below meth c Q b0 D dA adc n0 ad0 (pc + 1) L (.ref i.toNatClampNeg :: r) G ck sk) : eg_J p l e R s m args below meth c Q b0 D dA adc n0 ad0 pc L (.int i :: .ref a :: r) G ck sk := by
  obtain ⟨hx, hb, hown, hts, hK, hC, hAO, hAOA, hRc, hRs, hini, hb0⟩ := X
  intro ad H locs ls hR hL hS
  obtain ⟨hP, hD, hS0, hok, hag⟩ := id hR
  obtain ⟨-, h2⟩ := List.forall_mem_cons.mp hS
  obtain ⟨-, h2⟩ := List.forall_mem_cons.mp h2
  obtain ⟨cell, q1, q2, q3, q4, q5, q6, q7⟩ := hC.2.2.1 a 9 _ ha hG
  have hin : vp_in i 36 := eg_vin hi
  have hlt : i.toNatClampNeg < 36 := Nat.not_le.mp fun q => hin (Or.inr q)
  have hN : (36 : Nat) ≤ eg_NC := by decide
  have hlt2 : i.toNatClampNeg < eg_NC := Nat.lt_of_lt_of_le hlt hN
  have hkk := k ad H locs ls hR hL (List.forall_mem_cons.mpr ⟨eg_okr (Nat.lt_of_lt_of_le hlt2 hok.1), h2⟩)
  have e1 : (Value.int i :: .ref a :: r).map (eg_v ad) = .int i :: .ref (adc a) :: r.map (eg_v ad) := by
    show Value.int i :: .ref (ad a) :: _ = _
    rw [hag.1 a ha]
  have e2 : (Value.ref i.toNatClampNeg :: r).map (eg_v ad) = .ref (adc i.toNatClampNeg) :: r.map (eg_v ad) := by
    show Value.ref (ad _) :: _ = _
    rw [hag.1 _ hlt2]
  rw [e1]
  rw [e2] at hkk
  have q4' : (36 : Nat) ≤ cell.slots.size := q4
  have hin' : ¬ (i < 0 ∨ cell.slots.size ≤ i.toNatClampNeg) := by
    intro q
    rcases q with q | q
    · exact hin (Or.inl q)
    · omega
  exact W.aald (v := .ref (adc i.toNatClampNeg)) (ty := eg_tt 9) hx hb (by rw [hS0.2.1 _ (Array.getElem?_eq_some_iff.mp q1).1 q7]; exact q1) q2 rfl q3 hin' (q6 _ hlt) rfl rfl d hkk
theorem sh_iastore0 {i : Int32} {x : Int32} {a n : Nat} {f : Nat → Int32} (X : eg_X p s m args meth c R b0 D dA adc o ini mc ms cc) (d : decode cc pc = .ok (.iastore, 1)) (hG : G.1 a = .inl (0, (n, .inl (f)))) (ha : eg_NC ≤ a) (han : a < G.2) (hi : 0 ≤ i.toInt ∧ i.toInt < n)
    (k : eg_J p l e R s m args below meth c Q b0 D dA adc n0 ad0 (pc + 1) L r (eg_u G a (.inl (0, (n, .inl (upd f i.toNatClampNeg x))))) ck sk) : eg_J p l e R s m args below meth c Q b0 D dA adc n0 ad0 pc L (.int x :: .int i :: .ref a :: r) G ck sk := by
  obtain ⟨hx, hb, hown, hts, hK, hC, hAO, hAOA, hRc, hRs, hini, hb0⟩ := X
  intro ad H locs ls hR hL hS
  obtain ⟨hP, hD, hS0, hok, hag⟩ := id hR
  obtain ⟨-, h2⟩ := List.forall_mem_cons.mp hS
  obtain ⟨-, h2⟩ := List.forall_mem_cons.mp h2
  obtain ⟨-, h2⟩ := List.forall_mem_cons.mp h2
  have hw := eg_ws_at (ad := ad) (dA := dA) ha han
  rw [hG] at hw
  refine va_iast hx hb hK hP hD hS0 (a - eg_NC) 0 hw (eg_tys_at (by decide)) (eg_vin hi) d (fun H1 locs1 hP1 hD1 hS1 => ?_)
  have e1 := eg_ws_set (ad := ad) (dA := dA) (G := G) (.inl (0, (n, .inl (upd f i.toNatClampNeg x)))) ha
  have e2 : eg_e ad dA (.inl (0, (n, .inl (upd f i.toNatClampNeg x)))) = .inl (dA 0, (n, .inl (upd f i.toNatClampNeg x))) := rfl
  rw [e2] at e1
  rw [e1] at hP1 hD1
  exact k ad H1 locs1 ls ⟨hP1, hD1, hS1, eg_ok_u hok (fun _ h => nomatch h), hag⟩ hL h2
theorem sh_bastore1 {i : Int32} {x : Int32} {a n : Nat} {f : Nat → Int32} (X : eg_X p s m args meth c R b0 D dA adc o ini mc ms cc) (d : decode cc pc = .ok (.bastore, 1)) (hG : G.1 a = .inl (1, (n, .inl (f)))) (ha : eg_NC ≤ a) (han : a < G.2) (hi : 0 ≤ i.toInt ∧ i.toInt < n)
    (k : eg_J p l e R s m args below meth c Q b0 D dA adc n0 ad0 (pc + 1) L r (eg_u G a (.inl (1, (n, .inl (upd f i.toNatClampNeg (vp_nar .byte x)))))) ck sk) : eg_J p l e R s m args below meth c Q b0 D dA adc n0 ad0 pc L (.int x :: .int i :: .ref a :: r) G ck sk := by
  obtain ⟨hx, hb, hown, hts, hK, hC, hAO, hAOA, hRc, hRs, hini, hb0⟩ := X
  intro ad H locs ls hR hL hS
  obtain ⟨hP, hD, hS0, hok, hag⟩ := id hR
  obtain ⟨-, h2⟩ := List.forall_mem_cons.mp hS
  obtain ⟨-, h2⟩ := List.forall_mem_cons.mp h2
  obtain ⟨-, h2⟩ := List.forall_mem_cons.mp h2
  have hw := eg_ws_at (ad := ad) (dA := dA) ha han
  rw [hG] at hw
  refine va_bast hx hb hK hP hD hS0 (a - eg_NC) 1 hw (eg_tys_at (by decide)) (eg_vin hi) d (fun H1 locs1 hP1 hD1 hS1 => ?_)
  have e1 := eg_ws_set (ad := ad) (dA := dA) (G := G) (.inl (1, (n, .inl (upd f i.toNatClampNeg (vp_nar .byte x))))) ha
  have e2 : eg_e ad dA (.inl (1, (n, .inl (upd f i.toNatClampNeg (vp_nar .byte x))))) = .inl (dA 1, (n, .inl (upd f i.toNatClampNeg (vp_nar .byte x)))) := rfl
  rw [e2] at e1
  rw [e1] at hP1 hD1
  exact k ad H1 locs1 ls ⟨hP1, hD1, hS1, eg_ok_u hok (fun _ h => nomatch h), hag⟩ hL h2
theorem sh_bastore3 {i : Int32} {x : Int32} {a n : Nat} {f : Nat → Int32} (X : eg_X p s m args meth c R b0 D dA adc o ini mc ms cc) (d : decode cc pc = .ok (.bastore, 1)) (hG : G.1 a = .inl (3, (n, .inl (f)))) (ha : eg_NC ≤ a) (han : a < G.2) (hi : 0 ≤ i.toInt ∧ i.toInt < n)
    (k : eg_J p l e R s m args below meth c Q b0 D dA adc n0 ad0 (pc + 1) L r (eg_u G a (.inl (3, (n, .inl (upd f i.toNatClampNeg (vp_nar .boolean x)))))) ck sk) : eg_J p l e R s m args below meth c Q b0 D dA adc n0 ad0 pc L (.int x :: .int i :: .ref a :: r) G ck sk := by
  obtain ⟨hx, hb, hown, hts, hK, hC, hAO, hAOA, hRc, hRs, hini, hb0⟩ := X
  intro ad H locs ls hR hL hS
  obtain ⟨hP, hD, hS0, hok, hag⟩ := id hR
  obtain ⟨-, h2⟩ := List.forall_mem_cons.mp hS
  obtain ⟨-, h2⟩ := List.forall_mem_cons.mp h2
  obtain ⟨-, h2⟩ := List.forall_mem_cons.mp h2
  have hw := eg_ws_at (ad := ad) (dA := dA) ha han
  rw [hG] at hw
  refine va_zast hx hb hK hP hD hS0 (a - eg_NC) 3 hw (eg_tys_at (by decide)) (eg_vin hi) d (fun H1 locs1 hP1 hD1 hS1 => ?_)
  have e1 := eg_ws_set (ad := ad) (dA := dA) (G := G) (.inl (3, (n, .inl (upd f i.toNatClampNeg (vp_nar .boolean x))))) ha
  have e2 : eg_e ad dA (.inl (3, (n, .inl (upd f i.toNatClampNeg (vp_nar .boolean x))))) = .inl (dA 3, (n, .inl (upd f i.toNatClampNeg (vp_nar .boolean x)))) := rfl
  rw [e2] at e1
  rw [e1] at hP1 hD1
  exact k ad H1 locs1 ls ⟨hP1, hD1, hS1, eg_ok_u hok (fun _ h => nomatch h), hag⟩ hL h2
theorem sh_castore4 {i : Int32} {x : Int32} {a n : Nat} {f : Nat → Int32} (X : eg_X p s m args meth c R b0 D dA adc o ini mc ms cc) (d : decode cc pc = .ok (.castore, 1)) (hG : G.1 a = .inl (4, (n, .inl (f)))) (ha : eg_NC ≤ a) (han : a < G.2) (hi : 0 ≤ i.toInt ∧ i.toInt < n)
    (k : eg_J p l e R s m args below meth c Q b0 D dA adc n0 ad0 (pc + 1) L r (eg_u G a (.inl (4, (n, .inl (upd f i.toNatClampNeg (vp_nar .char x)))))) ck sk) : eg_J p l e R s m args below meth c Q b0 D dA adc n0 ad0 pc L (.int x :: .int i :: .ref a :: r) G ck sk := by
  obtain ⟨hx, hb, hown, hts, hK, hC, hAO, hAOA, hRc, hRs, hini, hb0⟩ := X
  intro ad H locs ls hR hL hS
  obtain ⟨hP, hD, hS0, hok, hag⟩ := id hR
  obtain ⟨-, h2⟩ := List.forall_mem_cons.mp hS
  obtain ⟨-, h2⟩ := List.forall_mem_cons.mp h2
  obtain ⟨-, h2⟩ := List.forall_mem_cons.mp h2
  have hw := eg_ws_at (ad := ad) (dA := dA) ha han
  rw [hG] at hw
  refine va_cast hx hb hK hP hD hS0 (a - eg_NC) 4 hw (eg_tys_at (by decide)) (eg_vin hi) d (fun H1 locs1 hP1 hD1 hS1 => ?_)
  have e1 := eg_ws_set (ad := ad) (dA := dA) (G := G) (.inl (4, (n, .inl (upd f i.toNatClampNeg (vp_nar .char x))))) ha
  have e2 : eg_e ad dA (.inl (4, (n, .inl (upd f i.toNatClampNeg (vp_nar .char x))))) = .inl (dA 4, (n, .inl (upd f i.toNatClampNeg (vp_nar .char x)))) := rfl
  rw [e2] at e1
  rw [e1] at hP1 hD1
  exact k ad H1 locs1 ls ⟨hP1, hD1, hS1, eg_ok_u hok (fun _ h => nomatch h), hag⟩ hL h2
theorem sh_lastore2 {i : Int32} {x : Int64} {a n : Nat} {f : Nat → Int64} (X : eg_X p s m args meth c R b0 D dA adc o ini mc ms cc) (d : decode cc pc = .ok (.lastore, 1)) (hG : G.1 a = .inl (2, (n, .inr (.inl (f))))) (ha : eg_NC ≤ a) (han : a < G.2) (hi : 0 ≤ i.toInt ∧ i.toInt < n)
    (k : eg_J p l e R s m args below meth c Q b0 D dA adc n0 ad0 (pc + 1) L r (eg_u G a (.inl (2, (n, .inr (.inl (vp_updL f i.toNatClampNeg x)))))) ck sk) : eg_J p l e R s m args below meth c Q b0 D dA adc n0 ad0 pc L (.long x :: .int i :: .ref a :: r) G ck sk := by
  obtain ⟨hx, hb, hown, hts, hK, hC, hAO, hAOA, hRc, hRs, hini, hb0⟩ := X
  intro ad H locs ls hR hL hS
  obtain ⟨hP, hD, hS0, hok, hag⟩ := id hR
  obtain ⟨-, h2⟩ := List.forall_mem_cons.mp hS
  obtain ⟨-, h2⟩ := List.forall_mem_cons.mp h2
  obtain ⟨-, h2⟩ := List.forall_mem_cons.mp h2
  have hw := eg_ws_at (ad := ad) (dA := dA) ha han
  rw [hG] at hw
  refine va_last hx hb hK hP hD hS0 (a - eg_NC) 2 hw (eg_tys_at (by decide)) (eg_vin hi) d (fun H1 locs1 hP1 hD1 hS1 => ?_)
  have e1 := eg_ws_set (ad := ad) (dA := dA) (G := G) (.inl (2, (n, .inr (.inl (vp_updL f i.toNatClampNeg x))))) ha
  have e2 : eg_e ad dA (.inl (2, (n, .inr (.inl (vp_updL f i.toNatClampNeg x))))) = .inl (dA 2, (n, .inr (.inl (vp_updL f i.toNatClampNeg x)))) := rfl
  rw [e2] at e1
  rw [e1] at hP1 hD1
  exact k ad H1 locs1 ls ⟨hP1, hD1, hS1, eg_ok_u hok (fun _ h => nomatch h), hag⟩ hL h2
theorem eg_up_map (ad : Nat → Nat) (f : Nat → Option Nat) (i : Nat) (z : Option Nat) : (fun j => (va_up f i z j).map ad) = va_up (fun j => (f j).map ad) i (z.map ad) := by
  funext j
  unfold va_up
  split <;> rfl
theorem sh_aastoreN {i : Int32} {a t n : Nat} {f : Nat → Option Nat} (X : eg_X p s m args meth c R b0 D dA adc o ini mc ms cc) (d : decode cc pc = .ok (.aastore, 1)) (hG : G.1 a = .inl (t, (n, .inr (.inr (.inr (.inr f)))))) (ha : eg_NC ≤ a) (han : a < G.2) (ht : 5 ≤ t ∧ t < 11) (hi : 0 ≤ i.toInt ∧ i.toInt < n)
    (k : eg_J p l e R s m args below meth c Q b0 D dA adc n0 ad0 (pc + 1) L r (eg_u G a (.inl (t, (n, .inr (.inr (.inr (.inr (va_up f i.toNatClampNeg none)))))))) ck sk) : eg_J p l e R s m args below meth c Q b0 D dA adc n0 ad0 pc L (.null :: .int i :: .ref a :: r) G ck sk := by
  obtain ⟨hx, hb, hown, hts, hK, hC, hAO, hAOA, hRc, hRs, hini, hb0⟩ := X
  intro ad H locs ls hR hL hS
  obtain ⟨hP, hD, hS0, hok, hag⟩ := id hR
  obtain ⟨-, h2⟩ := List.forall_mem_cons.mp hS
  obtain ⟨-, h2⟩ := List.forall_mem_cons.mp h2
  obtain ⟨-, h2⟩ := List.forall_mem_cons.mp h2
  have hw := eg_ws_at (ad := ad) (dA := dA) ha han
  have hcl := eg_okc_at hok ha han
  rw [hG] at hw hcl
  obtain ⟨C, hty⟩ := eg_tt_obj ht.1 ht.2
  have htt := eg_tys_at (dA := dA) (t := t) (by omega)
  rw [hty] at htt
  refine va_astqN (C := C) hx hb hK hP hD hS0 (a - eg_NC) t hw htt (eg_vin hi) d (fun H1 locs1 hP1 hD1 hS1 => ?_)
  have e1 := eg_ws_set (ad := ad) (dA := dA) (G := G) (.inl (t, (n, .inr (.inr (.inr (.inr (va_up f i.toNatClampNeg none))))))) ha
  have e2 : eg_e ad dA (.inl (t, (n, .inr (.inr (.inr (.inr (va_up f i.toNatClampNeg none))))))) = .inl (dA t, (n, .inr (.inr (.inr (.inr (va_up (fun j => (f j).map ad) i.toNatClampNeg none)))))) := by
    show Sum.inl (dA t, (n, Sum.inr (Sum.inr (Sum.inr (Sum.inr (fun j => (va_up f i.toNatClampNeg none j).map ad)))))) = _
    rw [eg_up_map]
    rfl
  rw [e2] at e1
  rw [e1] at hP1 hD1
  refine k ad H1 locs1 ls ⟨hP1, hD1, hS1, eg_ok_u hok (fun g hg j q hj => ?_), hag⟩ hL h2
  cases hg
  unfold va_up at hj
  split at hj
  · cases hj
  · exact hcl f rfl j q hj
theorem eg_el_cl {t : Nat} (h : 5 ≤ t ∧ t < 11) (h9 : t ≠ 9) : ∃ r : vw_C, eg_cl[eg_el t]? = some r ∧ eg_tt t = .object r.1 := by
  obtain ⟨h5, h6⟩ := h
  match t, h5, h6, h9 with
  | 5, _, _, _ => exact ⟨_, rfl, rfl⟩
  | 6, _, _, _ => exact ⟨_, rfl, rfl⟩
  | 7, _, _, _ => exact ⟨_, rfl, rfl⟩
  | 8, _, _, _ => exact ⟨_, rfl, rfl⟩
  | 9, _, _, h => exact absurd rfl h
  | 10, _, _, _ => exact ⟨_, rfl, rfl⟩
  | k + 11, _, h, _ => exact absurd h (by omega)
theorem eg_con_obj {i ci : Nat} {fs : List Value} (h : eg_con i = .inr (ci, fs)) : (ci = 12 ∧ i < 36) ∨ (ci = 13 ∧ 36 ≤ i ∧ i < 36 + eg_NS) ∨ (ci = 98 ∧ fs = []) := by
  unfold eg_con at h
  split at h
  · cases h
    rename_i hi
    exact Or.inl ⟨rfl, hi⟩
  · split at h
    · cases h
      rename_i h1 h2
      exact Or.inr (Or.inl ⟨rfl, by omega, h2⟩)
    · split at h
      · cases h
      · split at h
        · cases h
        · split at h
          · cases h
          · cases h
            exact Or.inr (Or.inr ⟨rfl, rfl⟩)
theorem eg_el_98 (t : Nat) : eg_el t ≠ 98 := by
  unfold eg_el
  split <;> decide
theorem sh_aastoreR {i : Int32} {a t n q : Nat} {f : Nat → Option Nat} (X : eg_X p s m args meth c R b0 D dA adc o ini mc ms cc) (d : decode cc pc = .ok (.aastore, 1)) (hG : G.1 a = .inl (t, (n, .inr (.inr (.inr (.inr f)))))) (ha : eg_NC ≤ a) (han : a < G.2) (ht : 5 ≤ t ∧ t < 11) (hi : 0 ≤ i.toInt ∧ i.toInt < n) (hq : q < G.2) (hcls : eg_is (eg_at G q) (eg_el t) = true)
    (k : eg_J p l e R s m args below meth c Q b0 D dA adc n0 ad0 (pc + 1) L r (eg_u G a (.inl (t, (n, .inr (.inr (.inr (.inr (va_up f i.toNatClampNeg (some q))))))))) ck sk) : eg_J p l e R s m args below meth c Q b0 D dA adc n0 ad0 pc L (.ref q :: .int i :: .ref a :: r) G ck sk := by
  obtain ⟨hx, hb, hown, hts, hK, hC, hAO, hAOA, hRc, hRs, hini, hb0⟩ := X
  intro ad H locs ls hR hL hS
  obtain ⟨hP, hD, hS0, hok, hag⟩ := id hR
  obtain ⟨-, h2⟩ := List.forall_mem_cons.mp hS
  obtain ⟨-, h2⟩ := List.forall_mem_cons.mp h2
  obtain ⟨-, h2⟩ := List.forall_mem_cons.mp h2
  have hw := eg_ws_at (ad := ad) (dA := dA) ha han
  have hcl := eg_okc_at hok ha han
  rw [hG] at hw hcl
  have fin : ∀ (H1 : Heap) (locs1 : List Loc), va_P D eg_cl ((eg_ws ad dA G).set (a - eg_NC) (ad a, .inl (dA t, n, .inr (.inr (.inr (.inr (va_up (fun j => (f j).map ad) i.toNatClampNeg (some (ad q))))))))) H1 → va_D (eg_A b0) ((eg_ws ad dA G).set (a - eg_NC) (ad a, .inl (dA t, n, .inr (.inr (.inr (.inr (va_up (fun j => (f j).map ad) i.toNatClampNeg (some (ad q))))))))) → va_S (eg_A b0) s.heap H1 locs1 → W p l e R s m args below meth c H1 locs1 ck sk Q (F0 m (pc + 1) ls (r.map (eg_v ad))) := by
    intro H1 locs1 hP1 hD1 hS1
    have e1 := eg_ws_set (ad := ad) (dA := dA) (G := G) (.inl (t, (n, .inr (.inr (.inr (.inr (va_up f i.toNatClampNeg (some q)))))))) ha
    have e2 : eg_e ad dA (.inl (t, (n, .inr (.inr (.inr (.inr (va_up f i.toNatClampNeg (some q)))))))) = .inl (dA t, (n, .inr (.inr (.inr (.inr (va_up (fun j => (f j).map ad) i.toNatClampNeg (some (ad q)))))))) := by
      show Sum.inl (dA t, (n, Sum.inr (Sum.inr (Sum.inr (Sum.inr (fun j => (va_up f i.toNatClampNeg (some q) j).map ad)))))) = _
      rw [eg_up_map]
      rfl
    rw [e2] at e1
    rw [e1] at hP1 hD1
    refine k ad H1 locs1 ls ⟨hP1, hD1, hS1, eg_ok_u hok (fun g hg j z hj => ?_), hag⟩ hL h2
    cases hg
    unfold va_up at hj
    split at hj
    · cases hj
      exact hq
    · exact hcl f rfl j z hj
  have htt := eg_tys_at (dA := dA) (t := t) (by omega)
  by_cases hc : q < eg_NC
  · rw [eg_at_lo hc] at hcls
    have h9 : t = 9 ∧ q < 36 := by
      unfold eg_is at hcls
      split at hcls
      · rename_i k0 fs0 hk0
        have hk1 : k0 = eg_el t := by simpa using hcls
        rcases eg_con_obj hk0 with ⟨h1, h2⟩ | ⟨h1, -, -⟩ | ⟨h1, -⟩
        · exact ⟨(eg_el_9 ht.1 ht.2).1 (hk1.symm.trans h1), h2⟩
        · exact absurd (hk1.symm.trans h1) (eg_el_9 ht.1 ht.2).2
        · exact absurd (hk1.symm.trans h1) (eg_el_98 t)
      · cases hcls
    obtain ⟨rfl, hq36⟩ := h9
    have hany : va_Any "KnobEye$Word" s H (ad q) := by
      obtain ⟨cell, g1, g2, g3, g4⟩ := (hC.2.2.2.2.2.1 q hq36).kept hS0.2.1
      rw [hag.1 q hc]
      obtain ⟨kC, hkC, -⟩ := Vm.findClass_spec g3
      exact ⟨cell, g1, g2, ⟨kC, hkC⟩, fun comp hcomp => by rw [Option.some.inj (hcomp.symm.trans g3)]; exact va_asg _ _⟩
    exact va_astqM (E := "KnobEye$Word") hx hb hK hP hD hS0 (a - eg_NC) 9 hw htt hany (eg_vin hi) d fin
  · rw [eg_at_hi (Nat.le_of_not_lt hc)] at hcls
    have hwq := eg_ws_at (ad := ad) (dA := dA) (Nat.le_of_not_lt hc) hq
    unfold eg_is at hcls
    split at hcls
    · rename_i k0 fs0 hk0
      rw [hk0] at hwq
      have hk1 : k0 = eg_el t := by simpa using hcls
      subst hk1
      have h9 : t ≠ 9 := by
        intro h
        subst h
        obtain ⟨r0, h1, -⟩ := hP _ _ hwq
        cases h1
      obtain ⟨r0, hr1, hr2⟩ := eg_el_cl ht h9
      rw [hr2] at htt
      exact va_astq hx hb hK hP hD hS0 (a - eg_NC) t (q - eg_NC) (eg_el t) hw htt hwq hr1 (eg_vin hi) d fin
    · cases hcls
theorem sh_len {a t : Nat} {x : vp_A} (X : eg_X p s m args meth c R b0 D dA adc o ini mc ms cc) (d : decode cc pc = .ok (.arraylength, 1)) (hG : eg_at G a = .inl (t, x)) (han : a < G.2) (ht : t < 12)
    (k : eg_J p l e R s m args below meth c Q b0 D dA adc n0 ad0 (pc + 1) L (.int (Int32.ofNat x.1) :: r) G ck sk) : eg_J p l e R s m args below meth c Q b0 D dA adc n0 ad0 pc L (.ref a :: r) G ck sk := by
  obtain ⟨hx, hb, hown, hts, hK, hC, hAO, hAOA, hRc, hRs, hini, hb0⟩ := X
  intro ad H locs ls hR hL hS
  obtain ⟨hP, hD, hS0, hok, hag⟩ := id hR
  obtain ⟨-, h2⟩ := List.forall_mem_cons.mp hS
  have hkk := k ad H locs ls hR hL (List.forall_mem_cons.mpr ⟨eg_oki, h2⟩)
  by_cases ha : a < eg_NC
  · rw [eg_at_lo ha] at hG
    have hT := hC.2.2.1 a t _ ha hG
    have e1 : (Value.ref a :: r).map (eg_v ad) = .ref (adc a) :: r.map (eg_v ad) := by
      show Value.ref (ad a) :: _ = _
      rw [hag.1 a ha]
    rw [e1]
    exact va_tlen hx hb hT hS0 rfl d hkk
  · have hw := eg_ws_at (ad := ad) (dA := dA) (Nat.le_of_not_lt ha) han
    rw [eg_at_hi (Nat.le_of_not_lt ha)] at hG
    rw [hG] at hw
    exact va_alen hx hb hK hP (a - eg_NC) t hw (eg_tys_at ht) rfl d hkk
end EGH
end
