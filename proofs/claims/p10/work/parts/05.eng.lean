/-! THE ABSTRACT MACHINE: a frame is pc, locals, stack; a heap is cells at the numbers 0, 1, ..; the first eg_NC numbers are the constants -/
abbrev eg_C : Type := (Nat × vp_A) ⊕ (Nat × List Value)
abbrev eg_G : Type := (Nat → eg_C) × Nat
abbrev eg_Ls : Type := List (Option Value)
abbrev eg_S : Type := Nat × eg_Ls × List Value × eg_G × Nat × Nat
def eg_con (i : Nat) : eg_C :=
  if i < 36 then .inr (12, [.int (Int32.ofNat i), .ref (36 + (eg_wf.getD i (0, 0, 0)).1), .int (eg_wf.getD i (0, 0, 0)).2.1, .int (eg_wf.getD i (0, 0, 0)).2.2])
  else if i < 36 + eg_NS then .inr (13, [.ref (i + eg_NS), .int 0])
  else if i < 36 + 2 * eg_NS then .inl (1, ((eg_by.getD (i - 36 - eg_NS) []).length, .inl (fun j => (eg_by.getD (i - 36 - eg_NS) []).getD j 0)))
  else if i = 36 + 2 * eg_NS then .inl (9, (36, .inr (.inr (.inr (.inr (fun j => some j))))))
  else if i = 36 + 2 * eg_NS + 1 then .inl (0, (36, .inl (fun j => eg_sw.getD j 0)))
  else .inr (98, [])
def eg_at (G : eg_G) (i : Nat) : eg_C := if i < eg_NC then eg_con i else G.1 i
def eg_u (G : eg_G) (i : Nat) (c : eg_C) : eg_G := (fun j => if j = i then c else G.1 j, G.2)
def eg_p (G : eg_G) (c : eg_C) : eg_G := (fun j => if j = G.2 then c else G.1 j, G.2 + 1)
-- locals
def eg_nl (x : Option Value) : Option Value := match x with
  | some (.long _) => none
  | some (.double _) => none
  | y => y
def eg_s1 : eg_Ls → Nat → Value → eg_Ls
  | [], _, _ => []
  | _ :: t, 0, v => some v :: t
  | x :: t, 1, v => eg_nl x :: eg_s1 t 0 v
  | x :: t, i + 2, v => x :: eg_s1 t (i + 1) v
def eg_s2 : eg_Ls → Nat → Value → eg_Ls
  | [], _, _ => []
  | [x], _, _ => [x]
  | _ :: _ :: t, 0, v => some v :: none :: t
  | x :: t, 1, v => eg_nl x :: eg_s2 t 0 v
  | x :: t, i + 2, v => x :: eg_s2 t (i + 1) v
def eg_ld (L : eg_Ls) (i : Nat) : Option Value := (L[i]?).join
-- numbers
def eg_tg (pc : Nat) (off : Int) : Nat := ((pc : Int) + off).toNat
def eg_rd (t : Nat) (x : vp_A) (i : Nat) : Option Value := match x.2 with
  | .inl f => if t = 0 ∨ t = 1 ∨ t = 3 ∨ t = 4 then some (.int (f i)) else none
  | .inr (.inl f) => if t = 2 then some (.long (f i)) else none
  | .inr (.inr (.inr (.inr f))) => if 5 ≤ t then some (va_rf (f i)) else none
  | _ => none
/-- which instruction reads and writes which kinds of arrays -/
def eg_ak (ins : Instr) (t : Nat) : Bool := match ins with
  | .iaload => t == 0
  | .iastore => t == 0
  | .baload => t == 1 || t == 3
  | .bastore => t == 1 || t == 3
  | .caload => t == 4
  | .castore => t == 4
  | .laload => t == 2
  | .lastore => t == 2
  | .aaload => decide (5 ≤ t) && decide (t < 12)
  | .aastore => decide (5 ≤ t) && decide (t < 11)
  | _ => false
/-- the class of the objects that an array of this kind holds -/
def eg_el (t : Nat) : Nat := match t with
  | 5 => 6
  | 6 => 1
  | 7 => 9
  | 8 => 0
  | 9 => 12
  | 10 => 4
  | _ => 99
def eg_ek (ci : Nat) : Nat := match ci with
  | 6 => 5
  | 1 => 6
  | 9 => 7
  | 0 => 8
  | 12 => 9
  | 4 => 10
  | _ => 99
def eg_is (c : eg_C) (ci : Nat) : Bool := match c with
  | .inr (k, _) => k == ci
  | .inl _ => false
def eg_wr (G : eg_G) (t : Nat) (x : vp_A) (i : Nat) (v : Value) : Option vp_A := match x.2, v with
  | .inl f, .int z => match t with
    | 0 => some (x.1, .inl (upd f i z))
    | 1 => some (x.1, .inl (upd f i (vp_nar .byte z)))
    | 3 => some (x.1, .inl (upd f i (vp_nar .boolean z)))
    | 4 => some (x.1, .inl (upd f i (vp_nar .char z)))
    | _ => none
  | .inr (.inl f), .long z => if t = 2 then some (x.1, .inr (.inl (vp_updL f i z))) else none
  | .inr (.inr (.inr (.inr f))), .null => if 5 ≤ t ∧ t < 11 then some (x.1, .inr (.inr (.inr (.inr (va_up f i none))))) else none
  | .inr (.inr (.inr (.inr f))), .ref q => if q < G.2 ∧ 5 ≤ t ∧ t < 11 ∧ eg_is (eg_at G q) (eg_el t) = true then some (x.1, .inr (.inr (.inr (.inr (va_up f i (some q)))))) else none
  | _, _ => none
def eg_fit (ty : FieldType) (v : Value) : Bool := match ty, v with
  | .int, .int _ => true
  | .long, .long _ => true
  | .boolean, .int x => decide (x = 0) || decide (x = 1)
  | .object _, .null => true
  | .object _, .ref _ => true
  | .array _, .null => true
  | .array _, .ref _ => true
  | _, _ => false
def eg_ii (pc : Nat) (L : eg_Ls) (st : List Value) (G : eg_G) (ck sk : Nat) (f : Int32 → Int32 → Int32) : Option eg_S := match st with
  | .int y :: .int x :: r => some (pc + 1, L, .int (f x y) :: r, G, ck, sk)
  | _ => none
def eg_l2 (pc : Nat) (L : eg_Ls) (st : List Value) (G : eg_G) (ck sk : Nat) (f : Int64 → Int64 → Int64) : Option eg_S := match st with
  | .long y :: .long x :: r => some (pc + 1, L, .long (f x y) :: r, G, ck, sk)
  | _ => none
def eg_ls (pc : Nat) (L : eg_Ls) (st : List Value) (G : eg_G) (ck sk : Nat) (f : Int64 → Int32 → Int64) : Option eg_S := match st with
  | .int y :: .long x :: r => some (pc + 1, L, .long (f x y) :: r, G, ck, sk)
  | _ => none
def eg_li (pc : Nat) (L : eg_Ls) (st : List Value) (G : eg_G) (ck sk : Nat) (i : Nat) (len : Nat) : Option eg_S := match eg_ld L i with
  | some (.int x) => some (pc + len, L, .int x :: st, G, ck, sk)
  | _ => none
def eg_ll (pc : Nat) (L : eg_Ls) (st : List Value) (G : eg_G) (ck sk : Nat) (i : Nat) (len : Nat) : Option eg_S := match eg_ld L i with
  | some (.long x) => some (pc + len, L, .long x :: st, G, ck, sk)
  | _ => none
def eg_la (pc : Nat) (L : eg_Ls) (st : List Value) (G : eg_G) (ck sk : Nat) (i : Nat) (len : Nat) : Option eg_S := match eg_ld L i with
  | some (.ref x) => some (pc + len, L, .ref x :: st, G, ck, sk)
  | some .null => some (pc + len, L, .null :: st, G, ck, sk)
  | _ => none
def eg_si (pc : Nat) (L : eg_Ls) (st : List Value) (G : eg_G) (ck sk : Nat) (i : Nat) (len : Nat) : Option eg_S := match st with
  | .int x :: r => if i < L.length then some (pc + len, eg_s1 L i (.int x), r, G, ck, sk) else none
  | _ => none
def eg_sl2 (pc : Nat) (L : eg_Ls) (st : List Value) (G : eg_G) (ck sk : Nat) (i : Nat) (len : Nat) : Option eg_S := match st with
  | .long x :: r => if i + 1 < L.length then some (pc + len, eg_s2 L i (.long x), r, G, ck, sk) else none
  | _ => none
def eg_sa (pc : Nat) (L : eg_Ls) (st : List Value) (G : eg_G) (ck sk : Nat) (i : Nat) (len : Nat) : Option eg_S := match st with
  | .ref x :: r => if i < L.length then some (pc + len, eg_s1 L i (.ref x), r, G, ck, sk) else none
  | .null :: r => if i < L.length then some (pc + len, eg_s1 L i .null, r, G, ck, sk) else none
  | _ => none
def eg_kk (kd : Nat) (v : Value) : Bool := match v with
  | .int _ => decide (kd < 2)
  | .long _ => kd == 2
  | .ref j => (kd == 0) && (decide (36 ≤ j) && decide (j < eg_NC))
  | _ => false
def eg_kst (o idx : Nat) (len kd : Nat) (pc : Nat) (L : eg_Ls) (st : List Value) (G : eg_G) (ck sk : Nat) : Option eg_S := match (eg_kT.getD o []).lookup idx with
  | some v => if eg_kk kd v = true then some (pc + len, L, v :: st, G, ck, sk) else none
  | none => none
def eg_ca (v : Value) : Bool := match v with
  | .null => true
  | .ref i => decide (i < 36) || decide (eg_NC ≤ i)
  | _ => false
def eg_ar (ins : Instr) (pc : Nat) (L : eg_Ls) (st : List Value) (G : eg_G) (ck sk : Nat) : Option eg_S := match st with
  | .int i :: .ref a :: r => match eg_at G a with
    | .inl (t, x) => if a < G.2 ∧ eg_ak ins t = true ∧ 0 ≤ i.toInt ∧ i.toInt < x.1 then (match eg_rd t x i.toNatClampNeg with
      | some v => some (pc + 1, L, v :: r, G, ck, sk)
      | none => none) else none
    | _ => none
  | _ => none
def eg_aw (ins : Instr) (pc : Nat) (L : eg_Ls) (st : List Value) (G : eg_G) (ck sk : Nat) : Option eg_S := match st with
  | v :: .int i :: .ref a :: r => match eg_at G a with
    | .inl (t, x) => if eg_NC ≤ a ∧ a < G.2 ∧ eg_ak ins t = true ∧ 0 ≤ i.toInt ∧ i.toInt < x.1 then (match eg_wr G t x i.toNatClampNeg v with
      | some y => some (pc + 1, L, r, eg_u G a (.inl (t, y)), ck, sk)
      | none => none) else none
    | _ => none
  | _ => none
def eg_gf (o idx : Nat) (pc : Nat) (L : eg_Ls) (st : List Value) (G : eg_G) (ck sk : Nat) : Option eg_S := match (eg_fT.getD o []).lookup idx with
  | some (ci, k, _) => (match st with
    | .ref a :: r => (match eg_at G a with
      | .inr (cj, fs) => if a < G.2 ∧ cj = ci then (match fs[k]? with
        | some v => some (pc + 3, L, v :: r, G, ck, sk)
        | none => none) else none
      | _ => none)
    | _ => none)
  | none => none
def eg_pf (o : Nat) (ini : Bool) (idx : Nat) (pc : Nat) (L : eg_Ls) (st : List Value) (G : eg_G) (ck sk : Nat) : Option eg_S := match (eg_fT.getD o []).lookup idx with
  | some (ci, k, hh) => (match st with
    | v :: .ref a :: r => (match eg_at G a with
      | .inr (cj, fs) => if eg_NC ≤ a ∧ a < G.2 ∧ cj = ci ∧ k < fs.length ∧ eg_fit ((eg_yl.getD ci (fun _ => .int)) k) v = true ∧ ((eg_fd ci k).2.2.2 = false ∨ (ini = true ∧ hh = none ∧ (eg_fd ci k).1 = eg_on o)) then
          some (pc + 3, L, r, eg_u G a (.inr (ci, fs.set k v)), ck, sk) else none
      | _ => none)
    | _ => none)
  | none => none
def eg_nc (n : Nat) (ci : Nat) : List Value := (List.range n).map (fun j => defaultValue ((eg_yl.getD ci (fun _ => .int)) j))
def eg_al (mc ms : Nat) (pc len : Nat) (L : eg_Ls) (st : List Value) (G : eg_G) (ck sk : Nat) (n : Nat) (c : eg_C) : Option eg_S :=
  if ck + 1 ≤ mc ∧ sk + n ≤ ms then some (pc + len, L, .ref G.2 :: st, eg_p G c, ck + 1, sk + n) else none
def eg_na (t : ArrayType) : Option (Nat × (Nat → vp_A)) := match t with
  | .int => some (0, fun n => (n, .inl (fun _ => 0)))
  | .byte => some (1, fun n => (n, .inl (fun _ => 0)))
  | .long => some (2, fun n => (n, .inr (.inl (fun _ => 0))))
  | .boolean => some (3, fun n => (n, .inl (fun _ => 0)))
  | .char => some (4, fun n => (n, .inl (fun _ => 0)))
  | _ => none
def eg_mg (G : eg_G) (N K : Nat) : eg_G := (fun j => if j < G.2 then G.1 j else if j = G.2 then .inl (11, (N, .inr (.inr (.inr (.inr (fun i => if i < N then some (G.2 + 1 + i) else none)))))) else if j < G.2 + 1 + N then .inl (0, (K, .inl (fun _ => 0))) else G.1 j, G.2 + 1 + N)
/-- one step, but calls, answers and throws: o the class of the code, ini whether it is a constructor, mc and ms the room -/
def eg_st (o : Nat) (ini : Bool) (mc ms : Nat) (pc len : Nat) (ins : Instr) (L : eg_Ls) (st : List Value) (G : eg_G) (ck sk : Nat) : Option eg_S := match ins with
  | .iconst n => some (pc + 1, L, .int (Int32.ofInt n) :: st, G, ck, sk)
  | .bipush n => some (pc + 2, L, .int (Int8.ofInt n).toInt32 :: st, G, ck, sk)
  | .sipush n => some (pc + 3, L, .int (Int16.ofInt n).toInt32 :: st, G, ck, sk)
  | .lconst n => some (pc + 1, L, .long (Int64.ofNat n) :: st, G, ck, sk)
  | .aconst_null => some (pc + 1, L, .null :: st, G, ck, sk)
  | .ldc i => eg_kst o i 2 0 pc L st G ck sk
  | .ldc_w i => eg_kst o i 3 1 pc L st G ck sk
  | .ldc2_w i => eg_kst o i 3 2 pc L st G ck sk
  | .iload i => eg_li pc L st G ck sk i 2
  | .iload_n i => eg_li pc L st G ck sk i 1
  | .lload i => eg_ll pc L st G ck sk i 2
  | .lload_n i => eg_ll pc L st G ck sk i 1
  | .aload i => eg_la pc L st G ck sk i 2
  | .aload_n i => eg_la pc L st G ck sk i 1
  | .istore i => eg_si pc L st G ck sk i 2
  | .istore_n i => eg_si pc L st G ck sk i 1
  | .lstore i => eg_sl2 pc L st G ck sk i 2
  | .lstore_n i => eg_sl2 pc L st G ck sk i 1
  | .astore i => eg_sa pc L st G ck sk i 2
  | .astore_n i => eg_sa pc L st G ck sk i 1
  | .iinc i n => (match eg_ld L i with
    | some (.int x) => if len = 3 ∧ i < L.length then some (pc + 3, eg_s1 L i (.int (x + Int32.ofInt n)), st, G, ck, sk) else none
    | _ => none)
  | .iadd => eg_ii pc L st G ck sk (fun x y => x + y)
  | .isub => eg_ii pc L st G ck sk (fun x y => x - y)
  | .imul => eg_ii pc L st G ck sk (fun x y => x * y)
  | .iand => eg_ii pc L st G ck sk (fun x y => x &&& y)
  | .ior => eg_ii pc L st G ck sk (fun x y => x ||| y)
  | .ixor => eg_ii pc L st G ck sk (fun x y => x ^^^ y)
  | .ishl => eg_ii pc L st G ck sk (fun x y => x <<< (y &&& 31))
  | .ishr => eg_ii pc L st G ck sk (fun x y => x >>> (y &&& 31))
  | .iushr => eg_ii pc L st G ck sk (fun x y => (x.toUInt32 >>> (y.toUInt32 &&& Int32.toUInt32 31)).toInt32)
  | .idiv => (match st with
    | .int y :: .int x :: r => if y = 0 then none else some (pc + 1, L, .int (x / y) :: r, G, ck, sk)
    | _ => none)
  | .irem => (match st with
    | .int y :: .int x :: r => if y = 0 then none else some (pc + 1, L, .int (x - x / y * y) :: r, G, ck, sk)
    | _ => none)
  | .ineg => (match st with
    | .int x :: r => some (pc + 1, L, .int (-x) :: r, G, ck, sk)
    | _ => none)
  | .ladd => eg_l2 pc L st G ck sk (fun x y => x + y)
  | .lsub => eg_l2 pc L st G ck sk (fun x y => x - y)
  | .lmul => eg_l2 pc L st G ck sk (fun x y => x * y)
  | .land => eg_l2 pc L st G ck sk (fun x y => x &&& y)
  | .lor => eg_l2 pc L st G ck sk (fun x y => x ||| y)
  | .lshl => eg_ls pc L st G ck sk (fun x y => x <<< (y.toInt64 &&& 63))
  | .lshr => eg_ls pc L st G ck sk (fun x y => x >>> (y.toInt64 &&& 63))
  | .lushr => eg_ls pc L st G ck sk (fun x y => (x.toUInt64 >>> (y.toInt64.toUInt64 &&& Int64.toUInt64 63)).toInt64)
  | .ldiv => (match st with
    | .long y :: .long x :: r => if y = 0 then none else some (pc + 1, L, .long (x / y) :: r, G, ck, sk)
    | _ => none)
  | .lcmp => (match st with
    | .long y :: .long x :: r => some (pc + 1, L, .int (lg_cmp x y) :: r, G, ck, sk)
    | _ => none)
  | .i2l => (match st with
    | .int x :: r => some (pc + 1, L, .long x.toInt64 :: r, G, ck, sk)
    | _ => none)
  | .l2i => (match st with
    | .long x :: r => some (pc + 1, L, .int x.toInt32 :: r, G, ck, sk)
    | _ => none)
  | .i2b => (match st with
    | .int x :: r => some (pc + 1, L, .int x.toInt8.toInt32 :: r, G, ck, sk)
    | _ => none)
  | .i2c => (match st with
    | .int x :: r => some (pc + 1, L, .int (x.toUInt32 % 65536).toInt32 :: r, G, ck, sk)
    | _ => none)
  | .dup => (match st with
    | v :: r => if v.category = 1 then some (pc + 1, L, v :: v :: r, G, ck, sk) else none
    | _ => none)
  | .pop => (match st with
    | v :: r => if v.category = 1 then some (pc + 1, L, r, G, ck, sk) else none
    | _ => none)
  | .dup2 => (match st with
    | v :: w :: r => if v.category = 1 ∧ w.category = 1 then some (pc + 1, L, v :: w :: v :: w :: r, G, ck, sk) else none
    | _ => none)
  | .goto off => if 0 ≤ (pc : Int) + off then some (eg_tg pc off, L, st, G, ck, sk) else none
  | .ifCond c off => (match st with
    | .int x :: r => if 0 ≤ (pc : Int) + off then some (match c with
      | .eq => (if x = 0 then eg_tg pc off else pc + 3)
      | .ne => (if ¬ x = 0 then eg_tg pc off else pc + 3)
      | .lt => (if x < 0 then eg_tg pc off else pc + 3)
      | .ge => (if 0 ≤ x then eg_tg pc off else pc + 3)
      | .gt => (if 0 < x then eg_tg pc off else pc + 3)
      | .le => (if x ≤ 0 then eg_tg pc off else pc + 3), L, r, G, ck, sk) else none
    | _ => none)
  | .if_icmp c off => (match st with
    | .int y :: .int x :: r => if 0 ≤ (pc : Int) + off then some (match c with
      | .eq => (if x = y then eg_tg pc off else pc + 3)
      | .ne => (if ¬ x = y then eg_tg pc off else pc + 3)
      | .lt => (if x < y then eg_tg pc off else pc + 3)
      | .ge => (if y ≤ x then eg_tg pc off else pc + 3)
      | .gt => (if y < x then eg_tg pc off else pc + 3)
      | .le => (if x ≤ y then eg_tg pc off else pc + 3), L, r, G, ck, sk) else none
    | _ => none)
  | .if_acmp c off => (match st with
    | w :: v :: r => if 0 ≤ (pc : Int) + off ∧ eg_ca v = true ∧ eg_ca w = true then some (match c with
      | .eq => (if v = w then eg_tg pc off else pc + 3)
      | .ne => (if ¬ v = w then eg_tg pc off else pc + 3), L, r, G, ck, sk) else none
    | _ => none)
  | .ifnull off => (match st with
    | .null :: r => if 0 ≤ (pc : Int) + off then some (eg_tg pc off, L, r, G, ck, sk) else none
    | .ref _ :: r => some (pc + 3, L, r, G, ck, sk)
    | _ => none)
  | .ifnonnull off => (match st with
    | .ref _ :: r => if 0 ≤ (pc : Int) + off then some (eg_tg pc off, L, r, G, ck, sk) else none
    | .null :: r => some (pc + 3, L, r, G, ck, sk)
    | _ => none)
  | .tableswitch d lo hi offs => (match st with
    | .int x :: r => if x.toInt < lo ∨ hi < x.toInt then (if 0 ≤ (pc : Int) + d then some (eg_tg pc d, L, r, G, ck, sk) else none) else (match offs[(x.toInt - lo).toNat]? with
      | some off => if 0 ≤ (pc : Int) + off then some (eg_tg pc off, L, r, G, ck, sk) else none
      | none => none)
    | _ => none)
  | .lookupswitch d ps => (match st with
    | .int x :: r => if (ps.toList.zip (ps.toList.drop 1)).all (fun (a, next) => a.1 < next.1) = true ∧ 0 ≤ (pc : Int) + Op.lookupswitch.offset ps.toList d x.toInt then some (eg_tg pc (Op.lookupswitch.offset ps.toList d x.toInt), L, r, G, ck, sk) else none
    | _ => none)
  | .iaload => eg_ar .iaload pc L st G ck sk
  | .baload => eg_ar .baload pc L st G ck sk
  | .caload => eg_ar .caload pc L st G ck sk
  | .laload => eg_ar .laload pc L st G ck sk
  | .aaload => eg_ar .aaload pc L st G ck sk
  | .iastore => eg_aw .iastore pc L st G ck sk
  | .bastore => eg_aw .bastore pc L st G ck sk
  | .castore => eg_aw .castore pc L st G ck sk
  | .lastore => eg_aw .lastore pc L st G ck sk
  | .aastore => eg_aw .aastore pc L st G ck sk
  | .arraylength => (match st with
    | .ref a :: r => (match eg_at G a with
      | .inl (t, x) => if a < G.2 ∧ t < 12 then some (pc + 1, L, .int (Int32.ofNat x.1) :: r, G, ck, sk) else none
      | _ => none)
    | _ => none)
  | .getfield i => eg_gf o i pc L st G ck sk
  | .putfield i => eg_pf o ini i pc L st G ck sk
  | .getstatic i => (match (eg_sT.getD o []).lookup i with
    | some (k, _) => (match eg_sv[k]? with
      | some (_, _, _, v) => some (pc + 3, L, v :: st, G, ck, sk)
      | none => none)
    | none => none)
  | .new i => (match (eg_cT.getD o []).lookup i with
    | some ci => if ci < 12 then eg_al mc ms pc 3 L st G ck sk (eg_cl.getD ci ("", eg_T0, 0)).2.2 (.inr (ci, eg_nc (eg_cl.getD ci ("", eg_T0, 0)).2.2 ci)) else none
    | none => none)
  | .newarray t => (match st, eg_na t with
    | .int n :: r, some (k, f) => if 0 ≤ n.toInt ∧ n.toInt ≤ 65536 then eg_al mc ms pc 2 L r G ck sk n.toNatClampNeg (.inl (k, f n.toNatClampNeg)) else none
    | _, _ => none)
  | .anewarray i => (match st, (eg_cT.getD o []).lookup i with
    | .int n :: r, some ci => if 0 ≤ n.toInt ∧ n.toInt ≤ 65536 ∧ 5 ≤ eg_ek ci ∧ eg_ek ci < 11 then eg_al mc ms pc 3 L r G ck sk n.toNatClampNeg (.inl (eg_ek ci, (n.toNatClampNeg, .inr (.inr (.inr (.inr (fun _ => none))))))) else none
    | _, _ => none)
  | .multianewarray i dm => (match st, (eg_cT.getD o []).lookup i with
    | .int k :: .int n :: r, some 30 => if dm = 2 ∧ 0 ≤ n.toInt ∧ n.toInt ≤ 65536 ∧ 0 ≤ k.toInt ∧ k.toInt ≤ 65536 ∧ ck + (1 + n.toNatClampNeg) ≤ mc ∧ sk + (n.toNatClampNeg + n.toNatClampNeg * k.toNatClampNeg) ≤ ms then
        some (pc + 4, L, .ref G.2 :: r, eg_mg G n.toNatClampNeg k.toNatClampNeg, ck + 1 + n.toNatClampNeg, sk + n.toNatClampNeg + n.toNatClampNeg * k.toNatClampNeg) else none
    | _, _ => none)
  | _ => none
