/-! THE INTERPRETER ON TOKENS: ends for the tokens from 0 on -/
abbrev ea_I : Type := List (Int × Int)
abbrev ea_O : Type := ea_I × eg_O
abbrev ea_Rec : Type := Option Nat → ea_I → Nat → Nat → Nat → eg_Ls → List Value → eg_G → Nat → Nat → Option (List ea_O)
def ea_bd {α β : Type} (f : α → Option (List β)) : List α → Option (List β)
  | [] => some []
  | a :: t => match f a with
    | none => none
    | some l => match ea_bd f t with
      | none => none
      | some m => some (l ++ m)
def ea_in (xs : Nat → Int32) (I : ea_I) : Prop := ∀ k p, I[k]? = some p → p.1 ≤ (ea_t xs k).toInt ∧ (ea_t xs k).toInt ≤ p.2
def ea_fk1 (I : ea_I) (k : Nat) (a b : Int) (q : Int × Int × Nat) : Option (ea_I × Nat) :=
  if (if a ≤ q.1 then q.1 else a) ≤ (if b ≤ q.2.1 then b else q.2.1) then some (I.set k ((if a ≤ q.1 then q.1 else a), (if b ≤ q.2.1 then b else q.2.1)), q.2.2) else none
def ea_fk (I : ea_I) (k : Nat) (ps : List (Int × Int × Nat)) : Option (List (ea_I × Nat)) := match I[k]? with
  | none => none
  | some (a, b) => if k < 7 then some (ps.filterMap (ea_fk1 I k a b)) else none
def ea_lo : Int := -2147483648
def ea_hi : Int := 2147483647
def ea_ps (c : Jvm.ClassFile.Cond) (z : Int) (t f : Nat) : List (Int × Int × Nat) := match c with
  | .eq => [(ea_lo, z - 1, f), (z, z, t), (z + 1, ea_hi, f)]
  | .ne => [(ea_lo, z - 1, t), (z, z, f), (z + 1, ea_hi, t)]
  | .lt => [(ea_lo, z - 1, t), (z, ea_hi, f)]
  | .ge => [(ea_lo, z - 1, f), (z, ea_hi, t)]
  | .gt => [(ea_lo, z, f), (z + 1, ea_hi, t)]
  | .le => [(ea_lo, z, t), (z + 1, ea_hi, f)]
def ea_fl (c : Jvm.ClassFile.Cond) : Jvm.ClassFile.Cond := match c with
  | .lt => .gt
  | .gt => .lt
  | .ge => .le
  | .le => .ge
  | .eq => .eq
  | .ne => .ne
def ea_br (c : Jvm.ClassFile.Cond) (x y : Int32) (t f : Nat) : Nat := match c with
  | .eq => (if x = y then t else f)
  | .ne => (if ¬ x = y then t else f)
  | .lt => (if x < y then t else f)
  | .ge => (if y ≤ x then t else f)
  | .gt => (if y < x then t else f)
  | .le => (if x ≤ y then t else f)
def ea_tp (pc : Nat) : Int → List Int → List (Int × Int × Nat)
  | _, [] => []
  | lo, off :: t => (lo, lo, eg_tg pc off) :: ea_tp pc (lo + 1) t
def ea_mk (L : eg_Ls) (st : List Value) (G : eg_G) (ck sk : Nat) (r : Option (List (ea_I × Nat))) : Option (List (ea_I × eg_S)) := match r with
  | none => none
  | some l => some (l.map (fun q => (q.1, q.2, L, st, G, ck, sk)))
/-- an int or a token -/
def ea_it (v : Value) : Bool := match v with
  | .int _ | .float _ => true
  | _ => false
def ea_yl (I : ea_I) (pc len : Nat) (L : eg_Ls) (st : List Value) (G : eg_G) (ck sk i : Nat) : Option (List (ea_I × eg_S)) := match eg_ld L i with
  | some (.float k) => some [(I, pc + len, L, .float k :: st, G, ck, sk)]
  | _ => none
def ea_ys (I : ea_I) (pc len : Nat) (L : eg_Ls) (st : List Value) (G : eg_G) (ck sk i : Nat) : Option (List (ea_I × eg_S)) := match st with
  | .float k :: r => if i < L.length then some [(I, pc + len, eg_s1 L i (.float k), r, G, ck, sk)] else none
  | _ => none
def ea_yb (m : Bool) (I : ea_I) (pc : Nat) (L : eg_Ls) (st : List Value) (G : eg_G) (ck sk : Nat) : Option (List (ea_I × eg_S)) := match st with
  | .int z :: .float k :: r => if m = true ∧ z = 63 ∧ k.toNat = 0 then some [(I, pc + 1, L, .float 6 :: r, G, ck, sk)] else some [(I, pc + 1, L, .float 99 :: r, G, ck, sk)]
  | .float _ :: .int _ :: r => some [(I, pc + 1, L, .float 99 :: r, G, ck, sk)]
  | .float _ :: .float _ :: r => some [(I, pc + 1, L, .float 99 :: r, G, ck, sk)]
  | _ => none
def ea_y1 (I : ea_I) (pc : Nat) (L : eg_Ls) (st : List Value) (G : eg_G) (ck sk : Nat) : Option (List (ea_I × eg_S)) := match st with
  | .float _ :: r => some [(I, pc + 1, L, .float 99 :: r, G, ck, sk)]
  | _ => none
def ea_ya (ins : Instr) (I : ea_I) (pc : Nat) (L : eg_Ls) (st : List Value) (G : eg_G) (ck sk : Nat) : Option (List (ea_I × eg_S)) := match st with
  | .float _ :: .int i :: .ref a :: r => (match eg_at G a with
    | .inl (t, (n, .inl f)) => if eg_NC ≤ a ∧ a < G.2 ∧ eg_ak ins t = true ∧ (0 ≤ i.toInt ∧ i.toInt < n) ∧ (t = 0 ∨ t = 1 ∨ t = 3 ∨ t = 4) then some [(I, pc + 1, L, r, eg_u G a (.inl (t, (n, .inl (upd f i.toNatClampNeg ea_S)))), ck, sk)] else none
    | _ => none)
  | _ => none
def ea_fi (ty : FieldType) : Bool := match ty with
  | .int => true
  | _ => false
def ea_yp (o : Nat) (ini : Bool) (idx : Nat) (I : ea_I) (pc : Nat) (L : eg_Ls) (st : List Value) (G : eg_G) (ck sk : Nat) : Option (List (ea_I × eg_S)) := match (eg_fT.getD o []).lookup idx with
  | some (ci, k, hh) => (match st with
    | .float v :: .ref a :: r => (match eg_at G a with
      | .inr (cj, fs) => if eg_NC ≤ a ∧ a < G.2 ∧ cj = ci ∧ k < fs.length ∧ ea_fi ((eg_yl.getD ci (fun _ => .int)) k) = true ∧ ((eg_fd ci k).2.2.2 = false ∨ (ini = true ∧ hh = none ∧ (eg_fd ci k).1 = eg_on o)) then
          some [(I, pc + 3, L, r, eg_u G a (.inr (ci, fs.set k (.float v))), ck, sk)] else none
      | _ => none)
    | _ => none)
  | none => none
def ea_sy (I : ea_I) (o : Nat) (ini : Bool) (pc : Nat) (ins : Instr) (L : eg_Ls) (st : List Value) (G : eg_G) (ck sk : Nat) : Option (List (ea_I × eg_S)) := match ins with
  | .iload i => ea_yl I pc 2 L st G ck sk i
  | .iload_n i => ea_yl I pc 1 L st G ck sk i
  | .istore i => ea_ys I pc 2 L st G ck sk i
  | .istore_n i => ea_ys I pc 1 L st G ck sk i
  | .iadd => ea_yb false I pc L st G ck sk
  | .isub => ea_yb false I pc L st G ck sk
  | .imul => ea_yb false I pc L st G ck sk
  | .ior => ea_yb false I pc L st G ck sk
  | .ixor => ea_yb false I pc L st G ck sk
  | .ishl => ea_yb false I pc L st G ck sk
  | .ishr => ea_yb false I pc L st G ck sk
  | .iushr => ea_yb false I pc L st G ck sk
  | .iand => ea_yb true I pc L st G ck sk
  | .i2b => ea_y1 I pc L st G ck sk
  | .i2c => ea_y1 I pc L st G ck sk
  | .iastore => ea_ya .iastore I pc L st G ck sk
  | .bastore => ea_ya .bastore I pc L st G ck sk
  | .castore => ea_ya .castore I pc L st G ck sk
  | .putfield i => ea_yp o ini i I pc L st G ck sk
  | .ifCond c off => (match st with
    | .float k :: r => if 0 ≤ (pc : Int) + off then ea_mk L r G ck sk (ea_fk I k.toNat (ea_ps c 0 (eg_tg pc off) (pc + 3))) else none
    | _ => none)
  | .if_icmp c off => (match st with
    | .int y :: .float k :: r => if 0 ≤ (pc : Int) + off then ea_mk L r G ck sk (ea_fk I k.toNat (ea_ps c y.toInt (eg_tg pc off) (pc + 3))) else none
    | .float k :: .int x :: r => if 0 ≤ (pc : Int) + off then ea_mk L r G ck sk (ea_fk I k.toNat (ea_ps (ea_fl c) x.toInt (eg_tg pc off) (pc + 3))) else none
    | _ => none)
  | .tableswitch d lo hi offs => (match st with
    | .float k :: r => if 0 ≤ (pc : Int) + d ∧ (offs.toList.all (fun off => decide (0 ≤ (pc : Int) + off))) = true ∧ hi - lo < offs.toList.length then ea_mk L r G ck sk (ea_fk I k.toNat ((ea_lo, lo - 1, eg_tg pc d) :: (hi + 1, ea_hi, eg_tg pc d) :: ea_tp pc lo offs.toList)) else none
    | _ => none)
  | _ => none
def ea_step (I : ea_I) (o : Nat) (ini : Bool) (pc len : Nat) (ins : Instr) (L : eg_Ls) (st : List Value) (G : eg_G) (ck sk : Nat) : Option (List (ea_I × eg_S)) := match ea_sy I o ini pc ins L st G ck sk with
  | some l => some l
  | none => match eg_st o ini eg_MC eg_MS pc len ins L st G ck sk with
    | some S => some [(I, ea_fs ins S)]
    | none => none
def ea_rt (ins : Instr) : Bool := match ins with
  | .return_ | .ireturn | .lreturn | .areturn => true
  | _ => false
def ea_sc (scr : Option Nat) (ins : Instr) (pc : Nat) (L : eg_Ls) (st : List Value) (G : eg_G) (ck sk : Nat) : Option eg_S := match scr, ins, st with
  | some n, .iaload, .int i :: .ref a :: r => if a = 150 ∧ 0 ≤ i.toInt ∧ i.toInt < n then some (pc + 1, L, .float (UInt32.ofNat i.toNatClampNeg) :: r, G, ck, sk) else none
  | some n, .arraylength, .ref a :: r => if a = 150 then some (pc + 1, L, .int (Int32.ofNat n) :: r, G, ck, sk) else none
  | _, _, _ => none
/-- surely none of the script's -/
def ea_ns (scr : Option Nat) (ins : Instr) (st : List Value) : Bool := match scr with
  | none => true
  | some n => match ins with
    | .iaload => (match st with
      | .int i :: .ref a :: _ => !decide (a = 150 ∧ 0 ≤ i.toInt ∧ i.toInt < n)
      | _ => false)
    | .arraylength => (match st with
      | .ref a :: _ => !decide (a = 150)
      | _ => false)
    | _ => true
def ea_bk (rec : ea_Rec) (scr : Option Nat) (d k pc : Nat) (L : eg_Ls) (r : List Value) (ck sk : Nat) (o : ea_O) : Option (List ea_O) := match o with
  | (I, .inl v, G', c, s) => if v.toList.all ea_nf = true then rec scr I d k (pc + 3) L (v.toList ++ r) G' (ck + c) (sk + s) else none
  | (I, .inr x, G', c, s) => (match eg_mh k with
    | none => some [(I, .inr x, G', ck + c, sk + s)]
    | some hh => match eg_hd (eg_mo k) pc x hh with
      | some h => (match eg_ca1 k h with
        | some (i, n) => if i < L.length then rec scr I d k (h + n) (eg_sn L i) [] G' (ck + c) (sk + s) else none
        | none => none)
      | none => none)
def ea_cl1 (rec : ea_Rec) (scr : Option Nat) (I : ea_I) (d k pc mi : Nat) (as r : List Value) (L : eg_Ls) (G : eg_G) (ck sk : Nat) : Option (List ea_O) :=
  if eg_cat r ≤ 8 ∧ L.length = eg_mL k ∧ (eg_en0 as).length ≤ eg_mL mi ∧ mi < 316 ∧ ¬ eg_mo mi = 20 then (match d with
    | 0 => none
    | d' + 1 => (match rec none I d' mi 0 (eg_en (eg_mL mi) as) [] G 0 0 with
      | none => none
      | some os => ea_bd (ea_bk rec scr (d' + 1) k pc L r ck sk) os)) else none
def ea_iv (rec : ea_Rec) (scr : Option Nat) (I : ea_I) (d k pc t i : Nat) (L : eg_Ls) (st : List Value) (G : eg_G) (ck sk : Nat) : Option (List ea_O) :=
  match (eg_mT.getD (eg_mo k) []).lookup i with
  | none => none
  | some (mi, kd, _) => match t with
    | 0 => if kd = 0 ∧ 310 ≤ mi ∧ mi ≤ 314 then (match eg_mt mi st with
        | some (v, r) => if eg_cat r ≤ 8 ∧ L.length = eg_mL k then rec scr I d k (pc + 3) L (v :: r) G ck sk else none
        | none => none)
      else if (kd = 0 ∨ kd = 3) ∧ eg_ma mi ≤ st.length then ea_cl1 rec scr I d k pc mi (st.take (eg_ma mi)).reverse (st.drop (eg_ma mi)) L G ck sk else none
    | 1 => (match st.drop (eg_ma mi) with
      | .ref b :: r => if (kd = 1 ∨ kd = 4 ∨ kd = 7) ∧ b < G.2 ∧ eg_is (eg_at G b) (eg_oc kd mi) = true then ea_cl1 rec scr I d k pc mi (.ref b :: (st.take (eg_ma mi)).reverse) r L G ck sk else none
      | _ => none)
    | _ => if kd = 6 then (match st with
        | .ref _ :: r => if eg_cat r ≤ 8 ∧ L.length = eg_mL k then rec scr I d k (pc + 3) L r G ck sk else none
        | _ => none)
      else (match st.drop (eg_ma mi) with
        | .ref b :: r => if kd = 2 ∨ kd = 5 then ea_cl1 rec scr I d k pc mi (.ref b :: (st.take (eg_ma mi)).reverse) r L G ck sk else none
        | _ => none)
def ea_nx (rec : ea_Rec) (scr : Option Nat) (d k : Nat) (l : Option (List (ea_I × eg_S))) : Option (List ea_O) := match l with
  | some l => ea_bd (fun e => rec scr e.1 d k e.2.1 e.2.2.1 e.2.2.2.1 e.2.2.2.2.1 e.2.2.2.2.2.1 e.2.2.2.2.2.2) l
  | none => none
/-- the image is written whole in one go -/
def ea_h1 (k pc : Nat) (L : eg_Ls) (st : List Value) (G : eg_G) (ck sk : Nat) : Option eg_S := if k = 176 ∧ pc = 7 then (match L, st with
  | [some (.ref a), some (.int i)], [] => if i = 0 then (match eg_at G a with
    | .inr (cj, fs) => (match (fs[1]? : Option Value), (fs[2]? : Option Value) with
      | some (Value.ref w), some (Value.ref m) => (match eg_at G w, eg_at G m with
        | .inl (tw, (nw, .inl _)), .inl (tm, (nm, .inl _)) => if cj = 11 ∧ tw = 0 ∧ tm = 0 ∧ 11900 ≤ nw ∧ nw < 65537 ∧ nm = 11900 ∧ ¬ w = m ∧ ¬ a = m ∧ eg_NC ≤ w ∧ eg_NC ≤ m ∧ m < G.2 ∧ w < G.2 ∧ a < G.2 then some (32, [some (.ref a), some (.int 11900)], [], eg_u G m (.inl (0, (11900, .inl (fun _ => ea_S)))), ck, sk) else none
        | _, _ => none)
      | _, _ => none)
    | _ => none) else none
  | _, _ => none) else none
/-- a text is kept in one go -/
def ea_h2 (k pc : Nat) (L : eg_Ls) (st : List Value) (G : eg_G) (ck sk : Nat) : Option eg_S := if k = 206 ∧ pc = 2 then (match L, st with
  | [some (.ref a), some (.int t), some (.int i)], [] => if i = 0 ∧ 0 ≤ t.toInt ∧ t.toInt ≤ 13 then (match eg_at G a with
    | .inr (cj, fs) => (match (fs[1]? : Option Value) with
      | some (Value.ref w) => (match eg_at G w with
        | .inl (tw, (nw, .inl f)) => if cj = 11 ∧ tw = 0 ∧ 12741 ≤ nw ∧ nw < 65537 ∧ ¬ a = w ∧ eg_NC ≤ w ∧ w < G.2 ∧ a < G.2 then some (38, [some (.ref a), some (.int t), some (.int 841)], [], eg_u G w (.inl (0, (nw, .inl (fun j => if 126 + 841 * t.toNatClampNeg ≤ j ∧ j < 126 + 841 * t.toNatClampNeg + 841 then ea_S else f j)))), ck, sk) else none
        | _ => none)
      | _ => none)
    | _ => none) else none
  | _, _ => none) else none
def ea_hk (d k pc : Nat) (L : eg_Ls) (st : List Value) (G : eg_G) (ck sk : Nat) : Option eg_S := match ea_h1 k pc L st G ck sk with
  | some S => some S
  | none => if 1 ≤ d then ea_h2 k pc L st G ck sk else none
def ea_one (rec : ea_Rec) : ea_Rec := fun scr I d k pc L st G ck sk =>
  match ea_hk d k pc L st G ck sk with
  | some S => rec scr I d k S.1 S.2.1 S.2.2.1 S.2.2.2.1 S.2.2.2.2.1 S.2.2.2.2.2
  | none => match eg_cd k pc with
    | none => none
    | some (ins, len) => if ea_rt ins = true then (match eg_rr ins (eg_mr k) st with
        | some v => some [(I, .inl v, G, ck, sk)]
        | none => none)
      else match ea_sc scr ins pc L st G ck sk with
        | some S => rec scr I d k S.1 S.2.1 S.2.2.1 S.2.2.2.1 S.2.2.2.2.1 S.2.2.2.2.2
        | none => if ea_ns scr ins st = true then (match eg_th k pc ins with
          | some q => if eg_cat st ≤ 8 ∧ L.length = eg_mL k then some [(I, .inr q.2.2, G, ck + 1, sk + 6)] else none
          | none => match eg_ik ins with
            | some (t, i) => ea_iv rec scr I d k pc t i L st G ck sk
            | none => ea_nx rec scr d k (ea_step I (eg_mo k) (eg_in k) pc len ins L st G ck sk)) else none
def ea_rn : Nat → ea_Rec
  | 0 => fun _ _ _ _ _ _ _ _ _ _ => none
  | f + 1 => ea_one (ea_rn f)
