/-! THE TYPED INTERPRETER: runs. An end: tokens, cache, what is answered, counters -/
abbrev et_R : Type := Option Value ⊕ Nat
abbrev et_O : Type := List et_N × et_C × et_R × Nat × Nat
/-- a loop's head: pc, how many tokens ahead of it, tokens, cache, locals, which places are new, which of these counts, counters -/
abbrev et_L : Type := Nat × Nat × List et_N × et_C × eg_Ls × List (Nat × et_P) × Nat × Nat × Nat
/-- what is said of a loop: places that are new and their specs, which of these counts (twice its number, and one if it counts down), what it may write, places that are forgotten -/
abbrev et_A : Type := List (Nat × et_P) × Nat × et_M × List Nat
def et_dl : eg_Ls → List Nat → eg_Ls
  | L, [] => L
  | L, i :: t => et_dl (L.set i none) t
abbrev et_Rec : Type := List et_L → Option Nat → List et_N → et_C → Nat → Nat → Nat → eg_Ls → List Value → Nat → Nat → Option (List et_O)
def et_tb (n : Nat) (v : Value) : Bool := match v with
  | .float k => decide (k.toNat < n)
  | .double k => decide (k.toNat < n)
  | .retAddr k => decide (k < n)
  | _ => true
def et_tbo (n : Nat) (v : Option Value) : Bool := match v with
  | some v => et_tb n v
  | none => true
/-- is it of the spec's kind -/
def et_kd (p : et_P) (v : Value) : Bool := match p, v with
  | .inl _, .int _ => true
  | .inl _, .float _ => true
  | .inr (.inl _), .long _ => true
  | .inr (.inl _), .double _ => true
  | .inr (.inr _), .null => true
  | .inr (.inr _), .ref _ => true
  | .inr (.inr _), .retAddr _ => true
  | _, _ => false
/-- at a head: the places' new tokens -/
def et_rp (E : List et_N) (L : eg_Ls) : List (Nat × et_P) → Option (List et_N × eg_Ls)
  | [] => some (E, L)
  | (i, p) :: t => if i < L.length then et_rp (E ++ [(p, none)]) (L.set i (some (et_tk p E.length))) t else none
/-- do the places fit -/
def et_fa (E : List et_N) (L : eg_Ls) (rs : List (Nat × et_P)) : Bool := rs.all (fun q => match L[q.1]? with
  | some (some v) => et_ft E q.2 v && et_kd q.2 v
  | _ => false)
def et_hc (h : et_L) (E : List et_N) (C : et_C) (L : eg_Ls) (ck sk : Nat) : Bool := match h with
  | (_, n0, _, hC, hL, rs, m, hk, hs) => (decide (L.length = hL.length) && ((List.range L.length).all (fun i => (rs.any (fun q => q.1 == i)) || (match hL[i]? with
      | some (some v) => decide (L[i]? = some (some v)) && et_tb n0 v
      | _ => true)))) && (et_fa E L rs && (hC.all (fun e => C.contains e && (decide (e.1 < n0) && et_tb n0 e.2.2)) && (decide (ck ≤ hk) && (decide (sk ≤ hs) && (match rs[m / 2]? with
      | some (i, _) => (match L[i]? with
        | some (some (.float k)) => (match E[k.toNat]? with
          | some (_, some (j, c)) => decide (j = n0 + m / 2) && (if m % 2 = 0 then decide (1 ≤ c) else decide (c ≤ -1))
          | _ => false)
        | _ => false)
      | _ => false)))))
def et_bd {α β : Type} (f : α → Option (List β)) : List α → Option (List β)
  | [] => some []
  | a :: t => match f a with
    | none => none
    | some l => match et_bd f t with
      | none => none
      | some m => some (l ++ m)
def et_rt (ins : Instr) : Bool := match ins with
  | .return_ | .ireturn | .lreturn | .areturn => true
  | _ => false
/-- what a method may answer -/
def et_rr (E : List et_N) (ins : Instr) (ret : Option FieldType) (st : List Value) : Option (Option Value) := match ins, ret, st with
  | .return_, none, [] => some none
  | .ireturn, some .int, [v] => (match et_ib E v with
    | some _ => some (some v)
    | none => none)
  | .ireturn, some .boolean, [v] => (match et_ib E v with
    | some (a, b) => if 0 ≤ a ∧ b ≤ 1 then some (some v) else none
    | none => none)
  | .lreturn, some .long, [v] => (match et_lb E v with
    | some _ => some (some v)
    | none => none)
  | .areturn, some (.object _), [v] => if et_kd (.inr (.inr (0, 0))) v = true then some (some v) else none
  | .areturn, some (.array _), [v] => if et_kd (.inr (.inr (0, 0))) v = true then some (some v) else none
  | _, _, _ => none
def et_bk (rec : et_Rec) (hd : List et_L) (scr : Option Nat) (d k pc : Nat) (L : eg_Ls) (r : List Value) (ck sk : Nat) (o : et_O) : Option (List et_O) := match o with
  | (E, C, .inl v, c, s) => rec hd scr E C d k (pc + 3) L (v.toList ++ r) (ck + c) (sk + s)
  | (E, C, .inr x, c, s) => (match eg_mh k with
    | none => some [(E, C, .inr x, ck + c, sk + s)]
    | some hh => match eg_hd (eg_mo k) pc x hh with
      | some h => (match eg_ca1 k h with
        | some (i, n) => if i < L.length then rec hd scr E C d k (h + n) (eg_sn L i) [] (ck + c) (sk + s) else none
        | none => none)
      | none => none)
/-- a contract: method, arguments' specs, what it may write, ends: answer's spec or exception, counters; how deep -/
abbrev et_Co : Type := Nat × List et_P × et_M × List ((Option et_P ⊕ Nat) × Nat × Nat) × Nat
def et_cE (E : List et_N) (C : et_C) (q : (Option et_P ⊕ Nat) × Nat × Nat) : et_O := match q with
  | (.inl (some p), c, s) => (E ++ [(p, none)], C, .inl (some (et_tk p E.length)), c, s)
  | (.inl none, c, s) => (E, C, .inl none, c, s)
  | (.inr x, c, s) => (E, C, .inr x, c, s)
def et_kpM (E : List et_N) (M : et_M) (C : et_C) : et_C := C.filter (fun e => (et_rb E (.retAddr e.1)).isSome && M.all (fun q => et_kp E q.1 q.2.1 q.2.2 e))
/-- are these places all among those -/
def et_ss (M N : et_M) : Bool := M.all (fun q => N.any (fun p => (p.1 == q.1) && (decide (p.2.1 ≤ q.2.1) && decide (q.2.2 ≤ p.2.2))))
def et_kc (M : et_M) (Ks : List et_Co) (E : List et_N) (C : et_C) (d' mi : Nat) (as : List Value) : Option (List et_O) := match Ks.find? (fun q => (q.1 == mi) && (decide (q.2.2.2.2 ≤ d') && (decide (as.length = q.2.1.length) && (as.zip q.2.1).all (fun z => et_ft E z.2 z.1 && et_kd z.2 z.1)))) with
  | some q => if et_ss q.2.2.1 M = true ∧ E.length < 4294967296 then some (q.2.2.2.1.map (et_cE E (et_kpM E q.2.2.1 C))) else none
  | none => none
def et_cl1 (M : et_M) (Ks : List et_Co) (rec : et_Rec) (hd : List et_L) (scr : Option Nat) (E : List et_N) (C : et_C) (d k pc mi : Nat) (as r : List Value) (L : eg_Ls) (ck sk : Nat) : Option (List et_O) :=
  if eg_cat r ≤ 8 ∧ L.length = eg_mL k ∧ (eg_en0 as).length ≤ eg_mL mi ∧ mi < 316 ∧ ¬ eg_mo mi = 20 then (match d with
    | 0 => none
    | d' + 1 => (match (match et_kc M Ks E C d' mi as with
        | some os => some os
        | none => rec [] none E C d' mi 0 (eg_en (eg_mL mi) as) [] 0 0) with
      | none => none
      | some os => et_bd (et_bk rec hd scr (d' + 1) k pc L r ck sk) os)) else none
/-- java.lang.Math -/
def et_mt (E : List et_N) (mi : Nat) (st : List Value) : Option (et_P × List Value) := match mi, st with
  | 309, x :: r => (match et_ib E x with
    | some (a, b) => some (.inl (if 0 ≤ a then (a, b) else (et_mn, et_mx)), r)
    | none => none)
  | 310, y :: x :: r => (match et_ib E x, et_ib E y with
    | some (a, b), some (c, d) => some (.inl (max a c, max b d), r)
    | _, _ => none)
  | 311, y :: x :: r => (match et_ib E x, et_ib E y with
    | some (a, b), some (c, d) => some (.inl (min a c, min b d), r)
    | _, _ => none)
  | 312, y :: x :: r => (match et_lb E x, et_lb E y with
    | some (a, b), some (c, d) => some (.inr (.inl (min a c, min b d)), r)
    | _, _ => none)
  | 313, y :: x :: r => (match et_lb E x, et_lb E y with
    | some (a, b), some (c, d) => some (.inr (.inl (max a c, max b d)), r)
    | _, _ => none)
  | _, _ => none
/-- the class of a token's object -/
def et_cc (T : List et_D) (E : List et_N) (b : Value) : Option Nat := match b with
  | .ref a => if a < 36 then some 12 else if a < 92 then some 13 else none
  | _ => (match et_rb E b with
    | some (nl, t) => if nl = 0 then (match T[t]? with
      | some (.inl (ci, _)) => some ci
      | _ => none) else none
    | none => none)
def et_iv (T : List et_D) (M : et_M) (Ks : List et_Co) (rec : et_Rec) (hd : List et_L) (scr : Option Nat) (E : List et_N) (C : et_C) (d k pc t i : Nat) (L : eg_Ls) (st : List Value) (ck sk : Nat) : Option (List et_O) :=
  match (eg_mT.getD (eg_mo k) []).lookup i with
  | none => none
  | some (mi, kd, _) => match t with
    | 0 => if kd = 0 ∧ 309 ≤ mi ∧ mi ≤ 313 then (match et_mt E mi st with
        | some (p, r) => if eg_cat r ≤ 8 ∧ L.length = eg_mL k ∧ E.length < 4294967296 then rec hd scr (E ++ [(p, none)]) C d k (pc + 3) L (et_tk p E.length :: r) ck sk else none
        | none => none)
      else if (kd = 0 ∨ kd = 3) ∧ eg_ma mi ≤ st.length then et_cl1 M Ks rec hd scr E C d k pc mi (st.take (eg_ma mi)).reverse (st.drop (eg_ma mi)) L ck sk else none
    | 1 => (match st.drop (eg_ma mi) with
      | b :: r => if (kd = 1 ∨ kd = 4 ∨ kd = 7) ∧ et_cc T E b = some (eg_oc kd mi) then et_cl1 M Ks rec hd scr E C d k pc mi (b :: (st.take (eg_ma mi)).reverse) r L ck sk else none
      | _ => none)
    | _ => if kd = 6 then (match st with
        | b :: r => if (et_cc T E b).isSome = true ∧ eg_cat r ≤ 8 ∧ L.length = eg_mL k then rec hd scr E C d k (pc + 3) L r ck sk else none
        | _ => none)
      else (match st.drop (eg_ma mi) with
        | b :: r => if (kd = 2 ∨ kd = 5) ∧ (et_cc T E b).isSome = true then et_cl1 M Ks rec hd scr E C d k pc mi (b :: (st.take (eg_ma mi)).reverse) r L ck sk else none
        | _ => none)
/-- is a token another one, or up to five more than it -/
def et_sj (E : List et_N) (j k : Nat) : Bool := decide (k = j) || (match E[k]? with
  | some (_, some (j', c)) => decide (j' = j) && (decide (0 ≤ c) && decide (c ≤ 5))
  | _ => false)
/-- the script: the token scr has a place for five more behind it -/
def et_sc (scr : Option Nat) (ins : Instr) (E : List et_N) (pc : Nat) (st : List Value) : Option (List Value) := match scr, ins, st with
  | some j, .iaload, .float k :: .ref a :: r => if a = 150 ∧ et_sj E j k.toNat = true then some r else none
  | _, _, _ => none
def et_ns (E : List et_N) (scr : Option Nat) (ins : Instr) (st : List Value) : Bool := match scr with
  | none => true
  | some _ => match ins with
    | .iaload => (match st with
      | _ :: v :: _ => et_cq E v
      | _ => false)
    | .arraylength => (match st with
      | v :: _ => et_cq E v
      | _ => false)
    | _ => true
def et_ln (ins : Instr) (len : Nat) : Bool := match ins with
  | .iinc _ _ => decide (len = 3)
  | _ => true
/-- one instruction, and on -/
def et_ins (T : List et_D) (M : et_M) (Ks : List et_Co) (rec : et_Rec) : et_Rec := fun hd scr E C d k pc L st ck sk =>
  match eg_cd k pc with
  | none => none
  | some (ins, len) => if et_rt ins = true then (match et_rr E ins (eg_mr k) st with
      | some v => some [(E, C, .inl v, ck, sk)]
      | none => none)
    else match et_sc scr ins E pc st with
      | some r => if E.length < 4294967296 then rec hd scr (E ++ [(.inl (et_mn, et_mx), none)]) C d k (pc + 1) L (.float (UInt32.ofNat E.length) :: r) ck sk else none
      | none => if et_ns E scr ins st = true then (match eg_th k pc ins with
        | some q => if eg_cat st ≤ 8 ∧ L.length = eg_mL k then some [(E, C, .inr q.2.2, ck + 1, sk + 6)] else none
        | none => match eg_ik ins with
          | some (t, i) => et_iv T M Ks rec hd scr E C d k pc t i L st ck sk
          | none => (match (if et_ln ins len = true then et_step T M E C (eg_mo k) (eg_in k) pc len ins L st ck sk else none) with
            | some l => et_bd (fun Y => rec hd scr Y.1 Y.2.1 d k Y.2.2.1 Y.2.2.2.1 Y.2.2.2.2.1 Y.2.2.2.2.2.1 Y.2.2.2.2.2.2) l
            | none => none)) else none
/-- the tokens, the value being each of n in turn -/
def et_spl (E : List et_N) (v : Value) : Nat → Int → List (List et_N)
  | 0, _ => []
  | n + 1, j => (match et_nw E v j j with
    | some F => [F]
    | none => []) ++ et_spl E v n (j + 1)
def et_one (T : List et_D) (M : et_M) (Ks : List et_Co) (an : Nat → Nat → Option et_A) (rec : et_Rec) : et_Rec := fun hd scr E C d k pc L st ck sk =>
  match hd.find? (fun h => h.1 == pc) with
  | some h => if st = [] ∧ et_hc h E C L ck sk = true then some [] else none
  | none => match an k pc with
    | some (rs, m, Ml, ds) => if 1000 ≤ m then (match L[m - 1000]? with
      | some (some v) => (match et_ib E v with
        | some (lo, hi) => et_bd (fun F => et_ins T M Ks rec hd scr F C d k pc L st ck sk) (et_spl E v (hi - lo + 1).toNat lo)
        | none => none)
      | _ => none)
      else (match et_rp E (et_dl L ds) rs with
      | some (F, L') => if st = [] ∧ et_fa E (et_dl L ds) rs = true ∧ F.length < 4294967296 then et_ins T M Ks rec ((pc, E.length, F, et_kpM E Ml C, L', rs, m, ck, sk) :: hd) scr F (et_kpM E Ml C) d k pc L' [] ck sk else none
      | none => none)
    | none => et_ins T M Ks rec hd scr E C d k pc L st ck sk
def et_rn (T : List et_D) (M : et_M) (Ks : List et_Co) (an : Nat → Nat → Option et_A) : Nat → et_Rec
  | 0 => fun _ _ _ _ _ _ _ _ _ _ _ => none
  | f + 1 => et_one T M Ks an (et_rn T M Ks an f)
