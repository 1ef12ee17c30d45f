/-! BY HAND: one step after the other -/
def hs_pl (ins : Instr) : Bool := !et_rt ins && ((eg_ik ins).isNone && (match ins with
  | .new _ => false
  | _ => true))
theorem hs_th {k pc : Nat} {ins : Instr} (h : hs_pl ins = true) : eg_th k pc ins = none := by
  cases ins <;> first | rfl | (exact absurd h (by decide)) | (unfold hs_pl at h; simp at h)
theorem hs_sc {ins : Instr} {pc : Nat} {L : eg_Ls} {st : List Value} {G : eg_G} {ck sk : Nat} : eg_sc none ins pc L st G ck sk = none := by
  unfold eg_sc
  rfl
section HSA
variable {d k pc ck sk : Nat} {L : eg_Ls} {st r : List Value} {G : eg_G} {Z : eg_O → Prop}
theorem hs_st {ins : Instr} {len p ck' sk' : Nat} {L' : eg_Ls} {st' : List Value} {G' : eg_G} (hc : eg_cd k pc = some (ins, len)) (hp : hs_pl ins = true) (e : eg_st (eg_mo k) (eg_in k) eg_MC eg_MS pc len ins L st G ck sk = some (p, L', st', G', ck', sk')) (h : et_go none d k p L' st' G' ck' sk' Z) : et_go none d k pc L st G ck sk Z := by
  refine et_goS (fun q => ?_) h
  have hp2 := hp
  unfold hs_pl at hp2
  rw [Bool.and_eq_true, Bool.and_eq_true] at hp2
  have hrt : ¬ et_rt ins = true := by
    intro h
    rw [h] at hp2
    exact absurd hp2.1 (by decide)
  unfold eg_one
  rw [hc]
  dsimp only
  rw [et_rr_no hrt]
  dsimp only
  rw [hs_sc]
  dsimp only
  rw [hs_th hp]
  dsimp only
  rw [Option.isNone_iff_eq_none.mp hp2.2.1]
  dsimp only
  rw [e]
  rfl
/-! what stands there -/
def hs_il (k pc : Nat) : Option (Nat × Nat) := match eg_cd k pc with
  | some (.iload i, _) => some (i, pc + 2)
  | some (.iload_n i, _) => some (i, pc + 1)
  | _ => none
def hs_al (k pc : Nat) : Option (Nat × Nat) := match eg_cd k pc with
  | some (.aload i, _) => some (i, pc + 2)
  | some (.aload_n i, _) => some (i, pc + 1)
  | _ => none
def hs_is (k pc : Nat) : Option (Nat × Nat) := match eg_cd k pc with
  | some (.istore i, _) => some (i, pc + 2)
  | some (.istore_n i, _) => some (i, pc + 1)
  | _ => none
def hs_as (k pc : Nat) : Option (Nat × Nat) := match eg_cd k pc with
  | some (.astore i, _) => some (i, pc + 2)
  | some (.astore_n i, _) => some (i, pc + 1)
  | _ => none
def hs_ll (k pc : Nat) : Option (Nat × Nat) := match eg_cd k pc with
  | some (.lload i, _) => some (i, pc + 2)
  | some (.lload_n i, _) => some (i, pc + 1)
  | _ => none
def hs_ls (k pc : Nat) : Option (Nat × Nat) := match eg_cd k pc with
  | some (.lstore i, _) => some (i, pc + 2)
  | some (.lstore_n i, _) => some (i, pc + 1)
  | _ => none
def hs_kc (k pc : Nat) : Option (Int32 × Nat) := match eg_cd k pc with
  | some (.iconst n, _) => some (Int32.ofInt n, pc + 1)
  | some (.bipush n, _) => some ((Int8.ofInt n).toInt32, pc + 2)
  | some (.sipush n, _) => some ((Int16.ofInt n).toInt32, pc + 3)
  | _ => none
/-- instructions of one byte: a number and the next pc -/
def hs_o (k pc : Nat) : Option (Instr × Nat) := match eg_cd k pc with
  | some (ins, 1) => some (ins, pc + 1)
  | _ => none
def hs_gt (k pc : Nat) : Option Nat := match eg_cd k pc with
  | some (.goto off, _) => if 0 ≤ (pc : Int) + off then some (eg_tg pc off) else none
  | _ => none
def hs_if (k pc : Nat) : Option (ClassFile.Cond × Nat × Nat) := match eg_cd k pc with
  | some (.ifCond c off, _) => if 0 ≤ (pc : Int) + off then some (c, eg_tg pc off, pc + 3) else none
  | _ => none
def hs_ic (k pc : Nat) : Option (ClassFile.Cond × Nat × Nat) := match eg_cd k pc with
  | some (.if_icmp c off, _) => if 0 ≤ (pc : Int) + off then some (c, eg_tg pc off, pc + 3) else none
  | _ => none
def hs_ii (k pc : Nat) : Option (Nat × Int × Nat) := match eg_cd k pc with
  | some (.iinc i n, 3) => some (i, n, pc + 3)
  | _ => none
def hs_fi (k pc : Nat) : Option (Nat × Nat × Nat) := match eg_cd k pc with
  | some (.getfield i, _) => (match (eg_fT.getD (eg_mo k) []).lookup i with
    | some (ci, f, _) => some (ci, f, pc + 3)
    | none => none)
  | _ => none
def hs_pi (k pc : Nat) : Option (Nat × Nat × FieldType × Nat) := match eg_cd k pc with
  | some (.putfield i, _) => (match (eg_fT.getD (eg_mo k) []).lookup i with
    | some (ci, f, _) => if (eg_fd ci f).2.2.2 = false then some (ci, f, (eg_yl.getD ci (fun _ => .int)) f, pc + 3) else none
    | none => none)
  | _ => none
def hs_kl (k pc : Nat) : Option (Value × Nat) := match eg_cd k pc with
  | some (.ldc i, _) => (match (eg_kT.getD (eg_mo k) []).lookup i with
    | some v => if eg_kk 0 v = true then some (v, pc + 2) else none
    | none => none)
  | some (.ldc_w i, _) => (match (eg_kT.getD (eg_mo k) []).lookup i with
    | some v => if eg_kk 1 v = true then some (v, pc + 3) else none
    | none => none)
  | _ => none
theorem hs_iload {i p : Nat} {x : Int32} (hc : hs_il k pc = some (i, p)) (hv : eg_ld L i = some (.int x)) (h : et_go none d k p L (.int x :: st) G ck sk Z) : et_go none d k pc L st G ck sk Z := by
  unfold hs_il at hc
  split at hc
  · rename_i e
    cases hc
    exact hs_st e rfl (by show eg_li pc L st G ck sk _ 2 = _; unfold eg_li; rw [hv]) h
  · rename_i e
    cases hc
    exact hs_st e rfl (by show eg_li pc L st G ck sk _ 1 = _; unfold eg_li; rw [hv]) h
  · cases hc
theorem hs_aload {i p a : Nat} (hc : hs_al k pc = some (i, p)) (hv : eg_ld L i = some (.ref a)) (h : et_go none d k p L (.ref a :: st) G ck sk Z) : et_go none d k pc L st G ck sk Z := by
  unfold hs_al at hc
  split at hc
  · rename_i e
    cases hc
    exact hs_st e rfl (by show eg_la pc L st G ck sk _ 2 = _; unfold eg_la; rw [hv]) h
  · rename_i e
    cases hc
    exact hs_st e rfl (by show eg_la pc L st G ck sk _ 1 = _; unfold eg_la; rw [hv]) h
  · cases hc
theorem hs_lload {i p : Nat} {x : Int64} (hc : hs_ll k pc = some (i, p)) (hv : eg_ld L i = some (.long x)) (h : et_go none d k p L (.long x :: st) G ck sk Z) : et_go none d k pc L st G ck sk Z := by
  unfold hs_ll at hc
  split at hc
  · rename_i e
    cases hc
    exact hs_st e rfl (by show eg_ll pc L st G ck sk _ 2 = _; unfold eg_ll; rw [hv]) h
  · rename_i e
    cases hc
    exact hs_st e rfl (by show eg_ll pc L st G ck sk _ 1 = _; unfold eg_ll; rw [hv]) h
  · cases hc
theorem hs_istore {i p : Nat} {x : Int32} (hc : hs_is k pc = some (i, p)) (hl : i < L.length) (h : et_go none d k p (eg_s1 L i (.int x)) st G ck sk Z) : et_go none d k pc L (.int x :: st) G ck sk Z := by
  unfold hs_is at hc
  split at hc
  · rename_i e
    cases hc
    exact hs_st e rfl (by show eg_si pc L (.int x :: st) G ck sk _ 2 = _; unfold eg_si; dsimp only; rw [if_pos hl]) h
  · rename_i e
    cases hc
    exact hs_st e rfl (by show eg_si pc L (.int x :: st) G ck sk _ 1 = _; unfold eg_si; dsimp only; rw [if_pos hl]) h
  · cases hc
theorem hs_astore {i p a : Nat} (hc : hs_as k pc = some (i, p)) (hl : i < L.length) (h : et_go none d k p (eg_s1 L i (.ref a)) st G ck sk Z) : et_go none d k pc L (.ref a :: st) G ck sk Z := by
  unfold hs_as at hc
  split at hc
  · rename_i e
    cases hc
    exact hs_st e rfl (by show eg_sa pc L (.ref a :: st) G ck sk _ 2 = _; unfold eg_sa; dsimp only; rw [if_pos hl]) h
  · rename_i e
    cases hc
    exact hs_st e rfl (by show eg_sa pc L (.ref a :: st) G ck sk _ 1 = _; unfold eg_sa; dsimp only; rw [if_pos hl]) h
  · cases hc
theorem hs_lstore {i p : Nat} {x : Int64} (hc : hs_ls k pc = some (i, p)) (hl : i + 1 < L.length) (h : et_go none d k p (eg_s2 L i (.long x)) st G ck sk Z) : et_go none d k pc L (.long x :: st) G ck sk Z := by
  unfold hs_ls at hc
  split at hc
  · rename_i e
    cases hc
    exact hs_st e rfl (by show eg_sl2 pc L (.long x :: st) G ck sk _ 2 = _; unfold eg_sl2; dsimp only; rw [if_pos hl]) h
  · rename_i e
    cases hc
    exact hs_st e rfl (by show eg_sl2 pc L (.long x :: st) G ck sk _ 1 = _; unfold eg_sl2; dsimp only; rw [if_pos hl]) h
  · cases hc
theorem hs_k {x : Int32} {p : Nat} (hc : hs_kc k pc = some (x, p)) (h : et_go none d k p L (.int x :: st) G ck sk Z) : et_go none d k pc L st G ck sk Z := by
  unfold hs_kc at hc
  split at hc
  · rename_i e
    cases hc
    exact hs_st e rfl rfl h
  · rename_i e
    cases hc
    exact hs_st e rfl rfl h
  · rename_i e
    cases hc
    exact hs_st e rfl rfl h
  · cases hc
theorem hs_oc {ins : Instr} {p : Nat} (hc : hs_o k pc = some (ins, p)) : eg_cd k pc = some (ins, 1) ∧ p = pc + 1 := by
  unfold hs_o at hc
  split at hc
  · rename_i e
    cases hc
    exact ⟨e, rfl⟩
  · cases hc
theorem hs_iadd {p : Nat} {x y : Int32} (hc : hs_o k pc = some (.iadd, p)) (h : et_go none d k p L (.int (x + y) :: r) G ck sk Z) : et_go none d k pc L (.int y :: .int x :: r) G ck sk Z := by
  obtain ⟨e, rfl⟩ := hs_oc hc
  exact hs_st e rfl rfl h
theorem hs_isub {p : Nat} {x y : Int32} (hc : hs_o k pc = some (.isub, p)) (h : et_go none d k p L (.int (x - y) :: r) G ck sk Z) : et_go none d k pc L (.int y :: .int x :: r) G ck sk Z := by
  obtain ⟨e, rfl⟩ := hs_oc hc
  exact hs_st e rfl rfl h
theorem hs_imul {p : Nat} {x y : Int32} (hc : hs_o k pc = some (.imul, p)) (h : et_go none d k p L (.int (x * y) :: r) G ck sk Z) : et_go none d k pc L (.int y :: .int x :: r) G ck sk Z := by
  obtain ⟨e, rfl⟩ := hs_oc hc
  exact hs_st e rfl rfl h
theorem hs_nofn {n : Nat} : Int32.ofInt (n : Int) = Int32.ofNat n := by
  rw [Int32.ofInt_eq_ofNat]
theorem hs_nadd {a b : Nat} : Int32.ofNat a + Int32.ofNat b = Int32.ofNat (a + b) := (Int32.ofNat_add ..).symm
theorem hs_nmul {a b : Nat} : Int32.ofNat a * Int32.ofNat b = Int32.ofNat (a * b) := (Int32.ofNat_mul ..).symm
theorem hs_nsub {a b : Nat} (h : b ≤ a) : Int32.ofNat a - Int32.ofNat b = Int32.ofNat (a - b) := by
  obtain ⟨c, rfl⟩ := Nat.exists_eq_add_of_le h
  rw [← hs_nadd, Nat.add_sub_cancel_left, Int32.add_comm, Int32.add_sub_cancel]
theorem hs_nint {a : Nat} (h : a < 2147483648) : (Int32.ofNat a).toInt = (a : Int) := Int32.toInt_ofNat_of_lt h
theorem hs_nnat {a : Nat} (h : a < 2147483648) : (Int32.ofNat a).toNatClampNeg = a := by
  rw [← Int32.toNat_toInt, hs_nint h]
  rfl
/-- numbers that aren't below 0 -/
theorem hs_iaddn {p a b : Nat} (hc : hs_o k pc = some (.iadd, p)) (h : et_go none d k p L (.int (Int32.ofNat (a + b)) :: r) G ck sk Z) : et_go none d k pc L (.int (Int32.ofNat b) :: .int (Int32.ofNat a) :: r) G ck sk Z := by
  rw [← hs_nadd] at h
  exact hs_iadd hc h
theorem hs_imuln {p a b : Nat} (hc : hs_o k pc = some (.imul, p)) (h : et_go none d k p L (.int (Int32.ofNat (a * b)) :: r) G ck sk Z) : et_go none d k pc L (.int (Int32.ofNat b) :: .int (Int32.ofNat a) :: r) G ck sk Z := by
  rw [← hs_nmul] at h
  exact hs_imul hc h
theorem hs_isubn {p a b : Nat} (hc : hs_o k pc = some (.isub, p)) (hb : b ≤ a) (h : et_go none d k p L (.int (Int32.ofNat (a - b)) :: r) G ck sk Z) : et_go none d k pc L (.int (Int32.ofNat b) :: .int (Int32.ofNat a) :: r) G ck sk Z := by
  rw [← hs_nsub hb] at h
  exact hs_isub hc h
theorem hs_dup1 {p a : Nat} (hc : hs_o k pc = some (.dup, p)) (h : et_go none d k p L (.ref a :: .ref a :: r) G ck sk Z) : et_go none d k pc L (.ref a :: r) G ck sk Z := by
  obtain ⟨e, rfl⟩ := hs_oc hc
  exact hs_st e rfl rfl h
theorem hs_dup2 {p a : Nat} {x : Int32} (hc : hs_o k pc = some (.dup2, p)) (h : et_go none d k p L (.int x :: .ref a :: .int x :: .ref a :: r) G ck sk Z) : et_go none d k pc L (.int x :: .ref a :: r) G ck sk Z := by
  obtain ⟨e, rfl⟩ := hs_oc hc
  exact hs_st e rfl rfl h
theorem hs_goto {p : Nat} (hc : hs_gt k pc = some p) (h : et_go none d k p L st G ck sk Z) : et_go none d k pc L st G ck sk Z := by
  unfold hs_gt at hc
  split at hc
  · rename_i off _ e
    split at hc
    · rename_i h0
      cases hc
      exact hs_st e rfl (by show (if 0 ≤ (pc : Int) + off then _ else _) = _; rw [if_pos h0]) h
    · cases hc
  · cases hc
def hs_c1 (c : ClassFile.Cond) (x : Int32) : Prop := match c with
  | .eq => x = 0
  | .ne => ¬ x = 0
  | .lt => x < 0
  | .ge => 0 ≤ x
  | .gt => 0 < x
  | .le => x ≤ 0
def hs_c2 (c : ClassFile.Cond) (x y : Int32) : Prop := match c with
  | .eq => x = y
  | .ne => ¬ x = y
  | .lt => x < y
  | .ge => y ≤ x
  | .gt => y < x
  | .le => x ≤ y
theorem hs_br1 {c : ClassFile.Cond} {t f : Nat} {x : Int32} (hc : hs_if k pc = some (c, t, f)) (h1 : hs_c1 c x → et_go none d k t L r G ck sk Z) (h2 : ¬ hs_c1 c x → et_go none d k f L r G ck sk Z) : et_go none d k pc L (.int x :: r) G ck sk Z := by
  unfold hs_if at hc
  split at hc
  · rename_i off _ e
    split at hc
    · rename_i h0
      cases hc
      by_cases hx : hs_c1 c x
      · exact hs_st e rfl (by
          show (if 0 ≤ (pc : Int) + off then _ else _) = _
          rw [if_pos h0]
          cases c <;> (dsimp only [hs_c1] at hx ⊢; rw [if_pos hx])) (h1 hx)
      · exact hs_st e rfl (by
          show (if 0 ≤ (pc : Int) + off then _ else _) = _
          rw [if_pos h0]
          cases c <;> (dsimp only [hs_c1] at hx ⊢; rw [if_neg hx])) (h2 hx)
    · cases hc
  · cases hc
theorem hs_br2 {c : ClassFile.Cond} {t f : Nat} {x y : Int32} (hc : hs_ic k pc = some (c, t, f)) (h1 : hs_c2 c x y → et_go none d k t L r G ck sk Z) (h2 : ¬ hs_c2 c x y → et_go none d k f L r G ck sk Z) : et_go none d k pc L (.int y :: .int x :: r) G ck sk Z := by
  unfold hs_ic at hc
  split at hc
  · rename_i off _ e
    split at hc
    · rename_i h0
      cases hc
      by_cases hx : hs_c2 c x y
      · exact hs_st e rfl (by
          show (if 0 ≤ (pc : Int) + off then _ else _) = _
          rw [if_pos h0]
          cases c <;> (dsimp only [hs_c2] at hx ⊢; rw [if_pos hx])) (h1 hx)
      · exact hs_st e rfl (by
          show (if 0 ≤ (pc : Int) + off then _ else _) = _
          rw [if_pos h0]
          cases c <;> (dsimp only [hs_c2] at hx ⊢; rw [if_neg hx])) (h2 hx)
    · cases hc
  · cases hc
theorem hs_iinc {i p : Nat} {n : Int} {x : Int32} (hc : hs_ii k pc = some (i, n, p)) (hv : eg_ld L i = some (.int x)) (hl : i < L.length) (h : et_go none d k p (eg_s1 L i (.int (x + Int32.ofInt n))) st G ck sk Z) : et_go none d k pc L st G ck sk Z := by
  unfold hs_ii at hc
  split at hc
  · rename_i e
    cases hc
    exact hs_st e rfl (by
      show (match eg_ld L i with
        | some (.int x) => if 3 = 3 ∧ i < L.length then _ else none
        | _ => none) = _
      rw [hv]
      dsimp only
      rw [if_pos ⟨rfl, hl⟩]) h
  · cases hc
theorem hs_iinc1 {i p a : Nat} (hc : hs_ii k pc = some (i, 1, p)) (hv : eg_ld L i = some (.int (Int32.ofNat a))) (hl : i < L.length) (h : et_go none d k p (eg_s1 L i (.int (Int32.ofNat (a + 1)))) st G ck sk Z) : et_go none d k pc L st G ck sk Z := by
  rw [← hs_nadd] at h
  exact hs_iinc hc hv hl h
/-! numbers below 2^31 -/
theorem hs_nlt {a b : Nat} (ha : a < 2147483648) (hb : b < 2147483648) : Int32.ofNat a < Int32.ofNat b ↔ a < b := by
  rw [Int32.lt_iff_toInt_lt, hs_nint ha, hs_nint hb]
  omega
theorem hs_nle {a b : Nat} (ha : a < 2147483648) (hb : b < 2147483648) : Int32.ofNat a ≤ Int32.ofNat b ↔ a ≤ b := by
  rw [Int32.le_iff_toInt_le, hs_nint ha, hs_nint hb]
  omega
theorem hs_neq {a b : Nat} (ha : a < 2147483648) (hb : b < 2147483648) : Int32.ofNat a = Int32.ofNat b ↔ a = b := by
  rw [← Int32.toInt_inj, hs_nint ha, hs_nint hb]
  omega
def hs_n2 (c : ClassFile.Cond) (x y : Nat) : Prop := match c with
  | .eq => x = y
  | .ne => ¬ x = y
  | .lt => x < y
  | .ge => y ≤ x
  | .gt => y < x
  | .le => x ≤ y
theorem hs_br2n {c : ClassFile.Cond} {t f a b : Nat} (hc : hs_ic k pc = some (c, t, f)) (ha : a < 2147483648) (hb : b < 2147483648) (h1 : hs_n2 c a b → et_go none d k t L r G ck sk Z) (h2 : ¬ hs_n2 c a b → et_go none d k f L r G ck sk Z) : et_go none d k pc L (.int (Int32.ofNat b) :: .int (Int32.ofNat a) :: r) G ck sk Z := by
  have key : hs_c2 c (Int32.ofNat a) (Int32.ofNat b) ↔ hs_n2 c a b := by
    cases c
    · exact hs_neq ha hb
    · exact not_congr (hs_neq ha hb)
    · exact hs_nlt ha hb
    · exact hs_nle hb ha
    · exact hs_nlt hb ha
    · exact hs_nle ha hb
  exact hs_br2 hc (fun h => h1 (key.mp h)) (fun h => h2 (fun h' => h (key.mpr h')))
end HSA
