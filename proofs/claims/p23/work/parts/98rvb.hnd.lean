/-! FUNCTIONAL: what the class's facts, sums, conditions say -/
theorem hw_149 {G : eg_G} : eg_at G 149 = .inl (0, (36, .inl (fun j => eg_sw.getD j 0))) := by
  unfold eg_at
  rw [if_pos (by decide)]
  unfold eg_con
  rw [if_neg (by decide), if_neg (by decide), if_neg (by decide), if_neg (by decide), if_pos (by decide)]
theorem hw_swl {d k pc ck sk p i : Nat} {L : eg_Ls} {r : List Value} {G : eg_G} {Z : eg_O → Prop} {x : Int32} (hc : hs_o k pc = some (.iaload, p)) (hG : eg_NC ≤ G.2) (hi : i < 36) (hx : eg_sw.getD i 0 = x) (h : et_go none d k p L (.int x :: r) G ck sk Z) : et_go none d k pc L (.int (Int32.ofNat i) :: .ref 149 :: r) G ck sk Z := by
  obtain ⟨e0, rfl⟩ := hs_oc hc
  refine hs_st e0 rfl ?_ h
  show eg_ar .iaload pc L (.int (Int32.ofNat i) :: .ref 149 :: r) G ck sk = _
  unfold eg_ar
  dsimp only
  rw [hw_149]
  dsimp only
  have h3 := hs_nint (a := i) (by omega)
  have hNC : eg_NC = 152 := rfl
  rw [if_pos ⟨Nat.lt_of_lt_of_le (show 149 < eg_NC by decide) hG, by decide, by omega, by show (Int32.ofNat i).toInt < (36 : Int); omega⟩, hs_nnat (by omega)]
  subst hx
  rfl
/-- how many rows have a lit cell -/
def rowI (x : Int32) : Nat := (if (x >>> (Int32.ofNat (4 * 0) &&& 31)) &&& Int32.ofNat 15 = 0 then 0 else 1) + (if (x >>> (Int32.ofNat (4 * 1) &&& 31)) &&& Int32.ofNat 15 = 0 then 0 else 1) + (if (x >>> (Int32.ofNat (4 * 2) &&& 31)) &&& Int32.ofNat 15 = 0 then 0 else 1) + (if (x >>> (Int32.ofNat (4 * 3) &&& 31)) &&& Int32.ofNat 15 = 0 then 0 else 1)
/-- one step of the class's search for a piece -/
def pcS (x r : Int32) : Int32 := (r ||| (((((r &&& Int32.ofNat 30583) <<< (Int32.ofNat 1 &&& 31)) ||| ((r &&& 61166) >>> (Int32.ofNat 1 &&& 31))) ||| (r <<< (Int32.ofNat 4 &&& 31))) ||| (r >>> (Int32.ofNat 4 &&& 31)))) &&& x
def pcN (x : Int32) : Nat → Int32 → Int32
  | 0, r => r
  | n + 1, r => pcN x n (pcS x r)
theorem pcN_fix {x r : Int32} (h : pcS x r = r) : ∀ n, pcN x n r = r
  | 0 => rfl
  | n + 1 => by
    show pcN x n (pcS x r) = r
    rw [h]
    exact pcN_fix h n
def pcI (x : Int32) : Bool := decide (¬ x = 0) && decide (pcN x 16 (x &&& (-x)) = x)
def liI (x : Int32) (v : Nat) : Bool := decide (¬ (x >>> (Int32.ofNat v &&& 31)) &&& Int32.ofNat 1 = 0)
def feF (w : Nat) : Nat := if w = 10 then 3 else if w = 11 then 4 else if w = 12 then 5 else if w = 13 then 6 else if w = 15 then 7 else if w = 16 then 8 else if w = 17 then 9 else if w = 18 then 6 else 10
def feA (F : Nat → Int32) (w : Nat) : Int64 := if w = 3 then (rp_bc (F 0)).toInt64 else if w = 4 then (rp_bc (F 0 &&& Int32.ofNat 13107)).toInt64 else if w = 5 then (rp_bc (F 0 &&& 52428)).toInt64 else if w = 6 then (rp_bc (F 0 &&& Int32.ofNat 255)).toInt64 else if w = 7 then (Int32.ofNat (rowI (F 0))).toInt64 else (F (feF w)).toInt64
def feT (F : Nat → Int32) (w : Nat) : Bool := if w = 0 then pcI (F 0) else if w = 1 then decide (rp_bc (F 0) &&& Int32.ofNat 1 = 0) else if w = 8 then decide (¬ F 1 = 0) else if w = 9 then decide (¬ F 2 = 0) else decide (¬ F 11 = 0)
/-- what the class's facts say to a text -/
def feE (F : Nat → Int32) : sp_E := (feA F, (feT F, liI (F 0)))
/-- the object that holds them -/
def foR (K : et_K) (G : eg_G) (fo : Nat) (F : Nat → Int32) : Prop := K fo = some 4 ∧ (∀ i, i < 12 → et_pl (eg_at G fo) i = some (.int (F i))) ∧ ((F 1 = 0 ∨ F 1 = 1) ∧ (F 2 = 0 ∨ F 2 = 1) ∧ (F 11 = 0 ∨ F 11 = 1))
theorem z01 {x : Int32} (h : x = 0 ∨ x = 1) : x = Int32.ofNat (if decide (¬ x = 0) = true then 1 else 0) := by
  rcases h with rfl | rfl <;> decide
theorem i6_l {m : Nat} (hm : m < 10000) : (Int32.ofNat m).toInt64 = Int64.ofNat m := Int64.toInt_inj.mp (by rw [Int32.toInt_toInt64, hs_nint (by omega), Int64.toInt_ofNat_of_lt (by omega)])
section FTG
variable {K : et_K} {G : eg_G} {d2 d fo w v b dep : Nat} {F : Nat → Int32} {x : Int32}
theorem fx_bc : et_go none d2 305 0 (eg_en (eg_mL 305) [.int x]) [] G 0 0 (xp_Z G (some (.int (rp_bc x)))) := by
  rw [show eg_mL 305 = 1 from by decide +kernel]
  exact rp_bitCount rfl
theorem fx_ord (hG : eg_NC ≤ G.2) (hw : w < 36) : et_go none d2 304 0 (eg_en (eg_mL 304) [.ref w]) [] G 0 0 (xp_Z G (some (.int (Int32.ofNat w)))) := by
  have hNC : eg_NC = 152 := rfl
  rw [show eg_mL 304 = 1 from by decide +kernel]
  show et_go none d2 304 0 [some (.ref w)] [] G 0 0 _
  refine hs_aload (i := 0) (p := 1) (by decide +kernel) rfl ?_
  refine hs_get (ci := 12) (f := 0) (p := 4) (by decide +kernel) (hw_at hw) (by omega) rfl ?_
  refine hs_iret (by decide +kernel) ?_
  rfl

theorem fx_row : et_go none d2 56 0 (eg_en (eg_mL 56) [.int x]) [] G 0 0 (xp_Z G (some (.int (Int32.ofNat (rowI x))))) := by
  rw [show eg_mL 56 = 3 from by decide +kernel]
  show et_go none d2 56 0 [some (.int x), none, none] [] G 0 0 _
  refine hs_k (x := Int32.ofNat 0) (p := 1) (by decide +kernel) ?_
  refine hs_istore (i := 1) (p := 2) (by decide +kernel) (Nat.le_of_ble_eq_true rfl) ?_
  refine hs_k (x := Int32.ofNat 0) (p := 3) (by decide +kernel) ?_
  refine hs_istore (i := 2) (p := 4) (by decide +kernel) (Nat.le_of_ble_eq_true rfl) ?_
  show et_go none _ 56 4 [some (.int x), some (.int (Int32.ofNat 0)), some (.int (Int32.ofNat 0))] [] _ _ _ _
  refine hs_iload (i := 2) (p := 5) (by decide +kernel) rfl ?_
  refine hs_k (x := Int32.ofNat 4) (p := 6) (by decide +kernel) ?_
  refine hs_br2n (c := .ge) (t := 29) (f := 9) (by decide +kernel) (by omega) (by omega) (fun h => absurd h (show ¬ (4 ≤ 0) by decide)) (fun _ => ?_)
  refine hs_iload (i := 0) (p := 10) (by decide +kernel) rfl ?_
  refine hs_k (x := Int32.ofNat 4) (p := 11) (by decide +kernel) ?_
  refine hs_iload (i := 2) (p := 12) (by decide +kernel) rfl ?_
  refine hs_imuln (p := 13) (by decide +kernel) ?_
  refine hs_st (ins := .ishr) (len := 1) (p := 14) (by decide +kernel) rfl rfl ?_
  refine hs_k (x := Int32.ofNat 15) (p := 16) (by decide +kernel) ?_
  refine hs_st (ins := .iand) (len := 1) (p := 17) (by decide +kernel) rfl rfl ?_
  refine hs_br1 (c := .eq) (t := 23) (f := 20) (by decide +kernel) (fun (c17_1 : ((x >>> ((Int32.ofNat (4 * 0)) &&& 31)) &&& (Int32.ofNat 15)) = 0) => ?_) (fun (c17_1 : ¬ (((x >>> ((Int32.ofNat (4 * 0)) &&& 31)) &&& (Int32.ofNat 15)) = 0)) => ?_)
  · refine hs_iinc1 (i := 2) (p := 26) (by decide +kernel) rfl (Nat.le_of_ble_eq_true rfl) ?_
    refine hs_goto (p := 4) (by decide +kernel) ?_
    show et_go none _ 56 4 [some (.int x), some (.int (Int32.ofNat 0)), some (.int (Int32.ofNat 1))] [] _ _ _ _
    refine hs_iload (i := 2) (p := 5) (by decide +kernel) rfl ?_
    refine hs_k (x := Int32.ofNat 4) (p := 6) (by decide +kernel) ?_
    refine hs_br2n (c := .ge) (t := 29) (f := 9) (by decide +kernel) (by omega) (by omega) (fun h => absurd h (show ¬ (4 ≤ 1) by decide)) (fun _ => ?_)
    refine hs_iload (i := 0) (p := 10) (by decide +kernel) rfl ?_
    refine hs_k (x := Int32.ofNat 4) (p := 11) (by decide +kernel) ?_
    refine hs_iload (i := 2) (p := 12) (by decide +kernel) rfl ?_
    refine hs_imuln (p := 13) (by decide +kernel) ?_
    refine hs_st (ins := .ishr) (len := 1) (p := 14) (by decide +kernel) rfl rfl ?_
    refine hs_k (x := Int32.ofNat 15) (p := 16) (by decide +kernel) ?_
    refine hs_st (ins := .iand) (len := 1) (p := 17) (by decide +kernel) rfl rfl ?_
    refine hs_br1 (c := .eq) (t := 23) (f := 20) (by decide +kernel) (fun (c17_2 : ((x >>> ((Int32.ofNat (4 * 1)) &&& 31)) &&& (Int32.ofNat 15)) = 0) => ?_) (fun (c17_2 : ¬ (((x >>> ((Int32.ofNat (4 * 1)) &&& 31)) &&& (Int32.ofNat 15)) = 0)) => ?_)
    · refine hs_iinc1 (i := 2) (p := 26) (by decide +kernel) rfl (Nat.le_of_ble_eq_true rfl) ?_
      refine hs_goto (p := 4) (by decide +kernel) ?_
      show et_go none _ 56 4 [some (.int x), some (.int (Int32.ofNat 0)), some (.int (Int32.ofNat 2))] [] _ _ _ _
      refine hs_iload (i := 2) (p := 5) (by decide +kernel) rfl ?_
      refine hs_k (x := Int32.ofNat 4) (p := 6) (by decide +kernel) ?_
      refine hs_br2n (c := .ge) (t := 29) (f := 9) (by decide +kernel) (by omega) (by omega) (fun h => absurd h (show ¬ (4 ≤ 2) by decide)) (fun _ => ?_)
      refine hs_iload (i := 0) (p := 10) (by decide +kernel) rfl ?_
      refine hs_k (x := Int32.ofNat 4) (p := 11) (by decide +kernel) ?_
      refine hs_iload (i := 2) (p := 12) (by decide +kernel) rfl ?_
      refine hs_imuln (p := 13) (by decide +kernel) ?_
      refine hs_st (ins := .ishr) (len := 1) (p := 14) (by decide +kernel) rfl rfl ?_
      refine hs_k (x := Int32.ofNat 15) (p := 16) (by decide +kernel) ?_
      refine hs_st (ins := .iand) (len := 1) (p := 17) (by decide +kernel) rfl rfl ?_
      refine hs_br1 (c := .eq) (t := 23) (f := 20) (by decide +kernel) (fun (c17_3 : ((x >>> ((Int32.ofNat (4 * 2)) &&& 31)) &&& (Int32.ofNat 15)) = 0) => ?_) (fun (c17_3 : ¬ (((x >>> ((Int32.ofNat (4 * 2)) &&& 31)) &&& (Int32.ofNat 15)) = 0)) => ?_)
      · refine hs_iinc1 (i := 2) (p := 26) (by decide +kernel) rfl (Nat.le_of_ble_eq_true rfl) ?_
        refine hs_goto (p := 4) (by decide +kernel) ?_
        show et_go none _ 56 4 [some (.int x), some (.int (Int32.ofNat 0)), some (.int (Int32.ofNat 3))] [] _ _ _ _
        refine hs_iload (i := 2) (p := 5) (by decide +kernel) rfl ?_
        refine hs_k (x := Int32.ofNat 4) (p := 6) (by decide +kernel) ?_
        refine hs_br2n (c := .ge) (t := 29) (f := 9) (by decide +kernel) (by omega) (by omega) (fun h => absurd h (show ¬ (4 ≤ 3) by decide)) (fun _ => ?_)
        refine hs_iload (i := 0) (p := 10) (by decide +kernel) rfl ?_
        refine hs_k (x := Int32.ofNat 4) (p := 11) (by decide +kernel) ?_
        refine hs_iload (i := 2) (p := 12) (by decide +kernel) rfl ?_
        refine hs_imuln (p := 13) (by decide +kernel) ?_
        refine hs_st (ins := .ishr) (len := 1) (p := 14) (by decide +kernel) rfl rfl ?_
        refine hs_k (x := Int32.ofNat 15) (p := 16) (by decide +kernel) ?_
        refine hs_st (ins := .iand) (len := 1) (p := 17) (by decide +kernel) rfl rfl ?_
        refine hs_br1 (c := .eq) (t := 23) (f := 20) (by decide +kernel) (fun (c17_4 : ((x >>> ((Int32.ofNat (4 * 3)) &&& 31)) &&& (Int32.ofNat 15)) = 0) => ?_) (fun (c17_4 : ¬ (((x >>> ((Int32.ofNat (4 * 3)) &&& 31)) &&& (Int32.ofNat 15)) = 0)) => ?_)
        · refine hs_iinc1 (i := 2) (p := 26) (by decide +kernel) rfl (Nat.le_of_ble_eq_true rfl) ?_
          refine hs_goto (p := 4) (by decide +kernel) ?_
          show et_go none _ 56 4 [some (.int x), some (.int (Int32.ofNat 0)), some (.int (Int32.ofNat 4))] [] _ _ _ _
          refine hs_iload (i := 2) (p := 5) (by decide +kernel) rfl ?_
          refine hs_k (x := Int32.ofNat 4) (p := 6) (by decide +kernel) ?_
          refine hs_br2n (c := .ge) (t := 29) (f := 9) (by decide +kernel) (by omega) (by omega) (fun _ => ?_) (fun h => absurd (show 4 ≤ 4 by decide) h)
          refine hs_iload (i := 1) (p := 30) (by decide +kernel) rfl ?_
          refine hs_iret (by decide +kernel) ?_
          have hk : rowI x = 0 := by unfold rowI; rw [if_pos c17_1, if_pos c17_2, if_pos c17_3, if_pos c17_4]
          rw [hk]
          rfl
        · refine hs_iinc1 (i := 1) (p := 23) (by decide +kernel) rfl (Nat.le_of_ble_eq_true rfl) ?_
          refine hs_iinc1 (i := 2) (p := 26) (by decide +kernel) rfl (Nat.le_of_ble_eq_true rfl) ?_
          refine hs_goto (p := 4) (by decide +kernel) ?_
          show et_go none _ 56 4 [some (.int x), some (.int (Int32.ofNat 1)), some (.int (Int32.ofNat 4))] [] _ _ _ _
          refine hs_iload (i := 2) (p := 5) (by decide +kernel) rfl ?_
          refine hs_k (x := Int32.ofNat 4) (p := 6) (by decide +kernel) ?_
          refine hs_br2n (c := .ge) (t := 29) (f := 9) (by decide +kernel) (by omega) (by omega) (fun _ => ?_) (fun h => absurd (show 4 ≤ 4 by decide) h)
          refine hs_iload (i := 1) (p := 30) (by decide +kernel) rfl ?_
          refine hs_iret (by decide +kernel) ?_
          have hk : rowI x = 1 := by unfold rowI; rw [if_pos c17_1, if_pos c17_2, if_pos c17_3, if_neg c17_4]
          rw [hk]
          rfl
      · refine hs_iinc1 (i := 1) (p := 23) (by decide +kernel) rfl (Nat.le_of_ble_eq_true rfl) ?_
        refine hs_iinc1 (i := 2) (p := 26) (by decide +kernel) rfl (Nat.le_of_ble_eq_true rfl) ?_
        refine hs_goto (p := 4) (by decide +kernel) ?_
        show et_go none _ 56 4 [some (.int x), some (.int (Int32.ofNat 1)), some (.int (Int32.ofNat 3))] [] _ _ _ _
        refine hs_iload (i := 2) (p := 5) (by decide +kernel) rfl ?_
        refine hs_k (x := Int32.ofNat 4) (p := 6) (by decide +kernel) ?_
        refine hs_br2n (c := .ge) (t := 29) (f := 9) (by decide +kernel) (by omega) (by omega) (fun h => absurd h (show ¬ (4 ≤ 3) by decide)) (fun _ => ?_)
        refine hs_iload (i := 0) (p := 10) (by decide +kernel) rfl ?_
        refine hs_k (x := Int32.ofNat 4) (p := 11) (by decide +kernel) ?_
        refine hs_iload (i := 2) (p := 12) (by decide +kernel) rfl ?_
        refine hs_imuln (p := 13) (by decide +kernel) ?_
        refine hs_st (ins := .ishr) (len := 1) (p := 14) (by decide +kernel) rfl rfl ?_
        refine hs_k (x := Int32.ofNat 15) (p := 16) (by decide +kernel) ?_
        refine hs_st (ins := .iand) (len := 1) (p := 17) (by decide +kernel) rfl rfl ?_
        refine hs_br1 (c := .eq) (t := 23) (f := 20) (by decide +kernel) (fun (c17_5 : ((x >>> ((Int32.ofNat (4 * 3)) &&& 31)) &&& (Int32.ofNat 15)) = 0) => ?_) (fun (c17_5 : ¬ (((x >>> ((Int32.ofNat (4 * 3)) &&& 31)) &&& (Int32.ofNat 15)) = 0)) => ?_)
        · refine hs_iinc1 (i := 2) (p := 26) (by decide +kernel) rfl (Nat.le_of_ble_eq_true rfl) ?_
          refine hs_goto (p := 4) (by decide +kernel) ?_
          show et_go none _ 56 4 [some (.int x), some (.int (Int32.ofNat 1)), some (.int (Int32.ofNat 4))] [] _ _ _ _
          refine hs_iload (i := 2) (p := 5) (by decide +kernel) rfl ?_
          refine hs_k (x := Int32.ofNat 4) (p := 6) (by decide +kernel) ?_
          refine hs_br2n (c := .ge) (t := 29) (f := 9) (by decide +kernel) (by omega) (by omega) (fun _ => ?_) (fun h => absurd (show 4 ≤ 4 by decide) h)
          refine hs_iload (i := 1) (p := 30) (by decide +kernel) rfl ?_
          refine hs_iret (by decide +kernel) ?_
          have hk : rowI x = 1 := by unfold rowI; rw [if_pos c17_1, if_pos c17_2, if_neg c17_3, if_pos c17_5]
          rw [hk]
          rfl
        · refine hs_iinc1 (i := 1) (p := 23) (by decide +kernel) rfl (Nat.le_of_ble_eq_true rfl) ?_
          refine hs_iinc1 (i := 2) (p := 26) (by decide +kernel) rfl (Nat.le_of_ble_eq_true rfl) ?_
          refine hs_goto (p := 4) (by decide +kernel) ?_
          show et_go none _ 56 4 [some (.int x), some (.int (Int32.ofNat 2)), some (.int (Int32.ofNat 4))] [] _ _ _ _
          refine hs_iload (i := 2) (p := 5) (by decide +kernel) rfl ?_
          refine hs_k (x := Int32.ofNat 4) (p := 6) (by decide +kernel) ?_
          refine hs_br2n (c := .ge) (t := 29) (f := 9) (by decide +kernel) (by omega) (by omega) (fun _ => ?_) (fun h => absurd (show 4 ≤ 4 by decide) h)
          refine hs_iload (i := 1) (p := 30) (by decide +kernel) rfl ?_
          refine hs_iret (by decide +kernel) ?_
          have hk : rowI x = 2 := by unfold rowI; rw [if_pos c17_1, if_pos c17_2, if_neg c17_3, if_neg c17_5]
          rw [hk]
          rfl
    · refine hs_iinc1 (i := 1) (p := 23) (by decide +kernel) rfl (Nat.le_of_ble_eq_true rfl) ?_
      refine hs_iinc1 (i := 2) (p := 26) (by decide +kernel) rfl (Nat.le_of_ble_eq_true rfl) ?_
      refine hs_goto (p := 4) (by decide +kernel) ?_
      show et_go none _ 56 4 [some (.int x), some (.int (Int32.ofNat 1)), some (.int (Int32.ofNat 2))] [] _ _ _ _
      refine hs_iload (i := 2) (p := 5) (by decide +kernel) rfl ?_
      refine hs_k (x := Int32.ofNat 4) (p := 6) (by decide +kernel) ?_
      refine hs_br2n (c := .ge) (t := 29) (f := 9) (by decide +kernel) (by omega) (by omega) (fun h => absurd h (show ¬ (4 ≤ 2) by decide)) (fun _ => ?_)
      refine hs_iload (i := 0) (p := 10) (by decide +kernel) rfl ?_
      refine hs_k (x := Int32.ofNat 4) (p := 11) (by decide +kernel) ?_
      refine hs_iload (i := 2) (p := 12) (by decide +kernel) rfl ?_
      refine hs_imuln (p := 13) (by decide +kernel) ?_
      refine hs_st (ins := .ishr) (len := 1) (p := 14) (by decide +kernel) rfl rfl ?_
      refine hs_k (x := Int32.ofNat 15) (p := 16) (by decide +kernel) ?_
      refine hs_st (ins := .iand) (len := 1) (p := 17) (by decide +kernel) rfl rfl ?_
      refine hs_br1 (c := .eq) (t := 23) (f := 20) (by decide +kernel) (fun (c17_6 : ((x >>> ((Int32.ofNat (4 * 2)) &&& 31)) &&& (Int32.ofNat 15)) = 0) => ?_) (fun (c17_6 : ¬ (((x >>> ((Int32.ofNat (4 * 2)) &&& 31)) &&& (Int32.ofNat 15)) = 0)) => ?_)
      · refine hs_iinc1 (i := 2) (p := 26) (by decide +kernel) rfl (Nat.le_of_ble_eq_true rfl) ?_
        refine hs_goto (p := 4) (by decide +kernel) ?_
        show et_go none _ 56 4 [some (.int x), some (.int (Int32.ofNat 1)), some (.int (Int32.ofNat 3))] [] _ _ _ _
        refine hs_iload (i := 2) (p := 5) (by decide +kernel) rfl ?_
        refine hs_k (x := Int32.ofNat 4) (p := 6) (by decide +kernel) ?_
        refine hs_br2n (c := .ge) (t := 29) (f := 9) (by decide +kernel) (by omega) (by omega) (fun h => absurd h (show ¬ (4 ≤ 3) by decide)) (fun _ => ?_)
        refine hs_iload (i := 0) (p := 10) (by decide +kernel) rfl ?_
        refine hs_k (x := Int32.ofNat 4) (p := 11) (by decide +kernel) ?_
        refine hs_iload (i := 2) (p := 12) (by decide +kernel) rfl ?_
        refine hs_imuln (p := 13) (by decide +kernel) ?_
        refine hs_st (ins := .ishr) (len := 1) (p := 14) (by decide +kernel) rfl rfl ?_
        refine hs_k (x := Int32.ofNat 15) (p := 16) (by decide +kernel) ?_
        refine hs_st (ins := .iand) (len := 1) (p := 17) (by decide +kernel) rfl rfl ?_
        refine hs_br1 (c := .eq) (t := 23) (f := 20) (by decide +kernel) (fun (c17_7 : ((x >>> ((Int32.ofNat (4 * 3)) &&& 31)) &&& (Int32.ofNat 15)) = 0) => ?_) (fun (c17_7 : ¬ (((x >>> ((Int32.ofNat (4 * 3)) &&& 31)) &&& (Int32.ofNat 15)) = 0)) => ?_)
        · refine hs_iinc1 (i := 2) (p := 26) (by decide +kernel) rfl (Nat.le_of_ble_eq_true rfl) ?_
          refine hs_goto (p := 4) (by decide +kernel) ?_
          show et_go none _ 56 4 [some (.int x), some (.int (Int32.ofNat 1)), some (.int (Int32.ofNat 4))] [] _ _ _ _
          refine hs_iload (i := 2) (p := 5) (by decide +kernel) rfl ?_
          refine hs_k (x := Int32.ofNat 4) (p := 6) (by decide +kernel) ?_
          refine hs_br2n (c := .ge) (t := 29) (f := 9) (by decide +kernel) (by omega) (by omega) (fun _ => ?_) (fun h => absurd (show 4 ≤ 4 by decide) h)
          refine hs_iload (i := 1) (p := 30) (by decide +kernel) rfl ?_
          refine hs_iret (by decide +kernel) ?_
          have hk : rowI x = 1 := by unfold rowI; rw [if_pos c17_1, if_neg c17_2, if_pos c17_6, if_pos c17_7]
          rw [hk]
          rfl
        · refine hs_iinc1 (i := 1) (p := 23) (by decide +kernel) rfl (Nat.le_of_ble_eq_true rfl) ?_
          refine hs_iinc1 (i := 2) (p := 26) (by decide +kernel) rfl (Nat.le_of_ble_eq_true rfl) ?_
          refine hs_goto (p := 4) (by decide +kernel) ?_
          show et_go none _ 56 4 [some (.int x), some (.int (Int32.ofNat 2)), some (.int (Int32.ofNat 4))] [] _ _ _ _
          refine hs_iload (i := 2) (p := 5) (by decide +kernel) rfl ?_
          refine hs_k (x := Int32.ofNat 4) (p := 6) (by decide +kernel) ?_
          refine hs_br2n (c := .ge) (t := 29) (f := 9) (by decide +kernel) (by omega) (by omega) (fun _ => ?_) (fun h => absurd (show 4 ≤ 4 by decide) h)
          refine hs_iload (i := 1) (p := 30) (by decide +kernel) rfl ?_
          refine hs_iret (by decide +kernel) ?_
          have hk : rowI x = 2 := by unfold rowI; rw [if_pos c17_1, if_neg c17_2, if_pos c17_6, if_neg c17_7]
          rw [hk]
          rfl
      · refine hs_iinc1 (i := 1) (p := 23) (by decide +kernel) rfl (Nat.le_of_ble_eq_true rfl) ?_
        refine hs_iinc1 (i := 2) (p := 26) (by decide +kernel) rfl (Nat.le_of_ble_eq_true rfl) ?_
        refine hs_goto (p := 4) (by decide +kernel) ?_
        show et_go none _ 56 4 [some (.int x), some (.int (Int32.ofNat 2)), some (.int (Int32.ofNat 3))] [] _ _ _ _
        refine hs_iload (i := 2) (p := 5) (by decide +kernel) rfl ?_
        refine hs_k (x := Int32.ofNat 4) (p := 6) (by decide +kernel) ?_
        refine hs_br2n (c := .ge) (t := 29) (f := 9) (by decide +kernel) (by omega) (by omega) (fun h => absurd h (show ¬ (4 ≤ 3) by decide)) (fun _ => ?_)
        refine hs_iload (i := 0) (p := 10) (by decide +kernel) rfl ?_
        refine hs_k (x := Int32.ofNat 4) (p := 11) (by decide +kernel) ?_
        refine hs_iload (i := 2) (p := 12) (by decide +kernel) rfl ?_
        refine hs_imuln (p := 13) (by decide +kernel) ?_
        refine hs_st (ins := .ishr) (len := 1) (p := 14) (by decide +kernel) rfl rfl ?_
        refine hs_k (x := Int32.ofNat 15) (p := 16) (by decide +kernel) ?_
        refine hs_st (ins := .iand) (len := 1) (p := 17) (by decide +kernel) rfl rfl ?_
        refine hs_br1 (c := .eq) (t := 23) (f := 20) (by decide +kernel) (fun (c17_8 : ((x >>> ((Int32.ofNat (4 * 3)) &&& 31)) &&& (Int32.ofNat 15)) = 0) => ?_) (fun (c17_8 : ¬ (((x >>> ((Int32.ofNat (4 * 3)) &&& 31)) &&& (Int32.ofNat 15)) = 0)) => ?_)
        · refine hs_iinc1 (i := 2) (p := 26) (by decide +kernel) rfl (Nat.le_of_ble_eq_true rfl) ?_
          refine hs_goto (p := 4) (by decide +kernel) ?_
          show et_go none _ 56 4 [some (.int x), some (.int (Int32.ofNat 2)), some (.int (Int32.ofNat 4))] [] _ _ _ _
          refine hs_iload (i := 2) (p := 5) (by decide +kernel) rfl ?_
          refine hs_k (x := Int32.ofNat 4) (p := 6) (by decide +kernel) ?_
          refine hs_br2n (c := .ge) (t := 29) (f := 9) (by decide +kernel) (by omega) (by omega) (fun _ => ?_) (fun h => absurd (show 4 ≤ 4 by decide) h)
          refine hs_iload (i := 1) (p := 30) (by decide +kernel) rfl ?_
          refine hs_iret (by decide +kernel) ?_
          have hk : rowI x = 2 := by unfold rowI; rw [if_pos c17_1, if_neg c17_2, if_neg c17_6, if_pos c17_8]
          rw [hk]
          rfl
        · refine hs_iinc1 (i := 1) (p := 23) (by decide +kernel) rfl (Nat.le_of_ble_eq_true rfl) ?_
          refine hs_iinc1 (i := 2) (p := 26) (by decide +kernel) rfl (Nat.le_of_ble_eq_true rfl) ?_
          refine hs_goto (p := 4) (by decide +kernel) ?_
          show et_go none _ 56 4 [some (.int x), some (.int (Int32.ofNat 3)), some (.int (Int32.ofNat 4))] [] _ _ _ _
          refine hs_iload (i := 2) (p := 5) (by decide +kernel) rfl ?_
          refine hs_k (x := Int32.ofNat 4) (p := 6) (by decide +kernel) ?_
          refine hs_br2n (c := .ge) (t := 29) (f := 9) (by decide +kernel) (by omega) (by omega) (fun _ => ?_) (fun h => absurd (show 4 ≤ 4 by decide) h)
          refine hs_iload (i := 1) (p := 30) (by decide +kernel) rfl ?_
          refine hs_iret (by decide +kernel) ?_
          have hk : rowI x = 3 := by unfold rowI; rw [if_pos c17_1, if_neg c17_2, if_neg c17_6, if_neg c17_8]
          rw [hk]
          rfl
  · refine hs_iinc1 (i := 1) (p := 23) (by decide +kernel) rfl (Nat.le_of_ble_eq_true rfl) ?_
    refine hs_iinc1 (i := 2) (p := 26) (by decide +kernel) rfl (Nat.le_of_ble_eq_true rfl) ?_
    refine hs_goto (p := 4) (by decide +kernel) ?_
    show et_go none _ 56 4 [some (.int x), some (.int (Int32.ofNat 1)), some (.int (Int32.ofNat 1))] [] _ _ _ _
    refine hs_iload (i := 2) (p := 5) (by decide +kernel) rfl ?_
    refine hs_k (x := Int32.ofNat 4) (p := 6) (by decide +kernel) ?_
    refine hs_br2n (c := .ge) (t := 29) (f := 9) (by decide +kernel) (by omega) (by omega) (fun h => absurd h (show ¬ (4 ≤ 1) by decide)) (fun _ => ?_)
    refine hs_iload (i := 0) (p := 10) (by decide +kernel) rfl ?_
    refine hs_k (x := Int32.ofNat 4) (p := 11) (by decide +kernel) ?_
    refine hs_iload (i := 2) (p := 12) (by decide +kernel) rfl ?_
    refine hs_imuln (p := 13) (by decide +kernel) ?_
    refine hs_st (ins := .ishr) (len := 1) (p := 14) (by decide +kernel) rfl rfl ?_
    refine hs_k (x := Int32.ofNat 15) (p := 16) (by decide +kernel) ?_
    refine hs_st (ins := .iand) (len := 1) (p := 17) (by decide +kernel) rfl rfl ?_
    refine hs_br1 (c := .eq) (t := 23) (f := 20) (by decide +kernel) (fun (c17_9 : ((x >>> ((Int32.ofNat (4 * 1)) &&& 31)) &&& (Int32.ofNat 15)) = 0) => ?_) (fun (c17_9 : ¬ (((x >>> ((Int32.ofNat (4 * 1)) &&& 31)) &&& (Int32.ofNat 15)) = 0)) => ?_)
    · refine hs_iinc1 (i := 2) (p := 26) (by decide +kernel) rfl (Nat.le_of_ble_eq_true rfl) ?_
      refine hs_goto (p := 4) (by decide +kernel) ?_
      show et_go none _ 56 4 [some (.int x), some (.int (Int32.ofNat 1)), some (.int (Int32.ofNat 2))] [] _ _ _ _
      refine hs_iload (i := 2) (p := 5) (by decide +kernel) rfl ?_
      refine hs_k (x := Int32.ofNat 4) (p := 6) (by decide +kernel) ?_
      refine hs_br2n (c := .ge) (t := 29) (f := 9) (by decide +kernel) (by omega) (by omega) (fun h => absurd h (show ¬ (4 ≤ 2) by decide)) (fun _ => ?_)
      refine hs_iload (i := 0) (p := 10) (by decide +kernel) rfl ?_
      refine hs_k (x := Int32.ofNat 4) (p := 11) (by decide +kernel) ?_
      refine hs_iload (i := 2) (p := 12) (by decide +kernel) rfl ?_
      refine hs_imuln (p := 13) (by decide +kernel) ?_
      refine hs_st (ins := .ishr) (len := 1) (p := 14) (by decide +kernel) rfl rfl ?_
      refine hs_k (x := Int32.ofNat 15) (p := 16) (by decide +kernel) ?_
      refine hs_st (ins := .iand) (len := 1) (p := 17) (by decide +kernel) rfl rfl ?_
      refine hs_br1 (c := .eq) (t := 23) (f := 20) (by decide +kernel) (fun (c17_10 : ((x >>> ((Int32.ofNat (4 * 2)) &&& 31)) &&& (Int32.ofNat 15)) = 0) => ?_) (fun (c17_10 : ¬ (((x >>> ((Int32.ofNat (4 * 2)) &&& 31)) &&& (Int32.ofNat 15)) = 0)) => ?_)
      · refine hs_iinc1 (i := 2) (p := 26) (by decide +kernel) rfl (Nat.le_of_ble_eq_true rfl) ?_
        refine hs_goto (p := 4) (by decide +kernel) ?_
        show et_go none _ 56 4 [some (.int x), some (.int (Int32.ofNat 1)), some (.int (Int32.ofNat 3))] [] _ _ _ _
        refine hs_iload (i := 2) (p := 5) (by decide +kernel) rfl ?_
        refine hs_k (x := Int32.ofNat 4) (p := 6) (by decide +kernel) ?_
        refine hs_br2n (c := .ge) (t := 29) (f := 9) (by decide +kernel) (by omega) (by omega) (fun h => absurd h (show ¬ (4 ≤ 3) by decide)) (fun _ => ?_)
        refine hs_iload (i := 0) (p := 10) (by decide +kernel) rfl ?_
        refine hs_k (x := Int32.ofNat 4) (p := 11) (by decide +kernel) ?_
        refine hs_iload (i := 2) (p := 12) (by decide +kernel) rfl ?_
        refine hs_imuln (p := 13) (by decide +kernel) ?_
        refine hs_st (ins := .ishr) (len := 1) (p := 14) (by decide +kernel) rfl rfl ?_
        refine hs_k (x := Int32.ofNat 15) (p := 16) (by decide +kernel) ?_
        refine hs_st (ins := .iand) (len := 1) (p := 17) (by decide +kernel) rfl rfl ?_
        refine hs_br1 (c := .eq) (t := 23) (f := 20) (by decide +kernel) (fun (c17_11 : ((x >>> ((Int32.ofNat (4 * 3)) &&& 31)) &&& (Int32.ofNat 15)) = 0) => ?_) (fun (c17_11 : ¬ (((x >>> ((Int32.ofNat (4 * 3)) &&& 31)) &&& (Int32.ofNat 15)) = 0)) => ?_)
        · refine hs_iinc1 (i := 2) (p := 26) (by decide +kernel) rfl (Nat.le_of_ble_eq_true rfl) ?_
          refine hs_goto (p := 4) (by decide +kernel) ?_
          show et_go none _ 56 4 [some (.int x), some (.int (Int32.ofNat 1)), some (.int (Int32.ofNat 4))] [] _ _ _ _
          refine hs_iload (i := 2) (p := 5) (by decide +kernel) rfl ?_
          refine hs_k (x := Int32.ofNat 4) (p := 6) (by decide +kernel) ?_
          refine hs_br2n (c := .ge) (t := 29) (f := 9) (by decide +kernel) (by omega) (by omega) (fun _ => ?_) (fun h => absurd (show 4 ≤ 4 by decide) h)
          refine hs_iload (i := 1) (p := 30) (by decide +kernel) rfl ?_
          refine hs_iret (by decide +kernel) ?_
          have hk : rowI x = 1 := by unfold rowI; rw [if_neg c17_1, if_pos c17_9, if_pos c17_10, if_pos c17_11]
          rw [hk]
          rfl
        · refine hs_iinc1 (i := 1) (p := 23) (by decide +kernel) rfl (Nat.le_of_ble_eq_true rfl) ?_
          refine hs_iinc1 (i := 2) (p := 26) (by decide +kernel) rfl (Nat.le_of_ble_eq_true rfl) ?_
          refine hs_goto (p := 4) (by decide +kernel) ?_
          show et_go none _ 56 4 [some (.int x), some (.int (Int32.ofNat 2)), some (.int (Int32.ofNat 4))] [] _ _ _ _
          refine hs_iload (i := 2) (p := 5) (by decide +kernel) rfl ?_
          refine hs_k (x := Int32.ofNat 4) (p := 6) (by decide +kernel) ?_
          refine hs_br2n (c := .ge) (t := 29) (f := 9) (by decide +kernel) (by omega) (by omega) (fun _ => ?_) (fun h => absurd (show 4 ≤ 4 by decide) h)
          refine hs_iload (i := 1) (p := 30) (by decide +kernel) rfl ?_
          refine hs_iret (by decide +kernel) ?_
          have hk : rowI x = 2 := by unfold rowI; rw [if_neg c17_1, if_pos c17_9, if_pos c17_10, if_neg c17_11]
          rw [hk]
          rfl
      · refine hs_iinc1 (i := 1) (p := 23) (by decide +kernel) rfl (Nat.le_of_ble_eq_true rfl) ?_
        refine hs_iinc1 (i := 2) (p := 26) (by decide +kernel) rfl (Nat.le_of_ble_eq_true rfl) ?_
        refine hs_goto (p := 4) (by decide +kernel) ?_
        show et_go none _ 56 4 [some (.int x), some (.int (Int32.ofNat 2)), some (.int (Int32.ofNat 3))] [] _ _ _ _
        refine hs_iload (i := 2) (p := 5) (by decide +kernel) rfl ?_
        refine hs_k (x := Int32.ofNat 4) (p := 6) (by decide +kernel) ?_
        refine hs_br2n (c := .ge) (t := 29) (f := 9) (by decide +kernel) (by omega) (by omega) (fun h => absurd h (show ¬ (4 ≤ 3) by decide)) (fun _ => ?_)
        refine hs_iload (i := 0) (p := 10) (by decide +kernel) rfl ?_
        refine hs_k (x := Int32.ofNat 4) (p := 11) (by decide +kernel) ?_
        refine hs_iload (i := 2) (p := 12) (by decide +kernel) rfl ?_
        refine hs_imuln (p := 13) (by decide +kernel) ?_
        refine hs_st (ins := .ishr) (len := 1) (p := 14) (by decide +kernel) rfl rfl ?_
        refine hs_k (x := Int32.ofNat 15) (p := 16) (by decide +kernel) ?_
        refine hs_st (ins := .iand) (len := 1) (p := 17) (by decide +kernel) rfl rfl ?_
        refine hs_br1 (c := .eq) (t := 23) (f := 20) (by decide +kernel) (fun (c17_12 : ((x >>> ((Int32.ofNat (4 * 3)) &&& 31)) &&& (Int32.ofNat 15)) = 0) => ?_) (fun (c17_12 : ¬ (((x >>> ((Int32.ofNat (4 * 3)) &&& 31)) &&& (Int32.ofNat 15)) = 0)) => ?_)
        · refine hs_iinc1 (i := 2) (p := 26) (by decide +kernel) rfl (Nat.le_of_ble_eq_true rfl) ?_
          refine hs_goto (p := 4) (by decide +kernel) ?_
          show et_go none _ 56 4 [some (.int x), some (.int (Int32.ofNat 2)), some (.int (Int32.ofNat 4))] [] _ _ _ _
          refine hs_iload (i := 2) (p := 5) (by decide +kernel) rfl ?_
          refine hs_k (x := Int32.ofNat 4) (p := 6) (by decide +kernel) ?_
          refine hs_br2n (c := .ge) (t := 29) (f := 9) (by decide +kernel) (by omega) (by omega) (fun _ => ?_) (fun h => absurd (show 4 ≤ 4 by decide) h)
          refine hs_iload (i := 1) (p := 30) (by decide +kernel) rfl ?_
          refine hs_iret (by decide +kernel) ?_
          have hk : rowI x = 2 := by unfold rowI; rw [if_neg c17_1, if_pos c17_9, if_neg c17_10, if_pos c17_12]
          rw [hk]
          rfl
        · refine hs_iinc1 (i := 1) (p := 23) (by decide +kernel) rfl (Nat.le_of_ble_eq_true rfl) ?_
          refine hs_iinc1 (i := 2) (p := 26) (by decide +kernel) rfl (Nat.le_of_ble_eq_true rfl) ?_
          refine hs_goto (p := 4) (by decide +kernel) ?_
          show et_go none _ 56 4 [some (.int x), some (.int (Int32.ofNat 3)), some (.int (Int32.ofNat 4))] [] _ _ _ _
          refine hs_iload (i := 2) (p := 5) (by decide +kernel) rfl ?_
          refine hs_k (x := Int32.ofNat 4) (p := 6) (by decide +kernel) ?_
          refine hs_br2n (c := .ge) (t := 29) (f := 9) (by decide +kernel) (by omega) (by omega) (fun _ => ?_) (fun h => absurd (show 4 ≤ 4 by decide) h)
          refine hs_iload (i := 1) (p := 30) (by decide +kernel) rfl ?_
          refine hs_iret (by decide +kernel) ?_
          have hk : rowI x = 3 := by unfold rowI; rw [if_neg c17_1, if_pos c17_9, if_neg c17_10, if_neg c17_12]
          rw [hk]
          rfl
    · refine hs_iinc1 (i := 1) (p := 23) (by decide +kernel) rfl (Nat.le_of_ble_eq_true rfl) ?_
      refine hs_iinc1 (i := 2) (p := 26) (by decide +kernel) rfl (Nat.le_of_ble_eq_true rfl) ?_
      refine hs_goto (p := 4) (by decide +kernel) ?_
      show et_go none _ 56 4 [some (.int x), some (.int (Int32.ofNat 2)), some (.int (Int32.ofNat 2))] [] _ _ _ _
      refine hs_iload (i := 2) (p := 5) (by decide +kernel) rfl ?_
      refine hs_k (x := Int32.ofNat 4) (p := 6) (by decide +kernel) ?_
      refine hs_br2n (c := .ge) (t := 29) (f := 9) (by decide +kernel) (by omega) (by omega) (fun h => absurd h (show ¬ (4 ≤ 2) by decide)) (fun _ => ?_)
      refine hs_iload (i := 0) (p := 10) (by decide +kernel) rfl ?_
      refine hs_k (x := Int32.ofNat 4) (p := 11) (by decide +kernel) ?_
      refine hs_iload (i := 2) (p := 12) (by decide +kernel) rfl ?_
      refine hs_imuln (p := 13) (by decide +kernel) ?_
      refine hs_st (ins := .ishr) (len := 1) (p := 14) (by decide +kernel) rfl rfl ?_
      refine hs_k (x := Int32.ofNat 15) (p := 16) (by decide +kernel) ?_
      refine hs_st (ins := .iand) (len := 1) (p := 17) (by decide +kernel) rfl rfl ?_
      refine hs_br1 (c := .eq) (t := 23) (f := 20) (by decide +kernel) (fun (c17_13 : ((x >>> ((Int32.ofNat (4 * 2)) &&& 31)) &&& (Int32.ofNat 15)) = 0) => ?_) (fun (c17_13 : ¬ (((x >>> ((Int32.ofNat (4 * 2)) &&& 31)) &&& (Int32.ofNat 15)) = 0)) => ?_)
      · refine hs_iinc1 (i := 2) (p := 26) (by decide +kernel) rfl (Nat.le_of_ble_eq_true rfl) ?_
        refine hs_goto (p := 4) (by decide +kernel) ?_
        show et_go none _ 56 4 [some (.int x), some (.int (Int32.ofNat 2)), some (.int (Int32.ofNat 3))] [] _ _ _ _
        refine hs_iload (i := 2) (p := 5) (by decide +kernel) rfl ?_
        refine hs_k (x := Int32.ofNat 4) (p := 6) (by decide +kernel) ?_
        refine hs_br2n (c := .ge) (t := 29) (f := 9) (by decide +kernel) (by omega) (by omega) (fun h => absurd h (show ¬ (4 ≤ 3) by decide)) (fun _ => ?_)
        refine hs_iload (i := 0) (p := 10) (by decide +kernel) rfl ?_
        refine hs_k (x := Int32.ofNat 4) (p := 11) (by decide +kernel) ?_
        refine hs_iload (i := 2) (p := 12) (by decide +kernel) rfl ?_
        refine hs_imuln (p := 13) (by decide +kernel) ?_
        refine hs_st (ins := .ishr) (len := 1) (p := 14) (by decide +kernel) rfl rfl ?_
        refine hs_k (x := Int32.ofNat 15) (p := 16) (by decide +kernel) ?_
        refine hs_st (ins := .iand) (len := 1) (p := 17) (by decide +kernel) rfl rfl ?_
        refine hs_br1 (c := .eq) (t := 23) (f := 20) (by decide +kernel) (fun (c17_14 : ((x >>> ((Int32.ofNat (4 * 3)) &&& 31)) &&& (Int32.ofNat 15)) = 0) => ?_) (fun (c17_14 : ¬ (((x >>> ((Int32.ofNat (4 * 3)) &&& 31)) &&& (Int32.ofNat 15)) = 0)) => ?_)
        · refine hs_iinc1 (i := 2) (p := 26) (by decide +kernel) rfl (Nat.le_of_ble_eq_true rfl) ?_
          refine hs_goto (p := 4) (by decide +kernel) ?_
          show et_go none _ 56 4 [some (.int x), some (.int (Int32.ofNat 2)), some (.int (Int32.ofNat 4))] [] _ _ _ _
          refine hs_iload (i := 2) (p := 5) (by decide +kernel) rfl ?_
          refine hs_k (x := Int32.ofNat 4) (p := 6) (by decide +kernel) ?_
          refine hs_br2n (c := .ge) (t := 29) (f := 9) (by decide +kernel) (by omega) (by omega) (fun _ => ?_) (fun h => absurd (show 4 ≤ 4 by decide) h)
          refine hs_iload (i := 1) (p := 30) (by decide +kernel) rfl ?_
          refine hs_iret (by decide +kernel) ?_
          have hk : rowI x = 2 := by unfold rowI; rw [if_neg c17_1, if_neg c17_9, if_pos c17_13, if_pos c17_14]
          rw [hk]
          rfl
        · refine hs_iinc1 (i := 1) (p := 23) (by decide +kernel) rfl (Nat.le_of_ble_eq_true rfl) ?_
          refine hs_iinc1 (i := 2) (p := 26) (by decide +kernel) rfl (Nat.le_of_ble_eq_true rfl) ?_
          refine hs_goto (p := 4) (by decide +kernel) ?_
          show et_go none _ 56 4 [some (.int x), some (.int (Int32.ofNat 3)), some (.int (Int32.ofNat 4))] [] _ _ _ _
          refine hs_iload (i := 2) (p := 5) (by decide +kernel) rfl ?_
          refine hs_k (x := Int32.ofNat 4) (p := 6) (by decide +kernel) ?_
          refine hs_br2n (c := .ge) (t := 29) (f := 9) (by decide +kernel) (by omega) (by omega) (fun _ => ?_) (fun h => absurd (show 4 ≤ 4 by decide) h)
          refine hs_iload (i := 1) (p := 30) (by decide +kernel) rfl ?_
          refine hs_iret (by decide +kernel) ?_
          have hk : rowI x = 3 := by unfold rowI; rw [if_neg c17_1, if_neg c17_9, if_pos c17_13, if_neg c17_14]
          rw [hk]
          rfl
      · refine hs_iinc1 (i := 1) (p := 23) (by decide +kernel) rfl (Nat.le_of_ble_eq_true rfl) ?_
        refine hs_iinc1 (i := 2) (p := 26) (by decide +kernel) rfl (Nat.le_of_ble_eq_true rfl) ?_
        refine hs_goto (p := 4) (by decide +kernel) ?_
        show et_go none _ 56 4 [some (.int x), some (.int (Int32.ofNat 3)), some (.int (Int32.ofNat 3))] [] _ _ _ _
        refine hs_iload (i := 2) (p := 5) (by decide +kernel) rfl ?_
        refine hs_k (x := Int32.ofNat 4) (p := 6) (by decide +kernel) ?_
        refine hs_br2n (c := .ge) (t := 29) (f := 9) (by decide +kernel) (by omega) (by omega) (fun h => absurd h (show ¬ (4 ≤ 3) by decide)) (fun _ => ?_)
        refine hs_iload (i := 0) (p := 10) (by decide +kernel) rfl ?_
        refine hs_k (x := Int32.ofNat 4) (p := 11) (by decide +kernel) ?_
        refine hs_iload (i := 2) (p := 12) (by decide +kernel) rfl ?_
        refine hs_imuln (p := 13) (by decide +kernel) ?_
        refine hs_st (ins := .ishr) (len := 1) (p := 14) (by decide +kernel) rfl rfl ?_
        refine hs_k (x := Int32.ofNat 15) (p := 16) (by decide +kernel) ?_
        refine hs_st (ins := .iand) (len := 1) (p := 17) (by decide +kernel) rfl rfl ?_
        refine hs_br1 (c := .eq) (t := 23) (f := 20) (by decide +kernel) (fun (c17_15 : ((x >>> ((Int32.ofNat (4 * 3)) &&& 31)) &&& (Int32.ofNat 15)) = 0) => ?_) (fun (c17_15 : ¬ (((x >>> ((Int32.ofNat (4 * 3)) &&& 31)) &&& (Int32.ofNat 15)) = 0)) => ?_)
        · refine hs_iinc1 (i := 2) (p := 26) (by decide +kernel) rfl (Nat.le_of_ble_eq_true rfl) ?_
          refine hs_goto (p := 4) (by decide +kernel) ?_
          show et_go none _ 56 4 [some (.int x), some (.int (Int32.ofNat 3)), some (.int (Int32.ofNat 4))] [] _ _ _ _
          refine hs_iload (i := 2) (p := 5) (by decide +kernel) rfl ?_
          refine hs_k (x := Int32.ofNat 4) (p := 6) (by decide +kernel) ?_
          refine hs_br2n (c := .ge) (t := 29) (f := 9) (by decide +kernel) (by omega) (by omega) (fun _ => ?_) (fun h => absurd (show 4 ≤ 4 by decide) h)
          refine hs_iload (i := 1) (p := 30) (by decide +kernel) rfl ?_
          refine hs_iret (by decide +kernel) ?_
          have hk : rowI x = 3 := by unfold rowI; rw [if_neg c17_1, if_neg c17_9, if_neg c17_13, if_pos c17_15]
          rw [hk]
          rfl
        · refine hs_iinc1 (i := 1) (p := 23) (by decide +kernel) rfl (Nat.le_of_ble_eq_true rfl) ?_
          refine hs_iinc1 (i := 2) (p := 26) (by decide +kernel) rfl (Nat.le_of_ble_eq_true rfl) ?_
          refine hs_goto (p := 4) (by decide +kernel) ?_
          show et_go none _ 56 4 [some (.int x), some (.int (Int32.ofNat 4)), some (.int (Int32.ofNat 4))] [] _ _ _ _
          refine hs_iload (i := 2) (p := 5) (by decide +kernel) rfl ?_
          refine hs_k (x := Int32.ofNat 4) (p := 6) (by decide +kernel) ?_
          refine hs_br2n (c := .ge) (t := 29) (f := 9) (by decide +kernel) (by omega) (by omega) (fun _ => ?_) (fun h => absurd (show 4 ≤ 4 by decide) h)
          refine hs_iload (i := 1) (p := 30) (by decide +kernel) rfl ?_
          refine hs_iret (by decide +kernel) ?_
          have hk : rowI x = 4 := by unfold rowI; rw [if_neg c17_1, if_neg c17_9, if_neg c17_13, if_neg c17_15]
          rw [hk]
          rfl
theorem fx_lit : et_go none d2 122 0 (eg_en (eg_mL 122) [.int x, .int (Int32.ofNat v)]) [] G 0 0 (xp_Z G (some (.int (Int32.ofNat (if liI x v = true then 1 else 0))))) := by
  rw [show eg_mL 122 = 2 from by decide +kernel]
  show et_go none d2 122 0 [some (.int x), some (.int (Int32.ofNat v))] [] G 0 0 _
  refine hs_iload (i := 0) (p := 1) (by decide +kernel) rfl ?_
  refine hs_iload (i := 1) (p := 2) (by decide +kernel) rfl ?_
  refine hs_st (ins := .ishr) (len := 1) (p := 3) (by decide +kernel) rfl rfl ?_
  refine hs_k (x := Int32.ofNat 1) (p := 4) (by decide +kernel) ?_
  refine hs_st (ins := .iand) (len := 1) (p := 5) (by decide +kernel) rfl rfl ?_
  refine hs_br1 (c := .eq) (t := 12) (f := 8) (by decide +kernel) (fun (c5 : ((x >>> ((Int32.ofNat v) &&& 31)) &&& (Int32.ofNat 1)) = 0) => ?_) (fun (c5 : ¬ (((x >>> ((Int32.ofNat v) &&& 31)) &&& (Int32.ofNat 1)) = 0)) => ?_)
  · refine hs_k (x := Int32.ofNat 0) (p := 13) (by decide +kernel) ?_
    refine hs_zret (by decide +kernel) (.inl rfl) ?_
    rw [show liI x v = false from decide_eq_false (fun h => h c5)]
    rfl
  · refine hs_k (x := Int32.ofNat 1) (p := 9) (by decide +kernel) ?_
    refine hs_goto (p := 13) (by decide +kernel) ?_
    refine hs_zret (by decide +kernel) (.inr rfl) ?_
    rw [show liI x v = true from decide_eq_true c5]
    rfl
theorem fn_piece {i : Nat} {y : Int32} {x3 x4 : Option Value} (hi : i ≤ 16) : et_go none d2 53 7 [some (.int x), some (.int y), some (.int (Int32.ofNat i)), x3, x4] [] G 0 0 (xp_Z G (some (.int (Int32.ofNat (if (decide (¬ x = 0) && decide (pcN x (16 - i) y = x)) = true then 1 else 0))))) := by
  induction hm : 16 - i using Nat.strongRecOn generalizing i y x3 x4 with
  | _ z ih =>
    refine hs_iload (i := 2) (p := 8) (by decide +kernel) rfl ?_
    refine hs_k (x := Int32.ofNat 16) (p := 10) (by decide +kernel) ?_
    refine hs_br2n (c := .ge) (t := 61) (f := 13) (by decide +kernel) (by omega) (by omega) (fun (c10 : 16 ≤ i) => ?_) (fun (c10 : ¬ (16 ≤ i)) => ?_)
    · refine hs_iload (i := 0) (p := 62) (by decide +kernel) rfl ?_
      refine hs_br1 (c := .eq) (t := 74) (f := 65) (by decide +kernel) (fun (c62 : x = 0) => ?_) (fun (c62 : ¬ (x = 0)) => ?_)
      · refine hs_k (x := Int32.ofNat 0) (p := 75) (by decide +kernel) ?_
        refine hs_zret (by decide +kernel) (.inl rfl) ?_
        have hz : pcN x z y = y := (by rw [show z = 0 by omega]; rfl)
        rw [hz]
        rw [show (decide (¬ x = 0) && decide (y = x)) = false from by rw [decide_eq_false (fun h => h c62)]; rfl]
        rfl
      · refine hs_iload (i := 1) (p := 66) (by decide +kernel) rfl ?_
        refine hs_iload (i := 0) (p := 67) (by decide +kernel) rfl ?_
        refine hs_br2 (c := .ne) (t := 74) (f := 70) (by decide +kernel) (fun (c67 : ¬ y = x) => ?_) (fun (c67 : ¬ (¬ y = x)) => ?_)
        · refine hs_k (x := Int32.ofNat 0) (p := 75) (by decide +kernel) ?_
          refine hs_zret (by decide +kernel) (.inl rfl) ?_
          have hz : pcN x z y = y := (by rw [show z = 0 by omega]; rfl)
          rw [hz]
          rw [show (decide (¬ x = 0) && decide (y = x)) = false from by rw [decide_eq_false (show ¬ y = x from c67), Bool.and_false]]
          rfl
        · refine hs_k (x := Int32.ofNat 1) (p := 71) (by decide +kernel) ?_
          refine hs_goto (p := 75) (by decide +kernel) ?_
          refine hs_zret (by decide +kernel) (.inr rfl) ?_
          have hz : pcN x z y = y := (by rw [show z = 0 by omega]; rfl)
          rw [hz]
          rw [show (decide (¬ x = 0) && decide (y = x)) = true from by rw [decide_eq_true c62, decide_eq_true (show y = x from Decidable.of_not_not c67)]; rfl]
          rfl
    · refine hs_iload (i := 1) (p := 14) (by decide +kernel) rfl ?_
      refine hs_k (x := Int32.ofNat 30583) (p := 17) (by decide +kernel) ?_
      refine hs_st (ins := .iand) (len := 1) (p := 18) (by decide +kernel) rfl rfl ?_
      refine hs_k (x := Int32.ofNat 1) (p := 19) (by decide +kernel) ?_
      refine hs_st (ins := .ishl) (len := 1) (p := 20) (by decide +kernel) rfl rfl ?_
      refine hs_iload (i := 1) (p := 21) (by decide +kernel) rfl ?_
      refine hs_kld (v := .int 61166) (p := 23) (by decide +kernel) ?_
      refine hs_st (ins := .iand) (len := 1) (p := 24) (by decide +kernel) rfl rfl ?_
      refine hs_k (x := Int32.ofNat 1) (p := 25) (by decide +kernel) ?_
      refine hs_st (ins := .ishr) (len := 1) (p := 26) (by decide +kernel) rfl rfl ?_
      refine hs_st (ins := .ior) (len := 1) (p := 27) (by decide +kernel) rfl rfl ?_
      refine hs_iload (i := 1) (p := 28) (by decide +kernel) rfl ?_
      refine hs_k (x := Int32.ofNat 4) (p := 29) (by decide +kernel) ?_
      refine hs_st (ins := .ishl) (len := 1) (p := 30) (by decide +kernel) rfl rfl ?_
      refine hs_st (ins := .ior) (len := 1) (p := 31) (by decide +kernel) rfl rfl ?_
      refine hs_iload (i := 1) (p := 32) (by decide +kernel) rfl ?_
      refine hs_k (x := Int32.ofNat 4) (p := 33) (by decide +kernel) ?_
      refine hs_st (ins := .ishr) (len := 1) (p := 34) (by decide +kernel) rfl rfl ?_
      refine hs_st (ins := .ior) (len := 1) (p := 35) (by decide +kernel) rfl rfl ?_
      refine hs_istore (i := 3) (p := 36) (by decide +kernel) (Nat.le_of_ble_eq_true rfl) ?_
      refine hs_iload (i := 1) (p := 37) (by decide +kernel) rfl ?_
      refine hs_iload (i := 3) (p := 38) (by decide +kernel) rfl ?_
      refine hs_st (ins := .ior) (len := 1) (p := 39) (by decide +kernel) rfl rfl ?_
      refine hs_iload (i := 0) (p := 40) (by decide +kernel) rfl ?_
      refine hs_st (ins := .iand) (len := 1) (p := 41) (by decide +kernel) rfl rfl ?_
      refine hs_istore (i := 4) (p := 43) (by decide +kernel) (Nat.le_of_ble_eq_true rfl) ?_
      refine hs_iload (i := 4) (p := 45) (by decide +kernel) rfl ?_
      refine hs_iload (i := 1) (p := 46) (by decide +kernel) rfl ?_
      refine hs_br2 (c := .ne) (t := 52) (f := 49) (by decide +kernel) (fun (c46 : ¬ ((y ||| (((((y &&& (Int32.ofNat 30583)) <<< ((Int32.ofNat 1) &&& 31)) ||| ((y &&& 61166) >>> ((Int32.ofNat 1) &&& 31))) ||| (y <<< ((Int32.ofNat 4) &&& 31))) ||| (y >>> ((Int32.ofNat 4) &&& 31)))) &&& x) = y) => ?_) (fun (c46 : ¬ (¬ ((y ||| (((((y &&& (Int32.ofNat 30583)) <<< ((Int32.ofNat 1) &&& 31)) ||| ((y &&& 61166) >>> ((Int32.ofNat 1) &&& 31))) ||| (y <<< ((Int32.ofNat 4) &&& 31))) ||| (y >>> ((Int32.ofNat 4) &&& 31)))) &&& x) = y)) => ?_)
      · refine hs_iload (i := 4) (p := 54) (by decide +kernel) rfl ?_
        refine hs_istore (i := 1) (p := 55) (by decide +kernel) (Nat.le_of_ble_eq_true rfl) ?_
        refine hs_iinc1 (i := 2) (p := 58) (by decide +kernel) rfl (Nat.le_of_ble_eq_true rfl) ?_
        refine hs_goto (p := 7) (by decide +kernel) ?_
        show et_go none _ 53 7 [some (.int x), some (.int ((y ||| (((((y &&& (Int32.ofNat 30583)) <<< ((Int32.ofNat 1) &&& 31)) ||| ((y &&& 61166) >>> ((Int32.ofNat 1) &&& 31))) ||| (y <<< ((Int32.ofNat 4) &&& 31))) ||| (y >>> ((Int32.ofNat 4) &&& 31)))) &&& x)), some (.int (Int32.ofNat (i + 1))), some (.int (((((y &&& (Int32.ofNat 30583)) <<< ((Int32.ofNat 1) &&& 31)) ||| ((y &&& 61166) >>> ((Int32.ofNat 1) &&& 31))) ||| (y <<< ((Int32.ofNat 4) &&& 31))) ||| (y >>> ((Int32.ofNat 4) &&& 31)))), some (.int ((y ||| (((((y &&& (Int32.ofNat 30583)) <<< ((Int32.ofNat 1) &&& 31)) ||| ((y &&& 61166) >>> ((Int32.ofNat 1) &&& 31))) ||| (y <<< ((Int32.ofNat 4) &&& 31))) ||| (y >>> ((Int32.ofNat 4) &&& 31)))) &&& x))] [] _ _ _ _
        have h := ih (16 - (i + 1)) (by omega) (i := i + 1) (y := pcS x y) (x3 := some (.int (((((y &&& (Int32.ofNat 30583)) <<< ((Int32.ofNat 1) &&& 31)) ||| ((y &&& 61166) >>> ((Int32.ofNat 1) &&& 31))) ||| (y <<< ((Int32.ofNat 4) &&& 31))) ||| (y >>> ((Int32.ofNat 4) &&& 31))))) (x4 := some (.int ((y ||| (((((y &&& (Int32.ofNat 30583)) <<< ((Int32.ofNat 1) &&& 31)) ||| ((y &&& 61166) >>> ((Int32.ofNat 1) &&& 31))) ||| (y <<< ((Int32.ofNat 4) &&& 31))) ||| (y >>> ((Int32.ofNat 4) &&& 31)))) &&& x))) (by omega) rfl
        rw [show z = 16 - (i + 1) + 1 by omega]
        exact h
      · refine hs_goto (p := 61) (by decide +kernel) ?_
        refine hs_iload (i := 0) (p := 62) (by decide +kernel) rfl ?_
        refine hs_br1 (c := .eq) (t := 74) (f := 65) (by decide +kernel) (fun (c62 : x = 0) => ?_) (fun (c62 : ¬ (x = 0)) => ?_)
        · refine hs_k (x := Int32.ofNat 0) (p := 75) (by decide +kernel) ?_
          refine hs_zret (by decide +kernel) (.inl rfl) ?_
          have hz : pcN x z y = y := pcN_fix (show pcS x y = y from Decidable.of_not_not c46) z
          rw [hz]
          rw [show (decide (¬ x = 0) && decide (y = x)) = false from by rw [decide_eq_false (fun h => h c62)]; rfl]
          rfl
        · refine hs_iload (i := 1) (p := 66) (by decide +kernel) rfl ?_
          refine hs_iload (i := 0) (p := 67) (by decide +kernel) rfl ?_
          refine hs_br2 (c := .ne) (t := 74) (f := 70) (by decide +kernel) (fun (c67 : ¬ y = x) => ?_) (fun (c67 : ¬ (¬ y = x)) => ?_)
          · refine hs_k (x := Int32.ofNat 0) (p := 75) (by decide +kernel) ?_
            refine hs_zret (by decide +kernel) (.inl rfl) ?_
            have hz : pcN x z y = y := pcN_fix (show pcS x y = y from Decidable.of_not_not c46) z
            rw [hz]
            rw [show (decide (¬ x = 0) && decide (y = x)) = false from by rw [decide_eq_false (show ¬ y = x from c67), Bool.and_false]]
            rfl
          · refine hs_k (x := Int32.ofNat 1) (p := 71) (by decide +kernel) ?_
            refine hs_goto (p := 75) (by decide +kernel) ?_
            refine hs_zret (by decide +kernel) (.inr rfl) ?_
            have hz : pcN x z y = y := pcN_fix (show pcS x y = y from Decidable.of_not_not c46) z
            rw [hz]
            rw [show (decide (¬ x = 0) && decide (y = x)) = true from by rw [decide_eq_true c62, decide_eq_true (show y = x from Decidable.of_not_not c67)]; rfl]
            rfl
theorem fx_piece : et_go none d2 53 0 (eg_en (eg_mL 53) [.int x]) [] G 0 0 (xp_Z G (some (.int (Int32.ofNat (if pcI x = true then 1 else 0))))) := by
  rw [show eg_mL 53 = 5 from by decide +kernel]
  show et_go none d2 53 0 [some (.int x), none, none, none, none] [] G 0 0 _
  refine hs_iload (i := 0) (p := 1) (by decide +kernel) rfl ?_
  refine hs_iload (i := 0) (p := 2) (by decide +kernel) rfl ?_
  refine hs_st (ins := .ineg) (len := 1) (p := 3) (by decide +kernel) rfl rfl ?_
  refine hs_st (ins := .iand) (len := 1) (p := 4) (by decide +kernel) rfl rfl ?_
  refine hs_istore (i := 1) (p := 5) (by decide +kernel) (Nat.le_of_ble_eq_true rfl) ?_
  refine hs_k (x := Int32.ofNat 0) (p := 6) (by decide +kernel) ?_
  refine hs_istore (i := 2) (p := 7) (by decide +kernel) (Nat.le_of_ble_eq_true rfl) ?_
  show et_go none _ 53 7 [some (.int x), some (.int (x &&& (-x))), some (.int (Int32.ofNat 0)), none, none] [] _ _ _ _
  exact fn_piece (i := 0) (Nat.zero_le _)
theorem fx_num3 (hH : et_H et_TT K G) (hF : foR K G fo F) : et_go none (d + 1) 55 0 (eg_en (eg_mL 55) [.ref fo, .ref 3]) [] G 0 0 (xp_Z G (some (.long (feA F 3)))) := by
  have k_fo := hF.1
  rw [show eg_mL 55 = 2 from by decide +kernel]
  show et_go none (d + 1) 55 0 [some (.ref fo), some (.ref 3)] [] G 0 0 _
  refine hs_gst (v := Value.ref 149) (p := 3) (by decide +kernel) ?_
  refine hs_aload (i := 1) (p := 4) (by decide +kernel) rfl ?_
  refine ht_callv (T := et_TT) (t := 0) (mi := 304) (na := 0) (ci := 12) (lk := 2) (lm := 1) (L0 := eg_en (eg_mL 304) [.ref 3]) (by decide +kernel) rfl hH (hH.2.1 _ (by decide)) rfl rfl rfl rfl rfl (by rw [show eg_mL 304 = 1 from by decide +kernel]; first | done | rfl) ?_
  refine (fx_ord hH.1 (by decide)).mono (fun u hu => xp_cb hu ?_)
  show et_go none _ 55 7 _ [.int (Int32.ofNat 3), .ref 149] _ _ _ _
  refine hw_swl (i := 3) (x := Int32.ofNat 1) (p := 8) (by decide +kernel) hH.1 (by decide) (by decide +kernel) ?_
  refine hs_st (ins := .tableswitch 176 1 14 #[72, 81, 94, 106, 119, 128, 134, 140, 146, 146, 152, 158, 164, 170]) (len := 72) (by decide +kernel) rfl (by rfl) (?_ : et_go none _ 55 80 _ _ _ _ _ _)
  refine hs_aload (i := 0) (p := 81) (by decide +kernel) rfl ?_
  refine hf_get (T := et_TT) (t := 4) (ci := 2) (f := 0) (p := 84) (by decide +kernel) rfl hH k_fo (hF.2.1 0 (by decide)) ?_
  refine hs_calls (mi := 305) (na := 1) (lk := 2) (lm := 1) (L0 := eg_en (eg_mL 305) [.int (F 0)]) (by decide +kernel) rfl rfl rfl rfl rfl rfl (by rw [show eg_mL 305 = 1 from by decide +kernel]; first | done | rfl) ?_
  refine (fx_bc (x := (F 0))).mono (fun u hu => xp_cb hu ?_)
  show et_go none _ 55 87 _ [.int (rp_bc (F 0))] _ _ _ _
  refine hs_i2l (p := 88) (by decide +kernel) ?_
  refine hs_lret ⟨by decide +kernel, by decide +kernel⟩ ?_
  rfl
theorem fx_num4 (hH : et_H et_TT K G) (hF : foR K G fo F) : et_go none (d + 1) 55 0 (eg_en (eg_mL 55) [.ref fo, .ref 4]) [] G 0 0 (xp_Z G (some (.long (feA F 4)))) := by
  have k_fo := hF.1
  rw [show eg_mL 55 = 2 from by decide +kernel]
  show et_go none (d + 1) 55 0 [some (.ref fo), some (.ref 4)] [] G 0 0 _
  refine hs_gst (v := Value.ref 149) (p := 3) (by decide +kernel) ?_
  refine hs_aload (i := 1) (p := 4) (by decide +kernel) rfl ?_
  refine ht_callv (T := et_TT) (t := 0) (mi := 304) (na := 0) (ci := 12) (lk := 2) (lm := 1) (L0 := eg_en (eg_mL 304) [.ref 4]) (by decide +kernel) rfl hH (hH.2.1 _ (by decide)) rfl rfl rfl rfl rfl (by rw [show eg_mL 304 = 1 from by decide +kernel]; first | done | rfl) ?_
  refine (fx_ord hH.1 (by decide)).mono (fun u hu => xp_cb hu ?_)
  show et_go none _ 55 7 _ [.int (Int32.ofNat 4), .ref 149] _ _ _ _
  refine hw_swl (i := 4) (x := Int32.ofNat 2) (p := 8) (by decide +kernel) hH.1 (by decide) (by decide +kernel) ?_
  refine hs_st (ins := .tableswitch 176 1 14 #[72, 81, 94, 106, 119, 128, 134, 140, 146, 146, 152, 158, 164, 170]) (len := 72) (by decide +kernel) rfl (by rfl) (?_ : et_go none _ 55 89 _ _ _ _ _ _)
  refine hs_aload (i := 0) (p := 90) (by decide +kernel) rfl ?_
  refine hf_get (T := et_TT) (t := 4) (ci := 2) (f := 0) (p := 93) (by decide +kernel) rfl hH k_fo (hF.2.1 0 (by decide)) ?_
  refine hs_k (x := Int32.ofNat 13107) (p := 96) (by decide +kernel) ?_
  refine hs_st (ins := .iand) (len := 1) (p := 97) (by decide +kernel) rfl rfl ?_
  refine hs_calls (mi := 305) (na := 1) (lk := 2) (lm := 1) (L0 := eg_en (eg_mL 305) [.int ((F 0) &&& (Int32.ofNat 13107))]) (by decide +kernel) rfl rfl rfl rfl rfl rfl (by rw [show eg_mL 305 = 1 from by decide +kernel]; first | done | rfl) ?_
  refine (fx_bc (x := ((F 0) &&& (Int32.ofNat 13107)))).mono (fun u hu => xp_cb hu ?_)
  show et_go none _ 55 100 _ [.int (rp_bc ((F 0) &&& (Int32.ofNat 13107)))] _ _ _ _
  refine hs_i2l (p := 101) (by decide +kernel) ?_
  refine hs_lret ⟨by decide +kernel, by decide +kernel⟩ ?_
  rfl
theorem fx_num5 (hH : et_H et_TT K G) (hF : foR K G fo F) : et_go none (d + 1) 55 0 (eg_en (eg_mL 55) [.ref fo, .ref 5]) [] G 0 0 (xp_Z G (some (.long (feA F 5)))) := by
  have k_fo := hF.1
  rw [show eg_mL 55 = 2 from by decide +kernel]
  show et_go none (d + 1) 55 0 [some (.ref fo), some (.ref 5)] [] G 0 0 _
  refine hs_gst (v := Value.ref 149) (p := 3) (by decide +kernel) ?_
  refine hs_aload (i := 1) (p := 4) (by decide +kernel) rfl ?_
  refine ht_callv (T := et_TT) (t := 0) (mi := 304) (na := 0) (ci := 12) (lk := 2) (lm := 1) (L0 := eg_en (eg_mL 304) [.ref 5]) (by decide +kernel) rfl hH (hH.2.1 _ (by decide)) rfl rfl rfl rfl rfl (by rw [show eg_mL 304 = 1 from by decide +kernel]; first | done | rfl) ?_
  refine (fx_ord hH.1 (by decide)).mono (fun u hu => xp_cb hu ?_)
  show et_go none _ 55 7 _ [.int (Int32.ofNat 5), .ref 149] _ _ _ _
  refine hw_swl (i := 5) (x := Int32.ofNat 3) (p := 8) (by decide +kernel) hH.1 (by decide) (by decide +kernel) ?_
  refine hs_st (ins := .tableswitch 176 1 14 #[72, 81, 94, 106, 119, 128, 134, 140, 146, 146, 152, 158, 164, 170]) (len := 72) (by decide +kernel) rfl (by rfl) (?_ : et_go none _ 55 102 _ _ _ _ _ _)
  refine hs_aload (i := 0) (p := 103) (by decide +kernel) rfl ?_
  refine hf_get (T := et_TT) (t := 4) (ci := 2) (f := 0) (p := 106) (by decide +kernel) rfl hH k_fo (hF.2.1 0 (by decide)) ?_
  refine hs_kld (v := .int 52428) (p := 108) (by decide +kernel) ?_
  refine hs_st (ins := .iand) (len := 1) (p := 109) (by decide +kernel) rfl rfl ?_
  refine hs_calls (mi := 305) (na := 1) (lk := 2) (lm := 1) (L0 := eg_en (eg_mL 305) [.int ((F 0) &&& 52428)]) (by decide +kernel) rfl rfl rfl rfl rfl rfl (by rw [show eg_mL 305 = 1 from by decide +kernel]; first | done | rfl) ?_
  refine (fx_bc (x := ((F 0) &&& 52428))).mono (fun u hu => xp_cb hu ?_)
  show et_go none _ 55 112 _ [.int (rp_bc ((F 0) &&& 52428))] _ _ _ _
  refine hs_i2l (p := 113) (by decide +kernel) ?_
  refine hs_lret ⟨by decide +kernel, by decide +kernel⟩ ?_
  rfl
theorem fx_num6 (hH : et_H et_TT K G) (hF : foR K G fo F) : et_go none (d + 1) 55 0 (eg_en (eg_mL 55) [.ref fo, .ref 6]) [] G 0 0 (xp_Z G (some (.long (feA F 6)))) := by
  have k_fo := hF.1
  rw [show eg_mL 55 = 2 from by decide +kernel]
  show et_go none (d + 1) 55 0 [some (.ref fo), some (.ref 6)] [] G 0 0 _
  refine hs_gst (v := Value.ref 149) (p := 3) (by decide +kernel) ?_
  refine hs_aload (i := 1) (p := 4) (by decide +kernel) rfl ?_
  refine ht_callv (T := et_TT) (t := 0) (mi := 304) (na := 0) (ci := 12) (lk := 2) (lm := 1) (L0 := eg_en (eg_mL 304) [.ref 6]) (by decide +kernel) rfl hH (hH.2.1 _ (by decide)) rfl rfl rfl rfl rfl (by rw [show eg_mL 304 = 1 from by decide +kernel]; first | done | rfl) ?_
  refine (fx_ord hH.1 (by decide)).mono (fun u hu => xp_cb hu ?_)
  show et_go none _ 55 7 _ [.int (Int32.ofNat 6), .ref 149] _ _ _ _
  refine hw_swl (i := 6) (x := Int32.ofNat 4) (p := 8) (by decide +kernel) hH.1 (by decide) (by decide +kernel) ?_
  refine hs_st (ins := .tableswitch 176 1 14 #[72, 81, 94, 106, 119, 128, 134, 140, 146, 146, 152, 158, 164, 170]) (len := 72) (by decide +kernel) rfl (by rfl) (?_ : et_go none _ 55 114 _ _ _ _ _ _)
  refine hs_aload (i := 0) (p := 115) (by decide +kernel) rfl ?_
  refine hf_get (T := et_TT) (t := 4) (ci := 2) (f := 0) (p := 118) (by decide +kernel) rfl hH k_fo (hF.2.1 0 (by decide)) ?_
  refine hs_k (x := Int32.ofNat 255) (p := 121) (by decide +kernel) ?_
  refine hs_st (ins := .iand) (len := 1) (p := 122) (by decide +kernel) rfl rfl ?_
  refine hs_calls (mi := 305) (na := 1) (lk := 2) (lm := 1) (L0 := eg_en (eg_mL 305) [.int ((F 0) &&& (Int32.ofNat 255))]) (by decide +kernel) rfl rfl rfl rfl rfl rfl (by rw [show eg_mL 305 = 1 from by decide +kernel]; first | done | rfl) ?_
  refine (fx_bc (x := ((F 0) &&& (Int32.ofNat 255)))).mono (fun u hu => xp_cb hu ?_)
  show et_go none _ 55 125 _ [.int (rp_bc ((F 0) &&& (Int32.ofNat 255)))] _ _ _ _
  refine hs_i2l (p := 126) (by decide +kernel) ?_
  refine hs_lret ⟨by decide +kernel, by decide +kernel⟩ ?_
  rfl
theorem fx_num7 (hH : et_H et_TT K G) (hF : foR K G fo F) : et_go none (d + 1) 55 0 (eg_en (eg_mL 55) [.ref fo, .ref 7]) [] G 0 0 (xp_Z G (some (.long (feA F 7)))) := by
  have k_fo := hF.1
  rw [show eg_mL 55 = 2 from by decide +kernel]
  show et_go none (d + 1) 55 0 [some (.ref fo), some (.ref 7)] [] G 0 0 _
  refine hs_gst (v := Value.ref 149) (p := 3) (by decide +kernel) ?_
  refine hs_aload (i := 1) (p := 4) (by decide +kernel) rfl ?_
  refine ht_callv (T := et_TT) (t := 0) (mi := 304) (na := 0) (ci := 12) (lk := 2) (lm := 1) (L0 := eg_en (eg_mL 304) [.ref 7]) (by decide +kernel) rfl hH (hH.2.1 _ (by decide)) rfl rfl rfl rfl rfl (by rw [show eg_mL 304 = 1 from by decide +kernel]; first | done | rfl) ?_
  refine (fx_ord hH.1 (by decide)).mono (fun u hu => xp_cb hu ?_)
  show et_go none _ 55 7 _ [.int (Int32.ofNat 7), .ref 149] _ _ _ _
  refine hw_swl (i := 7) (x := Int32.ofNat 5) (p := 8) (by decide +kernel) hH.1 (by decide) (by decide +kernel) ?_
  refine hs_st (ins := .tableswitch 176 1 14 #[72, 81, 94, 106, 119, 128, 134, 140, 146, 146, 152, 158, 164, 170]) (len := 72) (by decide +kernel) rfl (by rfl) (?_ : et_go none _ 55 127 _ _ _ _ _ _)
  refine hs_aload (i := 0) (p := 128) (by decide +kernel) rfl ?_
  refine hf_get (T := et_TT) (t := 4) (ci := 2) (f := 0) (p := 131) (by decide +kernel) rfl hH k_fo (hF.2.1 0 (by decide)) ?_
  refine hs_calls (mi := 56) (na := 1) (lk := 2) (lm := 3) (L0 := eg_en (eg_mL 56) [.int (F 0)]) (by decide +kernel) rfl rfl rfl rfl rfl rfl (by rw [show eg_mL 56 = 3 from by decide +kernel]; first | done | rfl) ?_
  refine (fx_row (x := (F 0))).mono (fun u hu => xp_cb hu ?_)
  show et_go none _ 55 134 _ [.int (Int32.ofNat (rowI (F 0)))] _ _ _ _
  refine hs_i2l (p := 135) (by decide +kernel) ?_
  refine hs_lret ⟨by decide +kernel, by decide +kernel⟩ ?_
  rfl
theorem fx_num10 (hH : et_H et_TT K G) (hF : foR K G fo F) : et_go none (d + 1) 55 0 (eg_en (eg_mL 55) [.ref fo, .ref 10]) [] G 0 0 (xp_Z G (some (.long (feA F 10)))) := by
  have k_fo := hF.1
  rw [show eg_mL 55 = 2 from by decide +kernel]
  show et_go none (d + 1) 55 0 [some (.ref fo), some (.ref 10)] [] G 0 0 _
  refine hs_gst (v := Value.ref 149) (p := 3) (by decide +kernel) ?_
  refine hs_aload (i := 1) (p := 4) (by decide +kernel) rfl ?_
  refine ht_callv (T := et_TT) (t := 0) (mi := 304) (na := 0) (ci := 12) (lk := 2) (lm := 1) (L0 := eg_en (eg_mL 304) [.ref 10]) (by decide +kernel) rfl hH (hH.2.1 _ (by decide)) rfl rfl rfl rfl rfl (by rw [show eg_mL 304 = 1 from by decide +kernel]; first | done | rfl) ?_
  refine (fx_ord hH.1 (by decide)).mono (fun u hu => xp_cb hu ?_)
  show et_go none _ 55 7 _ [.int (Int32.ofNat 10), .ref 149] _ _ _ _
  refine hw_swl (i := 10) (x := Int32.ofNat 6) (p := 8) (by decide +kernel) hH.1 (by decide) (by decide +kernel) ?_
  refine hs_st (ins := .tableswitch 176 1 14 #[72, 81, 94, 106, 119, 128, 134, 140, 146, 146, 152, 158, 164, 170]) (len := 72) (by decide +kernel) rfl (by rfl) (?_ : et_go none _ 55 136 _ _ _ _ _ _)
  refine hs_aload (i := 0) (p := 137) (by decide +kernel) rfl ?_
  refine hf_get (T := et_TT) (t := 4) (ci := 2) (f := 3) (p := 140) (by decide +kernel) rfl hH k_fo (hF.2.1 3 (by decide)) ?_
  refine hs_i2l (p := 141) (by decide +kernel) ?_
  refine hs_lret ⟨by decide +kernel, by decide +kernel⟩ ?_
  rfl
theorem fx_num11 (hH : et_H et_TT K G) (hF : foR K G fo F) : et_go none (d + 1) 55 0 (eg_en (eg_mL 55) [.ref fo, .ref 11]) [] G 0 0 (xp_Z G (some (.long (feA F 11)))) := by
  have k_fo := hF.1
  rw [show eg_mL 55 = 2 from by decide +kernel]
  show et_go none (d + 1) 55 0 [some (.ref fo), some (.ref 11)] [] G 0 0 _
  refine hs_gst (v := Value.ref 149) (p := 3) (by decide +kernel) ?_
  refine hs_aload (i := 1) (p := 4) (by decide +kernel) rfl ?_
  refine ht_callv (T := et_TT) (t := 0) (mi := 304) (na := 0) (ci := 12) (lk := 2) (lm := 1) (L0 := eg_en (eg_mL 304) [.ref 11]) (by decide +kernel) rfl hH (hH.2.1 _ (by decide)) rfl rfl rfl rfl rfl (by rw [show eg_mL 304 = 1 from by decide +kernel]; first | done | rfl) ?_
  refine (fx_ord hH.1 (by decide)).mono (fun u hu => xp_cb hu ?_)
  show et_go none _ 55 7 _ [.int (Int32.ofNat 11), .ref 149] _ _ _ _
  refine hw_swl (i := 11) (x := Int32.ofNat 7) (p := 8) (by decide +kernel) hH.1 (by decide) (by decide +kernel) ?_
  refine hs_st (ins := .tableswitch 176 1 14 #[72, 81, 94, 106, 119, 128, 134, 140, 146, 146, 152, 158, 164, 170]) (len := 72) (by decide +kernel) rfl (by rfl) (?_ : et_go none _ 55 142 _ _ _ _ _ _)
  refine hs_aload (i := 0) (p := 143) (by decide +kernel) rfl ?_
  refine hf_get (T := et_TT) (t := 4) (ci := 2) (f := 4) (p := 146) (by decide +kernel) rfl hH k_fo (hF.2.1 4 (by decide)) ?_
  refine hs_i2l (p := 147) (by decide +kernel) ?_
  refine hs_lret ⟨by decide +kernel, by decide +kernel⟩ ?_
  rfl
theorem fx_num12 (hH : et_H et_TT K G) (hF : foR K G fo F) : et_go none (d + 1) 55 0 (eg_en (eg_mL 55) [.ref fo, .ref 12]) [] G 0 0 (xp_Z G (some (.long (feA F 12)))) := by
  have k_fo := hF.1
  rw [show eg_mL 55 = 2 from by decide +kernel]
  show et_go none (d + 1) 55 0 [some (.ref fo), some (.ref 12)] [] G 0 0 _
  refine hs_gst (v := Value.ref 149) (p := 3) (by decide +kernel) ?_
  refine hs_aload (i := 1) (p := 4) (by decide +kernel) rfl ?_
  refine ht_callv (T := et_TT) (t := 0) (mi := 304) (na := 0) (ci := 12) (lk := 2) (lm := 1) (L0 := eg_en (eg_mL 304) [.ref 12]) (by decide +kernel) rfl hH (hH.2.1 _ (by decide)) rfl rfl rfl rfl rfl (by rw [show eg_mL 304 = 1 from by decide +kernel]; first | done | rfl) ?_
  refine (fx_ord hH.1 (by decide)).mono (fun u hu => xp_cb hu ?_)
  show et_go none _ 55 7 _ [.int (Int32.ofNat 12), .ref 149] _ _ _ _
  refine hw_swl (i := 12) (x := Int32.ofNat 8) (p := 8) (by decide +kernel) hH.1 (by decide) (by decide +kernel) ?_
  refine hs_st (ins := .tableswitch 176 1 14 #[72, 81, 94, 106, 119, 128, 134, 140, 146, 146, 152, 158, 164, 170]) (len := 72) (by decide +kernel) rfl (by rfl) (?_ : et_go none _ 55 148 _ _ _ _ _ _)
  refine hs_aload (i := 0) (p := 149) (by decide +kernel) rfl ?_
  refine hf_get (T := et_TT) (t := 4) (ci := 2) (f := 5) (p := 152) (by decide +kernel) rfl hH k_fo (hF.2.1 5 (by decide)) ?_
  refine hs_i2l (p := 153) (by decide +kernel) ?_
  refine hs_lret ⟨by decide +kernel, by decide +kernel⟩ ?_
  rfl
theorem fx_num13 (hH : et_H et_TT K G) (hF : foR K G fo F) : et_go none (d + 1) 55 0 (eg_en (eg_mL 55) [.ref fo, .ref 13]) [] G 0 0 (xp_Z G (some (.long (feA F 13)))) := by
  have k_fo := hF.1
  rw [show eg_mL 55 = 2 from by decide +kernel]
  show et_go none (d + 1) 55 0 [some (.ref fo), some (.ref 13)] [] G 0 0 _
  refine hs_gst (v := Value.ref 149) (p := 3) (by decide +kernel) ?_
  refine hs_aload (i := 1) (p := 4) (by decide +kernel) rfl ?_
  refine ht_callv (T := et_TT) (t := 0) (mi := 304) (na := 0) (ci := 12) (lk := 2) (lm := 1) (L0 := eg_en (eg_mL 304) [.ref 13]) (by decide +kernel) rfl hH (hH.2.1 _ (by decide)) rfl rfl rfl rfl rfl (by rw [show eg_mL 304 = 1 from by decide +kernel]; first | done | rfl) ?_
  refine (fx_ord hH.1 (by decide)).mono (fun u hu => xp_cb hu ?_)
  show et_go none _ 55 7 _ [.int (Int32.ofNat 13), .ref 149] _ _ _ _
  refine hw_swl (i := 13) (x := Int32.ofNat 9) (p := 8) (by decide +kernel) hH.1 (by decide) (by decide +kernel) ?_
  refine hs_st (ins := .tableswitch 176 1 14 #[72, 81, 94, 106, 119, 128, 134, 140, 146, 146, 152, 158, 164, 170]) (len := 72) (by decide +kernel) rfl (by rfl) (?_ : et_go none _ 55 154 _ _ _ _ _ _)
  refine hs_aload (i := 0) (p := 155) (by decide +kernel) rfl ?_
  refine hf_get (T := et_TT) (t := 4) (ci := 2) (f := 6) (p := 158) (by decide +kernel) rfl hH k_fo (hF.2.1 6 (by decide)) ?_
  refine hs_i2l (p := 159) (by decide +kernel) ?_
  refine hs_lret ⟨by decide +kernel, by decide +kernel⟩ ?_
  rfl
theorem fx_num15 (hH : et_H et_TT K G) (hF : foR K G fo F) : et_go none (d + 1) 55 0 (eg_en (eg_mL 55) [.ref fo, .ref 15]) [] G 0 0 (xp_Z G (some (.long (feA F 15)))) := by
  have k_fo := hF.1
  rw [show eg_mL 55 = 2 from by decide +kernel]
  show et_go none (d + 1) 55 0 [some (.ref fo), some (.ref 15)] [] G 0 0 _
  refine hs_gst (v := Value.ref 149) (p := 3) (by decide +kernel) ?_
  refine hs_aload (i := 1) (p := 4) (by decide +kernel) rfl ?_
  refine ht_callv (T := et_TT) (t := 0) (mi := 304) (na := 0) (ci := 12) (lk := 2) (lm := 1) (L0 := eg_en (eg_mL 304) [.ref 15]) (by decide +kernel) rfl hH (hH.2.1 _ (by decide)) rfl rfl rfl rfl rfl (by rw [show eg_mL 304 = 1 from by decide +kernel]; first | done | rfl) ?_
  refine (fx_ord hH.1 (by decide)).mono (fun u hu => xp_cb hu ?_)
  show et_go none _ 55 7 _ [.int (Int32.ofNat 15), .ref 149] _ _ _ _
  refine hw_swl (i := 15) (x := Int32.ofNat 11) (p := 8) (by decide +kernel) hH.1 (by decide) (by decide +kernel) ?_
  refine hs_st (ins := .tableswitch 176 1 14 #[72, 81, 94, 106, 119, 128, 134, 140, 146, 146, 152, 158, 164, 170]) (len := 72) (by decide +kernel) rfl (by rfl) (?_ : et_go none _ 55 160 _ _ _ _ _ _)
  refine hs_aload (i := 0) (p := 161) (by decide +kernel) rfl ?_
  refine hf_get (T := et_TT) (t := 4) (ci := 2) (f := 7) (p := 164) (by decide +kernel) rfl hH k_fo (hF.2.1 7 (by decide)) ?_
  refine hs_i2l (p := 165) (by decide +kernel) ?_
  refine hs_lret ⟨by decide +kernel, by decide +kernel⟩ ?_
  rfl
theorem fx_num16 (hH : et_H et_TT K G) (hF : foR K G fo F) : et_go none (d + 1) 55 0 (eg_en (eg_mL 55) [.ref fo, .ref 16]) [] G 0 0 (xp_Z G (some (.long (feA F 16)))) := by
  have k_fo := hF.1
  rw [show eg_mL 55 = 2 from by decide +kernel]
  show et_go none (d + 1) 55 0 [some (.ref fo), some (.ref 16)] [] G 0 0 _
  refine hs_gst (v := Value.ref 149) (p := 3) (by decide +kernel) ?_
  refine hs_aload (i := 1) (p := 4) (by decide +kernel) rfl ?_
  refine ht_callv (T := et_TT) (t := 0) (mi := 304) (na := 0) (ci := 12) (lk := 2) (lm := 1) (L0 := eg_en (eg_mL 304) [.ref 16]) (by decide +kernel) rfl hH (hH.2.1 _ (by decide)) rfl rfl rfl rfl rfl (by rw [show eg_mL 304 = 1 from by decide +kernel]; first | done | rfl) ?_
  refine (fx_ord hH.1 (by decide)).mono (fun u hu => xp_cb hu ?_)
  show et_go none _ 55 7 _ [.int (Int32.ofNat 16), .ref 149] _ _ _ _
  refine hw_swl (i := 16) (x := Int32.ofNat 12) (p := 8) (by decide +kernel) hH.1 (by decide) (by decide +kernel) ?_
  refine hs_st (ins := .tableswitch 176 1 14 #[72, 81, 94, 106, 119, 128, 134, 140, 146, 146, 152, 158, 164, 170]) (len := 72) (by decide +kernel) rfl (by rfl) (?_ : et_go none _ 55 166 _ _ _ _ _ _)
  refine hs_aload (i := 0) (p := 167) (by decide +kernel) rfl ?_
  refine hf_get (T := et_TT) (t := 4) (ci := 2) (f := 8) (p := 170) (by decide +kernel) rfl hH k_fo (hF.2.1 8 (by decide)) ?_
  refine hs_i2l (p := 171) (by decide +kernel) ?_
  refine hs_lret ⟨by decide +kernel, by decide +kernel⟩ ?_
  rfl
theorem fx_num17 (hH : et_H et_TT K G) (hF : foR K G fo F) : et_go none (d + 1) 55 0 (eg_en (eg_mL 55) [.ref fo, .ref 17]) [] G 0 0 (xp_Z G (some (.long (feA F 17)))) := by
  have k_fo := hF.1
  rw [show eg_mL 55 = 2 from by decide +kernel]
  show et_go none (d + 1) 55 0 [some (.ref fo), some (.ref 17)] [] G 0 0 _
  refine hs_gst (v := Value.ref 149) (p := 3) (by decide +kernel) ?_
  refine hs_aload (i := 1) (p := 4) (by decide +kernel) rfl ?_
  refine ht_callv (T := et_TT) (t := 0) (mi := 304) (na := 0) (ci := 12) (lk := 2) (lm := 1) (L0 := eg_en (eg_mL 304) [.ref 17]) (by decide +kernel) rfl hH (hH.2.1 _ (by decide)) rfl rfl rfl rfl rfl (by rw [show eg_mL 304 = 1 from by decide +kernel]; first | done | rfl) ?_
  refine (fx_ord hH.1 (by decide)).mono (fun u hu => xp_cb hu ?_)
  show et_go none _ 55 7 _ [.int (Int32.ofNat 17), .ref 149] _ _ _ _
  refine hw_swl (i := 17) (x := Int32.ofNat 13) (p := 8) (by decide +kernel) hH.1 (by decide) (by decide +kernel) ?_
  refine hs_st (ins := .tableswitch 176 1 14 #[72, 81, 94, 106, 119, 128, 134, 140, 146, 146, 152, 158, 164, 170]) (len := 72) (by decide +kernel) rfl (by rfl) (?_ : et_go none _ 55 172 _ _ _ _ _ _)
  refine hs_aload (i := 0) (p := 173) (by decide +kernel) rfl ?_
  refine hf_get (T := et_TT) (t := 4) (ci := 2) (f := 9) (p := 176) (by decide +kernel) rfl hH k_fo (hF.2.1 9 (by decide)) ?_
  refine hs_i2l (p := 177) (by decide +kernel) ?_
  refine hs_lret ⟨by decide +kernel, by decide +kernel⟩ ?_
  rfl
theorem fx_num18 (hH : et_H et_TT K G) (hF : foR K G fo F) : et_go none (d + 1) 55 0 (eg_en (eg_mL 55) [.ref fo, .ref 18]) [] G 0 0 (xp_Z G (some (.long (feA F 18)))) := by
  have k_fo := hF.1
  rw [show eg_mL 55 = 2 from by decide +kernel]
  show et_go none (d + 1) 55 0 [some (.ref fo), some (.ref 18)] [] G 0 0 _
  refine hs_gst (v := Value.ref 149) (p := 3) (by decide +kernel) ?_
  refine hs_aload (i := 1) (p := 4) (by decide +kernel) rfl ?_
  refine ht_callv (T := et_TT) (t := 0) (mi := 304) (na := 0) (ci := 12) (lk := 2) (lm := 1) (L0 := eg_en (eg_mL 304) [.ref 18]) (by decide +kernel) rfl hH (hH.2.1 _ (by decide)) rfl rfl rfl rfl rfl (by rw [show eg_mL 304 = 1 from by decide +kernel]; first | done | rfl) ?_
  refine (fx_ord hH.1 (by decide)).mono (fun u hu => xp_cb hu ?_)
  show et_go none _ 55 7 _ [.int (Int32.ofNat 18), .ref 149] _ _ _ _
  refine hw_swl (i := 18) (x := Int32.ofNat 10) (p := 8) (by decide +kernel) hH.1 (by decide) (by decide +kernel) ?_
  refine hs_st (ins := .tableswitch 176 1 14 #[72, 81, 94, 106, 119, 128, 134, 140, 146, 146, 152, 158, 164, 170]) (len := 72) (by decide +kernel) rfl (by rfl) (?_ : et_go none _ 55 154 _ _ _ _ _ _)
  refine hs_aload (i := 0) (p := 155) (by decide +kernel) rfl ?_
  refine hf_get (T := et_TT) (t := 4) (ci := 2) (f := 6) (p := 158) (by decide +kernel) rfl hH k_fo (hF.2.1 6 (by decide)) ?_
  refine hs_i2l (p := 159) (by decide +kernel) ?_
  refine hs_lret ⟨by decide +kernel, by decide +kernel⟩ ?_
  rfl
theorem fx_num19 (hH : et_H et_TT K G) (hF : foR K G fo F) : et_go none (d + 1) 55 0 (eg_en (eg_mL 55) [.ref fo, .ref 19]) [] G 0 0 (xp_Z G (some (.long (feA F 19)))) := by
  have k_fo := hF.1
  rw [show eg_mL 55 = 2 from by decide +kernel]
  show et_go none (d + 1) 55 0 [some (.ref fo), some (.ref 19)] [] G 0 0 _
  refine hs_gst (v := Value.ref 149) (p := 3) (by decide +kernel) ?_
  refine hs_aload (i := 1) (p := 4) (by decide +kernel) rfl ?_
  refine ht_callv (T := et_TT) (t := 0) (mi := 304) (na := 0) (ci := 12) (lk := 2) (lm := 1) (L0 := eg_en (eg_mL 304) [.ref 19]) (by decide +kernel) rfl hH (hH.2.1 _ (by decide)) rfl rfl rfl rfl rfl (by rw [show eg_mL 304 = 1 from by decide +kernel]; first | done | rfl) ?_
  refine (fx_ord hH.1 (by decide)).mono (fun u hu => xp_cb hu ?_)
  show et_go none _ 55 7 _ [.int (Int32.ofNat 19), .ref 149] _ _ _ _
  refine hw_swl (i := 19) (x := Int32.ofNat 14) (p := 8) (by decide +kernel) hH.1 (by decide) (by decide +kernel) ?_
  refine hs_st (ins := .tableswitch 176 1 14 #[72, 81, 94, 106, 119, 128, 134, 140, 146, 146, 152, 158, 164, 170]) (len := 72) (by decide +kernel) rfl (by rfl) (?_ : et_go none _ 55 178 _ _ _ _ _ _)
  refine hs_aload (i := 0) (p := 179) (by decide +kernel) rfl ?_
  refine hf_get (T := et_TT) (t := 4) (ci := 2) (f := 10) (p := 182) (by decide +kernel) rfl hH k_fo (hF.2.1 10 (by decide)) ?_
  refine hs_i2l (p := 183) (by decide +kernel) ?_
  refine hs_lret ⟨by decide +kernel, by decide +kernel⟩ ?_
  rfl
theorem fx_num (hH : et_H et_TT K G) (hF : foR K G fo F) (hw : sp_fw w = true) (hd : 1 ≤ d2) : et_go none d2 55 0 (eg_en (eg_mL 55) [.ref fo, .ref w]) [] G 0 0 (xp_Z G (some (.long (feA F w)))) := by
  obtain ⟨d, rfl⟩ : ∃ d, d2 = d + 1 := ⟨d2 - 1, by omega⟩
  have h : w = 3 ∨ w = 4 ∨ w = 5 ∨ w = 6 ∨ w = 7 ∨ w = 10 ∨ w = 11 ∨ w = 12 ∨ w = 13 ∨ w = 15 ∨ w = 16 ∨ w = 17 ∨ w = 18 ∨ w = 19 := by
    unfold sp_fw at hw
    simp only [Bool.or_eq_true, Bool.and_eq_true, Nat.ble_eq] at hw
    omega
  rcases h with rfl | rfl | rfl | rfl | rfl | rfl | rfl | rfl | rfl | rfl | rfl | rfl | rfl | rfl
  · exact fx_num3 hH hF
  · exact fx_num4 hH hF
  · exact fx_num5 hH hF
  · exact fx_num6 hH hF
  · exact fx_num7 hH hF
  · exact fx_num10 hH hF
  · exact fx_num11 hH hF
  · exact fx_num12 hH hF
  · exact fx_num13 hH hF
  · exact fx_num15 hH hF
  · exact fx_num16 hH hF
  · exact fx_num17 hH hF
  · exact fx_num18 hH hF
  · exact fx_num19 hH hF
theorem fx_so0 (hH : et_H et_TT K G) (hF : foR K G fo F) : et_go none (d + 1) 52 0 (eg_en (eg_mL 52) [.ref fo, .ref 0, .int (Int32.ofNat v)]) [] G 0 0 (xp_Z G (some (.int (Int32.ofNat (if feT F 0 = true then 1 else 0))))) := by
  have k_fo := hF.1
  rw [show eg_mL 52 = 3 from by decide +kernel]
  show et_go none (d + 1) 52 0 [some (.ref fo), some (.ref 0), some (.int (Int32.ofNat v))] [] G 0 0 _
  refine hs_gst (v := Value.ref 149) (p := 3) (by decide +kernel) ?_
  refine hs_aload (i := 1) (p := 4) (by decide +kernel) rfl ?_
  refine ht_callv (T := et_TT) (t := 0) (mi := 304) (na := 0) (ci := 12) (lk := 3) (lm := 1) (L0 := eg_en (eg_mL 304) [.ref 0]) (by decide +kernel) rfl hH (hH.2.1 _ (by decide)) rfl rfl rfl rfl rfl (by rw [show eg_mL 304 = 1 from by decide +kernel]; first | done | rfl) ?_
  refine (fx_ord hH.1 (by decide)).mono (fun u hu => xp_cb hu ?_)
  show et_go none _ 52 7 _ [.int (Int32.ofNat 0), .ref 149] _ _ _ _
  refine hw_swl (i := 0) (x := Int32.ofNat 15) (p := 8) (by decide +kernel) hH.1 (by decide) (by decide +kernel) ?_
  refine hs_st (ins := .tableswitch 90 15 20 #[40, 48, 66, 75, 80, 85]) (len := 40) (by decide +kernel) rfl (by rfl) (?_ : et_go none _ 52 48 _ _ _ _ _ _)
  refine hs_aload (i := 0) (p := 49) (by decide +kernel) rfl ?_
  refine hf_get (T := et_TT) (t := 4) (ci := 2) (f := 0) (p := 52) (by decide +kernel) rfl hH k_fo (hF.2.1 0 (by decide)) ?_
  refine hs_calls (mi := 53) (na := 1) (lk := 3) (lm := 5) (L0 := eg_en (eg_mL 53) [.int (F 0)]) (by decide +kernel) rfl rfl rfl rfl rfl rfl (by rw [show eg_mL 53 = 5 from by decide +kernel]; first | done | rfl) ?_
  refine (fx_piece (x := (F 0))).mono (fun u hu => xp_cb hu ?_)
  show et_go none _ 52 55 _ [.int (Int32.ofNat (if pcI (F 0) = true then 1 else 0))] _ _ _ _
  refine hs_zret (by decide +kernel) (by split; exact .inr rfl; exact .inl rfl) ?_
  rfl
theorem fx_so1 (hH : et_H et_TT K G) (hF : foR K G fo F) : et_go none (d + 1) 52 0 (eg_en (eg_mL 52) [.ref fo, .ref 1, .int (Int32.ofNat v)]) [] G 0 0 (xp_Z G (some (.int (Int32.ofNat (if feT F 1 = true then 1 else 0))))) := by
  have k_fo := hF.1
  rw [show eg_mL 52 = 3 from by decide +kernel]
  show et_go none (d + 1) 52 0 [some (.ref fo), some (.ref 1), some (.int (Int32.ofNat v))] [] G 0 0 _
  refine hs_gst (v := Value.ref 149) (p := 3) (by decide +kernel) ?_
  refine hs_aload (i := 1) (p := 4) (by decide +kernel) rfl ?_
  refine ht_callv (T := et_TT) (t := 0) (mi := 304) (na := 0) (ci := 12) (lk := 3) (lm := 1) (L0 := eg_en (eg_mL 304) [.ref 1]) (by decide +kernel) rfl hH (hH.2.1 _ (by decide)) rfl rfl rfl rfl rfl (by rw [show eg_mL 304 = 1 from by decide +kernel]; first | done | rfl) ?_
  refine (fx_ord hH.1 (by decide)).mono (fun u hu => xp_cb hu ?_)
  show et_go none _ 52 7 _ [.int (Int32.ofNat 1), .ref 149] _ _ _ _
  refine hw_swl (i := 1) (x := Int32.ofNat 16) (p := 8) (by decide +kernel) hH.1 (by decide) (by decide +kernel) ?_
  refine hs_st (ins := .tableswitch 90 15 20 #[40, 48, 66, 75, 80, 85]) (len := 40) (by decide +kernel) rfl (by rfl) (?_ : et_go none _ 52 56 _ _ _ _ _ _)
  refine hs_aload (i := 0) (p := 57) (by decide +kernel) rfl ?_
  refine hf_get (T := et_TT) (t := 4) (ci := 2) (f := 0) (p := 60) (by decide +kernel) rfl hH k_fo (hF.2.1 0 (by decide)) ?_
  refine hs_calls (mi := 305) (na := 1) (lk := 3) (lm := 1) (L0 := eg_en (eg_mL 305) [.int (F 0)]) (by decide +kernel) rfl rfl rfl rfl rfl rfl (by rw [show eg_mL 305 = 1 from by decide +kernel]; first | done | rfl) ?_
  refine (fx_bc (x := (F 0))).mono (fun u hu => xp_cb hu ?_)
  show et_go none _ 52 63 _ [.int (rp_bc (F 0))] _ _ _ _
  refine hs_k (x := Int32.ofNat 1) (p := 64) (by decide +kernel) ?_
  refine hs_st (ins := .iand) (len := 1) (p := 65) (by decide +kernel) rfl rfl ?_
  refine hs_br1 (c := .ne) (t := 72) (f := 68) (by decide +kernel) (fun (c65 : ¬ ((rp_bc (F 0)) &&& (Int32.ofNat 1)) = 0) => ?_) (fun (c65 : ¬ (¬ ((rp_bc (F 0)) &&& (Int32.ofNat 1)) = 0)) => ?_)
  · refine hs_k (x := Int32.ofNat 0) (p := 73) (by decide +kernel) ?_
    refine hs_zret (by decide +kernel) (.inl rfl) ?_
    rw [show feT F 1 = false from decide_eq_false c65]
    rfl
  · refine hs_k (x := Int32.ofNat 1) (p := 69) (by decide +kernel) ?_
    refine hs_goto (p := 73) (by decide +kernel) ?_
    refine hs_zret (by decide +kernel) (.inr rfl) ?_
    rw [show feT F 1 = true from decide_eq_true (Decidable.of_not_not c65)]
    rfl
theorem fx_so2 (hH : et_H et_TT K G) (hF : foR K G fo F) : et_go none (d + 1) 52 0 (eg_en (eg_mL 52) [.ref fo, .ref 2, .int (Int32.ofNat v)]) [] G 0 0 (xp_Z G (some (.int (Int32.ofNat (if liI (F 0) v = true then 1 else 0))))) := by
  have k_fo := hF.1
  rw [show eg_mL 52 = 3 from by decide +kernel]
  show et_go none (d + 1) 52 0 [some (.ref fo), some (.ref 2), some (.int (Int32.ofNat v))] [] G 0 0 _
  refine hs_gst (v := Value.ref 149) (p := 3) (by decide +kernel) ?_
  refine hs_aload (i := 1) (p := 4) (by decide +kernel) rfl ?_
  refine ht_callv (T := et_TT) (t := 0) (mi := 304) (na := 0) (ci := 12) (lk := 3) (lm := 1) (L0 := eg_en (eg_mL 304) [.ref 2]) (by decide +kernel) rfl hH (hH.2.1 _ (by decide)) rfl rfl rfl rfl rfl (by rw [show eg_mL 304 = 1 from by decide +kernel]; first | done | rfl) ?_
  refine (fx_ord hH.1 (by decide)).mono (fun u hu => xp_cb hu ?_)
  show et_go none _ 52 7 _ [.int (Int32.ofNat 2), .ref 149] _ _ _ _
  refine hw_swl (i := 2) (x := Int32.ofNat 17) (p := 8) (by decide +kernel) hH.1 (by decide) (by decide +kernel) ?_
  refine hs_st (ins := .tableswitch 90 15 20 #[40, 48, 66, 75, 80, 85]) (len := 40) (by decide +kernel) rfl (by rfl) (?_ : et_go none _ 52 74 _ _ _ _ _ _)
  refine hs_aload (i := 0) (p := 75) (by decide +kernel) rfl ?_
  refine hf_get (T := et_TT) (t := 4) (ci := 2) (f := 0) (p := 78) (by decide +kernel) rfl hH k_fo (hF.2.1 0 (by decide)) ?_
  refine hs_iload (i := 2) (p := 79) (by decide +kernel) rfl ?_
  refine hs_calls (mi := 122) (na := 2) (lk := 3) (lm := 2) (L0 := eg_en (eg_mL 122) [.int (F 0), .int (Int32.ofNat v)]) (by decide +kernel) rfl rfl rfl rfl rfl rfl (by rw [show eg_mL 122 = 2 from by decide +kernel]; first | done | rfl) ?_
  refine (fx_lit (x := (F 0)) (v := v)).mono (fun u hu => xp_cb hu ?_)
  show et_go none _ 52 82 _ [.int (Int32.ofNat (if liI (F 0) v = true then 1 else 0))] _ _ _ _
  refine hs_zret (by decide +kernel) (by split; exact .inr rfl; exact .inl rfl) ?_
  rfl
theorem fx_so8 (hH : et_H et_TT K G) (hF : foR K G fo F) : et_go none (d + 1) 52 0 (eg_en (eg_mL 52) [.ref fo, .ref 8, .int (Int32.ofNat v)]) [] G 0 0 (xp_Z G (some (.int (Int32.ofNat (if feT F 8 = true then 1 else 0))))) := by
  have k_fo := hF.1
  rw [show eg_mL 52 = 3 from by decide +kernel]
  show et_go none (d + 1) 52 0 [some (.ref fo), some (.ref 8), some (.int (Int32.ofNat v))] [] G 0 0 _
  refine hs_gst (v := Value.ref 149) (p := 3) (by decide +kernel) ?_
  refine hs_aload (i := 1) (p := 4) (by decide +kernel) rfl ?_
  refine ht_callv (T := et_TT) (t := 0) (mi := 304) (na := 0) (ci := 12) (lk := 3) (lm := 1) (L0 := eg_en (eg_mL 304) [.ref 8]) (by decide +kernel) rfl hH (hH.2.1 _ (by decide)) rfl rfl rfl rfl rfl (by rw [show eg_mL 304 = 1 from by decide +kernel]; first | done | rfl) ?_
  refine (fx_ord hH.1 (by decide)).mono (fun u hu => xp_cb hu ?_)
  show et_go none _ 52 7 _ [.int (Int32.ofNat 8), .ref 149] _ _ _ _
  refine hw_swl (i := 8) (x := Int32.ofNat 18) (p := 8) (by decide +kernel) hH.1 (by decide) (by decide +kernel) ?_
  refine hs_st (ins := .tableswitch 90 15 20 #[40, 48, 66, 75, 80, 85]) (len := 40) (by decide +kernel) rfl (by rfl) (?_ : et_go none _ 52 83 _ _ _ _ _ _)
  refine hs_aload (i := 0) (p := 84) (by decide +kernel) rfl ?_
  refine hf_get (T := et_TT) (t := 4) (ci := 2) (f := 1) (p := 87) (by decide +kernel) rfl hH k_fo (hF.2.1 1 (by decide)) ?_
  refine hs_zret (by decide +kernel) hF.2.2.1 ?_
  rw [show feT F 8 = decide (¬ F 1 = 0) from rfl, ← z01 hF.2.2.1]
  rfl
theorem fx_so9 (hH : et_H et_TT K G) (hF : foR K G fo F) : et_go none (d + 1) 52 0 (eg_en (eg_mL 52) [.ref fo, .ref 9, .int (Int32.ofNat v)]) [] G 0 0 (xp_Z G (some (.int (Int32.ofNat (if feT F 9 = true then 1 else 0))))) := by
  have k_fo := hF.1
  rw [show eg_mL 52 = 3 from by decide +kernel]
  show et_go none (d + 1) 52 0 [some (.ref fo), some (.ref 9), some (.int (Int32.ofNat v))] [] G 0 0 _
  refine hs_gst (v := Value.ref 149) (p := 3) (by decide +kernel) ?_
  refine hs_aload (i := 1) (p := 4) (by decide +kernel) rfl ?_
  refine ht_callv (T := et_TT) (t := 0) (mi := 304) (na := 0) (ci := 12) (lk := 3) (lm := 1) (L0 := eg_en (eg_mL 304) [.ref 9]) (by decide +kernel) rfl hH (hH.2.1 _ (by decide)) rfl rfl rfl rfl rfl (by rw [show eg_mL 304 = 1 from by decide +kernel]; first | done | rfl) ?_
  refine (fx_ord hH.1 (by decide)).mono (fun u hu => xp_cb hu ?_)
  show et_go none _ 52 7 _ [.int (Int32.ofNat 9), .ref 149] _ _ _ _
  refine hw_swl (i := 9) (x := Int32.ofNat 19) (p := 8) (by decide +kernel) hH.1 (by decide) (by decide +kernel) ?_
  refine hs_st (ins := .tableswitch 90 15 20 #[40, 48, 66, 75, 80, 85]) (len := 40) (by decide +kernel) rfl (by rfl) (?_ : et_go none _ 52 88 _ _ _ _ _ _)
  refine hs_aload (i := 0) (p := 89) (by decide +kernel) rfl ?_
  refine hf_get (T := et_TT) (t := 4) (ci := 2) (f := 2) (p := 92) (by decide +kernel) rfl hH k_fo (hF.2.1 2 (by decide)) ?_
  refine hs_zret (by decide +kernel) hF.2.2.2.1 ?_
  rw [show feT F 9 = decide (¬ F 2 = 0) from rfl, ← z01 hF.2.2.2.1]
  rfl
theorem fx_so14 (hH : et_H et_TT K G) (hF : foR K G fo F) : et_go none (d + 1) 52 0 (eg_en (eg_mL 52) [.ref fo, .ref 14, .int (Int32.ofNat v)]) [] G 0 0 (xp_Z G (some (.int (Int32.ofNat (if feT F 14 = true then 1 else 0))))) := by
  have k_fo := hF.1
  rw [show eg_mL 52 = 3 from by decide +kernel]
  show et_go none (d + 1) 52 0 [some (.ref fo), some (.ref 14), some (.int (Int32.ofNat v))] [] G 0 0 _
  refine hs_gst (v := Value.ref 149) (p := 3) (by decide +kernel) ?_
  refine hs_aload (i := 1) (p := 4) (by decide +kernel) rfl ?_
  refine ht_callv (T := et_TT) (t := 0) (mi := 304) (na := 0) (ci := 12) (lk := 3) (lm := 1) (L0 := eg_en (eg_mL 304) [.ref 14]) (by decide +kernel) rfl hH (hH.2.1 _ (by decide)) rfl rfl rfl rfl rfl (by rw [show eg_mL 304 = 1 from by decide +kernel]; first | done | rfl) ?_
  refine (fx_ord hH.1 (by decide)).mono (fun u hu => xp_cb hu ?_)
  show et_go none _ 52 7 _ [.int (Int32.ofNat 14), .ref 149] _ _ _ _
  refine hw_swl (i := 14) (x := Int32.ofNat 20) (p := 8) (by decide +kernel) hH.1 (by decide) (by decide +kernel) ?_
  refine hs_st (ins := .tableswitch 90 15 20 #[40, 48, 66, 75, 80, 85]) (len := 40) (by decide +kernel) rfl (by rfl) (?_ : et_go none _ 52 93 _ _ _ _ _ _)
  refine hs_aload (i := 0) (p := 94) (by decide +kernel) rfl ?_
  refine hf_get (T := et_TT) (t := 4) (ci := 2) (f := 11) (p := 97) (by decide +kernel) rfl hH k_fo (hF.2.1 11 (by decide)) ?_
  refine hs_zret (by decide +kernel) hF.2.2.2.2 ?_
  rw [show feT F 14 = decide (¬ F 11 = 0) from rfl, ← z01 hF.2.2.2.2]
  rfl
theorem fx_so (hH : et_H et_TT K G) (hF : foR K G fo F) (hw : sp_tw w = true) (hd : 1 ≤ d2) : et_go none d2 52 0 (eg_en (eg_mL 52) [.ref fo, .ref w, .int (Int32.ofNat v)]) [] G 0 0 (xp_Z G (some (.int (Int32.ofNat (if (if w = 2 then (feE F).2.2 v else (feE F).2.1 w) = true then 1 else 0))))) := by
  obtain ⟨d, rfl⟩ : ∃ d, d2 = d + 1 := ⟨d2 - 1, by omega⟩
  have h : w = 0 ∨ w = 1 ∨ w = 2 ∨ w = 8 ∨ w = 9 ∨ w = 14 := by
    unfold sp_tw at hw
    simp only [Bool.or_eq_true, Nat.ble_eq, beq_iff_eq] at hw
    omega
  rcases h with rfl | rfl | rfl | rfl | rfl | rfl
  · exact fx_so0 hH hF
  · exact fx_so1 hH hF
  · exact fx_so2 hH hF
  · exact fx_so8 hH hF
  · exact fx_so9 hH hF
  · exact fx_so14 hH hF
theorem fv_sumL {acc : Int64} {v1 : Value} {c : Value} {ps : List (Nat × (sp_E → Int64))} (hH : et_H et_TT K G) (hF : foR K G fo F) (hv1 : v1 = .null ∨ ∃ a, v1 = .ref a) (hc : ch G c (ps.map (·.1))) (hp : ∀ p ∈ ps, pt G p.1 p.2) (hk : c = .null ∨ ∃ a, c = .ref a ∧ K a = some 6) : et_go none (d + 2) 54 5 [some (.ref fo), some v1, some (.long acc), none, some c] [] G 0 0 (xp_Z G (some (.long (ps.foldl (fun s p => s + p.2 (feE F)) acc)))) := by
  have k_fo := hF.1
  have e2 : ∀ (z x : Int64) (y : Option Value), eg_s2 [some (.ref fo), some v1, some (.long z), none, y] 2 (.long x) = [some (.ref fo), some v1, some (.long x), none, y]     := fun z x y => by
    rcases hv1 with rfl | ⟨a, rfl⟩ <;> rfl
  induction ps generalizing acc c with
  | nil =>
    obtain rfl : c = .null := hc
    refine hs_aload0 (i := 4) (p := 7) (by decide +kernel) rfl ?_
    refine hs_ifnull0 (p := 56) (by decide +kernel) ?_
    refine hs_lload (i := 2) (p := 57) (by decide +kernel) rfl ?_
    refine hs_lret ⟨by decide +kernel, by decide +kernel⟩ ?_
    rfl
  | cons p ps ih =>
    obtain ⟨rfl, nx, hn, hc⟩ := hc
    have k_p : K p.1 = some 6 := by
      rcases hk with h | ⟨a, h, h2⟩
      · cases h
      · cases h
        exact h2
    have hk2 : nx = .null ∨ ∃ a, nx = .ref a ∧ K a = some 6 := (hn_next hH k_p hn).elim .inl (fun ⟨a, h1, h2, _⟩ => .inr ⟨a, h1, h2⟩)
    have hp2 := fun q hq => hp q (List.mem_cons_of_mem _ hq)
    obtain ⟨m, hm, h5, ⟨h4, hf⟩ | ⟨wd, hw, h4, hf⟩⟩ := hp p List.mem_cons_self
    · rcases hk2 with rfl | ⟨a2, rfl, k_a2⟩
      · refine hs_aload (i := 4) (p := 7) (by decide +kernel) rfl ?_
        refine hs_ifnull1 (p := 10) (by decide +kernel) ?_
        refine hs_lload (i := 2) (p := 11) (by decide +kernel) rfl ?_
        refine hs_aload (i := 4) (p := 13) (by decide +kernel) rfl ?_
        refine hf_get (T := et_TT) (t := 6) (ci := 4) (f := 4) (p := 16) (by decide +kernel) rfl hH k_p h4 ?_
        refine hs_ifnonnull0 (p := 19) (by decide +kernel) ?_
        refine hs_aload (i := 4) (p := 21) (by decide +kernel) rfl ?_
        refine hf_get (T := et_TT) (t := 6) (ci := 4) (f := 5) (p := 24) (by decide +kernel) rfl hH k_p h5 ?_
        refine hs_i2l (p := 25) (by decide +kernel) ?_
        refine hs_goto (p := 44) (by decide +kernel) ?_
        refine hs_ladd (p := 45) (by decide +kernel) ?_
        refine hs_lstore (i := 2) (p := 46) (by decide +kernel) (Nat.le_of_ble_eq_true rfl) ?_
        refine hs_aload (i := 4) (p := 48) (by decide +kernel) rfl ?_
        refine hf_get (T := et_TT) (t := 6) (ci := 4) (f := 1) (p := 51) (by decide +kernel) rfl hH k_p hn ?_
        refine hs_astore0 (i := 4) (p := 53) (by decide +kernel) (Nat.le_of_ble_eq_true rfl) ?_
        refine hs_goto (p := 5) (by decide +kernel) ?_
        rw [e2]
        show et_go none _ 54 5 [some (.ref fo), some v1, some (.long (acc + (Int32.ofNat m).toInt64)), none, some (.null)] [] _ _ _ _
        have h := ih (acc := (acc + (Int32.ofNat m).toInt64)) hc hp2 (.inl rfl)
        rw [List.foldl_cons, hf]
        rw [← i6_l hm]
        exact h
      · refine hs_aload (i := 4) (p := 7) (by decide +kernel) rfl ?_
        refine hs_ifnull1 (p := 10) (by decide +kernel) ?_
        refine hs_lload (i := 2) (p := 11) (by decide +kernel) rfl ?_
        refine hs_aload (i := 4) (p := 13) (by decide +kernel) rfl ?_
        refine hf_get (T := et_TT) (t := 6) (ci := 4) (f := 4) (p := 16) (by decide +kernel) rfl hH k_p h4 ?_
        refine hs_ifnonnull0 (p := 19) (by decide +kernel) ?_
        refine hs_aload (i := 4) (p := 21) (by decide +kernel) rfl ?_
        refine hf_get (T := et_TT) (t := 6) (ci := 4) (f := 5) (p := 24) (by decide +kernel) rfl hH k_p h5 ?_
        refine hs_i2l (p := 25) (by decide +kernel) ?_
        refine hs_goto (p := 44) (by decide +kernel) ?_
        refine hs_ladd (p := 45) (by decide +kernel) ?_
        refine hs_lstore (i := 2) (p := 46) (by decide +kernel) (Nat.le_of_ble_eq_true rfl) ?_
        refine hs_aload (i := 4) (p := 48) (by decide +kernel) rfl ?_
        refine hf_get (T := et_TT) (t := 6) (ci := 4) (f := 1) (p := 51) (by decide +kernel) rfl hH k_p hn ?_
        refine hs_astore (i := 4) (p := 53) (by decide +kernel) (Nat.le_of_ble_eq_true rfl) ?_
        refine hs_goto (p := 5) (by decide +kernel) ?_
        rw [e2]
        show et_go none _ 54 5 [some (.ref fo), some v1, some (.long (acc + (Int32.ofNat m).toInt64)), none, some (.ref a2)] [] _ _ _ _
        have h := ih (acc := (acc + (Int32.ofNat m).toInt64)) hc hp2 (.inr ⟨a2, rfl, k_a2⟩)
        rw [List.foldl_cons, hf]
        rw [← i6_l hm]
        exact h
    · rcases hk2 with rfl | ⟨a2, rfl, k_a2⟩
      · refine hs_aload (i := 4) (p := 7) (by decide +kernel) rfl ?_
        refine hs_ifnull1 (p := 10) (by decide +kernel) ?_
        refine hs_lload (i := 2) (p := 11) (by decide +kernel) rfl ?_
        refine hs_aload (i := 4) (p := 13) (by decide +kernel) rfl ?_
        refine hf_get (T := et_TT) (t := 6) (ci := 4) (f := 4) (p := 16) (by decide +kernel) rfl hH k_p h4 ?_
        refine hs_ifnonnull1 (p := 28) (by decide +kernel) ?_
        refine hs_aload (i := 4) (p := 30) (by decide +kernel) rfl ?_
        refine hf_get (T := et_TT) (t := 6) (ci := 4) (f := 5) (p := 33) (by decide +kernel) rfl hH k_p h5 ?_
        refine hs_i2l (p := 34) (by decide +kernel) ?_
        refine hs_aload (i := 0) (p := 35) (by decide +kernel) rfl ?_
        refine hs_aload (i := 4) (p := 37) (by decide +kernel) rfl ?_
        refine hf_get (T := et_TT) (t := 6) (ci := 4) (f := 4) (p := 40) (by decide +kernel) rfl hH k_p h4 ?_
        refine ht_callv (T := et_TT) (t := 4) (mi := 55) (na := 1) (ci := 2) (lk := 5) (lm := 2) (L0 := eg_en (eg_mL 55) [.ref fo, .ref wd]) (by decide +kernel) rfl hH k_fo rfl rfl rfl rfl rfl (by rw [show eg_mL 55 = 2 from by decide +kernel]; first | done | rfl) ?_
        refine (fx_num hH hF hw (by omega)).mono (fun u hu => xp_cb hu ?_)
        show et_go none _ 54 43 _ [.long (feA F wd), .long (Int32.ofNat m).toInt64, .long acc] _ _ _ _
        refine hs_lmul (p := 44) (by decide +kernel) ?_
        refine hs_ladd (p := 45) (by decide +kernel) ?_
        refine hs_lstore (i := 2) (p := 46) (by decide +kernel) (Nat.le_of_ble_eq_true rfl) ?_
        refine hs_aload (i := 4) (p := 48) (by decide +kernel) rfl ?_
        refine hf_get (T := et_TT) (t := 6) (ci := 4) (f := 1) (p := 51) (by decide +kernel) rfl hH k_p hn ?_
        refine hs_astore0 (i := 4) (p := 53) (by decide +kernel) (Nat.le_of_ble_eq_true rfl) ?_
        refine hs_goto (p := 5) (by decide +kernel) ?_
        rw [e2]
        show et_go none _ 54 5 [some (.ref fo), some v1, some (.long (acc + ((Int32.ofNat m).toInt64 * (feA F wd)))), none, some (.null)] [] _ _ _ _
        have h := ih (acc := (acc + ((Int32.ofNat m).toInt64 * (feA F wd)))) hc hp2 (.inl rfl)
        rw [List.foldl_cons, hf]
        rw [i6_l hm] at h ⊢
        exact h
      · refine hs_aload (i := 4) (p := 7) (by decide +kernel) rfl ?_
        refine hs_ifnull1 (p := 10) (by decide +kernel) ?_
        refine hs_lload (i := 2) (p := 11) (by decide +kernel) rfl ?_
        refine hs_aload (i := 4) (p := 13) (by decide +kernel) rfl ?_
        refine hf_get (T := et_TT) (t := 6) (ci := 4) (f := 4) (p := 16) (by decide +kernel) rfl hH k_p h4 ?_
        refine hs_ifnonnull1 (p := 28) (by decide +kernel) ?_
        refine hs_aload (i := 4) (p := 30) (by decide +kernel) rfl ?_
        refine hf_get (T := et_TT) (t := 6) (ci := 4) (f := 5) (p := 33) (by decide +kernel) rfl hH k_p h5 ?_
        refine hs_i2l (p := 34) (by decide +kernel) ?_
        refine hs_aload (i := 0) (p := 35) (by decide +kernel) rfl ?_
        refine hs_aload (i := 4) (p := 37) (by decide +kernel) rfl ?_
        refine hf_get (T := et_TT) (t := 6) (ci := 4) (f := 4) (p := 40) (by decide +kernel) rfl hH k_p h4 ?_
        refine ht_callv (T := et_TT) (t := 4) (mi := 55) (na := 1) (ci := 2) (lk := 5) (lm := 2) (L0 := eg_en (eg_mL 55) [.ref fo, .ref wd]) (by decide +kernel) rfl hH k_fo rfl rfl rfl rfl rfl (by rw [show eg_mL 55 = 2 from by decide +kernel]; first | done | rfl) ?_
        refine (fx_num hH hF hw (by omega)).mono (fun u hu => xp_cb hu ?_)
        show et_go none _ 54 43 _ [.long (feA F wd), .long (Int32.ofNat m).toInt64, .long acc] _ _ _ _
        refine hs_lmul (p := 44) (by decide +kernel) ?_
        refine hs_ladd (p := 45) (by decide +kernel) ?_
        refine hs_lstore (i := 2) (p := 46) (by decide +kernel) (Nat.le_of_ble_eq_true rfl) ?_
        refine hs_aload (i := 4) (p := 48) (by decide +kernel) rfl ?_
        refine hf_get (T := et_TT) (t := 6) (ci := 4) (f := 1) (p := 51) (by decide +kernel) rfl hH k_p hn ?_
        refine hs_astore (i := 4) (p := 53) (by decide +kernel) (Nat.le_of_ble_eq_true rfl) ?_
        refine hs_goto (p := 5) (by decide +kernel) ?_
        rw [e2]
        show et_go none _ 54 5 [some (.ref fo), some v1, some (.long (acc + ((Int32.ofNat m).toInt64 * (feA F wd)))), none, some (.ref a2)] [] _ _ _ _
        have h := ih (acc := (acc + ((Int32.ofNat m).toInt64 * (feA F wd)))) hc hp2 (.inr ⟨a2, rfl, k_a2⟩)
        rw [List.foldl_cons, hf]
        rw [i6_l hm] at h ⊢
        exact h
theorem fv_sum {p : Value} {A : sp_E → Int64} {lo hi : Nat} (hH : et_H et_TT K G) (hF : foR K G fo F) (hs : sm G lo hi p A) (hk : p = .null ∨ ∃ a, p = .ref a ∧ K a = some 6) (hd : 2 ≤ d2) : et_go none d2 54 0 (eg_en (eg_mL 54) [.ref fo, p]) [] G 0 0 (xp_Z G (some (.long (A (feE F))))) := by
  obtain ⟨d, rfl⟩ : ∃ d, d2 = d + 2 := ⟨d2 - 2, by omega⟩
  obtain ⟨ps, hc, hp, rfl⟩ := hs
  have hp2 := fun q hq => (hp q hq).2.2
  rw [show eg_mL 54 = 5 from by decide +kernel]
  rcases hk with rfl | ⟨a2, rfl, k_a2⟩
  · show et_go none (d + 2) 54 0 [some (.ref fo), some (.null), none, none, none] [] G 0 0 _
    refine hs_lcon (x := Int64.ofNat 0) (p := 1) (by decide +kernel) ?_
    refine hs_lstore (i := 2) (p := 2) (by decide +kernel) (Nat.le_of_ble_eq_true rfl) ?_
    refine hs_aload0 (i := 1) (p := 3) (by decide +kernel) rfl ?_
    refine hs_astore0 (i := 4) (p := 5) (by decide +kernel) (Nat.le_of_ble_eq_true rfl) ?_
    show et_go none _ 54 5 [some (.ref fo), some (.null), some (.long (Int64.ofNat 0)), none, some (.null)] [] _ _ _ _
    exact fv_sumL (v1 := .null) hH hF (.inl rfl) hc hp2 (.inl rfl)
  · show et_go none (d + 2) 54 0 [some (.ref fo), some (.ref a2), none, none, none] [] G 0 0 _
    refine hs_lcon (x := Int64.ofNat 0) (p := 1) (by decide +kernel) ?_
    refine hs_lstore (i := 2) (p := 2) (by decide +kernel) (Nat.le_of_ble_eq_true rfl) ?_
    refine hs_aload (i := 1) (p := 3) (by decide +kernel) rfl ?_
    refine hs_astore (i := 4) (p := 5) (by decide +kernel) (Nat.le_of_ble_eq_true rfl) ?_
    show et_go none _ 54 5 [some (.ref fo), some (.ref a2), some (.long (Int64.ofNat 0)), none, some (.ref a2)] [] _ _ _ _
    exact fv_sumL (v1 := .ref a2) hH hF (.inr ⟨_, rfl⟩) hc hp2 (.inr ⟨a2, rfl, k_a2⟩)
theorem fn_grp0 {n hi : Nat} {v : Value} {cs : List (Nat × ((Nat × Nat) × (sp_E → Bool)))} (hH : et_H et_TT K G) (hF : foR K G fo F) (k_b : K b = some 6) (h0 : et_pl (eg_at G b) 0 = some (.int (Int32.ofNat 0))) (hc : ch G v (cs.map (·.1))) (hk : v = .null ∨ ∃ a, v = .ref a ∧ K a = some 6) (hrec : ∀ c ∈ cs, K c.1 = some 6 → et_go none d 60 0 (eg_en (eg_mL 60) [.ref c.1, .ref fo, .int (Int32.ofNat (dep + 1))]) [] G 0 0 (xp_Z G (some (.int (Int32.ofNat (if c.2.2 (feE F) = true then 1 else 0)))))) : et_go none (d + 1) 60 125 [some (.ref b), some (.ref fo), some (.int (Int32.ofNat dep)), some v] [] G 0 0 (xp_Z G (some (.int (Int32.ofNat (if (cs.any (fun c => c.2.2 (feE F))) = true then 1 else 0))))) := by
  induction cs generalizing v with
  | nil =>
    obtain rfl : v = .null := hc
    refine hs_aload0 (i := 3) (p := 126) (by decide +kernel) rfl ?_
    refine hs_ifnull0 (p := 174) (by decide +kernel) ?_
    refine hs_aload (i := 0) (p := 175) (by decide +kernel) rfl ?_
    refine hf_get (T := et_TT) (t := 6) (ci := 4) (f := 0) (p := 178) (by decide +kernel) rfl hH k_b h0 ?_
    refine hs_k (x := Int32.ofNat 1) (p := 179) (by decide +kernel) ?_
    refine hs_br2n (c := .ne) (t := 186) (f := 182) (by decide +kernel) (by omega) (by omega) (fun _ => ?_) (fun h => absurd (show ¬ 0 = 1 by decide) h)
    refine hs_k (x := Int32.ofNat 0) (p := 187) (by decide +kernel) ?_
    refine hs_zret (by decide +kernel) (.inl rfl) ?_
    rfl
  | cons c cs ih =>
    obtain ⟨rfl, nx, hn, hc⟩ := hc
    have k_c : K c.1 = some 6 := by
      rcases hk with h | ⟨a, h, h2⟩
      · cases h
      · cases h
        exact h2
    have hk2 : nx = .null ∨ ∃ a, nx = .ref a ∧ K a = some 6 := (hn_next hH k_c hn).elim .inl (fun ⟨a, h1, h2, _⟩ => .inr ⟨a, h1, h2⟩)
    have hr0 := hrec c List.mem_cons_self k_c
    have hr2 := fun q hq => hrec q (List.mem_cons_of_mem _ hq)
    rcases hk2 with rfl | ⟨a2, rfl, k_a2⟩
    · refine hs_aload (i := 3) (p := 126) (by decide +kernel) rfl ?_
      refine hs_ifnull1 (p := 129) (by decide +kernel) ?_
      refine hs_aload (i := 3) (p := 130) (by decide +kernel) rfl ?_
      refine hs_aload (i := 1) (p := 131) (by decide +kernel) rfl ?_
      refine hs_iload (i := 2) (p := 132) (by decide +kernel) rfl ?_
      refine hs_k (x := Int32.ofNat 1) (p := 133) (by decide +kernel) ?_
      refine hs_iaddn (p := 134) (by decide +kernel) ?_
      refine ht_callv (T := et_TT) (t := 6) (mi := 60) (na := 2) (ci := 4) (lk := 4) (lm := 4) (L0 := eg_en (eg_mL 60) [.ref c.1, .ref fo, .int (Int32.ofNat (dep + 1))]) (by decide +kernel) rfl hH k_c rfl rfl rfl rfl rfl (by rw [show eg_mL 60 = 4 from by decide +kernel]; first | done | rfl) ?_
      refine hr0.mono (fun u hu => xp_cb hu ?_)
      by_cases hq : c.2.2 (feE F) = true
      · rw [if_pos hq]
        show et_go none _ 60 137 _ [.int (Int32.ofNat 1)] _ _ _ _
        refine hs_aload (i := 0) (p := 138) (by decide +kernel) rfl ?_
        refine hf_get (T := et_TT) (t := 6) (ci := 4) (f := 0) (p := 141) (by decide +kernel) rfl hH k_b h0 ?_
        refine hs_if0 (c := .ne) (t := 148) (f := 144) (by decide +kernel) (show ¬ (¬ Int32.ofNat 0 = 0) by decide) ?_
        refine hs_k (x := Int32.ofNat 1) (p := 145) (by decide +kernel) ?_
        refine hs_goto (p := 149) (by decide +kernel) ?_
        refine hs_br2n (c := .ne) (t := 166) (f := 152) (by decide +kernel) (by omega) (by omega) (fun h => absurd h (show ¬ (¬ 1 = 1) by decide)) (fun _ => ?_)
        refine hs_aload (i := 0) (p := 153) (by decide +kernel) rfl ?_
        refine hf_get (T := et_TT) (t := 6) (ci := 4) (f := 0) (p := 156) (by decide +kernel) rfl hH k_b h0 ?_
        refine hs_k (x := Int32.ofNat 1) (p := 157) (by decide +kernel) ?_
        refine hs_br2n (c := .eq) (t := 164) (f := 160) (by decide +kernel) (by omega) (by omega) (fun h => absurd h (show ¬ (0 = 1) by decide)) (fun _ => ?_)
        refine hs_k (x := Int32.ofNat 1) (p := 161) (by decide +kernel) ?_
        refine hs_goto (p := 165) (by decide +kernel) ?_
        refine hs_zret (by decide +kernel) (.inr rfl) ?_
        rw [List.any_cons, hq, Bool.true_or]
        rfl
      · rw [if_neg hq]
        show et_go none _ 60 137 _ [.int (Int32.ofNat 0)] _ _ _ _
        refine hs_aload (i := 0) (p := 138) (by decide +kernel) rfl ?_
        refine hf_get (T := et_TT) (t := 6) (ci := 4) (f := 0) (p := 141) (by decide +kernel) rfl hH k_b h0 ?_
        refine hs_if0 (c := .ne) (t := 148) (f := 144) (by decide +kernel) (show ¬ (¬ Int32.ofNat 0 = 0) by decide) ?_
        refine hs_k (x := Int32.ofNat 1) (p := 145) (by decide +kernel) ?_
        refine hs_goto (p := 149) (by decide +kernel) ?_
        refine hs_br2n (c := .ne) (t := 166) (f := 152) (by decide +kernel) (by omega) (by omega) (fun _ => ?_) (fun h => absurd (show ¬ 0 = 1 by decide) h)
        refine hs_aload (i := 3) (p := 167) (by decide +kernel) rfl ?_
        refine hf_get (T := et_TT) (t := 6) (ci := 4) (f := 1) (p := 170) (by decide +kernel) rfl hH k_c hn ?_
        refine hs_astore0 (i := 3) (p := 171) (by decide +kernel) (Nat.le_of_ble_eq_true rfl) ?_
        refine hs_goto (p := 125) (by decide +kernel) ?_
        show et_go none _ 60 125 [some (.ref b), some (.ref fo), some (.int (Int32.ofNat dep)), some (.null)] [] _ _ _ _
        rw [List.any_cons, Bool.eq_false_iff.mpr hq, Bool.false_or]
        exact ih hc (.inl rfl) hr2
    · refine hs_aload (i := 3) (p := 126) (by decide +kernel) rfl ?_
      refine hs_ifnull1 (p := 129) (by decide +kernel) ?_
      refine hs_aload (i := 3) (p := 130) (by decide +kernel) rfl ?_
      refine hs_aload (i := 1) (p := 131) (by decide +kernel) rfl ?_
      refine hs_iload (i := 2) (p := 132) (by decide +kernel) rfl ?_
      refine hs_k (x := Int32.ofNat 1) (p := 133) (by decide +kernel) ?_
      refine hs_iaddn (p := 134) (by decide +kernel) ?_
      refine ht_callv (T := et_TT) (t := 6) (mi := 60) (na := 2) (ci := 4) (lk := 4) (lm := 4) (L0 := eg_en (eg_mL 60) [.ref c.1, .ref fo, .int (Int32.ofNat (dep + 1))]) (by decide +kernel) rfl hH k_c rfl rfl rfl rfl rfl (by rw [show eg_mL 60 = 4 from by decide +kernel]; first | done | rfl) ?_
      refine hr0.mono (fun u hu => xp_cb hu ?_)
      by_cases hq : c.2.2 (feE F) = true
      · rw [if_pos hq]
        show et_go none _ 60 137 _ [.int (Int32.ofNat 1)] _ _ _ _
        refine hs_aload (i := 0) (p := 138) (by decide +kernel) rfl ?_
        refine hf_get (T := et_TT) (t := 6) (ci := 4) (f := 0) (p := 141) (by decide +kernel) rfl hH k_b h0 ?_
        refine hs_if0 (c := .ne) (t := 148) (f := 144) (by decide +kernel) (show ¬ (¬ Int32.ofNat 0 = 0) by decide) ?_
        refine hs_k (x := Int32.ofNat 1) (p := 145) (by decide +kernel) ?_
        refine hs_goto (p := 149) (by decide +kernel) ?_
        refine hs_br2n (c := .ne) (t := 166) (f := 152) (by decide +kernel) (by omega) (by omega) (fun h => absurd h (show ¬ (¬ 1 = 1) by decide)) (fun _ => ?_)
        refine hs_aload (i := 0) (p := 153) (by decide +kernel) rfl ?_
        refine hf_get (T := et_TT) (t := 6) (ci := 4) (f := 0) (p := 156) (by decide +kernel) rfl hH k_b h0 ?_
        refine hs_k (x := Int32.ofNat 1) (p := 157) (by decide +kernel) ?_
        refine hs_br2n (c := .eq) (t := 164) (f := 160) (by decide +kernel) (by omega) (by omega) (fun h => absurd h (show ¬ (0 = 1) by decide)) (fun _ => ?_)
        refine hs_k (x := Int32.ofNat 1) (p := 161) (by decide +kernel) ?_
        refine hs_goto (p := 165) (by decide +kernel) ?_
        refine hs_zret (by decide +kernel) (.inr rfl) ?_
        rw [List.any_cons, hq, Bool.true_or]
        rfl
      · rw [if_neg hq]
        show et_go none _ 60 137 _ [.int (Int32.ofNat 0)] _ _ _ _
        refine hs_aload (i := 0) (p := 138) (by decide +kernel) rfl ?_
        refine hf_get (T := et_TT) (t := 6) (ci := 4) (f := 0) (p := 141) (by decide +kernel) rfl hH k_b h0 ?_
        refine hs_if0 (c := .ne) (t := 148) (f := 144) (by decide +kernel) (show ¬ (¬ Int32.ofNat 0 = 0) by decide) ?_
        refine hs_k (x := Int32.ofNat 1) (p := 145) (by decide +kernel) ?_
        refine hs_goto (p := 149) (by decide +kernel) ?_
        refine hs_br2n (c := .ne) (t := 166) (f := 152) (by decide +kernel) (by omega) (by omega) (fun _ => ?_) (fun h => absurd (show ¬ 0 = 1 by decide) h)
        refine hs_aload (i := 3) (p := 167) (by decide +kernel) rfl ?_
        refine hf_get (T := et_TT) (t := 6) (ci := 4) (f := 1) (p := 170) (by decide +kernel) rfl hH k_c hn ?_
        refine hs_astore (i := 3) (p := 171) (by decide +kernel) (Nat.le_of_ble_eq_true rfl) ?_
        refine hs_goto (p := 125) (by decide +kernel) ?_
        show et_go none _ 60 125 [some (.ref b), some (.ref fo), some (.int (Int32.ofNat dep)), some (.ref a2)] [] _ _ _ _
        rw [List.any_cons, Bool.eq_false_iff.mpr hq, Bool.false_or]
        exact ih hc (.inr ⟨a2, rfl, k_a2⟩) hr2
theorem fn_grp1 {n hi : Nat} {v : Value} {cs : List (Nat × ((Nat × Nat) × (sp_E → Bool)))} (hH : et_H et_TT K G) (hF : foR K G fo F) (k_b : K b = some 6) (h0 : et_pl (eg_at G b) 0 = some (.int (Int32.ofNat 1))) (hc : ch G v (cs.map (·.1))) (hk : v = .null ∨ ∃ a, v = .ref a ∧ K a = some 6) (hrec : ∀ c ∈ cs, K c.1 = some 6 → et_go none d 60 0 (eg_en (eg_mL 60) [.ref c.1, .ref fo, .int (Int32.ofNat (dep + 1))]) [] G 0 0 (xp_Z G (some (.int (Int32.ofNat (if c.2.2 (feE F) = true then 1 else 0)))))) : et_go none (d + 1) 60 125 [some (.ref b), some (.ref fo), some (.int (Int32.ofNat dep)), some v] [] G 0 0 (xp_Z G (some (.int (Int32.ofNat (if (cs.all (fun c => c.2.2 (feE F))) = true then 1 else 0))))) := by
  induction cs generalizing v with
  | nil =>
    obtain rfl : v = .null := hc
    refine hs_aload0 (i := 3) (p := 126) (by decide +kernel) rfl ?_
    refine hs_ifnull0 (p := 174) (by decide +kernel) ?_
    refine hs_aload (i := 0) (p := 175) (by decide +kernel) rfl ?_
    refine hf_get (T := et_TT) (t := 6) (ci := 4) (f := 0) (p := 178) (by decide +kernel) rfl hH k_b h0 ?_
    refine hs_k (x := Int32.ofNat 1) (p := 179) (by decide +kernel) ?_
    refine hs_br2n (c := .ne) (t := 186) (f := 182) (by decide +kernel) (by omega) (by omega) (fun h => absurd h (show ¬ (¬ 1 = 1) by decide)) (fun _ => ?_)
    refine hs_k (x := Int32.ofNat 1) (p := 183) (by decide +kernel) ?_
    refine hs_goto (p := 187) (by decide +kernel) ?_
    refine hs_zret (by decide +kernel) (.inr rfl) ?_
    rfl
  | cons c cs ih =>
    obtain ⟨rfl, nx, hn, hc⟩ := hc
    have k_c : K c.1 = some 6 := by
      rcases hk with h | ⟨a, h, h2⟩
      · cases h
      · cases h
        exact h2
    have hk2 : nx = .null ∨ ∃ a, nx = .ref a ∧ K a = some 6 := (hn_next hH k_c hn).elim .inl (fun ⟨a, h1, h2, _⟩ => .inr ⟨a, h1, h2⟩)
    have hr0 := hrec c List.mem_cons_self k_c
    have hr2 := fun q hq => hrec q (List.mem_cons_of_mem _ hq)
    rcases hk2 with rfl | ⟨a2, rfl, k_a2⟩
    · refine hs_aload (i := 3) (p := 126) (by decide +kernel) rfl ?_
      refine hs_ifnull1 (p := 129) (by decide +kernel) ?_
      refine hs_aload (i := 3) (p := 130) (by decide +kernel) rfl ?_
      refine hs_aload (i := 1) (p := 131) (by decide +kernel) rfl ?_
      refine hs_iload (i := 2) (p := 132) (by decide +kernel) rfl ?_
      refine hs_k (x := Int32.ofNat 1) (p := 133) (by decide +kernel) ?_
      refine hs_iaddn (p := 134) (by decide +kernel) ?_
      refine ht_callv (T := et_TT) (t := 6) (mi := 60) (na := 2) (ci := 4) (lk := 4) (lm := 4) (L0 := eg_en (eg_mL 60) [.ref c.1, .ref fo, .int (Int32.ofNat (dep + 1))]) (by decide +kernel) rfl hH k_c rfl rfl rfl rfl rfl (by rw [show eg_mL 60 = 4 from by decide +kernel]; first | done | rfl) ?_
      refine hr0.mono (fun u hu => xp_cb hu ?_)
      by_cases hq : c.2.2 (feE F) = true
      · rw [if_pos hq]
        show et_go none _ 60 137 _ [.int (Int32.ofNat 1)] _ _ _ _
        refine hs_aload (i := 0) (p := 138) (by decide +kernel) rfl ?_
        refine hf_get (T := et_TT) (t := 6) (ci := 4) (f := 0) (p := 141) (by decide +kernel) rfl hH k_b h0 ?_
        refine hs_if1 (c := .ne) (t := 148) (f := 144) (by decide +kernel) (show ¬ Int32.ofNat 1 = 0 by decide) ?_
        refine hs_k (x := Int32.ofNat 0) (p := 149) (by decide +kernel) ?_
        refine hs_br2n (c := .ne) (t := 166) (f := 152) (by decide +kernel) (by omega) (by omega) (fun _ => ?_) (fun h => absurd (show ¬ 1 = 0 by decide) h)
        refine hs_aload (i := 3) (p := 167) (by decide +kernel) rfl ?_
        refine hf_get (T := et_TT) (t := 6) (ci := 4) (f := 1) (p := 170) (by decide +kernel) rfl hH k_c hn ?_
        refine hs_astore0 (i := 3) (p := 171) (by decide +kernel) (Nat.le_of_ble_eq_true rfl) ?_
        refine hs_goto (p := 125) (by decide +kernel) ?_
        show et_go none _ 60 125 [some (.ref b), some (.ref fo), some (.int (Int32.ofNat dep)), some (.null)] [] _ _ _ _
        rw [List.all_cons, hq, Bool.true_and]
        exact ih hc (.inl rfl) hr2
      · rw [if_neg hq]
        show et_go none _ 60 137 _ [.int (Int32.ofNat 0)] _ _ _ _
        refine hs_aload (i := 0) (p := 138) (by decide +kernel) rfl ?_
        refine hf_get (T := et_TT) (t := 6) (ci := 4) (f := 0) (p := 141) (by decide +kernel) rfl hH k_b h0 ?_
        refine hs_if1 (c := .ne) (t := 148) (f := 144) (by decide +kernel) (show ¬ Int32.ofNat 1 = 0 by decide) ?_
        refine hs_k (x := Int32.ofNat 0) (p := 149) (by decide +kernel) ?_
        refine hs_br2n (c := .ne) (t := 166) (f := 152) (by decide +kernel) (by omega) (by omega) (fun h => absurd h (show ¬ (¬ 0 = 0) by decide)) (fun _ => ?_)
        refine hs_aload (i := 0) (p := 153) (by decide +kernel) rfl ?_
        refine hf_get (T := et_TT) (t := 6) (ci := 4) (f := 0) (p := 156) (by decide +kernel) rfl hH k_b h0 ?_
        refine hs_k (x := Int32.ofNat 1) (p := 157) (by decide +kernel) ?_
        refine hs_br2n (c := .eq) (t := 164) (f := 160) (by decide +kernel) (by omega) (by omega) (fun _ => ?_) (fun h => absurd (show 1 = 1 by decide) h)
        refine hs_k (x := Int32.ofNat 0) (p := 165) (by decide +kernel) ?_
        refine hs_zret (by decide +kernel) (.inl rfl) ?_
        rw [List.all_cons, Bool.eq_false_iff.mpr hq, Bool.false_and]
        rfl
    · refine hs_aload (i := 3) (p := 126) (by decide +kernel) rfl ?_
      refine hs_ifnull1 (p := 129) (by decide +kernel) ?_
      refine hs_aload (i := 3) (p := 130) (by decide +kernel) rfl ?_
      refine hs_aload (i := 1) (p := 131) (by decide +kernel) rfl ?_
      refine hs_iload (i := 2) (p := 132) (by decide +kernel) rfl ?_
      refine hs_k (x := Int32.ofNat 1) (p := 133) (by decide +kernel) ?_
      refine hs_iaddn (p := 134) (by decide +kernel) ?_
      refine ht_callv (T := et_TT) (t := 6) (mi := 60) (na := 2) (ci := 4) (lk := 4) (lm := 4) (L0 := eg_en (eg_mL 60) [.ref c.1, .ref fo, .int (Int32.ofNat (dep + 1))]) (by decide +kernel) rfl hH k_c rfl rfl rfl rfl rfl (by rw [show eg_mL 60 = 4 from by decide +kernel]; first | done | rfl) ?_
      refine hr0.mono (fun u hu => xp_cb hu ?_)
      by_cases hq : c.2.2 (feE F) = true
      · rw [if_pos hq]
        show et_go none _ 60 137 _ [.int (Int32.ofNat 1)] _ _ _ _
        refine hs_aload (i := 0) (p := 138) (by decide +kernel) rfl ?_
        refine hf_get (T := et_TT) (t := 6) (ci := 4) (f := 0) (p := 141) (by decide +kernel) rfl hH k_b h0 ?_
        refine hs_if1 (c := .ne) (t := 148) (f := 144) (by decide +kernel) (show ¬ Int32.ofNat 1 = 0 by decide) ?_
        refine hs_k (x := Int32.ofNat 0) (p := 149) (by decide +kernel) ?_
        refine hs_br2n (c := .ne) (t := 166) (f := 152) (by decide +kernel) (by omega) (by omega) (fun _ => ?_) (fun h => absurd (show ¬ 1 = 0 by decide) h)
        refine hs_aload (i := 3) (p := 167) (by decide +kernel) rfl ?_
        refine hf_get (T := et_TT) (t := 6) (ci := 4) (f := 1) (p := 170) (by decide +kernel) rfl hH k_c hn ?_
        refine hs_astore (i := 3) (p := 171) (by decide +kernel) (Nat.le_of_ble_eq_true rfl) ?_
        refine hs_goto (p := 125) (by decide +kernel) ?_
        show et_go none _ 60 125 [some (.ref b), some (.ref fo), some (.int (Int32.ofNat dep)), some (.ref a2)] [] _ _ _ _
        rw [List.all_cons, hq, Bool.true_and]
        exact ih hc (.inr ⟨a2, rfl, k_a2⟩) hr2
      · rw [if_neg hq]
        show et_go none _ 60 137 _ [.int (Int32.ofNat 0)] _ _ _ _
        refine hs_aload (i := 0) (p := 138) (by decide +kernel) rfl ?_
        refine hf_get (T := et_TT) (t := 6) (ci := 4) (f := 0) (p := 141) (by decide +kernel) rfl hH k_b h0 ?_
        refine hs_if1 (c := .ne) (t := 148) (f := 144) (by decide +kernel) (show ¬ Int32.ofNat 1 = 0 by decide) ?_
        refine hs_k (x := Int32.ofNat 0) (p := 149) (by decide +kernel) ?_
        refine hs_br2n (c := .ne) (t := 166) (f := 152) (by decide +kernel) (by omega) (by omega) (fun h => absurd h (show ¬ (¬ 0 = 0) by decide)) (fun _ => ?_)
        refine hs_aload (i := 0) (p := 153) (by decide +kernel) rfl ?_
        refine hf_get (T := et_TT) (t := 6) (ci := 4) (f := 0) (p := 156) (by decide +kernel) rfl hH k_b h0 ?_
        refine hs_k (x := Int32.ofNat 1) (p := 157) (by decide +kernel) ?_
        refine hs_br2n (c := .eq) (t := 164) (f := 160) (by decide +kernel) (by omega) (by omega) (fun _ => ?_) (fun h => absurd (show 1 = 1 by decide) h)
        refine hs_k (x := Int32.ofNat 0) (p := 165) (by decide +kernel) ?_
        refine hs_zret (by decide +kernel) (.inl rfl) ?_
        rw [List.all_cons, Bool.eq_false_iff.mpr hq, Bool.false_and]
        rfl
theorem fn_grp2 {n hi : Nat} {v : Value} {cs : List (Nat × ((Nat × Nat) × (sp_E → Bool)))} (hH : et_H et_TT K G) (hF : foR K G fo F) (k_b : K b = some 6) (h0 : et_pl (eg_at G b) 0 = some (.int (Int32.ofNat 2))) (hc : ch G v (cs.map (·.1))) (hk : v = .null ∨ ∃ a, v = .ref a ∧ K a = some 6) (hrec : ∀ c ∈ cs, K c.1 = some 6 → et_go none d 60 0 (eg_en (eg_mL 60) [.ref c.1, .ref fo, .int (Int32.ofNat (dep + 1))]) [] G 0 0 (xp_Z G (some (.int (Int32.ofNat (if c.2.2 (feE F) = true then 1 else 0)))))) : et_go none (d + 1) 60 125 [some (.ref b), some (.ref fo), some (.int (Int32.ofNat dep)), some v] [] G 0 0 (xp_Z G (some (.int (Int32.ofNat (if (!(cs.all (fun c => c.2.2 (feE F)))) = true then 1 else 0))))) := by
  induction cs generalizing v with
  | nil =>
    obtain rfl : v = .null := hc
    refine hs_aload0 (i := 3) (p := 126) (by decide +kernel) rfl ?_
    refine hs_ifnull0 (p := 174) (by decide +kernel) ?_
    refine hs_aload (i := 0) (p := 175) (by decide +kernel) rfl ?_
    refine hf_get (T := et_TT) (t := 6) (ci := 4) (f := 0) (p := 178) (by decide +kernel) rfl hH k_b h0 ?_
    refine hs_k (x := Int32.ofNat 1) (p := 179) (by decide +kernel) ?_
    refine hs_br2n (c := .ne) (t := 186) (f := 182) (by decide +kernel) (by omega) (by omega) (fun _ => ?_) (fun h => absurd (show ¬ 2 = 1 by decide) h)
    refine hs_k (x := Int32.ofNat 0) (p := 187) (by decide +kernel) ?_
    refine hs_zret (by decide +kernel) (.inl rfl) ?_
    rfl
  | cons c cs ih =>
    obtain ⟨rfl, nx, hn, hc⟩ := hc
    have k_c : K c.1 = some 6 := by
      rcases hk with h | ⟨a, h, h2⟩
      · cases h
      · cases h
        exact h2
    have hk2 : nx = .null ∨ ∃ a, nx = .ref a ∧ K a = some 6 := (hn_next hH k_c hn).elim .inl (fun ⟨a, h1, h2, _⟩ => .inr ⟨a, h1, h2⟩)
    have hr0 := hrec c List.mem_cons_self k_c
    have hr2 := fun q hq => hrec q (List.mem_cons_of_mem _ hq)
    rcases hk2 with rfl | ⟨a2, rfl, k_a2⟩
    · refine hs_aload (i := 3) (p := 126) (by decide +kernel) rfl ?_
      refine hs_ifnull1 (p := 129) (by decide +kernel) ?_
      refine hs_aload (i := 3) (p := 130) (by decide +kernel) rfl ?_
      refine hs_aload (i := 1) (p := 131) (by decide +kernel) rfl ?_
      refine hs_iload (i := 2) (p := 132) (by decide +kernel) rfl ?_
      refine hs_k (x := Int32.ofNat 1) (p := 133) (by decide +kernel) ?_
      refine hs_iaddn (p := 134) (by decide +kernel) ?_
      refine ht_callv (T := et_TT) (t := 6) (mi := 60) (na := 2) (ci := 4) (lk := 4) (lm := 4) (L0 := eg_en (eg_mL 60) [.ref c.1, .ref fo, .int (Int32.ofNat (dep + 1))]) (by decide +kernel) rfl hH k_c rfl rfl rfl rfl rfl (by rw [show eg_mL 60 = 4 from by decide +kernel]; first | done | rfl) ?_
      refine hr0.mono (fun u hu => xp_cb hu ?_)
      by_cases hq : c.2.2 (feE F) = true
      · rw [if_pos hq]
        show et_go none _ 60 137 _ [.int (Int32.ofNat 1)] _ _ _ _
        refine hs_aload (i := 0) (p := 138) (by decide +kernel) rfl ?_
        refine hf_get (T := et_TT) (t := 6) (ci := 4) (f := 0) (p := 141) (by decide +kernel) rfl hH k_b h0 ?_
        refine hs_if1 (c := .ne) (t := 148) (f := 144) (by decide +kernel) (show ¬ Int32.ofNat 2 = 0 by decide) ?_
        refine hs_k (x := Int32.ofNat 0) (p := 149) (by decide +kernel) ?_
        refine hs_br2n (c := .ne) (t := 166) (f := 152) (by decide +kernel) (by omega) (by omega) (fun _ => ?_) (fun h => absurd (show ¬ 1 = 0 by decide) h)
        refine hs_aload (i := 3) (p := 167) (by decide +kernel) rfl ?_
        refine hf_get (T := et_TT) (t := 6) (ci := 4) (f := 1) (p := 170) (by decide +kernel) rfl hH k_c hn ?_
        refine hs_astore0 (i := 3) (p := 171) (by decide +kernel) (Nat.le_of_ble_eq_true rfl) ?_
        refine hs_goto (p := 125) (by decide +kernel) ?_
        show et_go none _ 60 125 [some (.ref b), some (.ref fo), some (.int (Int32.ofNat dep)), some (.null)] [] _ _ _ _
        rw [List.all_cons, hq, Bool.true_and]
        exact ih hc (.inl rfl) hr2
      · rw [if_neg hq]
        show et_go none _ 60 137 _ [.int (Int32.ofNat 0)] _ _ _ _
        refine hs_aload (i := 0) (p := 138) (by decide +kernel) rfl ?_
        refine hf_get (T := et_TT) (t := 6) (ci := 4) (f := 0) (p := 141) (by decide +kernel) rfl hH k_b h0 ?_
        refine hs_if1 (c := .ne) (t := 148) (f := 144) (by decide +kernel) (show ¬ Int32.ofNat 2 = 0 by decide) ?_
        refine hs_k (x := Int32.ofNat 0) (p := 149) (by decide +kernel) ?_
        refine hs_br2n (c := .ne) (t := 166) (f := 152) (by decide +kernel) (by omega) (by omega) (fun h => absurd h (show ¬ (¬ 0 = 0) by decide)) (fun _ => ?_)
        refine hs_aload (i := 0) (p := 153) (by decide +kernel) rfl ?_
        refine hf_get (T := et_TT) (t := 6) (ci := 4) (f := 0) (p := 156) (by decide +kernel) rfl hH k_b h0 ?_
        refine hs_k (x := Int32.ofNat 1) (p := 157) (by decide +kernel) ?_
        refine hs_br2n (c := .eq) (t := 164) (f := 160) (by decide +kernel) (by omega) (by omega) (fun h => absurd h (show ¬ (2 = 1) by decide)) (fun _ => ?_)
        refine hs_k (x := Int32.ofNat 1) (p := 161) (by decide +kernel) ?_
        refine hs_goto (p := 165) (by decide +kernel) ?_
        refine hs_zret (by decide +kernel) (.inr rfl) ?_
        rw [List.all_cons, Bool.eq_false_iff.mpr hq, Bool.false_and]
        rfl
    · refine hs_aload (i := 3) (p := 126) (by decide +kernel) rfl ?_
      refine hs_ifnull1 (p := 129) (by decide +kernel) ?_
      refine hs_aload (i := 3) (p := 130) (by decide +kernel) rfl ?_
      refine hs_aload (i := 1) (p := 131) (by decide +kernel) rfl ?_
      refine hs_iload (i := 2) (p := 132) (by decide +kernel) rfl ?_
      refine hs_k (x := Int32.ofNat 1) (p := 133) (by decide +kernel) ?_
      refine hs_iaddn (p := 134) (by decide +kernel) ?_
      refine ht_callv (T := et_TT) (t := 6) (mi := 60) (na := 2) (ci := 4) (lk := 4) (lm := 4) (L0 := eg_en (eg_mL 60) [.ref c.1, .ref fo, .int (Int32.ofNat (dep + 1))]) (by decide +kernel) rfl hH k_c rfl rfl rfl rfl rfl (by rw [show eg_mL 60 = 4 from by decide +kernel]; first | done | rfl) ?_
      refine hr0.mono (fun u hu => xp_cb hu ?_)
      by_cases hq : c.2.2 (feE F) = true
      · rw [if_pos hq]
        show et_go none _ 60 137 _ [.int (Int32.ofNat 1)] _ _ _ _
        refine hs_aload (i := 0) (p := 138) (by decide +kernel) rfl ?_
        refine hf_get (T := et_TT) (t := 6) (ci := 4) (f := 0) (p := 141) (by decide +kernel) rfl hH k_b h0 ?_
        refine hs_if1 (c := .ne) (t := 148) (f := 144) (by decide +kernel) (show ¬ Int32.ofNat 2 = 0 by decide) ?_
        refine hs_k (x := Int32.ofNat 0) (p := 149) (by decide +kernel) ?_
        refine hs_br2n (c := .ne) (t := 166) (f := 152) (by decide +kernel) (by omega) (by omega) (fun _ => ?_) (fun h => absurd (show ¬ 1 = 0 by decide) h)
        refine hs_aload (i := 3) (p := 167) (by decide +kernel) rfl ?_
        refine hf_get (T := et_TT) (t := 6) (ci := 4) (f := 1) (p := 170) (by decide +kernel) rfl hH k_c hn ?_
        refine hs_astore (i := 3) (p := 171) (by decide +kernel) (Nat.le_of_ble_eq_true rfl) ?_
        refine hs_goto (p := 125) (by decide +kernel) ?_
        show et_go none _ 60 125 [some (.ref b), some (.ref fo), some (.int (Int32.ofNat dep)), some (.ref a2)] [] _ _ _ _
        rw [List.all_cons, hq, Bool.true_and]
        exact ih hc (.inr ⟨a2, rfl, k_a2⟩) hr2
      · rw [if_neg hq]
        show et_go none _ 60 137 _ [.int (Int32.ofNat 0)] _ _ _ _
        refine hs_aload (i := 0) (p := 138) (by decide +kernel) rfl ?_
        refine hf_get (T := et_TT) (t := 6) (ci := 4) (f := 0) (p := 141) (by decide +kernel) rfl hH k_b h0 ?_
        refine hs_if1 (c := .ne) (t := 148) (f := 144) (by decide +kernel) (show ¬ Int32.ofNat 2 = 0 by decide) ?_
        refine hs_k (x := Int32.ofNat 0) (p := 149) (by decide +kernel) ?_
        refine hs_br2n (c := .ne) (t := 166) (f := 152) (by decide +kernel) (by omega) (by omega) (fun h => absurd h (show ¬ (¬ 0 = 0) by decide)) (fun _ => ?_)
        refine hs_aload (i := 0) (p := 153) (by decide +kernel) rfl ?_
        refine hf_get (T := et_TT) (t := 6) (ci := 4) (f := 0) (p := 156) (by decide +kernel) rfl hH k_b h0 ?_
        refine hs_k (x := Int32.ofNat 1) (p := 157) (by decide +kernel) ?_
        refine hs_br2n (c := .eq) (t := 164) (f := 160) (by decide +kernel) (by omega) (by omega) (fun h => absurd h (show ¬ (2 = 1) by decide)) (fun _ => ?_)
        refine hs_k (x := Int32.ofNat 1) (p := 161) (by decide +kernel) ?_
        refine hs_goto (p := 165) (by decide +kernel) ?_
        refine hs_zret (by decide +kernel) (.inr rfl) ?_
        rw [List.all_cons, Bool.eq_false_iff.mpr hq, Bool.false_and]
        rfl
theorem lgc_lt {x y : Int64} : 0 ≤ lg_cmp x y ↔ ¬ x < y := by
  unfold lg_cmp
  have e1 : (x < y) ↔ x.toInt < y.toInt := Int64.lt_iff_toInt_lt
  have e2 : (y < x) ↔ y.toInt < x.toInt := Int64.lt_iff_toInt_lt
  split
  · rename_i h
    have h : y < x := h
    rw [e2] at h
    rw [e1]
    exact ⟨fun _ => by omega, fun _ => by decide⟩
  · rename_i h
    have h : ¬ y < x := h
    rw [e2] at h
    split
    · rename_i h2
      subst h2
      exact ⟨fun _ => by rw [e1]; omega, fun _ => by decide⟩
    · rename_i h2
      rw [e1]
      exact ⟨fun h3 => absurd h3 (by decide), fun h3 => absurd (Int64.toInt_inj.mp (by omega)) h2⟩
theorem lgc_gt {x y : Int64} : lg_cmp x y ≤ 0 ↔ ¬ y < x := by
  unfold lg_cmp
  split
  · rename_i h
    have h : y < x := h
    exact ⟨fun h3 => absurd h3 (by decide), fun h3 => absurd h h3⟩
  · rename_i h
    have h : ¬ y < x := h
    split
    · exact ⟨fun _ => h, fun _ => by decide⟩
    · exact ⟨fun _ => h, fun _ => by decide⟩
theorem fx_true (hH : et_H et_TT K G) (hF : foR K G fo F) : ∀ (n : Nat) {d2 lo hi b dep : Nat} {f : sp_E → Bool}, dn G n lo hi b f → K b = some 6 → dep + n ≤ 22 → n + 3 ≤ d2 → et_go none d2 60 0 (eg_en (eg_mL 60) [.ref b, .ref fo, .int (Int32.ofNat dep)]) [] G 0 0 (xp_Z G (some (.int (Int32.ofNat (if f (feE F) = true then 1 else 0)))))
  | 0, _, _, _, _, _, _, h, _, _, _ => absurd h id
  | n + 1, d2, lo, hi, b, dep, f, ⟨hb, h⟩, k_b, hdn, hd => by
    obtain ⟨d, rfl⟩ : ∃ d, d2 = d + 1 := ⟨d2 - 1, by omega⟩
    have k_fo := hF.1
    have hdp : ¬ 21 < dep := by omega
    rw [show eg_mL 60 = 4 from by decide +kernel]
    show et_go none (d + 1) 60 0 [some (.ref b), some (.ref fo), some (.int (Int32.ofNat dep)), none] [] G 0 0 _
    rcases h with ⟨wd, v, htw, hv, h0, h4, h5, rfl⟩ | ⟨k, A, B, p, q, hk, h0, h2, h3, hA, hB, rfl⟩ | ⟨k, cs, p, hk, h0, h2, hc, hcs, -, -, rfl⟩
    · refine hs_iload (i := 2) (p := 1) (by decide +kernel) rfl ?_
      refine hs_k (x := Int32.ofNat 21) (p := 3) (by decide +kernel) ?_
      refine hs_br2n (c := .le) (t := 8) (f := 6) (by decide +kernel) (by omega) (by omega) (fun (c3 : dep ≤ 21) => ?_) (fun (c3 : ¬ (dep ≤ 21)) => ?_)
      · refine hs_aload (i := 0) (p := 9) (by decide +kernel) rfl ?_
        refine hf_get (T := et_TT) (t := 6) (ci := 4) (f := 0) (p := 12) (by decide +kernel) rfl hH k_b h0 ?_
        refine hs_st (ins := .tableswitch 108 3 5 #[28, 56, 82]) (len := 28) (by decide +kernel) rfl (by rfl) (?_ : et_go none _ 60 40 _ _ _ _ _ _)
        refine hs_aload (i := 0) (p := 41) (by decide +kernel) rfl ?_
        refine hf_get (T := et_TT) (t := 6) (ci := 4) (f := 4) (p := 44) (by decide +kernel) rfl hH k_b h4 ?_
        refine hs_ifnull1 (p := 47) (by decide +kernel) ?_
        refine hs_aload (i := 1) (p := 48) (by decide +kernel) rfl ?_
        refine hs_aload (i := 0) (p := 49) (by decide +kernel) rfl ?_
        refine hf_get (T := et_TT) (t := 6) (ci := 4) (f := 4) (p := 52) (by decide +kernel) rfl hH k_b h4 ?_
        refine hs_aload (i := 0) (p := 53) (by decide +kernel) rfl ?_
        refine hf_get (T := et_TT) (t := 6) (ci := 4) (f := 5) (p := 56) (by decide +kernel) rfl hH k_b h5 ?_
        refine ht_callv (T := et_TT) (t := 4) (mi := 52) (na := 2) (ci := 2) (lk := 4) (lm := 3) (L0 := eg_en (eg_mL 52) [.ref fo, .ref wd, .int (Int32.ofNat v)]) (by decide +kernel) rfl hH k_fo rfl rfl rfl rfl rfl (by rw [show eg_mL 52 = 3 from by decide +kernel]; first | done | rfl) ?_
        refine (fx_so (v := v) hH hF htw (by omega)).mono (fun u hu => xp_cb hu ?_)
        by_cases q56 : (if wd = 2 then (feE F).2.2 v else (feE F).2.1 wd) = true
        · rw [if_pos q56]
          show et_go none _ 60 59 _ [.int (Int32.ofNat 1)] _ _ _ _
          refine hs_if0 (c := .eq) (t := 66) (f := 62) (by decide +kernel) (show ¬ (Int32.ofNat 1 = 0) by decide) ?_
          refine hs_k (x := Int32.ofNat 1) (p := 63) (by decide +kernel) ?_
          refine hs_goto (p := 67) (by decide +kernel) ?_
          refine hs_zret (by decide +kernel) (.inr rfl) ?_
          rfl
        · rw [if_neg q56]
          show et_go none _ 60 59 _ [.int (Int32.ofNat 0)] _ _ _ _
          refine hs_if1 (c := .eq) (t := 66) (f := 62) (by decide +kernel) (show Int32.ofNat 0 = 0 by decide) ?_
          refine hs_k (x := Int32.ofNat 0) (p := 67) (by decide +kernel) ?_
          refine hs_zret (by decide +kernel) (.inl rfl) ?_
          rfl
      · exact absurd (show dep ≤ 21 by omega) c3
    · have hkp := hn_fld (.inl rfl) hH k_b h2
      have hkq := hn_fld (.inr rfl) hH k_b h3
      rcases hk with rfl | rfl
      · have hkp2 := hkp
        have hkq2 := hkq
        rcases hkp2 with rfl | ⟨pa, rfl, k_pa⟩
        · rcases hkq2 with rfl | ⟨qa, rfl, k_qa⟩
          · refine hs_iload (i := 2) (p := 1) (by decide +kernel) rfl ?_
            refine hs_k (x := Int32.ofNat 21) (p := 3) (by decide +kernel) ?_
            refine hs_br2n (c := .le) (t := 8) (f := 6) (by decide +kernel) (by omega) (by omega) (fun (c3 : dep ≤ 21) => ?_) (fun (c3 : ¬ (dep ≤ 21)) => ?_)
            · refine hs_aload (i := 0) (p := 9) (by decide +kernel) rfl ?_
              refine hf_get (T := et_TT) (t := 6) (ci := 4) (f := 0) (p := 12) (by decide +kernel) rfl hH k_b h0 ?_
              refine hs_st (ins := .tableswitch 108 3 5 #[28, 56, 82]) (len := 28) (by decide +kernel) rfl (by rfl) (?_ : et_go none _ 60 68 _ _ _ _ _ _)
              refine hs_aload (i := 1) (p := 69) (by decide +kernel) rfl ?_
              refine hs_aload (i := 0) (p := 70) (by decide +kernel) rfl ?_
              refine hf_get (T := et_TT) (t := 6) (ci := 4) (f := 2) (p := 73) (by decide +kernel) rfl hH k_b h2 ?_
              refine ht_callv (T := et_TT) (t := 4) (mi := 54) (na := 1) (ci := 2) (lk := 4) (lm := 5) (L0 := eg_en (eg_mL 54) [.ref fo, .null]) (by decide +kernel) rfl hH k_fo rfl rfl rfl rfl rfl (by rw [show eg_mL 54 = 5 from by decide +kernel]; first | done | rfl) ?_
              refine (fv_sum hH hF hA hkp (by omega)).mono (fun u hu => xp_cb hu ?_)
              show et_go none _ 60 76 _ [.long (A (feE F))] _ _ _ _
              refine hs_aload (i := 1) (p := 77) (by decide +kernel) rfl ?_
              refine hs_aload (i := 0) (p := 78) (by decide +kernel) rfl ?_
              refine hf_get (T := et_TT) (t := 6) (ci := 4) (f := 3) (p := 81) (by decide +kernel) rfl hH k_b h3 ?_
              refine ht_callv (T := et_TT) (t := 4) (mi := 54) (na := 1) (ci := 2) (lk := 4) (lm := 5) (L0 := eg_en (eg_mL 54) [.ref fo, .null]) (by decide +kernel) rfl hH k_fo rfl rfl rfl rfl rfl (by rw [show eg_mL 54 = 5 from by decide +kernel]; first | done | rfl) ?_
              refine (fv_sum hH hF hB hkq (by omega)).mono (fun u hu => xp_cb hu ?_)
              show et_go none _ 60 84 _ [.long (B (feE F)), .long (A (feE F))] _ _ _ _
              refine hs_lcmp (p := 85) (by decide +kernel) ?_
              refine hs_br1 (c := .ge) (t := 92) (f := 88) (by decide +kernel) (fun (c85 : 0 ≤ (lg_cmp (A (feE F)) (B (feE F)))) => ?_) (fun (c85 : ¬ (0 ≤ (lg_cmp (A (feE F)) (B (feE F))))) => ?_)
              · refine hs_k (x := Int32.ofNat 0) (p := 93) (by decide +kernel) ?_
                refine hs_zret (by decide +kernel) (.inl rfl) ?_
                show xp_Z G (some (.int (Int32.ofNat (if (if 4 = 4 then decide (A (feE F) < B (feE F)) else decide (B (feE F) < A (feE F))) = true then 1 else 0)))) _
                rw [show (if 4 = 4 then decide (A (feE F) < B (feE F)) else decide (B (feE F) < A (feE F))) = false from decide_eq_false (lgc_lt.mp c85)]
                rfl
              · refine hs_k (x := Int32.ofNat 1) (p := 89) (by decide +kernel) ?_
                refine hs_goto (p := 93) (by decide +kernel) ?_
                refine hs_zret (by decide +kernel) (.inr rfl) ?_
                show xp_Z G (some (.int (Int32.ofNat (if (if 4 = 4 then decide (A (feE F) < B (feE F)) else decide (B (feE F) < A (feE F))) = true then 1 else 0)))) _
                rw [show (if 4 = 4 then decide (A (feE F) < B (feE F)) else decide (B (feE F) < A (feE F))) = true from decide_eq_true (Decidable.of_not_not (fun h => c85 (lgc_lt.mpr h)))]
                rfl
            · exact absurd (show dep ≤ 21 by omega) c3
          · refine hs_iload (i := 2) (p := 1) (by decide +kernel) rfl ?_
            refine hs_k (x := Int32.ofNat 21) (p := 3) (by decide +kernel) ?_
            refine hs_br2n (c := .le) (t := 8) (f := 6) (by decide +kernel) (by omega) (by omega) (fun (c3 : dep ≤ 21) => ?_) (fun (c3 : ¬ (dep ≤ 21)) => ?_)
            · refine hs_aload (i := 0) (p := 9) (by decide +kernel) rfl ?_
              refine hf_get (T := et_TT) (t := 6) (ci := 4) (f := 0) (p := 12) (by decide +kernel) rfl hH k_b h0 ?_
              refine hs_st (ins := .tableswitch 108 3 5 #[28, 56, 82]) (len := 28) (by decide +kernel) rfl (by rfl) (?_ : et_go none _ 60 68 _ _ _ _ _ _)
              refine hs_aload (i := 1) (p := 69) (by decide +kernel) rfl ?_
              refine hs_aload (i := 0) (p := 70) (by decide +kernel) rfl ?_
              refine hf_get (T := et_TT) (t := 6) (ci := 4) (f := 2) (p := 73) (by decide +kernel) rfl hH k_b h2 ?_
              refine ht_callv (T := et_TT) (t := 4) (mi := 54) (na := 1) (ci := 2) (lk := 4) (lm := 5) (L0 := eg_en (eg_mL 54) [.ref fo, .null]) (by decide +kernel) rfl hH k_fo rfl rfl rfl rfl rfl (by rw [show eg_mL 54 = 5 from by decide +kernel]; first | done | rfl) ?_
              refine (fv_sum hH hF hA hkp (by omega)).mono (fun u hu => xp_cb hu ?_)
              show et_go none _ 60 76 _ [.long (A (feE F))] _ _ _ _
              refine hs_aload (i := 1) (p := 77) (by decide +kernel) rfl ?_
              refine hs_aload (i := 0) (p := 78) (by decide +kernel) rfl ?_
              refine hf_get (T := et_TT) (t := 6) (ci := 4) (f := 3) (p := 81) (by decide +kernel) rfl hH k_b h3 ?_
              refine ht_callv (T := et_TT) (t := 4) (mi := 54) (na := 1) (ci := 2) (lk := 4) (lm := 5) (L0 := eg_en (eg_mL 54) [.ref fo, .ref qa]) (by decide +kernel) rfl hH k_fo rfl rfl rfl rfl rfl (by rw [show eg_mL 54 = 5 from by decide +kernel]; first | done | rfl) ?_
              refine (fv_sum hH hF hB hkq (by omega)).mono (fun u hu => xp_cb hu ?_)
              show et_go none _ 60 84 _ [.long (B (feE F)), .long (A (feE F))] _ _ _ _
              refine hs_lcmp (p := 85) (by decide +kernel) ?_
              refine hs_br1 (c := .ge) (t := 92) (f := 88) (by decide +kernel) (fun (c85 : 0 ≤ (lg_cmp (A (feE F)) (B (feE F)))) => ?_) (fun (c85 : ¬ (0 ≤ (lg_cmp (A (feE F)) (B (feE F))))) => ?_)
              · refine hs_k (x := Int32.ofNat 0) (p := 93) (by decide +kernel) ?_
                refine hs_zret (by decide +kernel) (.inl rfl) ?_
                show xp_Z G (some (.int (Int32.ofNat (if (if 4 = 4 then decide (A (feE F) < B (feE F)) else decide (B (feE F) < A (feE F))) = true then 1 else 0)))) _
                rw [show (if 4 = 4 then decide (A (feE F) < B (feE F)) else decide (B (feE F) < A (feE F))) = false from decide_eq_false (lgc_lt.mp c85)]
                rfl
              · refine hs_k (x := Int32.ofNat 1) (p := 89) (by decide +kernel) ?_
                refine hs_goto (p := 93) (by decide +kernel) ?_
                refine hs_zret (by decide +kernel) (.inr rfl) ?_
                show xp_Z G (some (.int (Int32.ofNat (if (if 4 = 4 then decide (A (feE F) < B (feE F)) else decide (B (feE F) < A (feE F))) = true then 1 else 0)))) _
                rw [show (if 4 = 4 then decide (A (feE F) < B (feE F)) else decide (B (feE F) < A (feE F))) = true from decide_eq_true (Decidable.of_not_not (fun h => c85 (lgc_lt.mpr h)))]
                rfl
            · exact absurd (show dep ≤ 21 by omega) c3
        · rcases hkq2 with rfl | ⟨qa, rfl, k_qa⟩
          · refine hs_iload (i := 2) (p := 1) (by decide +kernel) rfl ?_
            refine hs_k (x := Int32.ofNat 21) (p := 3) (by decide +kernel) ?_
            refine hs_br2n (c := .le) (t := 8) (f := 6) (by decide +kernel) (by omega) (by omega) (fun (c3 : dep ≤ 21) => ?_) (fun (c3 : ¬ (dep ≤ 21)) => ?_)
            · refine hs_aload (i := 0) (p := 9) (by decide +kernel) rfl ?_
              refine hf_get (T := et_TT) (t := 6) (ci := 4) (f := 0) (p := 12) (by decide +kernel) rfl hH k_b h0 ?_
              refine hs_st (ins := .tableswitch 108 3 5 #[28, 56, 82]) (len := 28) (by decide +kernel) rfl (by rfl) (?_ : et_go none _ 60 68 _ _ _ _ _ _)
              refine hs_aload (i := 1) (p := 69) (by decide +kernel) rfl ?_
              refine hs_aload (i := 0) (p := 70) (by decide +kernel) rfl ?_
              refine hf_get (T := et_TT) (t := 6) (ci := 4) (f := 2) (p := 73) (by decide +kernel) rfl hH k_b h2 ?_
              refine ht_callv (T := et_TT) (t := 4) (mi := 54) (na := 1) (ci := 2) (lk := 4) (lm := 5) (L0 := eg_en (eg_mL 54) [.ref fo, .ref pa]) (by decide +kernel) rfl hH k_fo rfl rfl rfl rfl rfl (by rw [show eg_mL 54 = 5 from by decide +kernel]; first | done | rfl) ?_
              refine (fv_sum hH hF hA hkp (by omega)).mono (fun u hu => xp_cb hu ?_)
              show et_go none _ 60 76 _ [.long (A (feE F))] _ _ _ _
              refine hs_aload (i := 1) (p := 77) (by decide +kernel) rfl ?_
              refine hs_aload (i := 0) (p := 78) (by decide +kernel) rfl ?_
              refine hf_get (T := et_TT) (t := 6) (ci := 4) (f := 3) (p := 81) (by decide +kernel) rfl hH k_b h3 ?_
              refine ht_callv (T := et_TT) (t := 4) (mi := 54) (na := 1) (ci := 2) (lk := 4) (lm := 5) (L0 := eg_en (eg_mL 54) [.ref fo, .null]) (by decide +kernel) rfl hH k_fo rfl rfl rfl rfl rfl (by rw [show eg_mL 54 = 5 from by decide +kernel]; first | done | rfl) ?_
              refine (fv_sum hH hF hB hkq (by omega)).mono (fun u hu => xp_cb hu ?_)
              show et_go none _ 60 84 _ [.long (B (feE F)), .long (A (feE F))] _ _ _ _
              refine hs_lcmp (p := 85) (by decide +kernel) ?_
              refine hs_br1 (c := .ge) (t := 92) (f := 88) (by decide +kernel) (fun (c85 : 0 ≤ (lg_cmp (A (feE F)) (B (feE F)))) => ?_) (fun (c85 : ¬ (0 ≤ (lg_cmp (A (feE F)) (B (feE F))))) => ?_)
              · refine hs_k (x := Int32.ofNat 0) (p := 93) (by decide +kernel) ?_
                refine hs_zret (by decide +kernel) (.inl rfl) ?_
                show xp_Z G (some (.int (Int32.ofNat (if (if 4 = 4 then decide (A (feE F) < B (feE F)) else decide (B (feE F) < A (feE F))) = true then 1 else 0)))) _
                rw [show (if 4 = 4 then decide (A (feE F) < B (feE F)) else decide (B (feE F) < A (feE F))) = false from decide_eq_false (lgc_lt.mp c85)]
                rfl
              · refine hs_k (x := Int32.ofNat 1) (p := 89) (by decide +kernel) ?_
                refine hs_goto (p := 93) (by decide +kernel) ?_
                refine hs_zret (by decide +kernel) (.inr rfl) ?_
                show xp_Z G (some (.int (Int32.ofNat (if (if 4 = 4 then decide (A (feE F) < B (feE F)) else decide (B (feE F) < A (feE F))) = true then 1 else 0)))) _
                rw [show (if 4 = 4 then decide (A (feE F) < B (feE F)) else decide (B (feE F) < A (feE F))) = true from decide_eq_true (Decidable.of_not_not (fun h => c85 (lgc_lt.mpr h)))]
                rfl
            · exact absurd (show dep ≤ 21 by omega) c3
          · refine hs_iload (i := 2) (p := 1) (by decide +kernel) rfl ?_
            refine hs_k (x := Int32.ofNat 21) (p := 3) (by decide +kernel) ?_
            refine hs_br2n (c := .le) (t := 8) (f := 6) (by decide +kernel) (by omega) (by omega) (fun (c3 : dep ≤ 21) => ?_) (fun (c3 : ¬ (dep ≤ 21)) => ?_)
            · refine hs_aload (i := 0) (p := 9) (by decide +kernel) rfl ?_
              refine hf_get (T := et_TT) (t := 6) (ci := 4) (f := 0) (p := 12) (by decide +kernel) rfl hH k_b h0 ?_
              refine hs_st (ins := .tableswitch 108 3 5 #[28, 56, 82]) (len := 28) (by decide +kernel) rfl (by rfl) (?_ : et_go none _ 60 68 _ _ _ _ _ _)
              refine hs_aload (i := 1) (p := 69) (by decide +kernel) rfl ?_
              refine hs_aload (i := 0) (p := 70) (by decide +kernel) rfl ?_
              refine hf_get (T := et_TT) (t := 6) (ci := 4) (f := 2) (p := 73) (by decide +kernel) rfl hH k_b h2 ?_
              refine ht_callv (T := et_TT) (t := 4) (mi := 54) (na := 1) (ci := 2) (lk := 4) (lm := 5) (L0 := eg_en (eg_mL 54) [.ref fo, .ref pa]) (by decide +kernel) rfl hH k_fo rfl rfl rfl rfl rfl (by rw [show eg_mL 54 = 5 from by decide +kernel]; first | done | rfl) ?_
              refine (fv_sum hH hF hA hkp (by omega)).mono (fun u hu => xp_cb hu ?_)
              show et_go none _ 60 76 _ [.long (A (feE F))] _ _ _ _
              refine hs_aload (i := 1) (p := 77) (by decide +kernel) rfl ?_
              refine hs_aload (i := 0) (p := 78) (by decide +kernel) rfl ?_
              refine hf_get (T := et_TT) (t := 6) (ci := 4) (f := 3) (p := 81) (by decide +kernel) rfl hH k_b h3 ?_
              refine ht_callv (T := et_TT) (t := 4) (mi := 54) (na := 1) (ci := 2) (lk := 4) (lm := 5) (L0 := eg_en (eg_mL 54) [.ref fo, .ref qa]) (by decide +kernel) rfl hH k_fo rfl rfl rfl rfl rfl (by rw [show eg_mL 54 = 5 from by decide +kernel]; first | done | rfl) ?_
              refine (fv_sum hH hF hB hkq (by omega)).mono (fun u hu => xp_cb hu ?_)
              show et_go none _ 60 84 _ [.long (B (feE F)), .long (A (feE F))] _ _ _ _
              refine hs_lcmp (p := 85) (by decide +kernel) ?_
              refine hs_br1 (c := .ge) (t := 92) (f := 88) (by decide +kernel) (fun (c85 : 0 ≤ (lg_cmp (A (feE F)) (B (feE F)))) => ?_) (fun (c85 : ¬ (0 ≤ (lg_cmp (A (feE F)) (B (feE F))))) => ?_)
              · refine hs_k (x := Int32.ofNat 0) (p := 93) (by decide +kernel) ?_
                refine hs_zret (by decide +kernel) (.inl rfl) ?_
                show xp_Z G (some (.int (Int32.ofNat (if (if 4 = 4 then decide (A (feE F) < B (feE F)) else decide (B (feE F) < A (feE F))) = true then 1 else 0)))) _
                rw [show (if 4 = 4 then decide (A (feE F) < B (feE F)) else decide (B (feE F) < A (feE F))) = false from decide_eq_false (lgc_lt.mp c85)]
                rfl
              · refine hs_k (x := Int32.ofNat 1) (p := 89) (by decide +kernel) ?_
                refine hs_goto (p := 93) (by decide +kernel) ?_
                refine hs_zret (by decide +kernel) (.inr rfl) ?_
                show xp_Z G (some (.int (Int32.ofNat (if (if 4 = 4 then decide (A (feE F) < B (feE F)) else decide (B (feE F) < A (feE F))) = true then 1 else 0)))) _
                rw [show (if 4 = 4 then decide (A (feE F) < B (feE F)) else decide (B (feE F) < A (feE F))) = true from decide_eq_true (Decidable.of_not_not (fun h => c85 (lgc_lt.mpr h)))]
                rfl
            · exact absurd (show dep ≤ 21 by omega) c3
      · have hkp2 := hkp
        have hkq2 := hkq
        rcases hkp2 with rfl | ⟨pa, rfl, k_pa⟩
        · rcases hkq2 with rfl | ⟨qa, rfl, k_qa⟩
          · refine hs_iload (i := 2) (p := 1) (by decide +kernel) rfl ?_
            refine hs_k (x := Int32.ofNat 21) (p := 3) (by decide +kernel) ?_
            refine hs_br2n (c := .le) (t := 8) (f := 6) (by decide +kernel) (by omega) (by omega) (fun (c3 : dep ≤ 21) => ?_) (fun (c3 : ¬ (dep ≤ 21)) => ?_)
            · refine hs_aload (i := 0) (p := 9) (by decide +kernel) rfl ?_
              refine hf_get (T := et_TT) (t := 6) (ci := 4) (f := 0) (p := 12) (by decide +kernel) rfl hH k_b h0 ?_
              refine hs_st (ins := .tableswitch 108 3 5 #[28, 56, 82]) (len := 28) (by decide +kernel) rfl (by rfl) (?_ : et_go none _ 60 94 _ _ _ _ _ _)
              refine hs_aload (i := 1) (p := 95) (by decide +kernel) rfl ?_
              refine hs_aload (i := 0) (p := 96) (by decide +kernel) rfl ?_
              refine hf_get (T := et_TT) (t := 6) (ci := 4) (f := 2) (p := 99) (by decide +kernel) rfl hH k_b h2 ?_
              refine ht_callv (T := et_TT) (t := 4) (mi := 54) (na := 1) (ci := 2) (lk := 4) (lm := 5) (L0 := eg_en (eg_mL 54) [.ref fo, .null]) (by decide +kernel) rfl hH k_fo rfl rfl rfl rfl rfl (by rw [show eg_mL 54 = 5 from by decide +kernel]; first | done | rfl) ?_
              refine (fv_sum hH hF hA hkp (by omega)).mono (fun u hu => xp_cb hu ?_)
              show et_go none _ 60 102 _ [.long (A (feE F))] _ _ _ _
              refine hs_aload (i := 1) (p := 103) (by decide +kernel) rfl ?_
              refine hs_aload (i := 0) (p := 104) (by decide +kernel) rfl ?_
              refine hf_get (T := et_TT) (t := 6) (ci := 4) (f := 3) (p := 107) (by decide +kernel) rfl hH k_b h3 ?_
              refine ht_callv (T := et_TT) (t := 4) (mi := 54) (na := 1) (ci := 2) (lk := 4) (lm := 5) (L0 := eg_en (eg_mL 54) [.ref fo, .null]) (by decide +kernel) rfl hH k_fo rfl rfl rfl rfl rfl (by rw [show eg_mL 54 = 5 from by decide +kernel]; first | done | rfl) ?_
              refine (fv_sum hH hF hB hkq (by omega)).mono (fun u hu => xp_cb hu ?_)
              show et_go none _ 60 110 _ [.long (B (feE F)), .long (A (feE F))] _ _ _ _
              refine hs_lcmp (p := 111) (by decide +kernel) ?_
              refine hs_br1 (c := .le) (t := 118) (f := 114) (by decide +kernel) (fun (c111 : (lg_cmp (A (feE F)) (B (feE F))) ≤ 0) => ?_) (fun (c111 : ¬ ((lg_cmp (A (feE F)) (B (feE F))) ≤ 0)) => ?_)
              · refine hs_k (x := Int32.ofNat 0) (p := 119) (by decide +kernel) ?_
                refine hs_zret (by decide +kernel) (.inl rfl) ?_
                show xp_Z G (some (.int (Int32.ofNat (if (if 5 = 4 then decide (A (feE F) < B (feE F)) else decide (B (feE F) < A (feE F))) = true then 1 else 0)))) _
                rw [show (if 5 = 4 then decide (A (feE F) < B (feE F)) else decide (B (feE F) < A (feE F))) = false from decide_eq_false (lgc_gt.mp c111)]
                rfl
              · refine hs_k (x := Int32.ofNat 1) (p := 115) (by decide +kernel) ?_
                refine hs_goto (p := 119) (by decide +kernel) ?_
                refine hs_zret (by decide +kernel) (.inr rfl) ?_
                show xp_Z G (some (.int (Int32.ofNat (if (if 5 = 4 then decide (A (feE F) < B (feE F)) else decide (B (feE F) < A (feE F))) = true then 1 else 0)))) _
                rw [show (if 5 = 4 then decide (A (feE F) < B (feE F)) else decide (B (feE F) < A (feE F))) = true from decide_eq_true (Decidable.of_not_not (fun h => c111 (lgc_gt.mpr h)))]
                rfl
            · exact absurd (show dep ≤ 21 by omega) c3
          · refine hs_iload (i := 2) (p := 1) (by decide +kernel) rfl ?_
            refine hs_k (x := Int32.ofNat 21) (p := 3) (by decide +kernel) ?_
            refine hs_br2n (c := .le) (t := 8) (f := 6) (by decide +kernel) (by omega) (by omega) (fun (c3 : dep ≤ 21) => ?_) (fun (c3 : ¬ (dep ≤ 21)) => ?_)
            · refine hs_aload (i := 0) (p := 9) (by decide +kernel) rfl ?_
              refine hf_get (T := et_TT) (t := 6) (ci := 4) (f := 0) (p := 12) (by decide +kernel) rfl hH k_b h0 ?_
              refine hs_st (ins := .tableswitch 108 3 5 #[28, 56, 82]) (len := 28) (by decide +kernel) rfl (by rfl) (?_ : et_go none _ 60 94 _ _ _ _ _ _)
              refine hs_aload (i := 1) (p := 95) (by decide +kernel) rfl ?_
              refine hs_aload (i := 0) (p := 96) (by decide +kernel) rfl ?_
              refine hf_get (T := et_TT) (t := 6) (ci := 4) (f := 2) (p := 99) (by decide +kernel) rfl hH k_b h2 ?_
              refine ht_callv (T := et_TT) (t := 4) (mi := 54) (na := 1) (ci := 2) (lk := 4) (lm := 5) (L0 := eg_en (eg_mL 54) [.ref fo, .null]) (by decide +kernel) rfl hH k_fo rfl rfl rfl rfl rfl (by rw [show eg_mL 54 = 5 from by decide +kernel]; first | done | rfl) ?_
              refine (fv_sum hH hF hA hkp (by omega)).mono (fun u hu => xp_cb hu ?_)
              show et_go none _ 60 102 _ [.long (A (feE F))] _ _ _ _
              refine hs_aload (i := 1) (p := 103) (by decide +kernel) rfl ?_
              refine hs_aload (i := 0) (p := 104) (by decide +kernel) rfl ?_
              refine hf_get (T := et_TT) (t := 6) (ci := 4) (f := 3) (p := 107) (by decide +kernel) rfl hH k_b h3 ?_
              refine ht_callv (T := et_TT) (t := 4) (mi := 54) (na := 1) (ci := 2) (lk := 4) (lm := 5) (L0 := eg_en (eg_mL 54) [.ref fo, .ref qa]) (by decide +kernel) rfl hH k_fo rfl rfl rfl rfl rfl (by rw [show eg_mL 54 = 5 from by decide +kernel]; first | done | rfl) ?_
              refine (fv_sum hH hF hB hkq (by omega)).mono (fun u hu => xp_cb hu ?_)
              show et_go none _ 60 110 _ [.long (B (feE F)), .long (A (feE F))] _ _ _ _
              refine hs_lcmp (p := 111) (by decide +kernel) ?_
              refine hs_br1 (c := .le) (t := 118) (f := 114) (by decide +kernel) (fun (c111 : (lg_cmp (A (feE F)) (B (feE F))) ≤ 0) => ?_) (fun (c111 : ¬ ((lg_cmp (A (feE F)) (B (feE F))) ≤ 0)) => ?_)
              · refine hs_k (x := Int32.ofNat 0) (p := 119) (by decide +kernel) ?_
                refine hs_zret (by decide +kernel) (.inl rfl) ?_
                show xp_Z G (some (.int (Int32.ofNat (if (if 5 = 4 then decide (A (feE F) < B (feE F)) else decide (B (feE F) < A (feE F))) = true then 1 else 0)))) _
                rw [show (if 5 = 4 then decide (A (feE F) < B (feE F)) else decide (B (feE F) < A (feE F))) = false from decide_eq_false (lgc_gt.mp c111)]
                rfl
              · refine hs_k (x := Int32.ofNat 1) (p := 115) (by decide +kernel) ?_
                refine hs_goto (p := 119) (by decide +kernel) ?_
                refine hs_zret (by decide +kernel) (.inr rfl) ?_
                show xp_Z G (some (.int (Int32.ofNat (if (if 5 = 4 then decide (A (feE F) < B (feE F)) else decide (B (feE F) < A (feE F))) = true then 1 else 0)))) _
                rw [show (if 5 = 4 then decide (A (feE F) < B (feE F)) else decide (B (feE F) < A (feE F))) = true from decide_eq_true (Decidable.of_not_not (fun h => c111 (lgc_gt.mpr h)))]
                rfl
            · exact absurd (show dep ≤ 21 by omega) c3
        · rcases hkq2 with rfl | ⟨qa, rfl, k_qa⟩
          · refine hs_iload (i := 2) (p := 1) (by decide +kernel) rfl ?_
            refine hs_k (x := Int32.ofNat 21) (p := 3) (by decide +kernel) ?_
            refine hs_br2n (c := .le) (t := 8) (f := 6) (by decide +kernel) (by omega) (by omega) (fun (c3 : dep ≤ 21) => ?_) (fun (c3 : ¬ (dep ≤ 21)) => ?_)
            · refine hs_aload (i := 0) (p := 9) (by decide +kernel) rfl ?_
              refine hf_get (T := et_TT) (t := 6) (ci := 4) (f := 0) (p := 12) (by decide +kernel) rfl hH k_b h0 ?_
              refine hs_st (ins := .tableswitch 108 3 5 #[28, 56, 82]) (len := 28) (by decide +kernel) rfl (by rfl) (?_ : et_go none _ 60 94 _ _ _ _ _ _)
              refine hs_aload (i := 1) (p := 95) (by decide +kernel) rfl ?_
              refine hs_aload (i := 0) (p := 96) (by decide +kernel) rfl ?_
              refine hf_get (T := et_TT) (t := 6) (ci := 4) (f := 2) (p := 99) (by decide +kernel) rfl hH k_b h2 ?_
              refine ht_callv (T := et_TT) (t := 4) (mi := 54) (na := 1) (ci := 2) (lk := 4) (lm := 5) (L0 := eg_en (eg_mL 54) [.ref fo, .ref pa]) (by decide +kernel) rfl hH k_fo rfl rfl rfl rfl rfl (by rw [show eg_mL 54 = 5 from by decide +kernel]; first | done | rfl) ?_
              refine (fv_sum hH hF hA hkp (by omega)).mono (fun u hu => xp_cb hu ?_)
              show et_go none _ 60 102 _ [.long (A (feE F))] _ _ _ _
              refine hs_aload (i := 1) (p := 103) (by decide +kernel) rfl ?_
              refine hs_aload (i := 0) (p := 104) (by decide +kernel) rfl ?_
              refine hf_get (T := et_TT) (t := 6) (ci := 4) (f := 3) (p := 107) (by decide +kernel) rfl hH k_b h3 ?_
              refine ht_callv (T := et_TT) (t := 4) (mi := 54) (na := 1) (ci := 2) (lk := 4) (lm := 5) (L0 := eg_en (eg_mL 54) [.ref fo, .null]) (by decide +kernel) rfl hH k_fo rfl rfl rfl rfl rfl (by rw [show eg_mL 54 = 5 from by decide +kernel]; first | done | rfl) ?_
              refine (fv_sum hH hF hB hkq (by omega)).mono (fun u hu => xp_cb hu ?_)
              show et_go none _ 60 110 _ [.long (B (feE F)), .long (A (feE F))] _ _ _ _
              refine hs_lcmp (p := 111) (by decide +kernel) ?_
              refine hs_br1 (c := .le) (t := 118) (f := 114) (by decide +kernel) (fun (c111 : (lg_cmp (A (feE F)) (B (feE F))) ≤ 0) => ?_) (fun (c111 : ¬ ((lg_cmp (A (feE F)) (B (feE F))) ≤ 0)) => ?_)
              · refine hs_k (x := Int32.ofNat 0) (p := 119) (by decide +kernel) ?_
                refine hs_zret (by decide +kernel) (.inl rfl) ?_
                show xp_Z G (some (.int (Int32.ofNat (if (if 5 = 4 then decide (A (feE F) < B (feE F)) else decide (B (feE F) < A (feE F))) = true then 1 else 0)))) _
                rw [show (if 5 = 4 then decide (A (feE F) < B (feE F)) else decide (B (feE F) < A (feE F))) = false from decide_eq_false (lgc_gt.mp c111)]
                rfl
              · refine hs_k (x := Int32.ofNat 1) (p := 115) (by decide +kernel) ?_
                refine hs_goto (p := 119) (by decide +kernel) ?_
                refine hs_zret (by decide +kernel) (.inr rfl) ?_
                show xp_Z G (some (.int (Int32.ofNat (if (if 5 = 4 then decide (A (feE F) < B (feE F)) else decide (B (feE F) < A (feE F))) = true then 1 else 0)))) _
                rw [show (if 5 = 4 then decide (A (feE F) < B (feE F)) else decide (B (feE F) < A (feE F))) = true from decide_eq_true (Decidable.of_not_not (fun h => c111 (lgc_gt.mpr h)))]
                rfl
            · exact absurd (show dep ≤ 21 by omega) c3
          · refine hs_iload (i := 2) (p := 1) (by decide +kernel) rfl ?_
            refine hs_k (x := Int32.ofNat 21) (p := 3) (by decide +kernel) ?_
            refine hs_br2n (c := .le) (t := 8) (f := 6) (by decide +kernel) (by omega) (by omega) (fun (c3 : dep ≤ 21) => ?_) (fun (c3 : ¬ (dep ≤ 21)) => ?_)
            · refine hs_aload (i := 0) (p := 9) (by decide +kernel) rfl ?_
              refine hf_get (T := et_TT) (t := 6) (ci := 4) (f := 0) (p := 12) (by decide +kernel) rfl hH k_b h0 ?_
              refine hs_st (ins := .tableswitch 108 3 5 #[28, 56, 82]) (len := 28) (by decide +kernel) rfl (by rfl) (?_ : et_go none _ 60 94 _ _ _ _ _ _)
              refine hs_aload (i := 1) (p := 95) (by decide +kernel) rfl ?_
              refine hs_aload (i := 0) (p := 96) (by decide +kernel) rfl ?_
              refine hf_get (T := et_TT) (t := 6) (ci := 4) (f := 2) (p := 99) (by decide +kernel) rfl hH k_b h2 ?_
              refine ht_callv (T := et_TT) (t := 4) (mi := 54) (na := 1) (ci := 2) (lk := 4) (lm := 5) (L0 := eg_en (eg_mL 54) [.ref fo, .ref pa]) (by decide +kernel) rfl hH k_fo rfl rfl rfl rfl rfl (by rw [show eg_mL 54 = 5 from by decide +kernel]; first | done | rfl) ?_
              refine (fv_sum hH hF hA hkp (by omega)).mono (fun u hu => xp_cb hu ?_)
              show et_go none _ 60 102 _ [.long (A (feE F))] _ _ _ _
              refine hs_aload (i := 1) (p := 103) (by decide +kernel) rfl ?_
              refine hs_aload (i := 0) (p := 104) (by decide +kernel) rfl ?_
              refine hf_get (T := et_TT) (t := 6) (ci := 4) (f := 3) (p := 107) (by decide +kernel) rfl hH k_b h3 ?_
              refine ht_callv (T := et_TT) (t := 4) (mi := 54) (na := 1) (ci := 2) (lk := 4) (lm := 5) (L0 := eg_en (eg_mL 54) [.ref fo, .ref qa]) (by decide +kernel) rfl hH k_fo rfl rfl rfl rfl rfl (by rw [show eg_mL 54 = 5 from by decide +kernel]; first | done | rfl) ?_
              refine (fv_sum hH hF hB hkq (by omega)).mono (fun u hu => xp_cb hu ?_)
              show et_go none _ 60 110 _ [.long (B (feE F)), .long (A (feE F))] _ _ _ _
              refine hs_lcmp (p := 111) (by decide +kernel) ?_
              refine hs_br1 (c := .le) (t := 118) (f := 114) (by decide +kernel) (fun (c111 : (lg_cmp (A (feE F)) (B (feE F))) ≤ 0) => ?_) (fun (c111 : ¬ ((lg_cmp (A (feE F)) (B (feE F))) ≤ 0)) => ?_)
              · refine hs_k (x := Int32.ofNat 0) (p := 119) (by decide +kernel) ?_
                refine hs_zret (by decide +kernel) (.inl rfl) ?_
                show xp_Z G (some (.int (Int32.ofNat (if (if 5 = 4 then decide (A (feE F) < B (feE F)) else decide (B (feE F) < A (feE F))) = true then 1 else 0)))) _
                rw [show (if 5 = 4 then decide (A (feE F) < B (feE F)) else decide (B (feE F) < A (feE F))) = false from decide_eq_false (lgc_gt.mp c111)]
                rfl
              · refine hs_k (x := Int32.ofNat 1) (p := 115) (by decide +kernel) ?_
                refine hs_goto (p := 119) (by decide +kernel) ?_
                refine hs_zret (by decide +kernel) (.inr rfl) ?_
                show xp_Z G (some (.int (Int32.ofNat (if (if 5 = 4 then decide (A (feE F) < B (feE F)) else decide (B (feE F) < A (feE F))) = true then 1 else 0)))) _
                rw [show (if 5 = 4 then decide (A (feE F) < B (feE F)) else decide (B (feE F) < A (feE F))) = true from decide_eq_true (Decidable.of_not_not (fun h => c111 (lgc_gt.mpr h)))]
                rfl
            · exact absurd (show dep ≤ 21 by omega) c3
    · have hkv := hn_fld (.inl rfl) hH k_b h2
      have hkv2 := hkv
      have hrec : ∀ c ∈ cs, K c.1 = some 6 → et_go none d 60 0 (eg_en (eg_mL 60) [.ref c.1, .ref fo, .int (Int32.ofNat (dep + 1))]) [] G 0 0 (xp_Z G (some (.int (Int32.ofNat (if c.2.2 (feE F) = true then 1 else 0))))) := fun c hcm k_c => fx_true hH hF n (hcs c hcm).2.2 k_c (by omega) (by omega)
      rcases (by omega : k = 0 ∨ k = 1 ∨ k = 2) with rfl | rfl | rfl
      · rcases hkv2 with rfl | ⟨pa, rfl, k_pa⟩
        · refine hs_iload (i := 2) (p := 1) (by decide +kernel) rfl ?_
          refine hs_k (x := Int32.ofNat 21) (p := 3) (by decide +kernel) ?_
          refine hs_br2n (c := .le) (t := 8) (f := 6) (by decide +kernel) (by omega) (by omega) (fun (c3 : dep ≤ 21) => ?_) (fun (c3 : ¬ (dep ≤ 21)) => ?_)
          · refine hs_aload (i := 0) (p := 9) (by decide +kernel) rfl ?_
            refine hf_get (T := et_TT) (t := 6) (ci := 4) (f := 0) (p := 12) (by decide +kernel) rfl hH k_b h0 ?_
            refine hs_st (ins := .tableswitch 108 3 5 #[28, 56, 82]) (len := 28) (by decide +kernel) rfl (by rfl) (?_ : et_go none _ 60 120 _ _ _ _ _ _)
            refine hs_aload (i := 0) (p := 121) (by decide +kernel) rfl ?_
            refine hf_get (T := et_TT) (t := 6) (ci := 4) (f := 2) (p := 124) (by decide +kernel) rfl hH k_b h2 ?_
            refine hs_astore0 (i := 3) (p := 125) (by decide +kernel) (Nat.le_of_ble_eq_true rfl) ?_
            show et_go none _ 60 125 [some (.ref b), some (.ref fo), some (.int (Int32.ofNat dep)), some (.null)] [] _ _ _ _
            exact fn_grp0 (n := n) (hi := hi) hH hF k_b h0 hc hkv hrec
          · exact absurd (show dep ≤ 21 by omega) c3
        · refine hs_iload (i := 2) (p := 1) (by decide +kernel) rfl ?_
          refine hs_k (x := Int32.ofNat 21) (p := 3) (by decide +kernel) ?_
          refine hs_br2n (c := .le) (t := 8) (f := 6) (by decide +kernel) (by omega) (by omega) (fun (c3 : dep ≤ 21) => ?_) (fun (c3 : ¬ (dep ≤ 21)) => ?_)
          · refine hs_aload (i := 0) (p := 9) (by decide +kernel) rfl ?_
            refine hf_get (T := et_TT) (t := 6) (ci := 4) (f := 0) (p := 12) (by decide +kernel) rfl hH k_b h0 ?_
            refine hs_st (ins := .tableswitch 108 3 5 #[28, 56, 82]) (len := 28) (by decide +kernel) rfl (by rfl) (?_ : et_go none _ 60 120 _ _ _ _ _ _)
            refine hs_aload (i := 0) (p := 121) (by decide +kernel) rfl ?_
            refine hf_get (T := et_TT) (t := 6) (ci := 4) (f := 2) (p := 124) (by decide +kernel) rfl hH k_b h2 ?_
            refine hs_astore (i := 3) (p := 125) (by decide +kernel) (Nat.le_of_ble_eq_true rfl) ?_
            show et_go none _ 60 125 [some (.ref b), some (.ref fo), some (.int (Int32.ofNat dep)), some (.ref pa)] [] _ _ _ _
            exact fn_grp0 (n := n) (hi := hi) hH hF k_b h0 hc hkv hrec
          · exact absurd (show dep ≤ 21 by omega) c3
      · rcases hkv2 with rfl | ⟨pa, rfl, k_pa⟩
        · refine hs_iload (i := 2) (p := 1) (by decide +kernel) rfl ?_
          refine hs_k (x := Int32.ofNat 21) (p := 3) (by decide +kernel) ?_
          refine hs_br2n (c := .le) (t := 8) (f := 6) (by decide +kernel) (by omega) (by omega) (fun (c3 : dep ≤ 21) => ?_) (fun (c3 : ¬ (dep ≤ 21)) => ?_)
          · refine hs_aload (i := 0) (p := 9) (by decide +kernel) rfl ?_
            refine hf_get (T := et_TT) (t := 6) (ci := 4) (f := 0) (p := 12) (by decide +kernel) rfl hH k_b h0 ?_
            refine hs_st (ins := .tableswitch 108 3 5 #[28, 56, 82]) (len := 28) (by decide +kernel) rfl (by rfl) (?_ : et_go none _ 60 120 _ _ _ _ _ _)
            refine hs_aload (i := 0) (p := 121) (by decide +kernel) rfl ?_
            refine hf_get (T := et_TT) (t := 6) (ci := 4) (f := 2) (p := 124) (by decide +kernel) rfl hH k_b h2 ?_
            refine hs_astore0 (i := 3) (p := 125) (by decide +kernel) (Nat.le_of_ble_eq_true rfl) ?_
            show et_go none _ 60 125 [some (.ref b), some (.ref fo), some (.int (Int32.ofNat dep)), some (.null)] [] _ _ _ _
            exact fn_grp1 (n := n) (hi := hi) hH hF k_b h0 hc hkv hrec
          · exact absurd (show dep ≤ 21 by omega) c3
        · refine hs_iload (i := 2) (p := 1) (by decide +kernel) rfl ?_
          refine hs_k (x := Int32.ofNat 21) (p := 3) (by decide +kernel) ?_
          refine hs_br2n (c := .le) (t := 8) (f := 6) (by decide +kernel) (by omega) (by omega) (fun (c3 : dep ≤ 21) => ?_) (fun (c3 : ¬ (dep ≤ 21)) => ?_)
          · refine hs_aload (i := 0) (p := 9) (by decide +kernel) rfl ?_
            refine hf_get (T := et_TT) (t := 6) (ci := 4) (f := 0) (p := 12) (by decide +kernel) rfl hH k_b h0 ?_
            refine hs_st (ins := .tableswitch 108 3 5 #[28, 56, 82]) (len := 28) (by decide +kernel) rfl (by rfl) (?_ : et_go none _ 60 120 _ _ _ _ _ _)
            refine hs_aload (i := 0) (p := 121) (by decide +kernel) rfl ?_
            refine hf_get (T := et_TT) (t := 6) (ci := 4) (f := 2) (p := 124) (by decide +kernel) rfl hH k_b h2 ?_
            refine hs_astore (i := 3) (p := 125) (by decide +kernel) (Nat.le_of_ble_eq_true rfl) ?_
            show et_go none _ 60 125 [some (.ref b), some (.ref fo), some (.int (Int32.ofNat dep)), some (.ref pa)] [] _ _ _ _
            exact fn_grp1 (n := n) (hi := hi) hH hF k_b h0 hc hkv hrec
          · exact absurd (show dep ≤ 21 by omega) c3
      · rcases hkv2 with rfl | ⟨pa, rfl, k_pa⟩
        · refine hs_iload (i := 2) (p := 1) (by decide +kernel) rfl ?_
          refine hs_k (x := Int32.ofNat 21) (p := 3) (by decide +kernel) ?_
          refine hs_br2n (c := .le) (t := 8) (f := 6) (by decide +kernel) (by omega) (by omega) (fun (c3 : dep ≤ 21) => ?_) (fun (c3 : ¬ (dep ≤ 21)) => ?_)
          · refine hs_aload (i := 0) (p := 9) (by decide +kernel) rfl ?_
            refine hf_get (T := et_TT) (t := 6) (ci := 4) (f := 0) (p := 12) (by decide +kernel) rfl hH k_b h0 ?_
            refine hs_st (ins := .tableswitch 108 3 5 #[28, 56, 82]) (len := 28) (by decide +kernel) rfl (by rfl) (?_ : et_go none _ 60 120 _ _ _ _ _ _)
            refine hs_aload (i := 0) (p := 121) (by decide +kernel) rfl ?_
            refine hf_get (T := et_TT) (t := 6) (ci := 4) (f := 2) (p := 124) (by decide +kernel) rfl hH k_b h2 ?_
            refine hs_astore0 (i := 3) (p := 125) (by decide +kernel) (Nat.le_of_ble_eq_true rfl) ?_
            show et_go none _ 60 125 [some (.ref b), some (.ref fo), some (.int (Int32.ofNat dep)), some (.null)] [] _ _ _ _
            exact fn_grp2 (n := n) (hi := hi) hH hF k_b h0 hc hkv hrec
          · exact absurd (show dep ≤ 21 by omega) c3
        · refine hs_iload (i := 2) (p := 1) (by decide +kernel) rfl ?_
          refine hs_k (x := Int32.ofNat 21) (p := 3) (by decide +kernel) ?_
          refine hs_br2n (c := .le) (t := 8) (f := 6) (by decide +kernel) (by omega) (by omega) (fun (c3 : dep ≤ 21) => ?_) (fun (c3 : ¬ (dep ≤ 21)) => ?_)
          · refine hs_aload (i := 0) (p := 9) (by decide +kernel) rfl ?_
            refine hf_get (T := et_TT) (t := 6) (ci := 4) (f := 0) (p := 12) (by decide +kernel) rfl hH k_b h0 ?_
            refine hs_st (ins := .tableswitch 108 3 5 #[28, 56, 82]) (len := 28) (by decide +kernel) rfl (by rfl) (?_ : et_go none _ 60 120 _ _ _ _ _ _)
            refine hs_aload (i := 0) (p := 121) (by decide +kernel) rfl ?_
            refine hf_get (T := et_TT) (t := 6) (ci := 4) (f := 2) (p := 124) (by decide +kernel) rfl hH k_b h2 ?_
            refine hs_astore (i := 3) (p := 125) (by decide +kernel) (Nat.le_of_ble_eq_true rfl) ?_
            show et_go none _ 60 125 [some (.ref b), some (.ref fo), some (.int (Int32.ofNat dep)), some (.ref pa)] [] _ _ _ _
            exact fn_grp2 (n := n) (hi := hi) hH hF k_b h0 hc hkv hrec
          · exact absurd (show dep ≤ 21 by omega) c3
end FTG
