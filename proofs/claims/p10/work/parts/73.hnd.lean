/-! BY HAND: the counting sort stays within its rows -/
def rs_q (key : Nat → Nat) (h : Nat) : Nat → Nat
  | 0 => 0
  | n + 1 => rs_q key h n + (if key n = h then 1 else 0)
def rs_l (key : Nat → Nat) (h : Nat) : Nat → Nat
  | 0 => 0
  | n + 1 => rs_l key h n + (if key n < h then 1 else 0)
theorem rs_qs {key : Nat → Nat} {h n : Nat} : rs_q key h (n + 1) = rs_q key h n + (if key n = h then 1 else 0) := rfl
theorem rs_lq {key : Nat → Nat} {h : Nat} : ∀ n, rs_l key (h + 1) n = rs_q key h n + rs_l key h n
  | 0 => rfl
  | n + 1 => by
    have := rs_lq (key := key) (h := h) n
    unfold rs_l rs_q
    rw [this]
    split <;> split <;> split <;> omega
theorem rs_l0 {key : Nat → Nat} : ∀ n, rs_l key 0 n = 0
  | 0 => rfl
  | n + 1 => by
    unfold rs_l
    rw [rs_l0 n, if_neg (by omega)]
theorem rs_le {key : Nat → Nat} {h : Nat} : ∀ n, rs_l key h n + rs_q key h n ≤ n
  | 0 => Nat.le_refl _
  | n + 1 => by
    have := rs_le (key := key) (h := h) n
    unfold rs_l rs_q
    split <;> split <;> omega
theorem rs_lt {key : Nat → Nat} {h k : Nat} (hk : key k = h) : ∀ n, k < n → rs_l key h n + rs_q key h k < n
  | 0, h => absurd h (Nat.not_lt_zero _)
  | n + 1, hkn => by
    unfold rs_l
    by_cases e : k = n
    · subst e
      have := rs_le (key := key) (h := h) k
      rw [if_neg (by omega)]
      omega
    · have := rs_lt hk n (by omega)
      split <;> omega
theorem rs_qle {key : Nat → Nat} {h : Nat} (n : Nat) : rs_q key h n ≤ n := Nat.le_trans (Nat.le_add_left _ _) (rs_le n)
def ss_m (M : Nat → Int32) : eg_C := .inl (0, (32769, .inl M))
def ss_t (T : Nat → Int32) : eg_C := .inl (0, (65536, .inl T))
section RPS
variable {d am aw mn tt fr : Nat} {G : eg_G} {F : Nat → Value} {W M T AA : Nat → Int32} {Z : eg_O → Prop}
def ss_V (G : eg_G) (am aw mn tt fr : Nat) (F : Nat → Value) (AA : Nat → Int32) : Prop := hm_ok G am aw ∧ F 1 = .ref aw ∧ (F 32 = .ref mn ∧ mn ≠ am ∧ mn ≠ aw ∧ eg_NC ≤ mn ∧ mn < G.2) ∧ (tt ≠ am ∧ tt ≠ aw ∧ eg_NC ≤ tt ∧ tt < G.2 ∧ mn ≠ tt) ∧ (fr ≠ am ∧ fr ≠ aw ∧ fr ≠ mn ∧ fr ≠ tt ∧ fr < G.2 ∧ eg_at G fr = .inl (0, (65536, .inl AA)))
def ss_H (G : eg_G) (am aw mn tt : Nat) (F : Nat → Value) (W M T : Nat → Int32) : eg_G := hm_H (eg_u (eg_u G mn (ss_m M)) tt (ss_t T)) am aw F W
theorem ss_ok (hV : ss_V G am aw mn tt fr F AA) : hm_ok (eg_u (eg_u G mn (ss_m M)) tt (ss_t T)) am aw := hV.1
theorem ss_rm {k pc ck sk p n : Nat} {x : Int32} {L : eg_Ls} {r : List Value} (hV : ss_V G am aw mn tt fr F AA) (hc : hs_o k pc = some (.iaload, p)) (hn : n < 32769) (hx : M n = x) (h : et_go none d k p L (.int x :: r) (ss_H G am aw mn tt F W M T) ck sk Z) : et_go none d k pc L (.int (Int32.ofNat n) :: .ref mn :: r) (ss_H G am aw mn tt F W M T) ck sk Z := by
  obtain ⟨-, -, ⟨-, a1, a2, a3, a4⟩, ⟨b1, b2, b3, b4, b5⟩, -⟩ := hV
  refine hs_iald hc ((hm_o a1 a2).trans ((et_at_u b5).trans (et_at_us a3))) a4 (by decide) hn ?_
  rw [hx]
  exact h
theorem ss_wm {k pc ck sk p n : Nat} {x : Int32} {L : eg_Ls} {r : List Value} (hV : ss_V G am aw mn tt fr F AA) (hc : hs_o k pc = some (.iastore, p)) (hn : n < 32769) (h : et_go none d k p L r (ss_H G am aw mn tt F W (upd M n x) T) ck sk Z) : et_go none d k pc L (.int x :: .int (Int32.ofNat n) :: .ref mn :: r) (ss_H G am aw mn tt F W M T) ck sk Z := by
  obtain ⟨-, -, ⟨-, a1, a2, a3, a4⟩, ⟨b1, b2, b3, b4, b5⟩, -⟩ := hV
  refine hs_iast hc ((hm_o a1 a2).trans ((et_at_u b5).trans (et_at_us a3))) ⟨a3, a4⟩ (by decide) hn ?_
  unfold ss_H
  rw [hm_ex a1 a2, hm_uc b5.symm, hm_uu]
  exact h
theorem ss_wt {k pc ck sk p n : Nat} {x : Int32} {L : eg_Ls} {r : List Value} (hV : ss_V G am aw mn tt fr F AA) (hc : hs_o k pc = some (.iastore, p)) (hn : n < 65536) (h : et_go none d k p L r (ss_H G am aw mn tt F W M (upd T n x)) ck sk Z) : et_go none d k pc L (.int x :: .int (Int32.ofNat n) :: .ref tt :: r) (ss_H G am aw mn tt F W M T) ck sk Z := by
  obtain ⟨-, -, ⟨-, a1, a2, a3, a4⟩, ⟨b1, b2, b3, b4, b5⟩, -⟩ := hV
  refine hs_iast hc ((hm_o b1 b2).trans (et_at_us b3)) ⟨b3, b4⟩ (by decide) hn ?_
  unfold ss_H
  rw [hm_ex b1 b2, hm_uu]
  exact h
theorem ss_rf {k pc ck sk p n : Nat} {L : eg_Ls} {r : List Value} (hV : ss_V G am aw mn tt fr F AA) (hc : hs_o k pc = some (.iaload, p)) (hn : n < 65536) (h : et_go none d k p L (.int (AA n) :: r) (ss_H G am aw mn tt F W M T) ck sk Z) : et_go none d k pc L (.int (Int32.ofNat n) :: .ref fr :: r) (ss_H G am aw mn tt F W M T) ck sk Z := by
  obtain ⟨-, -, ⟨-, a1, a2, a3, a4⟩, ⟨b1, b2, b3, b4, b5⟩, c1, c2, c3, c4, c5, c6⟩ := hV
  exact hs_iald hc ((hm_o c1 c2).trans ((et_at_u c4).trans ((et_at_u c3).trans c6))) c5 (by decide) hn h
theorem rp_hfr {W : Nat → Int32} {e wn : Nat} {sh li : Int32} : ∃ n, n ≤ 32767 ∧ rp_hf W e wn sh li = Int32.ofNat n := by
  unfold rp_hf
  generalize rp_co W e wn li >>> (sh &&& 31) = x
  have h1 : 0 ≤ (x &&& Int32.ofNat 32767).toInt ∧ (x &&& Int32.ofNat 32767).toInt ≤ 32767 := by
    have h2 : (x &&& Int32.ofNat 32767).toInt = ((x &&& Int32.ofNat 32767).toBitVec).toInt := rfl
    have h3 : (x &&& Int32.ofNat 32767).toBitVec.toNat ≤ 32767 := by
      show (x.toBitVec &&& (Int32.ofNat 32767).toBitVec).toNat ≤ 32767
      rw [BitVec.toNat_and]
      exact Nat.and_le_right
    rw [h2, BitVec.toInt_eq_toNat_of_lt (by omega)]
    omega
  refine ⟨(x &&& Int32.ofNat 32767).toInt.toNat, by omega, ?_⟩
  apply Int32.toInt_inj.mp
  rw [hs_nint (by omega)]
  omega
theorem ss_4 (hV : ss_V G am aw mn tt fr F AA) {e wn : Nat} (he : e ≤ 2) (hwn : W (45 + 23 * e + 0) = Int32.ofNat wn) (hs : wn ≤ 6) {sh : Int32} {x6 : Option Value} {key : Nat → Nat} (hk : ∀ i, key i ≤ 32767 ∧ rp_hf W e wn sh (AA i) = Int32.ofNat (key i)) {k : Nat} (hk4 : k ≤ 65536) (hM : ∀ j, j ≤ 32767 → M j = Int32.ofNat (rs_l key j 65536 + rs_q key j k)) (h : ∀ M T', (∀ i, T' i = T i ∨ ∃ j, j < 65536 ∧ T' i = AA j) → Z (.inl none, (ss_H G am aw mn tt F W M T'), 0, 0)) : et_go none (d + 6) 267 102 [some (.ref am), some (.int (Int32.ofNat e)), some (.ref fr), some (.ref tt), some (.int sh), some (.int (Int32.ofNat k)), x6] [] (ss_H G am aw mn tt F W M T) 0 0 Z := by
  induction hm : 65536 - k using Nat.strongRecOn generalizing k M T x6 with
  | _ z ih =>
    have hk1 := (hk k).1
    have hlt : k < 65536 → rs_l key (key k) 65536 + rs_q key (key k) k < 65536 := rs_lt rfl 65536
    refine hs_iload (i := 5) (p := 104) (by decide +kernel) rfl ?_
    refine hs_kld (v := Value.int (Int32.ofNat 65536)) (p := 106) (by decide +kernel) ?_
    refine hs_br2n (c := .ge) (t := 152) (f := 109) (by decide +kernel) (by omega) (by omega) (fun (c106 : 65536 ≤ k) => ?_) (fun (c106 : ¬ (65536 ≤ k)) => ?_)
    · refine hs_vret (by decide +kernel) ?_
      exact h M T (fun _ => .inl rfl)
    · refine hs_aload (i := 0) (p := 110) (by decide +kernel) rfl ?_
      refine hs_iload (i := 1) (p := 111) (by decide +kernel) rfl ?_
      refine hs_aload (i := 2) (p := 112) (by decide +kernel) rfl ?_
      refine hs_iload (i := 5) (p := 114) (by decide +kernel) rfl ?_
      refine ss_rf hV (p := 115) (by decide +kernel) (by omega) ?_
      refine hs_iload (i := 4) (p := 117) (by decide +kernel) rfl ?_
      refine hm_call (ss_ok hV) (mi := 268) (na := 3) (lk := 7) (lm := 4) (by decide +kernel) rfl rfl rfl rfl rfl rfl (rp_half (ss_ok hV) hV.2.1 (by omega) hwn hs (hs_cb ?_))
      rw [(hk k).2]
      show et_go none _ 267 120 _ [.int (Int32.ofNat (key k))] (ss_H G am aw mn tt F W _ _) _ _ _
      refine hs_istore (i := 6) (p := 122) (by decide +kernel) (Nat.le_of_ble_eq_true rfl) ?_
      refine hs_aload (i := 3) (p := 123) (by decide +kernel) rfl ?_
      refine hs_aload (i := 0) (p := 124) (by decide +kernel) rfl ?_
      refine hm_get (ss_ok hV) (f := 32) (p := 127) (by decide +kernel) rfl hV.2.2.1.1 ?_
      refine hs_iload (i := 6) (p := 129) (by decide +kernel) rfl ?_
      refine ss_rm hV (p := 130) (x := Int32.ofNat (rs_l key (key k) 65536 + rs_q key (key k) k)) (by decide +kernel) (by omega) (hM _ (hk k).1) ?_
      refine hs_aload (i := 2) (p := 131) (by decide +kernel) rfl ?_
      refine hs_iload (i := 5) (p := 133) (by decide +kernel) rfl ?_
      refine ss_rf hV (p := 134) (by decide +kernel) (by omega) ?_
      refine ss_wt hV (p := 135) (by decide +kernel) (by omega) ?_
      refine hs_aload (i := 0) (p := 136) (by decide +kernel) rfl ?_
      refine hm_get (ss_ok hV) (f := 32) (p := 139) (by decide +kernel) rfl hV.2.2.1.1 ?_
      refine hs_iload (i := 6) (p := 141) (by decide +kernel) rfl ?_
      refine hs_dup2 (p := 142) (by decide +kernel) ?_
      refine ss_rm hV (p := 143) (x := Int32.ofNat (rs_l key (key k) 65536 + rs_q key (key k) k)) (by decide +kernel) (by omega) (hM _ (hk k).1) ?_
      refine hs_k (x := Int32.ofNat 1) (p := 144) (by decide +kernel) ?_
      refine hs_iaddn (p := 145) (by decide +kernel) ?_
      refine ss_wm hV (p := 146) (by decide +kernel) (by omega) ?_
      refine hs_iinc1 (i := 5) (p := 149) (by decide +kernel) rfl (Nat.le_of_ble_eq_true rfl) ?_
      refine hs_goto (p := 102) (by decide +kernel) ?_
      refine ih (65536 - (k + 1)) (by omega) (by omega) (fun j hj => ?_) (fun M T' h1 => h M T' (fun i => ?_)) rfl
      · by_cases e : j = key k
        · subst e
          rw [hs_us, rs_qs, if_pos rfl, Nat.add_assoc]
        · rw [hs_un e, hM j hj, rs_qs, if_neg (fun h => e h.symm), Nat.add_zero]
      · rcases h1 i with h1 | h1
        · rw [h1]
          by_cases e : i = rs_l key (key k) 65536 + rs_q key (key k) k
          · subst e
            exact .inr ⟨k, by omega, hs_us⟩
          · exact .inl (hs_un e)
        · exact .inr h1
theorem ss_3 (hV : ss_V G am aw mn tt fr F AA) {e wn : Nat} (he : e ≤ 2) (hwn : W (45 + 23 * e + 0) = Int32.ofNat wn) (hs : wn ≤ 6) {sh : Int32} {x6 : Option Value} {key : Nat → Nat} (hk : ∀ i, key i ≤ 32767 ∧ rp_hf W e wn sh (AA i) = Int32.ofNat (key i)) {k : Nat} (hk4 : k ≤ 32768) (hM : ∀ j, j ≤ 32768 → M j = Int32.ofNat (if j ≤ k then rs_l key j 65536 else rs_q key (j - 1) 65536)) (h : ∀ M T', (∀ i, T' i = T i ∨ ∃ j, j < 65536 ∧ T' i = AA j) → Z (.inl none, (ss_H G am aw mn tt F W M T'), 0, 0)) : et_go none (d + 6) 267 66 [some (.ref am), some (.int (Int32.ofNat e)), some (.ref fr), some (.ref tt), some (.int sh), some (.int (Int32.ofNat k)), x6] [] (ss_H G am aw mn tt F W M T) 0 0 Z := by
  induction hm : 32768 - k using Nat.strongRecOn generalizing k M x6 with
  | _ z ih =>
    refine hs_iload (i := 5) (p := 68) (by decide +kernel) rfl ?_
    refine hs_kld (v := Value.int (Int32.ofNat 32768)) (p := 71) (by decide +kernel) ?_
    refine hs_br2n (c := .ge) (t := 99) (f := 74) (by decide +kernel) (by omega) (by omega) (fun (c71 : 32768 ≤ k) => ?_) (fun (c71 : ¬ (32768 ≤ k)) => ?_)
    · refine hs_k (x := Int32.ofNat 0) (p := 100) (by decide +kernel) ?_
      refine hs_istore (i := 5) (p := 102) (by decide +kernel) (Nat.le_of_ble_eq_true rfl) ?_
      refine ss_4 hV he hwn hs hk (k := 0) (by omega) (fun j hj => ?_) h
      rw [hM j (by omega), if_pos (by omega), show rs_q key j 0 = 0 from rfl, Nat.add_zero]
    · refine hs_aload (i := 0) (p := 75) (by decide +kernel) rfl ?_
      refine hm_get (ss_ok hV) (f := 32) (p := 78) (by decide +kernel) rfl hV.2.2.1.1 ?_
      refine hs_iload (i := 5) (p := 80) (by decide +kernel) rfl ?_
      refine hs_k (x := Int32.ofNat 1) (p := 81) (by decide +kernel) ?_
      refine hs_iaddn (p := 82) (by decide +kernel) ?_
      refine hs_dup2 (p := 83) (by decide +kernel) ?_
      refine ss_rm hV (p := 84) (x := Int32.ofNat (rs_q key k 65536)) (by decide +kernel) (by omega) ((hM (k + 1) (by omega)).trans (by rw [if_neg (by omega)]; rfl)) ?_
      refine hs_aload (i := 0) (p := 85) (by decide +kernel) rfl ?_
      refine hm_get (ss_ok hV) (f := 32) (p := 88) (by decide +kernel) rfl hV.2.2.1.1 ?_
      refine hs_iload (i := 5) (p := 90) (by decide +kernel) rfl ?_
      refine ss_rm hV (p := 91) (x := Int32.ofNat (rs_l key k 65536)) (by decide +kernel) (by omega) ((hM k (by omega)).trans (by rw [if_pos (by omega)])) ?_
      refine hs_iaddn (p := 92) (by decide +kernel) ?_
      refine ss_wm hV (p := 93) (by decide +kernel) (by omega) ?_
      refine hs_iinc1 (i := 5) (p := 96) (by decide +kernel) rfl (Nat.le_of_ble_eq_true rfl) ?_
      refine hs_goto (p := 66) (by decide +kernel) ?_
      refine ih (32768 - (k + 1)) (by omega) (by omega) (fun j hj => ?_) rfl
      by_cases e : j = k + 1
      · subst e
        rw [hs_us, if_pos (Nat.le_refl _), rs_lq]
      · rw [hs_un e, hM j hj]
        by_cases e2 : j ≤ k
        · rw [if_pos e2, if_pos (by omega)]
        · rw [if_neg e2, if_neg (by omega)]
theorem ss_2 (hV : ss_V G am aw mn tt fr F AA) {e wn : Nat} (he : e ≤ 2) (hwn : W (45 + 23 * e + 0) = Int32.ofNat wn) (hs : wn ≤ 6) {sh : Int32} {x6 : Option Value} {key : Nat → Nat} (hk : ∀ i, key i ≤ 32767 ∧ rp_hf W e wn sh (AA i) = Int32.ofNat (key i)) {k : Nat} (hk4 : k ≤ 65536) (hM0 : M 0 = Int32.ofNat 0) (hM : ∀ j, j ≤ 32767 → M (j + 1) = Int32.ofNat (rs_q key j k)) (h : ∀ M T', (∀ i, T' i = T i ∨ ∃ j, j < 65536 ∧ T' i = AA j) → Z (.inl none, (ss_H G am aw mn tt F W M T'), 0, 0)) : et_go none (d + 6) 267 28 [some (.ref am), some (.int (Int32.ofNat e)), some (.ref fr), some (.ref tt), some (.int sh), some (.int (Int32.ofNat k)), x6] [] (ss_H G am aw mn tt F W M T) 0 0 Z := by
  induction hm : 65536 - k using Nat.strongRecOn generalizing k M x6 with
  | _ z ih =>
    have hk1 := (hk k).1
    refine hs_iload (i := 5) (p := 30) (by decide +kernel) rfl ?_
    refine hs_kld (v := Value.int (Int32.ofNat 65536)) (p := 32) (by decide +kernel) ?_
    refine hs_br2n (c := .ge) (t := 63) (f := 35) (by decide +kernel) (by omega) (by omega) (fun (c32 : 65536 ≤ k) => ?_) (fun (c32 : ¬ (65536 ≤ k)) => ?_)
    · refine hs_k (x := Int32.ofNat 0) (p := 64) (by decide +kernel) ?_
      refine hs_istore (i := 5) (p := 66) (by decide +kernel) (Nat.le_of_ble_eq_true rfl) ?_
      refine ss_3 hV he hwn hs hk (k := 0) (by omega) (fun j hj => ?_) h
      by_cases e : j = 0
      · subst e
        rw [hM0, if_pos (Nat.le_refl _), rs_l0]
      · obtain ⟨q, rfl⟩ : ∃ q, j = q + 1 := ⟨j - 1, by omega⟩
        rw [hM q (by omega), if_neg (by omega), Nat.add_sub_cancel]
        rw [show k = 65536 by omega]
    · refine hs_aload (i := 0) (p := 36) (by decide +kernel) rfl ?_
      refine hm_get (ss_ok hV) (f := 32) (p := 39) (by decide +kernel) rfl hV.2.2.1.1 ?_
      refine hs_aload (i := 0) (p := 40) (by decide +kernel) rfl ?_
      refine hs_iload (i := 1) (p := 41) (by decide +kernel) rfl ?_
      refine hs_aload (i := 2) (p := 42) (by decide +kernel) rfl ?_
      refine hs_iload (i := 5) (p := 44) (by decide +kernel) rfl ?_
      refine ss_rf hV (p := 45) (by decide +kernel) (by omega) ?_
      refine hs_iload (i := 4) (p := 47) (by decide +kernel) rfl ?_
      refine hm_call (ss_ok hV) (mi := 268) (na := 3) (lk := 7) (lm := 4) (by decide +kernel) rfl rfl rfl rfl rfl rfl (rp_half (ss_ok hV) hV.2.1 (by omega) hwn hs (hs_cb ?_))
      rw [(hk k).2]
      show et_go none _ 267 50 _ [.int (Int32.ofNat (key k)), .ref mn] (ss_H G am aw mn tt F W _ _) _ _ _
      refine hs_k (x := Int32.ofNat 1) (p := 51) (by decide +kernel) ?_
      refine hs_iaddn (p := 52) (by decide +kernel) ?_
      refine hs_dup2 (p := 53) (by decide +kernel) ?_
      refine ss_rm hV (p := 54) (x := Int32.ofNat (rs_q key (key k) k)) (by decide +kernel) (by omega) (hM _ (hk k).1) ?_
      refine hs_k (x := Int32.ofNat 1) (p := 55) (by decide +kernel) ?_
      refine hs_iaddn (p := 56) (by decide +kernel) ?_
      refine ss_wm hV (p := 57) (by decide +kernel) (by omega) ?_
      refine hs_iinc1 (i := 5) (p := 60) (by decide +kernel) rfl (Nat.le_of_ble_eq_true rfl) ?_
      refine hs_goto (p := 28) (by decide +kernel) ?_
      refine ih (65536 - (k + 1)) (by omega) (by omega) ((hs_un (by omega)).trans hM0) (fun j hj => ?_) rfl
      by_cases e : j = key k
      · subst e
        rw [hs_us, rs_qs, if_pos rfl]
      · rw [hs_un (by omega), hM j hj, rs_qs, if_neg (fun h => e h.symm), Nat.add_zero]
theorem ss_1 (hV : ss_V G am aw mn tt fr F AA) {e wn : Nat} (he : e ≤ 2) (hwn : W (45 + 23 * e + 0) = Int32.ofNat wn) (hs : wn ≤ 6) {sh : Int32} {x6 : Option Value} {key : Nat → Nat} (hk : ∀ i, key i ≤ 32767 ∧ rp_hf W e wn sh (AA i) = Int32.ofNat (key i)) {k : Nat} (hk4 : k ≤ 32769) (hM : ∀ j, j < k → M j = Int32.ofNat 0) (h : ∀ M T', (∀ i, T' i = T i ∨ ∃ j, j < 65536 ∧ T' i = AA j) → Z (.inl none, (ss_H G am aw mn tt F W M T'), 0, 0)) : et_go none (d + 6) 267 3 [some (.ref am), some (.int (Int32.ofNat e)), some (.ref fr), some (.ref tt), some (.int sh), some (.int (Int32.ofNat k)), x6] [] (ss_H G am aw mn tt F W M T) 0 0 Z := by
  induction hm : 32769 - k using Nat.strongRecOn generalizing k M x6 with
  | _ z ih =>
    refine hs_iload (i := 5) (p := 5) (by decide +kernel) rfl ?_
    refine hs_kld (v := Value.int (Int32.ofNat 32768)) (p := 8) (by decide +kernel) ?_
    refine hs_br2n (c := .gt) (t := 25) (f := 11) (by decide +kernel) (by omega) (by omega) (fun (c8 : 32768 < k) => ?_) (fun (c8 : ¬ (32768 < k)) => ?_)
    · refine hs_k (x := Int32.ofNat 0) (p := 26) (by decide +kernel) ?_
      refine hs_istore (i := 5) (p := 28) (by decide +kernel) (Nat.le_of_ble_eq_true rfl) ?_
      refine ss_2 hV he hwn hs hk (k := 0) (by omega) (hM 0 (by omega)) (fun j hj => ?_) h
      rw [hM (j + 1) (by omega)]
      rfl
    · refine hs_aload (i := 0) (p := 12) (by decide +kernel) rfl ?_
      refine hm_get (ss_ok hV) (f := 32) (p := 15) (by decide +kernel) rfl hV.2.2.1.1 ?_
      refine hs_iload (i := 5) (p := 17) (by decide +kernel) rfl ?_
      refine hs_k (x := Int32.ofNat 0) (p := 18) (by decide +kernel) ?_
      refine ss_wm hV (p := 19) (by decide +kernel) (by omega) ?_
      refine hs_iinc1 (i := 5) (p := 22) (by decide +kernel) rfl (Nat.le_of_ble_eq_true rfl) ?_
      refine hs_goto (p := 3) (by decide +kernel) ?_
      refine ih (32769 - (k + 1)) (by omega) (by omega) (fun j hj => ?_) rfl
      by_cases e : j = k
      · subst e
        exact hs_us
      · exact (hs_un e).trans (hM j (by omega))
theorem rp_sorts (hV : ss_V G am aw mn tt fr F AA) {e wn : Nat} (he : e ≤ 2) (hwn : W (45 + 23 * e + 0) = Int32.ofNat wn) (hs : wn ≤ 6) {sh : Int32} (h : ∀ M T', (∀ i, T' i = T i ∨ ∃ j, j < 65536 ∧ T' i = AA j) → Z (.inl none, (ss_H G am aw mn tt F W M T'), 0, 0)) : et_go none (d + 6) 267 0 [some (.ref am), some (.int (Int32.ofNat e)), some (.ref fr), some (.ref tt), some (.int sh), none, none] [] (ss_H G am aw mn tt F W M T) 0 0 Z := by
  have hc : ∀ i, ∃ n, n ≤ 32767 ∧ rp_hf W e wn sh (AA i) = Int32.ofNat n := fun i => rp_hfr
  obtain ⟨key, hk⟩ := Classical.axiomOfChoice hc
  refine hs_k (x := Int32.ofNat 0) (p := 1) (by decide +kernel) ?_
  refine hs_istore (i := 5) (p := 3) (by decide +kernel) (Nat.le_of_ble_eq_true rfl) ?_
  exact ss_1 hV he hwn hs hk (k := 0) (by omega) (fun j hj => absurd hj (Nat.not_lt_zero _)) h
end RPS
