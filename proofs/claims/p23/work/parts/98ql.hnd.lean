/-! FUNCTIONAL: the class's tokens -/
theorem tz_l_iff {x : Nat} : tz_l x = true ↔ 97 ≤ x ∧ x ≤ 122 := by
  unfold tz_l
  rw [Bool.and_eq_true, Nat.ble_eq, Nat.ble_eq]
theorem tz_d_iff {x : Nat} : tz_d x = true ↔ 48 ≤ x ∧ x ≤ 57 := by
  unfold tz_d
  rw [Bool.and_eq_true, Nat.ble_eq, Nat.ble_eq]
theorem tz_go_iff {b : Nat → Nat} {n i : Nat} : tz_go b n i = true ↔ 0 < i ∧ i < n ∧ ((tz_l (b (i - 1)) = true ∧ tz_l (b i) = true) ∨ (tz_d (b (i - 1)) = true ∧ tz_d (b i) = true)) := by
  unfold tz_go
  rw [Bool.and_eq_true, Bool.and_eq_true, Bool.or_eq_true, Bool.and_eq_true, Bool.and_eq_true]
  unfold Nat.blt
  rw [Nat.ble_eq, Nat.ble_eq]
  constructor
  · rintro ⟨⟨h1, h2⟩, h3⟩
    exact ⟨by omega, by omega, h3⟩
  · rintro ⟨h1, h2, h3⟩
    exact ⟨⟨by omega, by omega⟩, h3⟩
theorem xi_n0 {i : Nat} (h : i < 2147483648) : Int32.ofNat i ≤ 0 ↔ i = 0 := by
  rw [Int32.le_iff_toInt_le, hs_nint h]
  show (i : Int) ≤ 0 ↔ _
  omega
theorem tz_en_s {b : Nat → Nat} {n e : Nat} (h : e < n) (g : tz_go b n e = true) : tz_en b n (n - e) e = tz_en b n (n - (e + 1)) (e + 1) := by
  obtain ⟨k, hk⟩ : ∃ k, n - e = k + 1 := ⟨n - e - 1, by omega⟩
  rw [hk, show n - (e + 1) = k by omega]
  show (if tz_go b n e = true then _ else _) = _
  rw [if_pos g]
theorem tz_en_t {b : Nat → Nat} {n e k : Nat} (g : tz_go b n e = false) : tz_en b n k e = e := by
  cases k with
  | zero => rfl
  | succ k =>
    show (if tz_go b n e = true then _ else _) = _
    rw [g]
    rfl
/-- all that goes on with a digit is digits -/
theorem tz_en_d {b : Nat → Nat} {n : Nat} : ∀ (k e : Nat), tz_d (b (e - 1)) = true → 0 < e → ∀ q, e ≤ q → q < tz_en b n k e → tz_d (b q) = true
  | 0, e, _, _, q, h1, h2 => by
    have h2 : q < e := h2
    omega
  | k + 1, e, h, h0, q, h1, h2 => by
    by_cases g : tz_go b n e = true
    · have h3 : tz_en b n (k + 1) e = tz_en b n k (e + 1) := by
        show (if tz_go b n e = true then _ else _) = _
        rw [if_pos g]
      have hd : tz_d (b e) = true := by
        rcases (tz_go_iff.mp g).2.2 with h4 | h4
        · have a := tz_l_iff.mp h4.1
          have c := tz_d_iff.mp h
          omega
        · exact h4.2
      rw [h3] at h2
      by_cases he : q = e
      · rw [he]
        exact hd
      · exact tz_en_d k (e + 1) (by rw [Nat.add_sub_cancel]; exact hd) (by omega) q (by omega) h2
    · rw [tz_en_t (by simpa using g)] at h2
      omega
theorem tz_end_d {b : Nat → Nat} {n i : Nat} (hi : i < n) (h : tz_d (b i) = true) (q : Nat) (h1 : i ≤ q) (h2 : q < tz_end b n i) : tz_d (b q) = true := by
  by_cases he : q = i
  · rw [he]
    exact h
  · exact tz_en_d _ (i + 1) (by rw [Nat.add_sub_cancel]; exact h) (by omega) q (by omega) h2
def tz_i (o : Option Nat) : Int32 := match o with
  | none => -1
  | some v => Int32.ofNat v
/-- a text's bytes -/
def tz_by (j : Nat) : List Nat := (eg_by.getD j []).map (fun x => x.toNatClampNeg)
theorem tz_by_len {j : Nat} : (tz_by j).length = rs_n j := List.length_map ..
theorem tz_by_lt {j k : Nat} : (tz_by j).getD k 0 < 128 := by
  have h : eg_by.all (fun l => l.all (fun x => Nat.blt x.toNatClampNeg 128)) = true := by decide +kernel
  rw [List.getD_eq_getElem?_getD]
  cases e : (tz_by j)[k]? with
  | none => exact (by decide)
  | some v =>
    show v < 128
    have h1 := List.mem_of_getElem? e
    unfold tz_by at h1
    obtain ⟨x, hx, rfl⟩ := List.mem_map.mp h1
    rw [List.getD_eq_getElem?_getD] at hx
    cases e2 : eg_by[j]? with
    | none =>
      rw [e2] at hx
      cases hx
    | some l =>
      rw [e2] at hx
      have h2 := List.all_eq_true.mp (List.all_eq_true.mp h l (List.mem_of_getElem? e2)) x hx
      unfold Nat.blt at h2
      exact Nat.le_of_ble_eq_true h2
theorem tz_eq_s {b : Nat → Nat} {i j k : Nat} (h : k < rs_n j) : tz_eq b (i + k) ((tz_by j).drop k) = (b (i + k) == (tz_by j).getD k 0 && tz_eq b (i + (k + 1)) ((tz_by j).drop (k + 1))) := by
  have hl : k < (tz_by j).length := by rw [tz_by_len]; exact h
  rw [List.drop_eq_getElem_cons hl, List.getD_eq_getElem?_getD, List.getElem?_eq_getElem hl]
  rfl
theorem rs_ch8 : ∀ j ∈ List.range 56, ∀ i ∈ List.range (rs_n j), (((eg_by.getD j []).getD i 0 &&& Int32.ofNat 255).toUInt32 % 65536).toInt32 = Int32.ofNat ((tz_by j).getD i 0) ∧ eg_nr .char (Int32.ofNat ((tz_by j).getD i 0)) = true := by decide +kernel
section RSX
variable {d : Nat} {G : eg_G} {Z : eg_O → Prop}
theorem rs_con3 {j : Nat} (hj : j < 56) : eg_at G (92 + j) = .inl (1, (rs_n j, .inl (fun i => (eg_by.getD j []).getD i 0))) := by
  unfold eg_at
  rw [if_pos (show 92 + j < eg_NC from Nat.lt_of_lt_of_le (by omega : 92 + j < 148) (by decide))]
  unfold eg_con
  rw [if_neg (by omega), if_neg (show ¬ 92 + j < 36 + eg_NS from by show ¬ 92 + j < 36 + 56; omega), if_pos (show 92 + j < 36 + 2 * eg_NS from by show 92 + j < 36 + 2 * 56; omega)]
  rw [show 92 + j - 36 - eg_NS = j from by show 92 + j - 36 - 56 = j; omega]
  rfl
theorem rs_latX (hG : 152 ≤ G.2) {j : Nat} (hj : j < 56) {i : Nat} (hi : i < rs_n j) (h : Z (.inl (some (.int (Int32.ofNat ((tz_by j).getD i 0)))), G, 0, 0)) : et_go none (d + 2) 299 0 [some (.ref (92 + j)), some (.int (Int32.ofNat i))] [] G 0 0 Z := by
  have hn := rs_nlt (j := j)
  obtain ⟨h8, h9⟩ := rs_ch8 j (List.mem_range.mpr hj) i (List.mem_range.mpr hi)
  refine hs_iload (i := 1) (p := 1) (by decide +kernel) rfl ?_
  refine hs_aload (i := 0) (p := 2) (by decide +kernel) rfl ?_
  refine hs_alen (p := 3) (by decide +kernel) (rs_con3 hj) (by omega) rfl ?_
  refine hs_calls (mi := 298) (na := 2) (lk := 2) (lm := 2) (by decide +kernel) rfl rfl rfl rfl rfl rfl rfl (rs_chk hi (by omega) (hs_cb ?_))
  show et_go none _ 299 6 _ [] _ _ _ _
  refine hs_aload (i := 0) (p := 7) (by decide +kernel) rfl ?_
  refine hs_iload (i := 1) (p := 8) (by decide +kernel) rfl ?_
  refine hs_bald (p := 9) (by decide +kernel) (rs_con3 hj) (by omega) (by omega) hi ?_
  refine hs_k (x := Int32.ofNat 255) (p := 12) (by decide +kernel) ?_
  refine hs_iand (p := 13) (by decide +kernel) ?_
  refine hs_i2c (p := 14) (by decide +kernel) ?_
  show et_go none _ 299 14 _ [.int (((eg_by.getD j []).getD i 0 &&& Int32.ofNat 255).toUInt32 % 65536).toInt32] _ _ _ _
  rw [h8]
  refine hs_bcret (ty := .char) (by decide +kernel) h9 ?_
  exact h
theorem rs_chrX (hG : 152 ≤ G.2) {j : Nat} (hj : j < 56) {i : Nat} (hi : i < rs_n j) (h : Z (.inl (some (.int (Int32.ofNat ((tz_by j).getD i 0)))), G, 0, 0)) : et_go none (d + 3) 296 0 [some (.ref (36 + j)), some (.int (Int32.ofNat i))] [] G 0 0 Z := by
  refine hs_aload (i := 0) (p := 1) (by decide +kernel) rfl ?_
  refine hs_callv (mi := 297) (na := 0) (ci := 13) (lk := 2) (lm := 1) (by decide +kernel) rfl rfl rfl rfl rfl rfl (by omega) (by rw [rs_con hj]; rfl) (rs_isL hG hj (hs_cb ?_))
  show et_go none _ 296 4 _ [.int (Int32.ofNat 1)] _ _ _ _
  refine hs_if0 (c := .eq) (t := 16) (f := 7) (by decide +kernel) (show ¬ (Int32.ofNat 1 = 0) by decide) ?_
  refine hs_aload (i := 0) (p := 8) (by decide +kernel) rfl ?_
  refine hs_get (ci := 13) (f := 0) (p := 11) (by decide +kernel) (rs_con hj) (by omega) rfl ?_
  refine hs_iload (i := 1) (p := 12) (by decide +kernel) rfl ?_
  refine hs_calls (mi := 299) (na := 2) (lk := 2) (lm := 2) (by decide +kernel) rfl rfl rfl rfl rfl rfl rfl (rs_latX hG hj hi (hs_cb ?_))
  show et_go none _ 296 15 _ [.int (Int32.ofNat ((tz_by j).getD i 0))] _ _ _ _
  refine hs_bcret (ty := .char) (by decide +kernel) (rs_ch8 j (List.mem_range.mpr hj) i (List.mem_range.mpr hi)).2 ?_
  exact h
end RSX
theorem tz_len148 {d k pc ck sk p : Nat} {L : eg_Ls} {r : List Value} {G : eg_G} {Z : eg_O → Prop} (hc : hs_o k pc = some (.arraylength, p)) (hG : 152 ≤ G.2) (h : et_go none d k p L (.int (Int32.ofNat 36) :: r) G ck sk Z) : et_go none d k pc L (.ref 148 :: r) G ck sk Z := by
  obtain ⟨e, rfl⟩ := hs_oc hc
  refine hs_st e rfl ?_ h
  show (match eg_at G 148 with
    | .inl (t, x) => if 148 < G.2 ∧ t < 12 then some (pc + 1, L, Value.int (Int32.ofNat x.1) :: r, G, ck, sk) else none
    | _ => none) = _
  rw [hw_148]
  dsimp only
  rw [if_pos ⟨by omega, by decide⟩]
theorem tz_plw {w : Nat} (hw : w < 36) : ([.int (Int32.ofNat w), .ref (36 + (eg_wf.getD w (0, 0, 0)).1), .int (eg_wf.getD w (0, 0, 0)).2.1, .int (eg_wf.getD w (0, 0, 0)).2.2] : List Value)[2]? = some (.int (Int32.ofNat (tz_pl w))) := by
  have h : ∀ w ∈ List.range 36, (eg_wf.getD w (0, 0, 0)).2.1 = Int32.ofNat (tz_pl w) := by decide +kernel
  show some (Value.int (eg_wf.getD w (0, 0, 0)).2.1) = _
  rw [h w (List.mem_range.mpr hw)]
theorem tz_pl3 {w : Nat} (hw : w < 36) : tz_pl w ≤ 3 := by
  have h : ∀ w ∈ List.range 36, tz_pl w ≤ 3 := by decide +kernel
  exact h w (List.mem_range.mpr hw)
theorem tz_wj {w : Nat} (hw : w < 36) : (eg_wf.getD w (0, 0, 0)).1 < 56 := hw_j w (List.mem_range.mpr hw)
theorem tz_ok_iff {pl w : Nat} : tz_ok pl w = true ↔ tz_pl w = pl ∨ tz_pl w = 3 := by
  unfold tz_ok
  rw [Bool.or_eq_true, beq_iff_eq, beq_iff_eq]
theorem tz_fd_y {pl i e w : Nat} {b : Nat → Nat} (hw : w < 36) (h1 : tz_pl w = pl ∨ tz_pl w = 3) (h2 : tz_is b (tz_by (eg_wf.getD w (0, 0, 0)).1) i e = true) : tz_fd pl b i e (36 - w) w = w := by
  obtain ⟨k, hk⟩ : ∃ k, 36 - w = k + 1 := ⟨36 - w - 1, by omega⟩
  rw [hk]
  show (if (tz_ok pl w && tz_is b (tz_tx w) i e) = true then w else _) = _
  rw [tz_ok_iff.mpr h1, show tz_is b (tz_tx w) i e = true from h2]
  rfl
theorem tz_fd_n {pl i e w : Nat} {b : Nat → Nat} (hw : w < 36) (h : ¬ (tz_ok pl w && tz_is b (tz_by (eg_wf.getD w (0, 0, 0)).1) i e) = true) : tz_fd pl b i e (36 - w) w = tz_fd pl b i e (36 - (w + 1)) (w + 1) := by
  obtain ⟨k, hk⟩ : ∃ k, 36 - w = k + 1 := ⟨36 - w - 1, by omega⟩
  rw [hk, show 36 - (w + 1) = k by omega]
  show (if (tz_ok pl w && tz_is b (tz_tx w) i e) = true then w else _) = _
  exact if_neg (show ¬ (tz_ok pl w && tz_is b (tz_tx w) i e) = true from h)

section FLA
variable {K : et_K} {G : eg_G} {b : Nat → Nat} {d2 d rd tp n i e x pl j : Nat}
theorem fc_tz_l (hx : x < 256) : et_go none d2 69 0 (eg_en (eg_mL 69) [.int (Int32.ofNat x)]) [] G 0 0 (xp_Z G (some (.int (Int32.ofNat (if tz_l x = true then 1 else 0))))) := by
  rw [show eg_mL 69 = 1 from by decide +kernel]
  show et_go none d2 69 0 [some (.int (Int32.ofNat x))] [] G 0 0 _
  refine hs_iload (i := 0) (p := 1) (by decide +kernel) rfl ?_
  refine hs_k (x := Int32.ofNat 97) (p := 3) (by decide +kernel) ?_
  refine hs_br2n (c := .lt) (t := 16) (f := 6) (by decide +kernel) (by omega) (by omega) (fun (c3 : x < 97) => ?_) (fun (c3 : ¬ (x < 97)) => ?_)
  · refine hs_k (x := Int32.ofNat 0) (p := 17) (by decide +kernel) ?_
    refine hs_zret (by decide +kernel) (.inl rfl) ?_
    rw [show (if tz_l x = true then 1 else 0) = 0 from if_neg (fun h => by have := tz_l_iff.mp h; omega)]
    rfl
  · refine hs_iload (i := 0) (p := 7) (by decide +kernel) rfl ?_
    refine hs_k (x := Int32.ofNat 122) (p := 9) (by decide +kernel) ?_
    refine hs_br2n (c := .gt) (t := 16) (f := 12) (by decide +kernel) (by omega) (by omega) (fun (c9 : 122 < x) => ?_) (fun (c9 : ¬ (122 < x)) => ?_)
    · refine hs_k (x := Int32.ofNat 0) (p := 17) (by decide +kernel) ?_
      refine hs_zret (by decide +kernel) (.inl rfl) ?_
      rw [show (if tz_l x = true then 1 else 0) = 0 from if_neg (fun h => by have := tz_l_iff.mp h; omega)]
      rfl
    · refine hs_k (x := Int32.ofNat 1) (p := 13) (by decide +kernel) ?_
      refine hs_goto (p := 17) (by decide +kernel) ?_
      refine hs_zret (by decide +kernel) (.inr rfl) ?_
      rw [show (if tz_l x = true then 1 else 0) = 1 from if_pos (tz_l_iff.mpr ⟨by omega, by omega⟩)]
      rfl
theorem fc_tz_d (hx : x < 256) : et_go none d2 70 0 (eg_en (eg_mL 70) [.int (Int32.ofNat x)]) [] G 0 0 (xp_Z G (some (.int (Int32.ofNat (if tz_d x = true then 1 else 0))))) := by
  rw [show eg_mL 70 = 1 from by decide +kernel]
  show et_go none d2 70 0 [some (.int (Int32.ofNat x))] [] G 0 0 _
  refine hs_iload (i := 0) (p := 1) (by decide +kernel) rfl ?_
  refine hs_k (x := Int32.ofNat 48) (p := 3) (by decide +kernel) ?_
  refine hs_br2n (c := .lt) (t := 16) (f := 6) (by decide +kernel) (by omega) (by omega) (fun (c3 : x < 48) => ?_) (fun (c3 : ¬ (x < 48)) => ?_)
  · refine hs_k (x := Int32.ofNat 0) (p := 17) (by decide +kernel) ?_
    refine hs_zret (by decide +kernel) (.inl rfl) ?_
    rw [show (if tz_d x = true then 1 else 0) = 0 from if_neg (fun h => by have := tz_d_iff.mp h; omega)]
    rfl
  · refine hs_iload (i := 0) (p := 7) (by decide +kernel) rfl ?_
    refine hs_k (x := Int32.ofNat 57) (p := 9) (by decide +kernel) ?_
    refine hs_br2n (c := .gt) (t := 16) (f := 12) (by decide +kernel) (by omega) (by omega) (fun (c9 : 57 < x) => ?_) (fun (c9 : ¬ (57 < x)) => ?_)
    · refine hs_k (x := Int32.ofNat 0) (p := 17) (by decide +kernel) ?_
      refine hs_zret (by decide +kernel) (.inl rfl) ?_
      rw [show (if tz_d x = true then 1 else 0) = 0 from if_neg (fun h => by have := tz_d_iff.mp h; omega)]
      rfl
    · refine hs_k (x := Int32.ofNat 1) (p := 13) (by decide +kernel) ?_
      refine hs_goto (p := 17) (by decide +kernel) ?_
      refine hs_zret (by decide +kernel) (.inr rfl) ?_
      rw [show (if tz_d x = true then 1 else 0) = 1 from if_pos (tz_d_iff.mpr ⟨by omega, by omega⟩)]
      rfl
theorem fc_go (hH : et_H et_TT K G) (k_rd : K rd = some 7) (r0 : et_pl (eg_at G rd) 0 = some (.ref tp)) (k_tp : K tp = some 33) (r1 : et_pl (eg_at G rd) 1 = some (.int (Int32.ofNat n))) (hn : n ≤ 400) (ht : ∀ i, i < n → et_pl (eg_at G tp) i = some (.int (Int32.ofNat (b i)))) (hb : ∀ i, i < n → b i < 256) (hi : i ≤ 400) (hd : 1 ≤ d2) : et_go none d2 68 0 (eg_en (eg_mL 68) [.ref rd, .int (Int32.ofNat i)]) [] G 0 0 (xp_Z G (some (.int (Int32.ofNat (if tz_go b n i = true then 1 else 0))))) := by
  obtain ⟨d, rfl⟩ : ∃ d, d2 = d + 1 := ⟨d2 - 1, by omega⟩
  rw [show eg_mL 68 = 2 from by decide +kernel]
  show et_go none (d + 1) 68 0 [some (.ref rd), some (.int (Int32.ofNat i))] [] G 0 0 _
  have lt_rd := (hH.2.2 _ _ k_rd).1
  have lt_tp := (hH.2.2 _ _ k_tp).1
  refine hs_iload (i := 1) (p := 1) (by decide +kernel) rfl ?_
  refine hs_br1 (c := .le) (t := 12) (f := 4) (by decide +kernel) (fun (c1 : Int32.ofNat i ≤ 0) => ?_) (fun (c1 : ¬ (Int32.ofNat i ≤ 0)) => ?_)
  · have c1 : i = 0 := (xi_n0 (by omega)).mp c1
    refine hs_k (x := Int32.ofNat 0) (p := 13) (by decide +kernel) ?_
    refine hs_zret (by decide +kernel) (.inl rfl) ?_
    rw [show (if tz_go b n i = true then 1 else 0) = 0 from if_neg (fun h => by have h := tz_go_iff.mp h; omega)]
    rfl
  · have c1 : ¬ i = 0 := fun h => c1 ((xi_n0 (by omega)).mpr h)
    refine hs_iload (i := 1) (p := 5) (by decide +kernel) rfl ?_
    refine hs_aload (i := 0) (p := 6) (by decide +kernel) rfl ?_
    refine hf_get (T := et_TT) (t := 7) (ci := 5) (f := 1) (p := 9) (by decide +kernel) rfl hH k_rd r1 ?_
    refine hs_br2n (c := .lt) (t := 14) (f := 12) (by decide +kernel) (by omega) (by omega) (fun (c9 : i < n) => ?_) (fun (c9 : ¬ (i < n)) => ?_)
    · refine hs_aload (i := 0) (p := 15) (by decide +kernel) rfl ?_
      refine hf_get (T := et_TT) (t := 7) (ci := 5) (f := 0) (p := 18) (by decide +kernel) rfl hH k_rd r0 ?_
      refine hs_iload (i := 1) (p := 19) (by decide +kernel) rfl ?_
      refine hs_k (x := Int32.ofNat 1) (p := 20) (by decide +kernel) ?_
      refine hs_isubn (p := 21) (by decide +kernel) (by omega) ?_
      refine hf_ald (ins := .caload) (T := et_TT) (t := 33) (kd := 4) (N := 400) (p := 22) (by decide +kernel) (fun _ _ _ _ _ _ _ _ _ _ => rfl) rfl rfl rfl hH k_tp (by decide) (ht (i - 1) (by omega)) ?_
      refine hs_calls (mi := 69) (na := 1) (lk := 2) (lm := 1) (L0 := eg_en (eg_mL 69) [.int (Int32.ofNat (b (i - 1)))]) (by decide +kernel) rfl rfl rfl rfl rfl rfl (by rw [show eg_mL 69 = 1 from by decide +kernel]; first | done | rfl) ?_
      refine (fc_tz_l (hb (i - 1) (by omega))).mono (fun u hu => xp_cb hu ?_)
      by_cases s22 : tz_l (b (i - 1)) = true
      · rw [if_pos s22]
        show et_go none _ 68 25 _ [.int (Int32.ofNat 1)] _ _ _ _
        refine hs_if0 (c := .eq) (t := 40) (f := 28) (by decide +kernel) (show ¬ (Int32.ofNat 1 = 0) by decide) ?_
        refine hs_aload (i := 0) (p := 29) (by decide +kernel) rfl ?_
        refine hf_get (T := et_TT) (t := 7) (ci := 5) (f := 0) (p := 32) (by decide +kernel) rfl hH k_rd r0 ?_
        refine hs_iload (i := 1) (p := 33) (by decide +kernel) rfl ?_
        refine hf_ald (ins := .caload) (T := et_TT) (t := 33) (kd := 4) (N := 400) (p := 34) (by decide +kernel) (fun _ _ _ _ _ _ _ _ _ _ => rfl) rfl rfl rfl hH k_tp (by decide) (ht i (by omega)) ?_
        refine hs_calls (mi := 69) (na := 1) (lk := 2) (lm := 1) (L0 := eg_en (eg_mL 69) [.int (Int32.ofNat (b i))]) (by decide +kernel) rfl rfl rfl rfl rfl rfl (by rw [show eg_mL 69 = 1 from by decide +kernel]; first | done | rfl) ?_
        refine (fc_tz_l (hb i (by omega))).mono (fun u hu => xp_cb hu ?_)
        by_cases s34 : tz_l (b i) = true
        · rw [if_pos s34]
          show et_go none _ 68 37 _ [.int (Int32.ofNat 1)] _ _ _ _
          refine hs_if1 (c := .ne) (t := 66) (f := 40) (by decide +kernel) (show ¬ Int32.ofNat 1 = 0 by decide) ?_
          refine hs_k (x := Int32.ofNat 1) (p := 67) (by decide +kernel) ?_
          refine hs_goto (p := 71) (by decide +kernel) ?_
          refine hs_zret (by decide +kernel) (.inr rfl) ?_
          rw [show (if tz_go b n i = true then 1 else 0) = 1 from if_pos (tz_go_iff.mpr ⟨by omega, by omega, .inl ⟨s22, s34⟩⟩)]
          rfl
        · rw [if_neg s34]
          show et_go none _ 68 37 _ [.int (Int32.ofNat 0)] _ _ _ _
          refine hs_if0 (c := .ne) (t := 66) (f := 40) (by decide +kernel) (show ¬ (¬ Int32.ofNat 0 = 0) by decide) ?_
          refine hs_aload (i := 0) (p := 41) (by decide +kernel) rfl ?_
          refine hf_get (T := et_TT) (t := 7) (ci := 5) (f := 0) (p := 44) (by decide +kernel) rfl hH k_rd r0 ?_
          refine hs_iload (i := 1) (p := 45) (by decide +kernel) rfl ?_
          refine hs_k (x := Int32.ofNat 1) (p := 46) (by decide +kernel) ?_
          refine hs_isubn (p := 47) (by decide +kernel) (by omega) ?_
          refine hf_ald (ins := .caload) (T := et_TT) (t := 33) (kd := 4) (N := 400) (p := 48) (by decide +kernel) (fun _ _ _ _ _ _ _ _ _ _ => rfl) rfl rfl rfl hH k_tp (by decide) (ht (i - 1) (by omega)) ?_
          refine hs_calls (mi := 70) (na := 1) (lk := 2) (lm := 1) (L0 := eg_en (eg_mL 70) [.int (Int32.ofNat (b (i - 1)))]) (by decide +kernel) rfl rfl rfl rfl rfl rfl (by rw [show eg_mL 70 = 1 from by decide +kernel]; first | done | rfl) ?_
          refine (fc_tz_d (hb (i - 1) (by omega))).mono (fun u hu => xp_cb hu ?_)
          by_cases s48 : tz_d (b (i - 1)) = true
          · rw [if_pos s48]
            show et_go none _ 68 51 _ [.int (Int32.ofNat 1)] _ _ _ _
            refine hs_if0 (c := .eq) (t := 70) (f := 54) (by decide +kernel) (show ¬ (Int32.ofNat 1 = 0) by decide) ?_
            refine hs_aload (i := 0) (p := 55) (by decide +kernel) rfl ?_
            refine hf_get (T := et_TT) (t := 7) (ci := 5) (f := 0) (p := 58) (by decide +kernel) rfl hH k_rd r0 ?_
            refine hs_iload (i := 1) (p := 59) (by decide +kernel) rfl ?_
            refine hf_ald (ins := .caload) (T := et_TT) (t := 33) (kd := 4) (N := 400) (p := 60) (by decide +kernel) (fun _ _ _ _ _ _ _ _ _ _ => rfl) rfl rfl rfl hH k_tp (by decide) (ht i (by omega)) ?_
            refine hs_calls (mi := 70) (na := 1) (lk := 2) (lm := 1) (L0 := eg_en (eg_mL 70) [.int (Int32.ofNat (b i))]) (by decide +kernel) rfl rfl rfl rfl rfl rfl (by rw [show eg_mL 70 = 1 from by decide +kernel]; first | done | rfl) ?_
            refine (fc_tz_d (hb i (by omega))).mono (fun u hu => xp_cb hu ?_)
            by_cases s60 : tz_d (b i) = true
            · rw [if_pos s60]
              show et_go none _ 68 63 _ [.int (Int32.ofNat 1)] _ _ _ _
              refine hs_if0 (c := .eq) (t := 70) (f := 66) (by decide +kernel) (show ¬ (Int32.ofNat 1 = 0) by decide) ?_
              refine hs_k (x := Int32.ofNat 1) (p := 67) (by decide +kernel) ?_
              refine hs_goto (p := 71) (by decide +kernel) ?_
              refine hs_zret (by decide +kernel) (.inr rfl) ?_
              rw [show (if tz_go b n i = true then 1 else 0) = 1 from if_pos (tz_go_iff.mpr ⟨by omega, by omega, .inr ⟨s48, s60⟩⟩)]
              rfl
            · rw [if_neg s60]
              show et_go none _ 68 63 _ [.int (Int32.ofNat 0)] _ _ _ _
              refine hs_if1 (c := .eq) (t := 70) (f := 66) (by decide +kernel) (show Int32.ofNat 0 = 0 by decide) ?_
              refine hs_k (x := Int32.ofNat 0) (p := 71) (by decide +kernel) ?_
              refine hs_zret (by decide +kernel) (.inl rfl) ?_
              rw [show (if tz_go b n i = true then 1 else 0) = 0 from if_neg (fun h => by rcases (tz_go_iff.mp h).2.2 with ⟨h3, h4⟩ | ⟨h3, h4⟩; exact absurd h4 s34; exact absurd h4 s60)]
              rfl
          · rw [if_neg s48]
            show et_go none _ 68 51 _ [.int (Int32.ofNat 0)] _ _ _ _
            refine hs_if1 (c := .eq) (t := 70) (f := 54) (by decide +kernel) (show Int32.ofNat 0 = 0 by decide) ?_
            refine hs_k (x := Int32.ofNat 0) (p := 71) (by decide +kernel) ?_
            refine hs_zret (by decide +kernel) (.inl rfl) ?_
            rw [show (if tz_go b n i = true then 1 else 0) = 0 from if_neg (fun h => by rcases (tz_go_iff.mp h).2.2 with ⟨h3, h4⟩ | ⟨h3, h4⟩; exact absurd h4 s34; exact absurd h3 s48)]
            rfl
      · rw [if_neg s22]
        show et_go none _ 68 25 _ [.int (Int32.ofNat 0)] _ _ _ _
        refine hs_if1 (c := .eq) (t := 40) (f := 28) (by decide +kernel) (show Int32.ofNat 0 = 0 by decide) ?_
        refine hs_aload (i := 0) (p := 41) (by decide +kernel) rfl ?_
        refine hf_get (T := et_TT) (t := 7) (ci := 5) (f := 0) (p := 44) (by decide +kernel) rfl hH k_rd r0 ?_
        refine hs_iload (i := 1) (p := 45) (by decide +kernel) rfl ?_
        refine hs_k (x := Int32.ofNat 1) (p := 46) (by decide +kernel) ?_
        refine hs_isubn (p := 47) (by decide +kernel) (by omega) ?_
        refine hf_ald (ins := .caload) (T := et_TT) (t := 33) (kd := 4) (N := 400) (p := 48) (by decide +kernel) (fun _ _ _ _ _ _ _ _ _ _ => rfl) rfl rfl rfl hH k_tp (by decide) (ht (i - 1) (by omega)) ?_
        refine hs_calls (mi := 70) (na := 1) (lk := 2) (lm := 1) (L0 := eg_en (eg_mL 70) [.int (Int32.ofNat (b (i - 1)))]) (by decide +kernel) rfl rfl rfl rfl rfl rfl (by rw [show eg_mL 70 = 1 from by decide +kernel]; first | done | rfl) ?_
        refine (fc_tz_d (hb (i - 1) (by omega))).mono (fun u hu => xp_cb hu ?_)
        by_cases s48 : tz_d (b (i - 1)) = true
        · rw [if_pos s48]
          show et_go none _ 68 51 _ [.int (Int32.ofNat 1)] _ _ _ _
          refine hs_if0 (c := .eq) (t := 70) (f := 54) (by decide +kernel) (show ¬ (Int32.ofNat 1 = 0) by decide) ?_
          refine hs_aload (i := 0) (p := 55) (by decide +kernel) rfl ?_
          refine hf_get (T := et_TT) (t := 7) (ci := 5) (f := 0) (p := 58) (by decide +kernel) rfl hH k_rd r0 ?_
          refine hs_iload (i := 1) (p := 59) (by decide +kernel) rfl ?_
          refine hf_ald (ins := .caload) (T := et_TT) (t := 33) (kd := 4) (N := 400) (p := 60) (by decide +kernel) (fun _ _ _ _ _ _ _ _ _ _ => rfl) rfl rfl rfl hH k_tp (by decide) (ht i (by omega)) ?_
          refine hs_calls (mi := 70) (na := 1) (lk := 2) (lm := 1) (L0 := eg_en (eg_mL 70) [.int (Int32.ofNat (b i))]) (by decide +kernel) rfl rfl rfl rfl rfl rfl (by rw [show eg_mL 70 = 1 from by decide +kernel]; first | done | rfl) ?_
          refine (fc_tz_d (hb i (by omega))).mono (fun u hu => xp_cb hu ?_)
          by_cases s60 : tz_d (b i) = true
          · rw [if_pos s60]
            show et_go none _ 68 63 _ [.int (Int32.ofNat 1)] _ _ _ _
            refine hs_if0 (c := .eq) (t := 70) (f := 66) (by decide +kernel) (show ¬ (Int32.ofNat 1 = 0) by decide) ?_
            refine hs_k (x := Int32.ofNat 1) (p := 67) (by decide +kernel) ?_
            refine hs_goto (p := 71) (by decide +kernel) ?_
            refine hs_zret (by decide +kernel) (.inr rfl) ?_
            rw [show (if tz_go b n i = true then 1 else 0) = 1 from if_pos (tz_go_iff.mpr ⟨by omega, by omega, .inr ⟨s48, s60⟩⟩)]
            rfl
          · rw [if_neg s60]
            show et_go none _ 68 63 _ [.int (Int32.ofNat 0)] _ _ _ _
            refine hs_if1 (c := .eq) (t := 70) (f := 66) (by decide +kernel) (show Int32.ofNat 0 = 0 by decide) ?_
            refine hs_k (x := Int32.ofNat 0) (p := 71) (by decide +kernel) ?_
            refine hs_zret (by decide +kernel) (.inl rfl) ?_
            rw [show (if tz_go b n i = true then 1 else 0) = 0 from if_neg (fun h => by rcases (tz_go_iff.mp h).2.2 with ⟨h3, h4⟩ | ⟨h3, h4⟩; exact absurd h3 s22; exact absurd h4 s60)]
            rfl
        · rw [if_neg s48]
          show et_go none _ 68 51 _ [.int (Int32.ofNat 0)] _ _ _ _
          refine hs_if1 (c := .eq) (t := 70) (f := 54) (by decide +kernel) (show Int32.ofNat 0 = 0 by decide) ?_
          refine hs_k (x := Int32.ofNat 0) (p := 71) (by decide +kernel) ?_
          refine hs_zret (by decide +kernel) (.inl rfl) ?_
          rw [show (if tz_go b n i = true then 1 else 0) = 0 from if_neg (fun h => by rcases (tz_go_iff.mp h).2.2 with ⟨h3, h4⟩ | ⟨h3, h4⟩; exact absurd h3 s22; exact absurd h3 s48)]
          rfl
    · refine hs_k (x := Int32.ofNat 0) (p := 13) (by decide +kernel) ?_
      refine hs_zret (by decide +kernel) (.inl rfl) ?_
      rw [show (if tz_go b n i = true then 1 else 0) = 0 from if_neg (fun h => by have h := tz_go_iff.mp h; omega)]
      rfl
theorem fc_endL (hH : et_H et_TT K G) (k_rd : K rd = some 7) (r0 : et_pl (eg_at G rd) 0 = some (.ref tp)) (k_tp : K tp = some 33) (r1 : et_pl (eg_at G rd) 1 = some (.int (Int32.ofNat n))) (hn : n ≤ 400) (ht : ∀ i, i < n → et_pl (eg_at G tp) i = some (.int (Int32.ofNat (b i)))) (hb : ∀ i, i < n → b i < 256) (he : e ≤ n) : et_go none (d + 2) 71 4 [some (.ref rd), some (.int (Int32.ofNat i)), some (.int (Int32.ofNat e))] [] G 0 0 (xp_Z G (some (.int (Int32.ofNat (tz_en b n (n - e) e))))) := by
  induction hm : n - e using Nat.strongRecOn generalizing e with
  | _ z ih =>
    rw [← hm]
    have lt_rd := (hH.2.2 _ _ k_rd).1
    have lt_tp := (hH.2.2 _ _ k_tp).1
    refine hs_iload (i := 2) (p := 5) (by decide +kernel) rfl ?_
    refine hs_aload (i := 0) (p := 6) (by decide +kernel) rfl ?_
    refine hf_get (T := et_TT) (t := 7) (ci := 5) (f := 1) (p := 9) (by decide +kernel) rfl hH k_rd r1 ?_
    refine hs_br2n (c := .ge) (t := 28) (f := 12) (by decide +kernel) (by omega) (by omega) (fun (c9 : n ≤ e) => ?_) (fun (c9 : ¬ (n ≤ e)) => ?_)
    · refine hs_aload (i := 0) (p := 29) (by decide +kernel) rfl ?_
      refine hf_get (T := et_TT) (t := 7) (ci := 5) (f := 1) (p := 32) (by decide +kernel) rfl hH k_rd r1 ?_
      refine hs_iret (by decide +kernel) ?_
      rw [show n - e = 0 from by omega, show tz_en b n 0 e = n from (show tz_en b n 0 e = e from rfl).trans (by omega)]
      rfl
    · refine hs_aload (i := 0) (p := 13) (by decide +kernel) rfl ?_
      refine hs_iload (i := 2) (p := 14) (by decide +kernel) rfl ?_
      refine ht_callv (T := et_TT) (t := 7) (mi := 68) (na := 1) (ci := 5) (lk := 3) (lm := 2) (L0 := eg_en (eg_mL 68) [.ref rd, .int (Int32.ofNat e)]) (by decide +kernel) rfl hH k_rd rfl rfl rfl rfl rfl (by rw [show eg_mL 68 = 2 from by decide +kernel]; first | done | rfl) ?_
      refine (fc_go hH k_rd r0 k_tp r1 hn ht hb (i := e) (by omega) (by omega)).mono (fun u hu => xp_cb hu ?_)
      by_cases g14 : tz_go b n e = true
      · rw [if_pos g14]
        show et_go none _ 71 17 _ [.int (Int32.ofNat 1)] _ _ _ _
        refine hs_if1 (c := .ne) (t := 22) (f := 20) (by decide +kernel) (show ¬ Int32.ofNat 1 = 0 by decide) ?_
        refine hs_iinc1 (i := 2) (p := 25) (by decide +kernel) rfl (Nat.le_of_ble_eq_true rfl) ?_
        refine hs_goto (p := 4) (by decide +kernel) ?_
        rw [tz_en_s (by omega) g14]
        show et_go none _ 71 4 [some (.ref rd), some (.int (Int32.ofNat i)), some (.int (Int32.ofNat (e + 1)))] [] _ _ _ _
        exact ih (n - (e + 1)) (by omega) (by omega) rfl
      · rw [if_neg g14]
        show et_go none _ 71 17 _ [.int (Int32.ofNat 0)] _ _ _ _
        refine hs_if0 (c := .ne) (t := 22) (f := 20) (by decide +kernel) (show ¬ (¬ Int32.ofNat 0 = 0) by decide) ?_
        refine hs_iload (i := 2) (p := 21) (by decide +kernel) rfl ?_
        refine hs_iret (by decide +kernel) ?_
        rw [tz_en_t (by simpa using g14)]
        rfl
theorem fc_end (hH : et_H et_TT K G) (k_rd : K rd = some 7) (r0 : et_pl (eg_at G rd) 0 = some (.ref tp)) (k_tp : K tp = some 33) (r1 : et_pl (eg_at G rd) 1 = some (.int (Int32.ofNat n))) (hn : n ≤ 400) (ht : ∀ i, i < n → et_pl (eg_at G tp) i = some (.int (Int32.ofNat (b i)))) (hb : ∀ i, i < n → b i < 256) (hi : i < n) (hd : 2 ≤ d2) : et_go none d2 71 0 (eg_en (eg_mL 71) [.ref rd, .int (Int32.ofNat i)]) [] G 0 0 (xp_Z G (some (.int (Int32.ofNat (tz_end b n i))))) := by
  obtain ⟨d, rfl⟩ : ∃ d, d2 = d + 2 := ⟨d2 - 2, by omega⟩
  rw [show eg_mL 71 = 3 from by decide +kernel]
  show et_go none (d + 2) 71 0 [some (.ref rd), some (.int (Int32.ofNat i)), none] [] G 0 0 _
  have lt_rd := (hH.2.2 _ _ k_rd).1
  have lt_tp := (hH.2.2 _ _ k_tp).1
  refine hs_iload (i := 1) (p := 1) (by decide +kernel) rfl ?_
  refine hs_k (x := Int32.ofNat 1) (p := 2) (by decide +kernel) ?_
  refine hs_iaddn (p := 3) (by decide +kernel) ?_
  refine hs_istore (i := 2) (p := 4) (by decide +kernel) (Nat.le_of_ble_eq_true rfl) ?_
  exact fc_endL hH k_rd r0 k_tp r1 hn ht hb (e := i + 1) (by omega)
theorem fc_numL (hH : et_H et_TT K G) (k_rd : K rd = some 7) (r0 : et_pl (eg_at G rd) 0 = some (.ref tp)) (k_tp : K tp = some 33) (r1 : et_pl (eg_at G rd) 1 = some (.int (Int32.ofNat n))) (hn : n ≤ 400) (ht : ∀ i, i < n → et_pl (eg_at G tp) i = some (.int (Int32.ofNat (b i)))) (hb : ∀ i, i < n → b i < 256) {v k : Nat} (he : e ≤ n) (hk : k ≤ e) (hdg : ∀ q, k ≤ q → q < e → tz_d (b q) = true) : et_go none d2 74 26 [some (.ref rd), some (.int (Int32.ofNat i)), some (.int (Int32.ofNat e)), some (.int (Int32.ofNat v)), some (.int (Int32.ofNat k))] [] G 0 0 (xp_Z G (some (.int (Int32.ofNat (tz_nu b (e - k) k v))))) := by
  induction hm : e - k using Nat.strongRecOn generalizing k v with
  | _ z ih =>
    rw [← hm]
    have lt_rd := (hH.2.2 _ _ k_rd).1
    have lt_tp := (hH.2.2 _ _ k_tp).1
    refine hs_iload (i := 4) (p := 28) (by decide +kernel) rfl ?_
    refine hs_iload (i := 2) (p := 29) (by decide +kernel) rfl ?_
    refine hs_br2n (c := .ge) (t := 54) (f := 32) (by decide +kernel) (by omega) (by omega) (fun (c29 : e ≤ k) => ?_) (fun (c29 : ¬ (e ≤ k)) => ?_)
    · refine hs_iload (i := 3) (p := 55) (by decide +kernel) rfl ?_
      refine hs_iret (by decide +kernel) ?_
      rw [show e - k = 0 from by omega]
      rfl
    · refine hs_k (x := Int32.ofNat 10) (p := 34) (by decide +kernel) ?_
      refine hs_iload (i := 3) (p := 35) (by decide +kernel) rfl ?_
      refine hs_imuln (p := 36) (by decide +kernel) ?_
      refine hs_aload (i := 0) (p := 37) (by decide +kernel) rfl ?_
      refine hf_get (T := et_TT) (t := 7) (ci := 5) (f := 0) (p := 40) (by decide +kernel) rfl hH k_rd r0 ?_
      refine hs_iload (i := 4) (p := 42) (by decide +kernel) rfl ?_
      refine hf_ald (ins := .caload) (T := et_TT) (t := 33) (kd := 4) (N := 400) (p := 43) (by decide +kernel) (fun _ _ _ _ _ _ _ _ _ _ => rfl) rfl rfl rfl hH k_tp (by decide) (ht k (by omega)) ?_
      have hk48 := (tz_d_iff.mp (hdg k (Nat.le_refl _) (by omega))).1
      refine hs_iaddn (p := 44) (by decide +kernel) ?_
      refine hs_k (x := Int32.ofNat 48) (p := 46) (by decide +kernel) ?_
      refine hs_isubn (p := 47) (by decide +kernel) (by omega) ?_
      refine hs_istore (i := 3) (p := 48) (by decide +kernel) (Nat.le_of_ble_eq_true rfl) ?_
      refine hs_iinc1 (i := 4) (p := 51) (by decide +kernel) rfl (Nat.le_of_ble_eq_true rfl) ?_
      refine hs_goto (p := 26) (by decide +kernel) ?_
      rw [show e - k = (e - (k + 1)) + 1 from by omega, show tz_nu b (e - (k + 1) + 1) k v = tz_nu b (e - (k + 1)) (k + 1) (10 * v + b k - 48) from rfl]
      show et_go none _ 74 26 [some (.ref rd), some (.int (Int32.ofNat i)), some (.int (Int32.ofNat e)), some (.int (Int32.ofNat (((10 * v) + (b k)) - 48))), some (.int (Int32.ofNat (k + 1)))] [] _ _ _ _
      exact ih (e - (k + 1)) (by omega) (by omega) (fun q h1 h2 => hdg q (by omega) h2) rfl
theorem fc_num (hH : et_H et_TT K G) (k_rd : K rd = some 7) (r0 : et_pl (eg_at G rd) 0 = some (.ref tp)) (k_tp : K tp = some 33) (r1 : et_pl (eg_at G rd) 1 = some (.int (Int32.ofNat n))) (hn : n ≤ 400) (ht : ∀ i, i < n → et_pl (eg_at G tp) i = some (.int (Int32.ofNat (b i)))) (hb : ∀ i, i < n → b i < 256) (hi : i < n) (hd : 1 ≤ d2) : et_go none d2 74 0 (eg_en (eg_mL 74) [.ref rd, .int (Int32.ofNat i), .int (Int32.ofNat (tz_end b n i))]) [] G 0 0 (xp_Z G (some (.int (tz_i (tz_nm b n i))))) := by
  obtain ⟨d, rfl⟩ : ∃ d, d2 = d + 1 := ⟨d2 - 1, by omega⟩
  have hel := tz_end_le (b := b) hi
  generalize he : tz_end b n i = e at hel ⊢
  rw [show eg_mL 74 = 5 from by decide +kernel]
  show et_go none (d + 1) 74 0 [some (.ref rd), some (.int (Int32.ofNat i)), some (.int (Int32.ofNat e)), none, none] [] G 0 0 _
  have lt_rd := (hH.2.2 _ _ k_rd).1
  have lt_tp := (hH.2.2 _ _ k_tp).1
  refine hs_iload (i := 2) (p := 1) (by decide +kernel) rfl ?_
  refine hs_iload (i := 1) (p := 2) (by decide +kernel) rfl ?_
  refine hs_isubn (p := 3) (by decide +kernel) (by omega) ?_
  refine hs_k (x := Int32.ofNat 4) (p := 4) (by decide +kernel) ?_
  refine hs_br2n (c := .gt) (t := 19) (f := 7) (by decide +kernel) (by omega) (by omega) (fun (c4 : 4 < (e - i)) => ?_) (fun (c4 : ¬ (4 < (e - i))) => ?_)
  · refine hs_k (x := (-1)) (p := 20) (by decide +kernel) ?_
    refine hs_iret (by decide +kernel) ?_
    rw [show tz_nm b n i = none from if_pos (.inl (by rw [he]; omega))]
    rfl
  · refine hs_aload (i := 0) (p := 8) (by decide +kernel) rfl ?_
    refine hf_get (T := et_TT) (t := 7) (ci := 5) (f := 0) (p := 11) (by decide +kernel) rfl hH k_rd r0 ?_
    refine hs_iload (i := 1) (p := 12) (by decide +kernel) rfl ?_
    refine hf_ald (ins := .caload) (T := et_TT) (t := 33) (kd := 4) (N := 400) (p := 13) (by decide +kernel) (fun _ _ _ _ _ _ _ _ _ _ => rfl) rfl rfl rfl hH k_tp (by decide) (ht i (by omega)) ?_
    refine hs_calls (mi := 70) (na := 1) (lk := 5) (lm := 1) (L0 := eg_en (eg_mL 70) [.int (Int32.ofNat (b i))]) (by decide +kernel) rfl rfl rfl rfl rfl rfl (by rw [show eg_mL 70 = 1 from by decide +kernel]; first | done | rfl) ?_
    refine (fc_tz_d (hb i (by omega))).mono (fun u hu => xp_cb hu ?_)
    by_cases s13 : tz_d (b i) = true
    · rw [if_pos s13]
      show et_go none _ 74 16 _ [.int (Int32.ofNat 1)] _ _ _ _
      refine hs_if1 (c := .ne) (t := 21) (f := 19) (by decide +kernel) (show ¬ Int32.ofNat 1 = 0 by decide) ?_
      refine hs_k (x := Int32.ofNat 0) (p := 22) (by decide +kernel) ?_
      refine hs_istore (i := 3) (p := 23) (by decide +kernel) (Nat.le_of_ble_eq_true rfl) ?_
      refine hs_iload (i := 1) (p := 24) (by decide +kernel) rfl ?_
      refine hs_istore (i := 4) (p := 26) (by decide +kernel) (Nat.le_of_ble_eq_true rfl) ?_
      rw [show tz_nm b n i = some (tz_nu b (e - i) i 0) from by unfold tz_nm; rw [he]; exact if_neg (fun h => h.elim (fun h => by omega) (fun h => by rw [s13] at h; cases h))]
      exact fc_numL hH k_rd r0 k_tp r1 hn ht hb (by omega) (by omega) (fun q h1 h2 => tz_end_d hi s13 q h1 (by rw [he]; exact h2))
    · rw [if_neg s13]
      show et_go none _ 74 16 _ [.int (Int32.ofNat 0)] _ _ _ _
      refine hs_if0 (c := .ne) (t := 21) (f := 19) (by decide +kernel) (show ¬ (¬ Int32.ofNat 0 = 0) by decide) ?_
      refine hs_k (x := (-1)) (p := 20) (by decide +kernel) ?_
      refine hs_iret (by decide +kernel) ?_
      rw [show tz_nm b n i = none from if_pos (.inr (by simpa using s13))]
      rfl
theorem fc_txL (hH : et_H et_TT K G) (k_rd : K rd = some 7) (r0 : et_pl (eg_at G rd) 0 = some (.ref tp)) (k_tp : K tp = some 33) (r1 : et_pl (eg_at G rd) 1 = some (.int (Int32.ofNat n))) (hn : n ≤ 400) (ht : ∀ i, i < n → et_pl (eg_at G tp) i = some (.int (Int32.ofNat (b i)))) (hb : ∀ i, i < n → b i < 256) {k : Nat} (hj : j < 56) (hk : k ≤ rs_n j) (hin : i + rs_n j ≤ n) : et_go none (d + 5) 73 15 [some (.ref rd), some (.ref (36 + j)), some (.int (Int32.ofNat i)), some (.int (Int32.ofNat e)), some (.int (Int32.ofNat k))] [] G 0 0 (xp_Z G (some (.int (Int32.ofNat (if tz_eq b (i + k) ((tz_by j).drop k) = true then 1 else 0))))) := by
  have hG : 152 ≤ G.2 := hH.1
  have hrn := rs_nlt (j := j)
  induction hm : rs_n j - k using Nat.strongRecOn generalizing k with
  | _ z ih =>
    have lt_rd := (hH.2.2 _ _ k_rd).1
    have lt_tp := (hH.2.2 _ _ k_tp).1
    refine hs_iload (i := 4) (p := 17) (by decide +kernel) rfl ?_
    refine hs_aload (i := 1) (p := 18) (by decide +kernel) rfl ?_
    refine hs_callv (mi := 294) (na := 0) (ci := 13) (lk := 5) (lm := 1) (by decide +kernel) rfl rfl rfl rfl rfl rfl (by omega) (by rw [rs_con hj]; rfl) (rs_len hG hj (hs_cb ?_))
    show et_go none _ 73 21 _ [.int (Int32.ofNat (rs_n j)), .int (Int32.ofNat k)] _ _ _ _
    refine hs_br2n (c := .ge) (t := 61) (f := 24) (by decide +kernel) (by omega) (by omega) (fun (c21 : (rs_n j) ≤ k) => ?_) (fun (c21 : ¬ ((rs_n j) ≤ k)) => ?_)
    · refine hs_k (x := Int32.ofNat 1) (p := 62) (by decide +kernel) ?_
      refine hs_zret (by decide +kernel) (.inr rfl) ?_
      rw [show (tz_by j).drop k = [] from List.drop_eq_nil_iff.mpr (by rw [tz_by_len]; omega)]
      rfl
    · refine hs_iload (i := 2) (p := 25) (by decide +kernel) rfl ?_
      refine hs_iload (i := 4) (p := 27) (by decide +kernel) rfl ?_
      refine hs_iaddn (p := 28) (by decide +kernel) ?_
      refine hs_aload (i := 0) (p := 29) (by decide +kernel) rfl ?_
      refine hf_get (T := et_TT) (t := 7) (ci := 5) (f := 1) (p := 32) (by decide +kernel) rfl hH k_rd r1 ?_
      refine hs_br2n (c := .ge) (t := 61) (f := 35) (by decide +kernel) (by omega) (by omega) (fun (c32 : n ≤ (i + k)) => ?_) (fun (c32 : ¬ (n ≤ (i + k))) => ?_)
      · exact absurd c32 (by omega)
      · refine hs_aload (i := 0) (p := 36) (by decide +kernel) rfl ?_
        refine hf_get (T := et_TT) (t := 7) (ci := 5) (f := 0) (p := 39) (by decide +kernel) rfl hH k_rd r0 ?_
        refine hs_iload (i := 2) (p := 40) (by decide +kernel) rfl ?_
        refine hs_iload (i := 4) (p := 42) (by decide +kernel) rfl ?_
        refine hs_iaddn (p := 43) (by decide +kernel) ?_
        refine hf_ald (ins := .caload) (T := et_TT) (t := 33) (kd := 4) (N := 400) (p := 44) (by decide +kernel) (fun _ _ _ _ _ _ _ _ _ _ => rfl) rfl rfl rfl hH k_tp (by decide) (ht (i + k) (by omega)) ?_
        have hb43 := hb (i + k) (by omega)
        have hc43 := tz_by_lt (j := j) (k := k)
        refine hs_aload (i := 1) (p := 45) (by decide +kernel) rfl ?_
        refine hs_iload (i := 4) (p := 47) (by decide +kernel) rfl ?_
        refine hs_callv (mi := 296) (na := 1) (ci := 13) (lk := 5) (lm := 2) (by decide +kernel) rfl rfl rfl rfl rfl rfl (by omega) (by rw [rs_con hj]; rfl) (rs_chrX hG hj (by omega) (hs_cb ?_))
        show et_go none _ 73 50 _ [.int (Int32.ofNat ((tz_by j).getD k 0)), .int (Int32.ofNat (b (i + k)))] _ _ _ _
        refine hs_br2n (c := .eq) (t := 55) (f := 53) (by decide +kernel) (by omega) (by omega) (fun (c50 : (b (i + k)) = ((tz_by j).getD k 0)) => ?_) (fun (c50 : ¬ ((b (i + k)) = ((tz_by j).getD k 0))) => ?_)
        · refine hs_iinc1 (i := 4) (p := 58) (by decide +kernel) rfl (Nat.le_of_ble_eq_true rfl) ?_
          refine hs_goto (p := 15) (by decide +kernel) ?_
          rw [tz_eq_s (by omega), c50, beq_self_eq_true, Bool.true_and]
          show et_go none _ 73 15 [some (.ref rd), some (.ref (36 + j)), some (.int (Int32.ofNat i)), some (.int (Int32.ofNat e)), some (.int (Int32.ofNat (k + 1)))] [] _ _ _ _
          exact ih (rs_n j - (k + 1)) (by omega) (by omega) rfl
        · refine hs_k (x := Int32.ofNat 0) (p := 54) (by decide +kernel) ?_
          refine hs_zret (by decide +kernel) (.inl rfl) ?_
          rw [tz_eq_s (by omega), show (b (i + k) == (tz_by j).getD k 0) = false from beq_eq_false_iff_ne.mpr c50]
          rfl
theorem fc_text (hH : et_H et_TT K G) (k_rd : K rd = some 7) (r0 : et_pl (eg_at G rd) 0 = some (.ref tp)) (k_tp : K tp = some 33) (r1 : et_pl (eg_at G rd) 1 = some (.int (Int32.ofNat n))) (hn : n ≤ 400) (ht : ∀ i, i < n → et_pl (eg_at G tp) i = some (.int (Int32.ofNat (b i)))) (hb : ∀ i, i < n → b i < 256) (hj : j < 56) (hie : i ≤ e) (hen : e ≤ n) (hd : 5 ≤ d2) : et_go none d2 73 0 (eg_en (eg_mL 73) [.ref rd, .ref (36 + j), .int (Int32.ofNat i), .int (Int32.ofNat e)]) [] G 0 0 (xp_Z G (some (.int (Int32.ofNat (if tz_is b (tz_by j) i e = true then 1 else 0))))) := by
  obtain ⟨d, rfl⟩ : ∃ d, d2 = d + 5 := ⟨d2 - 5, by omega⟩
  have hG : 152 ≤ G.2 := hH.1
  have hrn := rs_nlt (j := j)
  rw [show eg_mL 73 = 5 from by decide +kernel]
  show et_go none (d + 5) 73 0 [some (.ref rd), some (.ref (36 + j)), some (.int (Int32.ofNat i)), some (.int (Int32.ofNat e)), none] [] G 0 0 _
  have lt_rd := (hH.2.2 _ _ k_rd).1
  have lt_tp := (hH.2.2 _ _ k_tp).1
  refine hs_aload (i := 1) (p := 1) (by decide +kernel) rfl ?_
  refine hs_callv (mi := 294) (na := 0) (ci := 13) (lk := 5) (lm := 1) (by decide +kernel) rfl rfl rfl rfl rfl rfl (by omega) (by rw [rs_con hj]; rfl) (rs_len hG hj (hs_cb ?_))
  show et_go none _ 73 4 _ [.int (Int32.ofNat (rs_n j))] _ _ _ _
  refine hs_iload (i := 3) (p := 5) (by decide +kernel) rfl ?_
  refine hs_iload (i := 2) (p := 6) (by decide +kernel) rfl ?_
  refine hs_isubn (p := 7) (by decide +kernel) (by omega) ?_
  refine hs_br2n (c := .eq) (t := 12) (f := 10) (by decide +kernel) (by omega) (by omega) (fun (c7 : (rs_n j) = (e - i)) => ?_) (fun (c7 : ¬ ((rs_n j) = (e - i))) => ?_)
  · refine hs_k (x := Int32.ofNat 0) (p := 13) (by decide +kernel) ?_
    refine hs_istore (i := 4) (p := 15) (by decide +kernel) (Nat.le_of_ble_eq_true rfl) ?_
    rw [show tz_is b (tz_by j) i e = tz_eq b (i + 0) ((tz_by j).drop 0) from by unfold tz_is; rw [tz_by_len, c7, beq_self_eq_true, Bool.true_and]; rfl]
    exact fc_txL hH k_rd r0 k_tp r1 hn ht hb hj (Nat.zero_le _) (by omega)
  · refine hs_k (x := Int32.ofNat 0) (p := 11) (by decide +kernel) ?_
    refine hs_zret (by decide +kernel) (.inl rfl) ?_
    rw [show tz_is b (tz_by j) i e = false from by unfold tz_is; rw [tz_by_len, beq_eq_false_iff_ne.mpr c7, Bool.false_and]]
    rfl
theorem fc_wdL (hH : et_H et_TT K G) (k_rd : K rd = some 7) (r0 : et_pl (eg_at G rd) 0 = some (.ref tp)) (k_tp : K tp = some 33) (r1 : et_pl (eg_at G rd) 1 = some (.int (Int32.ofNat n))) (hn : n ≤ 400) (ht : ∀ i, i < n → et_pl (eg_at G tp) i = some (.int (Int32.ofNat (b i)))) (hb : ∀ i, i < n → b i < 256) {w : Nat} {x5 : Option Value} (hpl : pl ≤ 3) (hie : i ≤ e) (hen : e ≤ n) (hw : w ≤ 36) : et_go none (d + 7) 72 19 [some (.ref rd), some (.int (Int32.ofNat i)), some (.int (Int32.ofNat e)), some (.int (Int32.ofNat pl)), some (.int (Int32.ofNat w)), x5] [] G 0 0 (xp_Z G (some (.ref (tz_fd pl b i e (36 - w) w)))) := by
  have hG : 152 ≤ G.2 := hH.1
  induction hm : 36 - w using Nat.strongRecOn generalizing w x5 with
  | _ z ih =>
    rw [← hm]
    have lt_rd := (hH.2.2 _ _ k_rd).1
    have lt_tp := (hH.2.2 _ _ k_tp).1
    refine hs_iload (i := 4) (p := 21) (by decide +kernel) rfl ?_
    refine hs_gst (v := Value.ref 148) (p := 24) (by decide +kernel) ?_
    refine tz_len148 (p := 25) (by decide +kernel) hG ?_
    refine hs_br2n (c := .ge) (t := 77) (f := 28) (by decide +kernel) (by omega) (by omega) (fun (c25 : 36 ≤ w) => ?_) (fun (c25 : ¬ (36 ≤ w)) => ?_)
    · refine hs_gst (v := Value.ref 35) (p := 80) (by decide +kernel) ?_
      refine hs_aret (cn := "KnobEye$Word") (by decide +kernel) ?_
      rw [show 36 - w = 0 from by omega]
      rfl
    · have hw : w < 36 := by omega
      have hp3 := tz_pl3 hw
      refine hs_gst (v := Value.ref 148) (p := 31) (by decide +kernel) ?_
      refine hs_iload (i := 4) (p := 33) (by decide +kernel) rfl ?_
      refine hw_ald (p := 34) (by decide +kernel) hG (by omega) ?_
      refine hs_astore (i := 5) (p := 36) (by decide +kernel) (Nat.le_of_ble_eq_true rfl) ?_
      refine hs_aload (i := 5) (p := 38) (by decide +kernel) rfl ?_
      refine hs_get (ci := 12) (f := 2) (p := 41) (by decide +kernel) (hw_at hw) (by omega) (tz_plw hw) ?_
      refine hs_iload (i := 3) (p := 42) (by decide +kernel) rfl ?_
      refine hs_br2n (c := .eq) (t := 54) (f := 45) (by decide +kernel) (by omega) (by omega) (fun (c42 : (tz_pl w) = pl) => ?_) (fun (c42 : ¬ ((tz_pl w) = pl)) => ?_)
      · refine hs_aload (i := 0) (p := 55) (by decide +kernel) rfl ?_
        refine hs_aload (i := 5) (p := 57) (by decide +kernel) rfl ?_
        refine hs_get (ci := 12) (f := 1) (p := 60) (by decide +kernel) (hw_at hw) (by omega) rfl ?_
        refine hs_iload (i := 1) (p := 61) (by decide +kernel) rfl ?_
        refine hs_iload (i := 2) (p := 62) (by decide +kernel) rfl ?_
        refine ht_callv (T := et_TT) (t := 7) (mi := 73) (na := 3) (ci := 5) (lk := 6) (lm := 5) (L0 := eg_en (eg_mL 73) [.ref rd, .ref (36 + (eg_wf.getD w (0, 0, 0)).1), .int (Int32.ofNat i), .int (Int32.ofNat e)]) (by decide +kernel) rfl hH k_rd rfl rfl rfl rfl rfl (by rw [show eg_mL 73 = 5 from by decide +kernel]; first | done | rfl) ?_
        refine (fc_text hH k_rd r0 k_tp r1 hn ht hb (tz_wj hw) hie hen (by omega)).mono (fun u hu => xp_cb hu ?_)
        by_cases t62 : tz_is b (tz_by (eg_wf.getD w (0, 0, 0)).1) i e = true
        · rw [if_pos t62]
          show et_go none _ 72 65 _ [.int (Int32.ofNat 1)] _ _ _ _
          refine hs_if0 (c := .eq) (t := 71) (f := 68) (by decide +kernel) (show ¬ (Int32.ofNat 1 = 0) by decide) ?_
          refine hs_aload (i := 5) (p := 70) (by decide +kernel) rfl ?_
          refine hs_aret (cn := "KnobEye$Word") (by decide +kernel) ?_
          rw [tz_fd_y (by omega) (.inl c42) t62]
          rfl
        · rw [if_neg t62]
          show et_go none _ 72 65 _ [.int (Int32.ofNat 0)] _ _ _ _
          refine hs_if1 (c := .eq) (t := 71) (f := 68) (by decide +kernel) (show Int32.ofNat 0 = 0 by decide) ?_
          refine hs_iinc1 (i := 4) (p := 74) (by decide +kernel) rfl (Nat.le_of_ble_eq_true rfl) ?_
          refine hs_goto (p := 19) (by decide +kernel) ?_
          rw [tz_fd_n (by omega) (fun h => by rw [Bool.and_eq_true] at h; exact t62 h.2)]
          show et_go none _ 72 19 [some (.ref rd), some (.int (Int32.ofNat i)), some (.int (Int32.ofNat e)), some (.int (Int32.ofNat pl)), some (.int (Int32.ofNat (w + 1))), some (.ref w)] [] _ _ _ _
          exact ih (36 - (w + 1)) (by omega) (by omega) rfl
      · refine hs_aload (i := 5) (p := 47) (by decide +kernel) rfl ?_
        refine hs_get (ci := 12) (f := 2) (p := 50) (by decide +kernel) (hw_at hw) (by omega) (tz_plw hw) ?_
        refine hs_k (x := Int32.ofNat 3) (p := 51) (by decide +kernel) ?_
        refine hs_br2n (c := .ne) (t := 71) (f := 54) (by decide +kernel) (by omega) (by omega) (fun (c51 : ¬ (tz_pl w) = 3) => ?_) (fun (c51 : ¬ (¬ (tz_pl w) = 3)) => ?_)
        · refine hs_iinc1 (i := 4) (p := 74) (by decide +kernel) rfl (Nat.le_of_ble_eq_true rfl) ?_
          refine hs_goto (p := 19) (by decide +kernel) ?_
          rw [tz_fd_n (by omega) (fun h => by rw [Bool.and_eq_true] at h; rcases tz_ok_iff.mp h.1 with h1 | h1; exact c42 h1; exact c51 h1)]
          show et_go none _ 72 19 [some (.ref rd), some (.int (Int32.ofNat i)), some (.int (Int32.ofNat e)), some (.int (Int32.ofNat pl)), some (.int (Int32.ofNat (w + 1))), some (.ref w)] [] _ _ _ _
          exact ih (36 - (w + 1)) (by omega) (by omega) rfl
        · refine hs_aload (i := 0) (p := 55) (by decide +kernel) rfl ?_
          refine hs_aload (i := 5) (p := 57) (by decide +kernel) rfl ?_
          refine hs_get (ci := 12) (f := 1) (p := 60) (by decide +kernel) (hw_at hw) (by omega) rfl ?_
          refine hs_iload (i := 1) (p := 61) (by decide +kernel) rfl ?_
          refine hs_iload (i := 2) (p := 62) (by decide +kernel) rfl ?_
          refine ht_callv (T := et_TT) (t := 7) (mi := 73) (na := 3) (ci := 5) (lk := 6) (lm := 5) (L0 := eg_en (eg_mL 73) [.ref rd, .ref (36 + (eg_wf.getD w (0, 0, 0)).1), .int (Int32.ofNat i), .int (Int32.ofNat e)]) (by decide +kernel) rfl hH k_rd rfl rfl rfl rfl rfl (by rw [show eg_mL 73 = 5 from by decide +kernel]; first | done | rfl) ?_
          refine (fc_text hH k_rd r0 k_tp r1 hn ht hb (tz_wj hw) hie hen (by omega)).mono (fun u hu => xp_cb hu ?_)
          by_cases t62 : tz_is b (tz_by (eg_wf.getD w (0, 0, 0)).1) i e = true
          · rw [if_pos t62]
            show et_go none _ 72 65 _ [.int (Int32.ofNat 1)] _ _ _ _
            refine hs_if0 (c := .eq) (t := 71) (f := 68) (by decide +kernel) (show ¬ (Int32.ofNat 1 = 0) by decide) ?_
            refine hs_aload (i := 5) (p := 70) (by decide +kernel) rfl ?_
            refine hs_aret (cn := "KnobEye$Word") (by decide +kernel) ?_
            rw [tz_fd_y (by omega) (.inr (by omega)) t62]
            rfl
          · rw [if_neg t62]
            show et_go none _ 72 65 _ [.int (Int32.ofNat 0)] _ _ _ _
            refine hs_if1 (c := .eq) (t := 71) (f := 68) (by decide +kernel) (show Int32.ofNat 0 = 0 by decide) ?_
            refine hs_iinc1 (i := 4) (p := 74) (by decide +kernel) rfl (Nat.le_of_ble_eq_true rfl) ?_
            refine hs_goto (p := 19) (by decide +kernel) ?_
            rw [tz_fd_n (by omega) (fun h => by rw [Bool.and_eq_true] at h; exact t62 h.2)]
            show et_go none _ 72 19 [some (.ref rd), some (.int (Int32.ofNat i)), some (.int (Int32.ofNat e)), some (.int (Int32.ofNat pl)), some (.int (Int32.ofNat (w + 1))), some (.ref w)] [] _ _ _ _
            exact ih (36 - (w + 1)) (by omega) (by omega) rfl
theorem fc_word (hH : et_H et_TT K G) (k_rd : K rd = some 7) (r0 : et_pl (eg_at G rd) 0 = some (.ref tp)) (k_tp : K tp = some 33) (r1 : et_pl (eg_at G rd) 1 = some (.int (Int32.ofNat n))) (hn : n ≤ 400) (ht : ∀ i, i < n → et_pl (eg_at G tp) i = some (.int (Int32.ofNat (b i)))) (hb : ∀ i, i < n → b i < 256) (hpl : pl ≤ 3) (hi : i < n) (hd : 7 ≤ d2) : et_go none d2 72 0 (eg_en (eg_mL 72) [.ref rd, .int (Int32.ofNat i), .int (Int32.ofNat (tz_end b n i)), .int (Int32.ofNat pl)]) [] G 0 0 (xp_Z G (some (.ref (tz_wd pl b n i)))) := by
  obtain ⟨d, rfl⟩ : ∃ d, d2 = d + 7 := ⟨d2 - 7, by omega⟩
  have hel := tz_end_le (b := b) hi
  rw [show eg_mL 72 = 6 from by decide +kernel]
  show et_go none (d + 7) 72 0 [some (.ref rd), some (.int (Int32.ofNat i)), some (.int (Int32.ofNat (tz_end b n i))), some (.int (Int32.ofNat pl)), none, none] [] G 0 0 _
  have lt_rd := (hH.2.2 _ _ k_rd).1
  have lt_tp := (hH.2.2 _ _ k_tp).1
  refine hs_aload (i := 0) (p := 1) (by decide +kernel) rfl ?_
  refine hf_get (T := et_TT) (t := 7) (ci := 5) (f := 0) (p := 4) (by decide +kernel) rfl hH k_rd r0 ?_
  refine hs_iload (i := 1) (p := 5) (by decide +kernel) rfl ?_
  refine hf_ald (ins := .caload) (T := et_TT) (t := 33) (kd := 4) (N := 400) (p := 6) (by decide +kernel) (fun _ _ _ _ _ _ _ _ _ _ => rfl) rfl rfl rfl hH k_tp (by decide) (ht i (by omega)) ?_
  refine hs_calls (mi := 70) (na := 1) (lk := 6) (lm := 1) (L0 := eg_en (eg_mL 70) [.int (Int32.ofNat (b i))]) (by decide +kernel) rfl rfl rfl rfl rfl rfl (by rw [show eg_mL 70 = 1 from by decide +kernel]; first | done | rfl) ?_
  refine (fc_tz_d (hb i (by omega))).mono (fun u hu => xp_cb hu ?_)
  by_cases s6 : tz_d (b i) = true
  · rw [if_pos s6]
    show et_go none _ 72 9 _ [.int (Int32.ofNat 1)] _ _ _ _
    refine hs_if0 (c := .eq) (t := 16) (f := 12) (by decide +kernel) (show ¬ (Int32.ofNat 1 = 0) by decide) ?_
    refine hs_gst (v := Value.ref 33) (p := 15) (by decide +kernel) ?_
    refine hs_aret (cn := "KnobEye$Word") (by decide +kernel) ?_
    rw [show tz_wd pl b n i = 33 from if_pos s6]
    rfl
  · rw [if_neg s6]
    show et_go none _ 72 9 _ [.int (Int32.ofNat 0)] _ _ _ _
    refine hs_if1 (c := .eq) (t := 16) (f := 12) (by decide +kernel) (show Int32.ofNat 0 = 0 by decide) ?_
    refine hs_k (x := Int32.ofNat 0) (p := 17) (by decide +kernel) ?_
    refine hs_istore (i := 4) (p := 19) (by decide +kernel) (Nat.le_of_ble_eq_true rfl) ?_
    rw [show tz_wd pl b n i = tz_fd pl b i (tz_end b n i) (36 - 0) 0 from if_neg s6]
    exact fc_wdL hH k_rd r0 k_tp r1 hn ht hb hpl (by omega) (by omega) (by omega)
end FLA
