/-! THE INTERPRETER ON TOKENS IS RIGHT -/
section EC
variable {xs : Nat → Int32} {o idx pc len ck sk i k d : Nat} {ini : Bool} {L L2 : eg_Ls} {st st2 : List Value} {G H : eg_G} {I : ea_I}
theorem ea_bd_mem {α β : Type} {f : α → Option (List β)} : ∀ {l : List α} {m : List β}, ea_bd f l = some m → ∀ {a : α}, a ∈ l → ∃ r, f a = some r ∧ ∀ x ∈ r, x ∈ m
  | [], _, _, _, h => (nomatch h)
  | b :: t, m, hb, a, ha => by
    unfold ea_bd at hb
    split at hb
    · cases hb
    · rename_i l hl
      split at hb
      · cases hb
      · rename_i m2 hm
        cases hb
        rcases List.mem_cons.mp ha with rfl | ha
        · exact ⟨l, hl, fun x hx => List.mem_append_left _ hx⟩
        · obtain ⟨r, h1, h2⟩ := ea_bd_mem hm ha
          exact ⟨r, h1, fun x hx => List.mem_append_right _ (h2 x hx)⟩
theorem ea_fk_ok {k : Nat} {ps : List (Int × Int × Nat)} {l : List (ea_I × Nat)} (h : ea_fk I k ps = some l) (hI : ea_in xs I) {x : Int32} (hx : k < 7 → x = ea_t xs k) {q : Int × Int × Nat} (hq : q ∈ ps) (h1 : q.1 ≤ x.toInt) (h2 : x.toInt ≤ q.2.1) : ∃ J, (J, q.2.2) ∈ l ∧ ea_in xs J := by
  unfold ea_fk at h
  split at h
  · cases h
  · rename_i a b hk
    split at h
    · rename_i h7
      cases h
      have e := hx h7
      have hb := hI k (a, b) hk
      rw [← e] at hb
      obtain ⟨ha, hb⟩ := hb
      dsimp only at ha hb
      have c1 : (if a ≤ q.1 then q.1 else a) ≤ x.toInt := by split <;> assumption
      have c2 : x.toInt ≤ (if b ≤ q.2.1 then b else q.2.1) := by split <;> assumption
      refine ⟨_, List.mem_filterMap.mpr ⟨q, hq, by unfold ea_fk1; rw [if_pos (Int.le_trans c1 c2)]⟩, ?_⟩
      intro k' p hp
      rw [List.getElem?_set] at hp
      split at hp
      · rename_i hkk
        subst hkk
        split at hp
        · cases hp
          rw [← e]
          exact ⟨c1, c2⟩
        · cases hp
      · exact hI _ _ hp
    · cases h
theorem ea_ps_ok (c : Jvm.ClassFile.Cond) (x y : Int32) (t f : Nat) : ∃ q ∈ ea_ps c y.toInt t f, q.1 ≤ x.toInt ∧ x.toInt ≤ q.2.1 ∧ q.2.2 = ea_br c x y t f := by
  have b1 : ea_lo ≤ x.toInt := x.le_toInt
  have b2 : x.toInt ≤ ea_hi := Int.le_of_lt_add_one x.toInt_lt
  rcases Int.lt_trichotomy x.toInt y.toInt with h | h | h
  · have e1 : x < y := Int32.lt_iff_toInt_lt.mpr h
    have e2 : ¬ x = y := fun e => by rw [e] at h; omega
    have e3 : ¬ y ≤ x := fun e => by have := Int32.le_iff_toInt_le.mp e; omega
    have e4 : ¬ y < x := fun e => by have := Int32.lt_iff_toInt_lt.mp e; omega
    have e5 : x ≤ y := Int32.le_iff_toInt_le.mpr (by omega)
    cases c
    · exact ⟨_, List.mem_cons_self, by first | exact b1 | (dsimp only; omega), by first | exact b2 | (dsimp only; omega), (if_neg e2).symm⟩
    · exact ⟨_, List.mem_cons_self, by first | exact b1 | (dsimp only; omega), by first | exact b2 | (dsimp only; omega), (if_pos e2).symm⟩
    · exact ⟨_, List.mem_cons_self, by first | exact b1 | (dsimp only; omega), by first | exact b2 | (dsimp only; omega), (if_pos e1).symm⟩
    · exact ⟨_, List.mem_cons_self, by first | exact b1 | (dsimp only; omega), by first | exact b2 | (dsimp only; omega), (if_neg e3).symm⟩
    · exact ⟨_, List.mem_cons_self, by first | exact b1 | (dsimp only; omega), by first | exact b2 | (dsimp only; omega), (if_neg e4).symm⟩
    · exact ⟨_, List.mem_cons_self, by first | exact b1 | (dsimp only; omega), by first | exact b2 | (dsimp only; omega), (if_pos e5).symm⟩
  · have e1 : ¬ x < y := fun e => by have := Int32.lt_iff_toInt_lt.mp e; omega
    have e2 : x = y := Int32.toInt_inj.mp h
    have e3 : y ≤ x := Int32.le_iff_toInt_le.mpr (by omega)
    have e4 : ¬ y < x := fun e => by have := Int32.lt_iff_toInt_lt.mp e; omega
    have e5 : x ≤ y := Int32.le_iff_toInt_le.mpr (by omega)
    cases c
    · exact ⟨_, List.mem_cons_of_mem _ List.mem_cons_self, by first | exact b1 | (dsimp only; omega), by first | exact b2 | (dsimp only; omega), (if_pos e2).symm⟩
    · exact ⟨_, List.mem_cons_of_mem _ List.mem_cons_self, by first | exact b1 | (dsimp only; omega), by first | exact b2 | (dsimp only; omega), (if_neg (fun e => e e2)).symm⟩
    · exact ⟨_, List.mem_cons_of_mem _ List.mem_cons_self, by first | exact b1 | (dsimp only; omega), by first | exact b2 | (dsimp only; omega), (if_neg e1).symm⟩
    · exact ⟨_, List.mem_cons_of_mem _ List.mem_cons_self, by first | exact b1 | (dsimp only; omega), by first | exact b2 | (dsimp only; omega), (if_pos e3).symm⟩
    · exact ⟨_, List.mem_cons_self, by first | exact b1 | (dsimp only; omega), by first | exact b2 | (dsimp only; omega), (if_neg e4).symm⟩
    · exact ⟨_, List.mem_cons_self, by first | exact b1 | (dsimp only; omega), by first | exact b2 | (dsimp only; omega), (if_pos e5).symm⟩
  · have e1 : ¬ x < y := fun e => by have := Int32.lt_iff_toInt_lt.mp e; omega
    have e2 : ¬ x = y := fun e => by rw [e] at h; omega
    have e3 : y ≤ x := Int32.le_iff_toInt_le.mpr (by omega)
    have e4 : y < x := Int32.lt_iff_toInt_lt.mpr h
    have e5 : ¬ x ≤ y := fun e => by have := Int32.le_iff_toInt_le.mp e; omega
    cases c
    · exact ⟨_, List.mem_cons_of_mem _ (List.mem_cons_of_mem _ List.mem_cons_self), by first | exact b1 | (dsimp only; omega), by first | exact b2 | (dsimp only; omega), (if_neg e2).symm⟩
    · exact ⟨_, List.mem_cons_of_mem _ (List.mem_cons_of_mem _ List.mem_cons_self), by first | exact b1 | (dsimp only; omega), by first | exact b2 | (dsimp only; omega), (if_pos e2).symm⟩
    · exact ⟨_, List.mem_cons_of_mem _ List.mem_cons_self, by first | exact b1 | (dsimp only; omega), by first | exact b2 | (dsimp only; omega), (if_neg e1).symm⟩
    · exact ⟨_, List.mem_cons_of_mem _ List.mem_cons_self, by first | exact b1 | (dsimp only; omega), by first | exact b2 | (dsimp only; omega), (if_pos e3).symm⟩
    · exact ⟨_, List.mem_cons_of_mem _ List.mem_cons_self, by first | exact b1 | (dsimp only; omega), by first | exact b2 | (dsimp only; omega), (if_pos e4).symm⟩
    · exact ⟨_, List.mem_cons_of_mem _ List.mem_cons_self, by first | exact b1 | (dsimp only; omega), by first | exact b2 | (dsimp only; omega), (if_neg e5).symm⟩
theorem ea_fl_br (c : Jvm.ClassFile.Cond) (x y : Int32) (t f : Nat) : ea_br (ea_fl c) y x t f = ea_br c x y t f := by
  cases c
  · unfold ea_fl ea_br
    dsimp only
    by_cases h : x = y
    · rw [if_pos h, if_pos h.symm]
    · rw [if_neg h, if_neg (fun e => h e.symm)]
  · unfold ea_fl ea_br
    dsimp only
    by_cases h : x = y
    · rw [if_neg (fun e => e h.symm), if_neg (fun e => e h)]
    · rw [if_pos h, if_pos (fun e => h e.symm)]
  all_goals rfl
theorem ea_tp_ok {pc : Nat} : ∀ {l : List Int} {lo x off : Int}, lo ≤ x → l[(x - lo).toNat]? = some off → (x, x, eg_tg pc off) ∈ ea_tp pc lo l
  | [], _, _, _, _, h => by cases h
  | a :: t, lo, x, off, hl, h => by
    by_cases e : x = lo
    · subst e
      rw [Int.sub_self] at h
      cases h
      exact List.mem_cons_self
    · have e2 : (x - lo).toNat = (x - (lo + 1)).toNat + 1 := by omega
      rw [e2] at h
      exact List.mem_cons_of_mem _ (ea_tp_ok (by omega) h)
theorem ea_mk_ok {r : Option (List (ea_I × Nat))} {l : List (ea_I × eg_S)} (h : ea_mk L st G ck sk r = some l) : ∃ rl, r = some rl ∧ ∀ J t, (J, t) ∈ rl → (J, (t, L, st, G, ck, sk)) ∈ l := by
  unfold ea_mk at h
  split at h
  · cases h
  · rename_i rl
    cases h
    exact ⟨rl, rfl, fun J t hm => List.mem_map.mpr ⟨(J, t), hm, rfl⟩⟩
theorem ea_yl_ok {l : List (ea_I × eg_S)} (h : ea_yl I pc len L st G ck sk i = some l) (hI : ea_in xs I) (hL : ea_lr xs L L2) (hs : ea_sr xs st st2) (hG : ea_gr xs G H) : ∃ e ∈ l, ea_in xs e.1 ∧ ea_K xs (eg_li pc L2 st2 H ck sk i len) e.2 := by
  unfold ea_yl at h
  split at h
  · rename_i k hd
    cases h
    obtain ⟨w, e, x, rfl, hx⟩ := ea_lr_ld hL hd
    refine ⟨_, List.mem_cons_self, hI, ?_⟩
    unfold eg_li
    rw [e]
    exact ea_k1 ⟨x, rfl, hx⟩ hL hs hG
  · cases h
theorem ea_ys_ok {l : List (ea_I × eg_S)} (h : ea_ys I pc len L st G ck sk i = some l) (hI : ea_in xs I) (hL : ea_lr xs L L2) (hs : ea_sr xs st st2) (hG : ea_gr xs G H) : ∃ e ∈ l, ea_in xs e.1 ∧ ea_K xs (eg_si pc L2 st2 H ck sk i len) e.2 := by
  unfold ea_ys at h
  split at h
  · split at h
    · rename_i hc
      cases h
      obtain ⟨_, r2, rfl, ⟨x, rfl, hx⟩, hr⟩ := hs
      refine ⟨_, List.mem_cons_self, hI, ?_⟩
      unfold eg_si
      dsimp only
      rw [if_pos (by rw [ea_lr_len hL]; exact hc)]
      exact ea_k0 (ea_lr_s1 i hL ⟨x, rfl, hx⟩) hr hG
    · cases h
  · cases h
theorem ea_any (x : Int32) : ea_vr xs (.float 99) (.int x) := ⟨x, rfl, fun h => absurd h (by decide)⟩
theorem ea_yb_ok {m : Bool} {f : Int32 → Int32 → Int32} {l : List (ea_I × eg_S)} (h : ea_yb m I pc L st G ck sk = some l) (hm : m = true → ∀ x y, f x y = x &&& y) (hI : ea_in xs I) (hL : ea_lr xs L L2) (hs : ea_sr xs st st2) (hG : ea_gr xs G H) : ∃ e ∈ l, ea_in xs e.1 ∧ ea_K xs (eg_ii pc L2 st2 H ck sk f) e.2 := by
  unfold ea_yb at h
  split at h
  · rename_i z k r
    obtain ⟨_, _, rfl, rfl, _, r2, rfl, ⟨x, rfl, hx⟩, hr⟩ := hs
    split at h
    · rename_i hc
      cases h
      refine ⟨_, List.mem_cons_self, hI, ea_k1 ⟨_, rfl, fun _ => ?_⟩ hL hr hG⟩
      have e : x = ea_t xs k.toNat := hx (by rw [hc.2.2]; decide)
      rw [hc.2.2] at e
      rw [hm hc.1, e, hc.2.1]
      rfl
    · cases h
      exact ⟨_, List.mem_cons_self, hI, ea_k1 (ea_any _) hL hr hG⟩
  · cases h
    obtain ⟨_, _, rfl, ⟨x, rfl, hx⟩, _, r2, rfl, rfl, hr⟩ := hs
    exact ⟨_, List.mem_cons_self, hI, ea_k1 (ea_any _) hL hr hG⟩
  · cases h
    obtain ⟨_, _, rfl, ⟨x, rfl, hx⟩, _, r2, rfl, ⟨y, rfl, hy⟩, hr⟩ := hs
    exact ⟨_, List.mem_cons_self, hI, ea_k1 (ea_any _) hL hr hG⟩
  · cases h
theorem ea_ya_ok {ins : Instr} {l : List (ea_I × eg_S)} (h : ea_ya ins I pc L st G ck sk = some l) (hI : ea_in xs I) (hL : ea_lr xs L L2) (hs : ea_sr xs st st2) (hG : ea_gr xs G H) : ∃ e ∈ l, ea_in xs e.1 ∧ ea_K xs (eg_aw ins pc L2 st2 H ck sk) e.2 := by
  unfold ea_ya at h
  split at h
  · rename_i v i a r
    split at h
    · rename_i t n f he
      split at h
      · rename_i hc
        cases h
        obtain ⟨_, _, rfl, ⟨x, rfl, hx⟩, _, _, rfl, rfl, _, r2, rfl, rfl, hr⟩ := hs
        have h1 := ea_at hG a
        rw [he] at h1
        obtain ⟨g, e, hg⟩ := h1
        have hw : ∃ z, eg_wr H t (n, .inl g) i.toNatClampNeg (.int x) = some (n, .inl (upd g i.toNatClampNeg z)) := by
          rcases hc.2.2.2.2 with rfl | rfl | rfl | rfl
          · exact ⟨_, rfl⟩
          · exact ⟨_, rfl⟩
          · exact ⟨_, rfl⟩
          · exact ⟨_, rfl⟩
        obtain ⟨z, hz⟩ := hw
        refine ⟨_, List.mem_cons_self, hI, ?_⟩
        unfold eg_aw
        dsimp only
        rw [e]
        dsimp only
        rw [if_pos ⟨hc.1, by rw [hG.1]; exact hc.2.1, hc.2.2.1, hc.2.2.2.1⟩, hz]
        refine ea_k0 hL hr (ea_u hG a ⟨_, rfl, fun j => ?_⟩)
        unfold upd
        split
        · exact .inl rfl
        · exact hg j
      · cases h
    · cases h
  · cases h
theorem ea_yp_ok {l : List (ea_I × eg_S)} (h : ea_yp o ini idx I pc L st G ck sk = some l) (hI : ea_in xs I) (hL : ea_lr xs L L2) (hs : ea_sr xs st st2) (hG : ea_gr xs G H) : ∃ e ∈ l, ea_in xs e.1 ∧ ea_K xs (eg_pf o ini idx pc L2 st2 H ck sk) e.2 := by
  unfold ea_yp at h
  unfold eg_pf
  split at h
  · rename_i ci k hh hlk
    try rw [hlk]
    try dsimp only
    split at h
    · rename_i v a r
      split at h
      · rename_i cj fs he
        split at h
        · rename_i hc
          cases h
          obtain ⟨_, _, rfl, ⟨x, rfl, hx⟩, _, r2, rfl, rfl, hr⟩ := hs
          have h1 := ea_at hG a
          rw [he] at h1
          obtain ⟨gs, e, hg⟩ := h1
          have hf : eg_fit ((eg_yl.getD ci (fun _ => .int)) k) (.int x) = true := by
            have h9 := hc.2.2.2.2.1
            revert h9
            generalize (eg_yl.getD ci (fun _ => .int)) k = ty
            intro h9
            cases ty <;> first | rfl | cases h9
          refine ⟨_, List.mem_cons_self, hI, ?_⟩
          dsimp only
          rw [e]
          dsimp only
          rw [if_pos ⟨hc.1, by rw [hG.1]; exact hc.2.1, hc.2.2.1, by rw [ea_sr_len hg]; exact hc.2.2.2.1, hf, hc.2.2.2.2.2⟩]
          exact ea_k0 hL hr (ea_u hG a ⟨_, rfl, ea_sr_set k hg ⟨x, rfl, hx⟩⟩)
        · cases h
      · cases h
    · cases h
  · cases h
set_option maxHeartbeats 4000000 in
theorem ea_sy_ok {ins : Instr} {l : List (ea_I × eg_S)} (h : ea_sy I o ini pc ins L st G ck sk = some l) (hI : ea_in xs I) (hL : ea_lr xs L L2) (hs : ea_sr xs st st2) (hG : ea_gr xs G H) : ∃ e ∈ l, ea_in xs e.1 ∧ ea_K xs (eg_st o ini eg_MC eg_MS pc len ins L2 st2 H ck sk) e.2 := by
  cases ins with
  | iload i => exact ea_yl_ok h hI hL hs hG
  | iload_n i => exact ea_yl_ok h hI hL hs hG
  | istore i => exact ea_ys_ok h hI hL hs hG
  | istore_n i => exact ea_ys_ok h hI hL hs hG
  | iadd => exact ea_yb_ok (m := false) h (fun h9 => nomatch h9) hI hL hs hG
  | isub => exact ea_yb_ok (m := false) h (fun h9 => nomatch h9) hI hL hs hG
  | imul => exact ea_yb_ok (m := false) h (fun h9 => nomatch h9) hI hL hs hG
  | ior => exact ea_yb_ok (m := false) h (fun h9 => nomatch h9) hI hL hs hG
  | ixor => exact ea_yb_ok (m := false) h (fun h9 => nomatch h9) hI hL hs hG
  | ishl => exact ea_yb_ok (m := false) h (fun h9 => nomatch h9) hI hL hs hG
  | ishr => exact ea_yb_ok (m := false) h (fun h9 => nomatch h9) hI hL hs hG
  | iushr => exact ea_yb_ok (m := false) h (fun h9 => nomatch h9) hI hL hs hG
  | iand => exact ea_yb_ok (m := true) h (fun _ _ _ => rfl) hI hL hs hG
  | i2b =>
    dsimp only [ea_sy] at h
    unfold ea_y1 at h
    split at h
    · cases h
      obtain ⟨_, r2, rfl, ⟨x, rfl, hx⟩, hr⟩ := hs
      exact ⟨_, List.mem_cons_self, hI, ea_k1 (ea_any _) hL hr hG⟩
    · cases h
  | i2c =>
    dsimp only [ea_sy] at h
    unfold ea_y1 at h
    split at h
    · cases h
      obtain ⟨_, r2, rfl, ⟨x, rfl, hx⟩, hr⟩ := hs
      exact ⟨_, List.mem_cons_self, hI, ea_k1 (ea_any _) hL hr hG⟩
    · cases h
  | iastore => exact ea_ya_ok h hI hL hs hG
  | bastore => exact ea_ya_ok h hI hL hs hG
  | castore => exact ea_ya_ok h hI hL hs hG
  | putfield i => exact ea_yp_ok h hI hL hs hG
  | ifCond c off =>
    dsimp only [ea_sy] at h
    split at h
    · rename_i k r
      split at h
      · rename_i hc
        obtain ⟨rl, hrl, hm⟩ := ea_mk_ok h
        obtain ⟨_, r2, rfl, ⟨x, rfl, hx⟩, hr⟩ := hs
        obtain ⟨q, hq, q1, q2, q3⟩ := ea_ps_ok c x 0 (eg_tg pc off) (pc + 3)
        obtain ⟨J, hJ, hJI⟩ := ea_fk_ok hrl hI hx hq q1 q2
        refine ⟨_, hm _ _ hJ, hJI, ?_⟩
        rw [q3]
        dsimp only [eg_st]
        rw [if_pos hc]
        cases c <;> exact ea_k0 hL hr hG
      · cases h
    · cases h
  | if_icmp c off =>
    dsimp only [ea_sy] at h
    split at h
    · rename_i y k r
      split at h
      · rename_i hc
        obtain ⟨rl, hrl, hm⟩ := ea_mk_ok h
        obtain ⟨_, _, rfl, rfl, _, r2, rfl, ⟨x, rfl, hx⟩, hr⟩ := hs
        obtain ⟨q, hq, q1, q2, q3⟩ := ea_ps_ok c x y (eg_tg pc off) (pc + 3)
        obtain ⟨J, hJ, hJI⟩ := ea_fk_ok hrl hI hx hq q1 q2
        refine ⟨_, hm _ _ hJ, hJI, ?_⟩
        rw [q3]
        dsimp only [eg_st]
        rw [if_pos hc]
        cases c <;> exact ea_k0 hL hr hG
      · cases h
    · rename_i k y r
      split at h
      · rename_i hc
        obtain ⟨rl, hrl, hm⟩ := ea_mk_ok h
        obtain ⟨_, _, rfl, ⟨x, rfl, hx⟩, _, r2, rfl, rfl, hr⟩ := hs
        obtain ⟨q, hq, q1, q2, q3⟩ := ea_ps_ok (ea_fl c) x y (eg_tg pc off) (pc + 3)
        obtain ⟨J, hJ, hJI⟩ := ea_fk_ok hrl hI hx hq q1 q2
        refine ⟨_, hm _ _ hJ, hJI, ?_⟩
        rw [q3, ea_fl_br]
        dsimp only [eg_st]
        rw [if_pos hc]
        cases c <;> exact ea_k0 hL hr hG
      · cases h
    · cases h
  | tableswitch df lo hi offs =>
    dsimp only [ea_sy] at h
    split at h
    · rename_i k r
      split at h
      · rename_i hc
        obtain ⟨hc1, hc2, hc3⟩ := hc
        obtain ⟨rl, hrl, hm⟩ := ea_mk_ok h
        obtain ⟨_, r2, rfl, ⟨x, rfl, hx⟩, hr⟩ := hs
        dsimp only [eg_st]
        by_cases h1 : x.toInt < lo
        · obtain ⟨J, hJ, hJI⟩ := ea_fk_ok hrl hI hx List.mem_cons_self x.le_toInt (show x.toInt ≤ lo - 1 by omega)
          refine ⟨_, hm _ _ hJ, hJI, ?_⟩
          rw [if_pos (.inl h1), if_pos hc1]
          exact ea_k0 hL hr hG
        · by_cases h2 : hi < x.toInt
          · obtain ⟨J, hJ, hJI⟩ := ea_fk_ok hrl hI hx (List.mem_cons_of_mem _ List.mem_cons_self) (show hi + 1 ≤ x.toInt by omega) (Int.le_of_lt_add_one x.toInt_lt)
            refine ⟨_, hm _ _ hJ, hJI, ?_⟩
            rw [if_pos (.inr h2), if_pos hc1]
            exact ea_k0 hL hr hG
          · have hj : (x.toInt - lo).toNat < offs.toList.length := by omega
            have e0 : offs.toList[(x.toInt - lo).toNat]? = some (offs.toList[(x.toInt - lo).toNat]) := List.getElem?_eq_getElem hj
            generalize offs.toList[(x.toInt - lo).toNat] = off at e0
            obtain ⟨J, hJ, hJI⟩ := ea_fk_ok hrl hI hx (List.mem_cons_of_mem _ (List.mem_cons_of_mem _ (ea_tp_ok (pc := pc) (by omega) e0))) (Int.le_refl _) (Int.le_refl _)
            refine ⟨_, hm _ _ hJ, hJI, ?_⟩
            have e1 : offs[(x.toInt - lo).toNat]? = some off := by rw [← Array.getElem?_toList]; exact e0
            have e2 : 0 ≤ (pc : Int) + off := of_decide_eq_true (List.all_eq_true.mp hc2 off (List.mem_of_getElem? e0))
            rw [if_neg (fun h9 => h9.elim h1 h2), e1]
            dsimp only
            rw [if_pos e2]
            exact ea_k0 hL hr hG
      · cases h
    · cases h
  | _ =>
    dsimp only [ea_sy] at h
    cases h
theorem ea_step_ok {ins : Instr} {l : List (ea_I × eg_S)} (h : ea_step I o ini pc len ins L st G ck sk = some l) (hI : ea_in xs I) (hL : ea_lr xs L L2) (hs : ea_sr xs st st2) (hG : ea_gr xs G H) : ∃ e ∈ l, ea_in xs e.1 ∧ ea_K xs (eg_st o ini eg_MC eg_MS pc len ins L2 st2 H ck sk) e.2 := by
  unfold ea_step at h
  split at h
  · rename_i l2 h2
    cases h
    exact ea_sy_ok h2 hI hL hs hG
  · split at h
    · rename_i S hS
      cases h
      exact ⟨_, List.mem_cons_self, hI, ea_st hS hL hs hG⟩
    · cases h
end EC
