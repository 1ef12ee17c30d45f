/-! A TEXT IS KEPT: the loop -/
theorem ea_rt1 {q : Nat} {scr : eg_Sc} {d k pc len ck sk : Nat} {ins : Instr} {L : eg_Ls} {st : List Value} {G : eg_G} {v : Option Value} (hcd : eg_cd k pc = some (ins, len)) (hr : eg_rr ins (eg_mr k) st = some v) : eg_rn (q + 1) scr d k pc L st G ck sk = some (.inl v, G, ck, sk) := by
  show eg_one (eg_rn q) scr d k pc L st G ck sk = _
  unfold eg_one
  rw [hcd]
  dsimp only
  rw [hr]
theorem ea_c1 {q : Nat} {scr : eg_Sc} {d k pc i mi kd ck sk : Nat} {x : Option String} {L : eg_Ls} {r : List Value} {G : eg_G} {v w : Value} (hcd : eg_cd k pc = some (.invokestatic i, 3)) (hlk : (eg_mT.getD (eg_mo k) []).lookup i = some (mi, kd, x)) (hk : kd = 0 ∨ kd = 3) (hm : ¬ 310 ≤ mi) (ha : eg_ma mi = 1) (hc : eg_cat r ≤ 8) (hL : L.length = eg_mL k) (he : (eg_en0 [v]).length ≤ eg_mL mi) (h3 : mi < 316) (h4 : ¬ eg_mo mi = 20) (hrun : eg_rn q none d mi 0 (eg_en (eg_mL mi) [v]) [] G 0 0 = some (.inl (some w), G, 0, 0)) : eg_rn (q + 1) scr (d + 1) k pc L (v :: r) G ck sk = eg_rn q scr (d + 1) k (pc + 3) L (w :: r) G ck sk := by
  show eg_one (eg_rn q) scr (d + 1) k pc L (v :: r) G ck sk = _
  unfold eg_one
  rw [hcd]
  dsimp only
  rw [show eg_rr (.invokestatic i) (eg_mr k) (v :: r) = none from rfl]
  dsimp only
  rw [show eg_sc scr (.invokestatic i) pc L (v :: r) G ck sk = none from by cases scr <;> rfl]
  dsimp only
  rw [show eg_th k pc (.invokestatic i) = none from rfl]
  dsimp only
  rw [show eg_ik (.invokestatic i) = some (0, i) from rfl]
  dsimp only
  rw [ea_v0 hlk, if_neg (fun h => hm h.2.1), if_pos ⟨hk, by rw [ha]; exact Nat.succ_le_succ (Nat.zero_le _)⟩, ha]
  show eg_cl1 (eg_rn q) scr (d + 1) k pc mi [v] r L G ck sk = _
  unfold eg_cl1
  rw [if_pos ⟨hc, hL, he, h3, h4⟩]
  dsimp only
  rw [hrun]
  rfl
theorem ea_ta {q d tn : Nat} {G : eg_G} : eg_rn (q + 6) none d 187 0 [some (.int (Int32.ofNat tn))] [] G 0 0 = some (.inl (some (.int (Int32.ofNat (126 + 841 * tn)))), G, 0, 0) := by
  have e : (126 : Int32) + 841 * Int32.ofNat tn = Int32.ofNat (126 + 841 * tn) := by
    rw [Int32.ofNat_add, Int32.ofNat_mul]
    rfl
  rw [← e]
  generalize Int32.ofNat tn = t
  have s1 : eg_rn (q + 6) none d 187 0 [some (.int t)] [] G 0 0 = eg_rn (q + 5) none d 187 2 [some (.int t)] [.int 126] G 0 0 := ea_1 (ins := .bipush 126) (len := 2) (by decide +kernel) rfl rfl rfl
  have s2 : eg_rn (q + 5) none d 187 2 [some (.int t)] [.int 126] G 0 0 = eg_rn (q + 4) none d 187 5 [some (.int t)] [.int 841, .int 126] G 0 0 := ea_1 (ins := .sipush 841) (len := 3) (by decide +kernel) rfl rfl rfl
  have s3 : eg_rn (q + 4) none d 187 5 [some (.int t)] [.int 841, .int 126] G 0 0 = eg_rn (q + 3) none d 187 6 [some (.int t)] [.int t, .int 841, .int 126] G 0 0 := ea_1 (ins := .iload_n 0) (len := 1) (by decide +kernel) rfl rfl rfl
  have s4 : eg_rn (q + 3) none d 187 6 [some (.int t)] [.int t, .int 841, .int 126] G 0 0 = eg_rn (q + 2) none d 187 7 [some (.int t)] [.int (841 * t), .int 126] G 0 0 := ea_1 (ins := .imul) (len := 1) (by decide +kernel) rfl rfl rfl
  have s5 : eg_rn (q + 2) none d 187 7 [some (.int t)] [.int (841 * t), .int 126] G 0 0 = eg_rn (q + 1) none d 187 8 [some (.int t)] [.int (126 + 841 * t)] G 0 0 := ea_1 (ins := .iadd) (len := 1) (by decide +kernel) rfl rfl rfl
  have s6 : eg_rn (q + 1) none d 187 8 [some (.int t)] [.int (126 + 841 * t)] G 0 0 = some (.inl (some (.int (126 + 841 * t))), G, 0, 0) := ea_rt1 (ins := .ireturn) (len := 1) (by decide +kernel) (by
    rw [show eg_mr 187 = some .int from rfl]
    show (if eg_nr .int (126 + 841 * t) = true then some (some (Value.int (126 + 841 * t))) else none) = _
    rw [if_pos (show eg_nr .int (126 + 841 * t) = true from decide_eq_true rfl)])
  exact s1.trans (s2.trans (s3.trans (s4.trans (s5.trans s6))))
theorem ea_kp {G : eg_G} {a w nw tn : Nat} {fs : List Value} {g0 : Nat → Int32} (htn : tn ≤ 13) (ha : eg_at G a = .inr (11, fs)) (hfw : fs[1]? = some (.ref w)) (hnw : 12741 ≤ nw) (haw : ¬ a = w) (cw : eg_NC ≤ w) (lw : w < G.2) (la : a < G.2) :
    ∀ (n i : Nat), i + n = 841 → ∀ g2 : Nat → Int32, (∀ j, ¬ (126 + 841 * tn ≤ j ∧ j < 126 + 841 * tn + 841) → g2 j = g0 j) → ∃ g3 : Nat → Int32, (∀ j, ¬ (126 + 841 * tn ≤ j ∧ j < 126 + 841 * tn + 841) → g3 j = g0 j) ∧ ∀ (scr : eg_Sc) (d r ck sk : Nat), eg_rn (r + (19 * n + 3)) scr (d + 1) 206 2 [some (.ref a), some (.int (Int32.ofNat tn)), some (.int (Int32.ofNat i))] [] (eg_u G w (.inl (0, (nw, .inl g2)))) ck sk = eg_rn r scr (d + 1) 206 38 [some (.ref a), some (.int (Int32.ofNat tn)), some (.int 841)] [] (eg_u G w (.inl (0, (nw, .inl g3)))) ck sk
  | 0, i, hi, g2, hg2 => ⟨g2, hg2, fun scr d r ck sk => by
    have e : i = 841 := by omega
    subst e
    generalize eg_u G w (.inl (0, (nw, .inl g2))) = H
    generalize Int32.ofNat tn = t
    have s1 : eg_rn (r + 3) scr (d + 1) 206 2 [some (.ref a), some (.int t), some (.int (Int32.ofNat 841))] [] H ck sk = eg_rn (r + 2) scr (d + 1) 206 3 [some (.ref a), some (.int t), some (.int 841)] [.int 841] H ck sk := ea_1 (ins := .iload_n 2) (len := 1) (by decide +kernel) rfl (by cases scr <;> rfl) rfl
    have s2 : eg_rn (r + 2) scr (d + 1) 206 3 [some (.ref a), some (.int t), some (.int 841)] [.int 841] H ck sk = eg_rn (r + 1) scr (d + 1) 206 6 [some (.ref a), some (.int t), some (.int 841)] [.int 841, .int 841] H ck sk := ea_1 (ins := .sipush 841) (len := 3) (by decide +kernel) rfl (by cases scr <;> rfl) rfl
    have s3 : eg_rn (r + 1) scr (d + 1) 206 6 [some (.ref a), some (.int t), some (.int 841)] [.int 841, .int 841] H ck sk = eg_rn r scr (d + 1) 206 38 [some (.ref a), some (.int t), some (.int 841)] [] H ck sk := ea_1 (ins := .if_icmp .ge 32) (len := 3) (by decide +kernel) rfl (by cases scr <;> rfl) rfl
    exact s1.trans (s2.trans s3)⟩
  | n + 1, i, hi, g2, hg2 => by
    have hlt : i < 841 := by omega
    have e1 : (Int32.ofNat i).toInt = i := Int32.toInt_ofNat_of_lt (by omega)
    have e3 : ¬ (841 : Int32) ≤ Int32.ofNat i := fun h => by
      have h1 := Int32.le_iff_toInt_le.mp h
      rw [e1] at h1
      have h2 : (841 : Int32).toInt = 841 := by decide
      omega
    have e4 : Int32.ofNat i + 1 = Int32.ofNat (i + 1) := (Int32.ofNat_add i 1).symm
    have f1 : Int32.ofNat (126 + 841 * tn) + Int32.ofNat i = Int32.ofNat (126 + 841 * tn + i) := (Int32.ofNat_add _ _).symm
    have f2 : Int32.ofNat (126 + 841 * 14) + Int32.ofNat i = Int32.ofNat (126 + 841 * 14 + i) := (Int32.ofNat_add _ _).symm
    have n1 : (Int32.ofNat (126 + 841 * tn + i)).toInt = ((126 + 841 * tn + i : Nat) : Int) := Int32.toInt_ofNat_of_lt (by omega)
    have n2 : (Int32.ofNat (126 + 841 * 14 + i)).toInt = ((126 + 841 * 14 + i : Nat) : Int) := Int32.toInt_ofNat_of_lt (by omega)
    have n3 : (Int32.ofNat (126 + 841 * tn + i)).toNatClampNeg = 126 + 841 * tn + i := Int32.toNatClampNeg_ofNat_of_lt (by omega)
    obtain ⟨g3, hg3, h3⟩ := ea_kp (g0 := g0) htn ha hfw hnw haw cw lw la n (i + 1) (by omega) (upd g2 (Int32.ofNat (126 + 841 * tn + i)).toNatClampNeg (g2 (Int32.ofNat (126 + 841 * 14 + i)).toNatClampNeg)) (fun j hj => by
      unfold upd
      rw [n3, if_neg (fun e => hj ⟨by omega, by omega⟩)]
      exact hg2 j hj)
    refine ⟨g3, hg3, fun scr d r ck sk => ?_⟩
    rw [← h3 scr d r ck sk, ← e4]
    generalize hH : eg_u G w (.inl (0, (nw, .inl g2))) = H
    have ha2 : eg_at H a = .inr (11, fs) := by rw [← hH, ea_at_u haw]; exact ha
    have hw2 : eg_at H w = .inl (0, (nw, .inl g2)) := by rw [← hH]; exact ea_at_us cw
    have hs2 : H.2 = G.2 := by rw [← hH]; rfl
    have hu : eg_u G w (.inl (0, (nw, .inl (upd g2 (Int32.ofNat (126 + 841 * tn + i)).toNatClampNeg (g2 (Int32.ofNat (126 + 841 * 14 + i)).toNatClampNeg))))) = eg_u H w (.inl (0, (nw, .inl (upd g2 (Int32.ofNat (126 + 841 * tn + i)).toNatClampNeg (g2 (Int32.ofNat (126 + 841 * 14 + i)).toNatClampNeg))))) := by rw [← hH, ea_uu]
    rw [hu]
    have m0 : 0 ≤ (Int32.ofNat (126 + 841 * tn + i)).toInt := by rw [n1]; omega
    have m1 : (Int32.ofNat (126 + 841 * tn + i)).toInt < (nw : Int) := by rw [n1]; omega
    have m2 : 0 ≤ (Int32.ofNat (126 + 841 * 14 + i)).toInt := by rw [n2]; omega
    have m3 : (Int32.ofNat (126 + 841 * 14 + i)).toInt < (nw : Int) := by rw [n2]; omega
    rw [← f1, ← f2]
    rw [← f1] at m0 m1
    rw [← f2] at m2 m3
    generalize Int32.ofNat i = x at e3 m0 m1 m2 m3
    generalize hr : r + (19 * n + 3) = q
    have hr2 : r + (19 * (n + 1) + 3) = q + 19 := by omega
    rw [hr2]
    have ht : ∀ (q d : Nat), eg_rn (q + 6) none d 187 0 (eg_en (eg_mL 187) [.int (Int32.ofNat tn)]) [] H 0 0 = some (.inl (some (.int (Int32.ofNat (126 + 841 * tn)))), H, 0, 0) := fun q d => ea_ta
    have ht4 : ∀ (q d : Nat), eg_rn (q + 6) none d 187 0 (eg_en (eg_mL 187) [.int 14]) [] H 0 0 = some (.inl (some (.int (Int32.ofNat (126 + 841 * 14)))), H, 0, 0) := fun q d => ea_ta (tn := 14)
    generalize Int32.ofNat (126 + 841 * tn) = T at m0 m1 ht
    generalize Int32.ofNat (126 + 841 * 14) = U at m2 m3 ht4
    generalize Int32.ofNat tn = t at ht
    have s0 : eg_rn (q + 19) scr (d + 1) 206 2 [some (.ref a), some (.int t), some (.int x)] [] H ck sk = eg_rn (q + 18) scr (d + 1) 206 3 [some (.ref a), some (.int t), some (.int x)] [.int x] H ck sk := ea_1 (ins := .iload_n 2) (len := 1) (by decide +kernel) rfl (by cases scr <;> rfl) rfl
    have s1 : eg_rn (q + 18) scr (d + 1) 206 3 [some (.ref a), some (.int t), some (.int x)] [.int x] H ck sk = eg_rn (q + 17) scr (d + 1) 206 6 [some (.ref a), some (.int t), some (.int x)] [.int 841, .int x] H ck sk := ea_1 (ins := .sipush 841) (len := 3) (by decide +kernel) rfl (by cases scr <;> rfl) rfl
    have s2 : eg_rn (q + 17) scr (d + 1) 206 6 [some (.ref a), some (.int t), some (.int x)] [.int 841, .int x] H ck sk = eg_rn (q + 16) scr (d + 1) 206 9 [some (.ref a), some (.int t), some (.int x)] [] H ck sk := ea_1 (ins := .if_icmp .ge 32) (len := 3) (by decide +kernel) rfl (by cases scr <;> rfl) (by
      dsimp only [eg_st]
      rw [if_pos (by decide), if_neg e3])
    have s3 : eg_rn (q + 16) scr (d + 1) 206 9 [some (.ref a), some (.int t), some (.int x)] [] H ck sk = eg_rn (q + 15) scr (d + 1) 206 10 [some (.ref a), some (.int t), some (.int x)] [.ref a] H ck sk := ea_1 (ins := .aload_n 0) (len := 1) (by decide +kernel) rfl (by cases scr <;> rfl) rfl
    have s4 : eg_rn (q + 15) scr (d + 1) 206 10 [some (.ref a), some (.int t), some (.int x)] [.ref a] H ck sk = eg_rn (q + 14) scr (d + 1) 206 13 [some (.ref a), some (.int t), some (.int x)] [.ref w] H ck sk := ea_1 (ins := .getfield 13) (len := 3) (by decide +kernel) rfl (by cases scr <;> rfl) (ea_gf1 (o := eg_mo 206) (idx := 13) (pc := 10) (ci := 11) (k := 1) (y := none) (by decide +kernel) ha2 (by rw [hs2]; exact la) hfw)
    have s5 : eg_rn (q + 14) scr (d + 1) 206 13 [some (.ref a), some (.int t), some (.int x)] [.ref w] H ck sk = eg_rn (q + 13) scr (d + 1) 206 14 [some (.ref a), some (.int t), some (.int x)] [.int t, .ref w] H ck sk := ea_1 (ins := .iload_n 1) (len := 1) (by decide +kernel) rfl (by cases scr <;> rfl) rfl
    have s6 : eg_rn (q + 13) scr (d + 1) 206 14 [some (.ref a), some (.int t), some (.int x)] [.int t, .ref w] H ck sk = eg_rn (q + 12) scr (d + 1) 206 17 [some (.ref a), some (.int t), some (.int x)] [.int T, .ref w] H ck sk := ea_c1 (i := 143) (mi := 187) (kd := 0) (x := none) (by decide +kernel) (by decide +kernel) (.inl rfl) (by decide) (by decide +kernel) (Nat.le_of_ble_eq_true rfl) (show 3 = eg_mL 206 by decide +kernel) (show 1 ≤ eg_mL 187 by decide +kernel) (by decide) (by decide +kernel) (ht (q + 6) d)
    have s7 : eg_rn (q + 12) scr (d + 1) 206 17 [some (.ref a), some (.int t), some (.int x)] [.int T, .ref w] H ck sk = eg_rn (q + 11) scr (d + 1) 206 18 [some (.ref a), some (.int t), some (.int x)] [.int x, .int T, .ref w] H ck sk := ea_1 (ins := .iload_n 2) (len := 1) (by decide +kernel) rfl (by cases scr <;> rfl) rfl
    have s8 : eg_rn (q + 11) scr (d + 1) 206 18 [some (.ref a), some (.int t), some (.int x)] [.int x, .int T, .ref w] H ck sk = eg_rn (q + 10) scr (d + 1) 206 19 [some (.ref a), some (.int t), some (.int x)] [.int (T + x), .ref w] H ck sk := ea_1 (ins := .iadd) (len := 1) (by decide +kernel) rfl (by cases scr <;> rfl) rfl
    have s9 : eg_rn (q + 10) scr (d + 1) 206 19 [some (.ref a), some (.int t), some (.int x)] [.int (T + x), .ref w] H ck sk = eg_rn (q + 9) scr (d + 1) 206 20 [some (.ref a), some (.int t), some (.int x)] [.ref a, .int (T + x), .ref w] H ck sk := ea_1 (ins := .aload_n 0) (len := 1) (by decide +kernel) rfl (by cases scr <;> rfl) rfl
    have s10 : eg_rn (q + 9) scr (d + 1) 206 20 [some (.ref a), some (.int t), some (.int x)] [.ref a, .int (T + x), .ref w] H ck sk = eg_rn (q + 8) scr (d + 1) 206 23 [some (.ref a), some (.int t), some (.int x)] [.ref w, .int (T + x), .ref w] H ck sk := ea_1 (ins := .getfield 13) (len := 3) (by decide +kernel) rfl (by cases scr <;> rfl) (ea_gf1 (o := eg_mo 206) (idx := 13) (pc := 20) (ci := 11) (k := 1) (y := none) (by decide +kernel) ha2 (by rw [hs2]; exact la) hfw)
    have s11 : eg_rn (q + 8) scr (d + 1) 206 23 [some (.ref a), some (.int t), some (.int x)] [.ref w, .int (T + x), .ref w] H ck sk = eg_rn (q + 7) scr (d + 1) 206 25 [some (.ref a), some (.int t), some (.int x)] [.int 14, .ref w, .int (T + x), .ref w] H ck sk := ea_1 (ins := .bipush 14) (len := 2) (by decide +kernel) rfl (by cases scr <;> rfl) rfl
    have s12 : eg_rn (q + 7) scr (d + 1) 206 25 [some (.ref a), some (.int t), some (.int x)] [.int 14, .ref w, .int (T + x), .ref w] H ck sk = eg_rn (q + 6) scr (d + 1) 206 28 [some (.ref a), some (.int t), some (.int x)] [.int U, .ref w, .int (T + x), .ref w] H ck sk := ea_c1 (i := 143) (mi := 187) (kd := 0) (x := none) (by decide +kernel) (by decide +kernel) (.inl rfl) (by decide) (by decide +kernel) (Nat.le_of_ble_eq_true rfl) (show 3 = eg_mL 206 by decide +kernel) (show 1 ≤ eg_mL 187 by decide +kernel) (by decide) (by decide +kernel) (ht4 q d)
    have s13 : eg_rn (q + 6) scr (d + 1) 206 28 [some (.ref a), some (.int t), some (.int x)] [.int U, .ref w, .int (T + x), .ref w] H ck sk = eg_rn (q + 5) scr (d + 1) 206 29 [some (.ref a), some (.int t), some (.int x)] [.int x, .int U, .ref w, .int (T + x), .ref w] H ck sk := ea_1 (ins := .iload_n 2) (len := 1) (by decide +kernel) rfl (by cases scr <;> rfl) rfl
    have s14 : eg_rn (q + 5) scr (d + 1) 206 29 [some (.ref a), some (.int t), some (.int x)] [.int x, .int U, .ref w, .int (T + x), .ref w] H ck sk = eg_rn (q + 4) scr (d + 1) 206 30 [some (.ref a), some (.int t), some (.int x)] [.int (U + x), .ref w, .int (T + x), .ref w] H ck sk := ea_1 (ins := .iadd) (len := 1) (by decide +kernel) rfl (by cases scr <;> rfl) rfl
    have s15 : eg_rn (q + 4) scr (d + 1) 206 30 [some (.ref a), some (.int t), some (.int x)] [.int (U + x), .ref w, .int (T + x), .ref w] H ck sk = eg_rn (q + 3) scr (d + 1) 206 31 [some (.ref a), some (.int t), some (.int x)] [.int (g2 (U + x).toNatClampNeg), .int (T + x), .ref w] H ck sk := ea_1 (ins := .iaload) (len := 1) (by decide +kernel) rfl (by
      cases scr with
      | none => rfl
      | some p =>
        obtain ⟨n, f⟩ := p
        dsimp only [eg_sc]
        rw [if_neg (fun h => by
          have h2 : eg_NC ≤ 150 := h.1 ▸ cw
          exact absurd h2 (by decide))]) (ea_ar1 hw2 (by rw [hs2]; exact lw) m2 m3)
    have s16 : eg_rn (q + 3) scr (d + 1) 206 31 [some (.ref a), some (.int t), some (.int x)] [.int (g2 (U + x).toNatClampNeg), .int (T + x), .ref w] H ck sk = eg_rn (q + 2) scr (d + 1) 206 32 [some (.ref a), some (.int t), some (.int x)] [] (eg_u H w (.inl (0, (nw, .inl (upd g2 (T + x).toNatClampNeg (g2 (U + x).toNatClampNeg)))))) ck sk := ea_1 (ins := .iastore) (len := 1) (by decide +kernel) rfl (by cases scr <;> rfl) (ea_aw1 hw2 cw (by rw [hs2]; exact lw) m0 m1)
    generalize (eg_u H w (.inl (0, (nw, .inl (upd g2 (T + x).toNatClampNeg (g2 (U + x).toNatClampNeg)))))) = K at s16
    have s17 : eg_rn (q + 2) scr (d + 1) 206 32 [some (.ref a), some (.int t), some (.int x)] [] K ck sk = eg_rn (q + 1) scr (d + 1) 206 35 [some (.ref a), some (.int t), some (.int (x + 1))] [] K ck sk := ea_1 (ins := .iinc 2 1) (len := 3) (by decide +kernel) rfl (by cases scr <;> rfl) rfl
    have s18 : eg_rn (q + 1) scr (d + 1) 206 35 [some (.ref a), some (.int t), some (.int (x + 1))] [] K ck sk = eg_rn (q) scr (d + 1) 206 2 [some (.ref a), some (.int t), some (.int (x + 1))] [] K ck sk := ea_1 (ins := .goto (-33)) (len := 3) (by decide +kernel) rfl (by cases scr <;> rfl) rfl
    exact s0.trans (s1.trans (s2.trans (s3.trans (s4.trans (s5.trans (s6.trans (s7.trans (s8.trans (s9.trans (s10.trans (s11.trans (s12.trans (s13.trans (s14.trans (s15.trans (s16.trans (s17.trans s18)))))))))))))))))
theorem ea_h2_ok {xs : Nat → Int32} {L L2 : eg_Ls} {st st2 : List Value} {G H : eg_G} {k pc ck sk : Nat} {S : eg_S} (h : ea_h2 k pc L st G ck sk = some S) (hL : ea_lr xs L L2) (hs : ea_sr xs st st2) (hG : ea_gr xs G H) : ∃ L3 st3 H3, ea_lr xs S.2.1 L3 ∧ ea_sr xs S.2.2.1 st3 ∧ ea_gr xs S.2.2.2.1 H3 ∧ ∃ n, ∀ (scr : eg_Sc) (d r : Nat), eg_rn (r + n) scr (d + 1) k pc L2 st2 H ck sk = eg_rn r scr (d + 1) k S.1 L3 st3 H3 S.2.2.2.2.1 S.2.2.2.2.2 := by
  unfold ea_h2 at h
  split at h
  · rename_i hkp
    obtain ⟨rfl, rfl⟩ := hkp
    split at h
    · rename_i a t i
      split at h
      · rename_i hi
        obtain ⟨rfl, ht0, ht1⟩ := hi
        split at h
        · rename_i cj fs hfs
          split at h
          · rename_i w hfw
            split at h
            · rename_i tw nw fw hw
              split at h
              · rename_i hc
                obtain ⟨rfl, rfl, c1, c2, c4, c5, c8, c9⟩ := hc
                cases h
                have hst : st2 = [] := hs
                obtain ⟨_, _, rfl, ⟨_, rfl, e1⟩, _, _, rfl, ⟨_, rfl, e4⟩, _, _, rfl, ⟨_, rfl, e2⟩, e3⟩ := hL
                have e1 : _ = Value.ref a := e1
                have e4 : _ = Value.int t := e4
                have e2 : _ = Value.int 0 := e2
                have e3 : _ = [] := e3
                subst hst e1 e2 e3 e4
                have h1 := ea_at hG a
                rw [hfs] at h1
                obtain ⟨gs, ea, hgs⟩ := h1
                have h2 := ea_at hG w
                rw [hw] at h2
                obtain ⟨gw, ew, hgw⟩ := h2
                obtain ⟨v1, ev1, hv1⟩ := ea_sr_get hgs hfw
                have hv1 : v1 = Value.ref w := hv1
                subst hv1
                have et : Int32.ofNat t.toNatClampNeg = t := by
                  apply Int32.toInt_inj.mp
                  show (Int32.ofNat t.toInt.toNat).toInt = t.toInt
                  rw [Int32.toInt_ofNat_of_lt (show t.toInt.toNat < _ by omega)]
                  show ((t.toInt.toNat : Nat) : Int) = t.toInt
                  omega
                obtain ⟨g3, hg3, h9⟩ := ea_kp (tn := t.toNatClampNeg) (g0 := gw) (show t.toInt.toNat ≤ 13 by omega) ea ev1 c1 c4 c5 (by rw [hG.1]; exact c8) (by rw [hG.1]; exact c9) 841 0 rfl gw (fun _ _ => rfl)
                rw [← ew, ea_u0 c5, et] at h9
                refine ⟨[some (.ref a), some (.int t), some (.int 841)], [], eg_u H w (.inl (0, (nw, .inl g3))), ⟨_, _, rfl, ⟨_, rfl, rfl⟩, _, _, rfl, ⟨_, rfl, rfl⟩, _, _, rfl, ⟨_, rfl, rfl⟩, rfl⟩, rfl, ea_u hG w ⟨g3, rfl, fun j => ?_⟩, _, fun scr d r => h9 scr d r ck sk⟩
                dsimp only
                split
                · exact .inl rfl
                · rename_i hj
                  rw [hg3 j hj]
                  exact hgw j
              · cases h
            · cases h
          · cases h
        · cases h
      · cases h
    · cases h
  · cases h
theorem ea_hk_ok {xs : Nat → Int32} {L L2 : eg_Ls} {st st2 : List Value} {G H : eg_G} {d k pc ck sk : Nat} {S : eg_S} (h : ea_hk d k pc L st G ck sk = some S) (hL : ea_lr xs L L2) (hs : ea_sr xs st st2) (hG : ea_gr xs G H) : ∃ L3 st3 H3, ea_lr xs S.2.1 L3 ∧ ea_sr xs S.2.2.1 st3 ∧ ea_gr xs S.2.2.2.1 H3 ∧ ∃ n, ∀ (scr : eg_Sc) (r : Nat), eg_rn (r + n) scr d k pc L2 st2 H ck sk = eg_rn r scr d k S.1 L3 st3 H3 S.2.2.2.2.1 S.2.2.2.2.2 := by
  unfold ea_hk at h
  split at h
  · rename_i S2 h1
    cases h
    obtain ⟨L3, st3, H3, a1, a2, a3, n, e⟩ := ea_h1_ok h1 hL hs hG
    exact ⟨L3, st3, H3, a1, a2, a3, n, fun scr r => e scr d r⟩
  · split at h
    · rename_i hd
      obtain ⟨L3, st3, H3, a1, a2, a3, n, e⟩ := ea_h2_ok h hL hs hG
      obtain ⟨d, rfl⟩ : ∃ d', d = d' + 1 := ⟨d - 1, by omega⟩
      exact ⟨L3, st3, H3, a1, a2, a3, n, fun scr r => e scr d r⟩
    · cases h
