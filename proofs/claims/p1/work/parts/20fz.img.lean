/-! THE IMAGE'S LOOP -/
def ea_pl (ins : Instr) : Bool := match ins with
  | .return_ | .ireturn | .lreturn | .areturn | .new _ | .invokestatic _ | .invokevirtual _ | .invokespecial _ => false
  | _ => true
theorem ea_1 {r : Nat} {scr : eg_Sc} {d k pc len ck sk : Nat} {ins : Instr} {L : eg_Ls} {st : List Value} {G : eg_G} {pc' : Nat} {L' : eg_Ls} {st' : List Value} {G' : eg_G} (hcd : eg_cd k pc = some (ins, len)) (hp : ea_pl ins = true) (hsc : eg_sc scr ins pc L st G ck sk = none)
    (hst : eg_st (eg_mo k) (eg_in k) eg_MC eg_MS pc len ins L st G ck sk = some (pc', L', st', G', ck, sk)) : eg_rn (r + 1) scr d k pc L st G ck sk = eg_rn r scr d k pc' L' st' G' ck sk := by
  show eg_one (eg_rn r) scr d k pc L st G ck sk = _
  have h1 : eg_rr ins (eg_mr k) st = none := by
    cases ins <;> first | rfl | cases hp
  have h2 : eg_th k pc ins = none := by
    cases ins <;> first | rfl | cases hp
  have h3 : eg_ik ins = none := by
    cases ins <;> first | rfl | cases hp
  unfold eg_one
  rw [hcd]
  dsimp only
  rw [h1]
  dsimp only
  rw [hsc]
  dsimp only
  rw [h2]
  dsimp only
  rw [h3]
  dsimp only
  rw [hst]
  rfl
theorem ea_gf1 {o idx pc ck sk a ci k : Nat} {y : Option String} {L : eg_Ls} {r fs : List Value} {G : eg_G} {v : Value} (hlk : (eg_fT.getD o []).lookup idx = some (ci, k, y)) (ha : eg_at G a = .inr (ci, fs)) (hlt : a < G.2) (hv : fs[k]? = some v) : eg_gf o idx pc L (.ref a :: r) G ck sk = some (pc + 3, L, v :: r, G, ck, sk) := by
  unfold eg_gf
  rw [hlk]
  dsimp only
  rw [ha]
  dsimp only
  rw [if_pos ⟨hlt, rfl⟩, hv]
theorem ea_ar1 {pc ck sk w n : Nat} {i : Int32} {L : eg_Ls} {r : List Value} {G : eg_G} {g : Nat → Int32} (hw : eg_at G w = .inl (0, (n, .inl g))) (hlt : w < G.2) (h0 : 0 ≤ i.toInt) (h1 : i.toInt < n) : eg_ar .iaload pc L (.int i :: .ref w :: r) G ck sk = some (pc + 1, L, .int (g i.toNatClampNeg) :: r, G, ck, sk) := by
  unfold eg_ar
  dsimp only
  rw [hw]
  dsimp only
  rw [if_pos ⟨hlt, rfl, h0, h1⟩]
  rfl
theorem ea_aw1 {pc ck sk w n : Nat} {i z : Int32} {L : eg_Ls} {r : List Value} {G : eg_G} {g : Nat → Int32} (hw : eg_at G w = .inl (0, (n, .inl g))) (hn : eg_NC ≤ w) (hlt : w < G.2) (h0 : 0 ≤ i.toInt) (h1 : i.toInt < n) : eg_aw .iastore pc L (.int z :: .int i :: .ref w :: r) G ck sk = some (pc + 1, L, r, eg_u G w (.inl (0, (n, .inl (upd g i.toNatClampNeg z)))), ck, sk) := by
  unfold eg_aw
  dsimp only
  rw [hw]
  dsimp only
  rw [if_pos ⟨hn, hlt, rfl, h0, h1⟩]
  rfl
theorem ea_at_u {G : eg_G} {m i : Nat} {c : eg_C} (h : ¬ i = m) : eg_at (eg_u G m c) i = eg_at G i := by
  unfold eg_at
  split
  · rfl
  · show (if i = m then c else G.1 i) = G.1 i
    rw [if_neg h]
theorem ea_at_us {G : eg_G} {m : Nat} {c : eg_C} (h : eg_NC ≤ m) : eg_at (eg_u G m c) m = c := by
  unfold eg_at
  rw [if_neg (Nat.not_lt.mpr h)]
  show (if m = m then c else G.1 m) = c
  rw [if_pos rfl]
theorem ea_uu {G : eg_G} {m : Nat} {c e : eg_C} : eg_u (eg_u G m c) m e = eg_u G m e := by
  unfold eg_u
  congr 1
  funext j
  dsimp only
  split <;> rfl
theorem ea_u0 {G : eg_G} {m : Nat} (h : eg_NC ≤ m) : eg_u G m (eg_at G m) = G := by
  unfold eg_u eg_at
  rw [if_neg (Nat.not_lt.mpr h)]
  obtain ⟨f, n⟩ := G
  congr 1
  funext j
  dsimp only
  split
  · rename_i e
    rw [e]
  · rfl
theorem ea_im {G : eg_G} {a w m nw : Nat} {fs : List Value} {g : Nat → Int32} (ha : eg_at G a = .inr (11, fs)) (hfw : fs[1]? = some (.ref w)) (hfm : fs[2]? = some (.ref m)) (hw : eg_at G w = .inl (0, (nw, .inl g))) (hnw : 11900 ≤ nw) (hwm : ¬ w = m) (ham : ¬ a = m) (cw : eg_NC ≤ w) (cm : eg_NC ≤ m) (lm : m < G.2) (lw : w < G.2) (la : a < G.2) :
    ∀ (n i : Nat), i + n = 11900 → ∀ g2 : Nat → Int32, ∃ g3 : Nat → Int32, ∀ (scr : eg_Sc) (d r ck sk : Nat), eg_rn (r + (13 * n + 3)) scr d 176 7 [some (.ref a), some (.int (Int32.ofNat i))] [] (eg_u G m (.inl (0, (11900, .inl g2)))) ck sk = eg_rn r scr d 176 32 [some (.ref a), some (.int 11900)] [] (eg_u G m (.inl (0, (11900, .inl g3)))) ck sk
  | 0, i, hi, g2 => ⟨g2, fun scr d r ck sk => by
    have e : i = 11900 := by omega
    subst e
    have s1 : eg_rn (r + 3) scr d 176 7 [some (.ref a), some (.int (Int32.ofNat 11900))] [] (eg_u G m (.inl (0, (11900, .inl g2)))) ck sk = eg_rn (r + 2) scr d 176 8 [some (.ref a), some (.int 11900)] [.int 11900] (eg_u G m (.inl (0, (11900, .inl g2)))) ck sk := ea_1 (ins := .iload_n 1) (len := 1) (by decide +kernel) rfl (by cases scr <;> rfl) rfl
    have s2 : eg_rn (r + 2) scr d 176 8 [some (.ref a), some (.int 11900)] [.int 11900] (eg_u G m (.inl (0, (11900, .inl g2)))) ck sk = eg_rn (r + 1) scr d 176 11 [some (.ref a), some (.int 11900)] [.int 11900, .int 11900] (eg_u G m (.inl (0, (11900, .inl g2)))) ck sk := ea_1 (ins := .sipush 11900) (len := 3) (by decide +kernel) rfl (by cases scr <;> rfl) rfl
    have s3 : eg_rn (r + 1) scr d 176 11 [some (.ref a), some (.int 11900)] [.int 11900, .int 11900] (eg_u G m (.inl (0, (11900, .inl g2)))) ck sk = eg_rn r scr d 176 32 [some (.ref a), some (.int 11900)] [] (eg_u G m (.inl (0, (11900, .inl g2)))) ck sk := ea_1 (ins := .if_icmp .ge 21) (len := 3) (by decide +kernel) rfl (by cases scr <;> rfl) rfl
    exact s1.trans (s2.trans s3)⟩
  | n + 1, i, hi, g2 => by
    have hlt : i < 11900 := by omega
    have e1 : (Int32.ofNat i).toInt = i := Int32.toInt_ofNat_of_lt (by omega)
    have e2 : (Int32.ofNat i).toNatClampNeg = i := Int32.toNatClampNeg_ofNat_of_lt (by omega)
    have e3 : ¬ (11900 : Int32) ≤ Int32.ofNat i := fun h => by
      have h1 := Int32.le_iff_toInt_le.mp h
      rw [e1] at h1
      have h2 : (11900 : Int32).toInt = 11900 := by decide
      omega
    have e4 : Int32.ofNat i + 1 = Int32.ofNat (i + 1) := (Int32.ofNat_add i 1).symm
    obtain ⟨g3, h3⟩ := ea_im ha hfw hfm hw hnw hwm ham cw cm lm lw la n (i + 1) (by omega) (upd g2 (Int32.ofNat i).toNatClampNeg (g (Int32.ofNat i).toNatClampNeg))
    refine ⟨g3, fun scr d r ck sk => ?_⟩
    rw [← h3 scr d r ck sk, ← e4]
    generalize hH : eg_u G m (.inl (0, (11900, .inl g2))) = H
    have ha2 : eg_at H a = .inr (11, fs) := by rw [← hH, ea_at_u ham]; exact ha
    have hw2 : eg_at H w = .inl (0, (nw, .inl g)) := by rw [← hH, ea_at_u hwm]; exact hw
    have hm2 : eg_at H m = .inl (0, (11900, .inl g2)) := by rw [← hH]; exact ea_at_us cm
    have hs2 : H.2 = G.2 := by rw [← hH]; rfl
    have hu : eg_u G m (.inl (0, (11900, .inl (upd g2 (Int32.ofNat i).toNatClampNeg (g (Int32.ofNat i).toNatClampNeg))))) = eg_u H m (.inl (0, (11900, .inl (upd g2 (Int32.ofNat i).toNatClampNeg (g (Int32.ofNat i).toNatClampNeg))))) := by rw [← hH, ea_uu]
    rw [hu]
    have l0 : 0 ≤ (Int32.ofNat i).toInt := by rw [e1]; omega
    have l1 : (Int32.ofNat i).toInt < ((11900 : Nat) : Int) := by rw [e1]; omega
    have l2 : (Int32.ofNat i).toInt < (nw : Int) := by rw [e1]; omega
    generalize Int32.ofNat i = x at e3 l0 l1 l2
    generalize hr : r + (13 * n + 3) = q
    have hr2 : r + (13 * (n + 1) + 3) = q + 13 := by omega
    rw [hr2]
    have s1 : eg_rn (q + 13) scr d 176 7 [some (.ref a), some (.int x)] [] H ck sk = eg_rn (q + 12) scr d 176 8 [some (.ref a), some (.int x)] [.int x] H ck sk := ea_1 (ins := .iload_n 1) (len := 1) (by decide +kernel) rfl (by cases scr <;> rfl) rfl
    have s2 : eg_rn (q + 12) scr d 176 8 [some (.ref a), some (.int x)] [.int x] H ck sk = eg_rn (q + 11) scr d 176 11 [some (.ref a), some (.int x)] [.int 11900, .int x] H ck sk := ea_1 (ins := .sipush 11900) (len := 3) (by decide +kernel) rfl (by cases scr <;> rfl) rfl
    have s3 : eg_rn (q + 11) scr d 176 11 [some (.ref a), some (.int x)] [.int 11900, .int x] H ck sk = eg_rn (q + 10) scr d 176 14 [some (.ref a), some (.int x)] [] H ck sk := ea_1 (ins := .if_icmp .ge 21) (len := 3) (by decide +kernel) rfl (by cases scr <;> rfl) (by
      dsimp only [eg_st]
      rw [if_pos (by decide), if_neg e3])
    have s4 : eg_rn (q + 10) scr d 176 14 [some (.ref a), some (.int x)] [] H ck sk = eg_rn (q + 9) scr d 176 15 [some (.ref a), some (.int x)] [.ref a] H ck sk := ea_1 (ins := .aload_n 0) (len := 1) (by decide +kernel) rfl (by cases scr <;> rfl) rfl
    have s5 : eg_rn (q + 9) scr d 176 15 [some (.ref a), some (.int x)] [.ref a] H ck sk = eg_rn (q + 8) scr d 176 18 [some (.ref a), some (.int x)] [.ref m] H ck sk := ea_1 (ins := .getfield 17) (len := 3) (by decide +kernel) rfl (by cases scr <;> rfl) (ea_gf1 (o := eg_mo 176) (idx := 17) (pc := 15) (ci := 11) (k := 2) (y := none) (by decide +kernel) ha2 (by rw [hs2]; exact la) hfm)
    have s6 : eg_rn (q + 8) scr d 176 18 [some (.ref a), some (.int x)] [.ref m] H ck sk = eg_rn (q + 7) scr d 176 19 [some (.ref a), some (.int x)] [.int x, .ref m] H ck sk := ea_1 (ins := .iload_n 1) (len := 1) (by decide +kernel) rfl (by cases scr <;> rfl) rfl
    have s7 : eg_rn (q + 7) scr d 176 19 [some (.ref a), some (.int x)] [.int x, .ref m] H ck sk = eg_rn (q + 6) scr d 176 20 [some (.ref a), some (.int x)] [.ref a, .int x, .ref m] H ck sk := ea_1 (ins := .aload_n 0) (len := 1) (by decide +kernel) rfl (by cases scr <;> rfl) rfl
    have s8 : eg_rn (q + 6) scr d 176 20 [some (.ref a), some (.int x)] [.ref a, .int x, .ref m] H ck sk = eg_rn (q + 5) scr d 176 23 [some (.ref a), some (.int x)] [.ref w, .int x, .ref m] H ck sk := ea_1 (ins := .getfield 13) (len := 3) (by decide +kernel) rfl (by cases scr <;> rfl) (ea_gf1 (o := eg_mo 176) (idx := 13) (pc := 20) (ci := 11) (k := 1) (y := none) (by decide +kernel) ha2 (by rw [hs2]; exact la) hfw)
    have s9 : eg_rn (q + 5) scr d 176 23 [some (.ref a), some (.int x)] [.ref w, .int x, .ref m] H ck sk = eg_rn (q + 4) scr d 176 24 [some (.ref a), some (.int x)] [.int x, .ref w, .int x, .ref m] H ck sk := ea_1 (ins := .iload_n 1) (len := 1) (by decide +kernel) rfl (by cases scr <;> rfl) rfl
    have s10 : eg_rn (q + 4) scr d 176 24 [some (.ref a), some (.int x)] [.int x, .ref w, .int x, .ref m] H ck sk = eg_rn (q + 3) scr d 176 25 [some (.ref a), some (.int x)] [.int (g x.toNatClampNeg), .int x, .ref m] H ck sk := ea_1 (ins := .iaload) (len := 1) (by decide +kernel) rfl (by
      cases scr with
      | none => rfl
      | some p =>
        obtain ⟨n, f⟩ := p
        dsimp only [eg_sc]
        rw [if_neg (fun h => by
          have h2 : eg_NC ≤ 150 := h.1 ▸ cw
          exact absurd h2 (by decide))]) (ea_ar1 hw2 (by rw [hs2]; exact lw) l0 l2)
    have s11 : eg_rn (q + 3) scr d 176 25 [some (.ref a), some (.int x)] [.int (g x.toNatClampNeg), .int x, .ref m] H ck sk = eg_rn (q + 2) scr d 176 26 [some (.ref a), some (.int x)] [] (eg_u H m (.inl (0, (11900, .inl (upd g2 x.toNatClampNeg (g x.toNatClampNeg)))))) ck sk := ea_1 (ins := .iastore) (len := 1) (by decide +kernel) rfl (by cases scr <;> rfl) (ea_aw1 hm2 cm (by rw [hs2]; exact lm) l0 l1)
    generalize eg_u H m (.inl (0, (11900, .inl (upd g2 x.toNatClampNeg (g x.toNatClampNeg))))) = K at s11
    have s12 : eg_rn (q + 2) scr d 176 26 [some (.ref a), some (.int x)] [] K ck sk = eg_rn (q + 1) scr d 176 29 [some (.ref a), some (.int (x + 1))] [] K ck sk := ea_1 (ins := .iinc 1 1) (len := 3) (by decide +kernel) rfl (by cases scr <;> rfl) rfl
    have s13 : eg_rn (q + 1) scr d 176 29 [some (.ref a), some (.int (x + 1))] [] K ck sk = eg_rn q scr d 176 7 [some (.ref a), some (.int (x + 1))] [] K ck sk := ea_1 (ins := .goto (-22)) (len := 3) (by decide +kernel) rfl (by cases scr <;> rfl) rfl
    exact s1.trans (s2.trans (s3.trans (s4.trans (s5.trans (s6.trans (s7.trans (s8.trans (s9.trans (s10.trans (s11.trans (s12.trans s13)))))))))))
theorem ea_h1_ok {xs : Nat → Int32} {L L2 : eg_Ls} {st st2 : List Value} {G H : eg_G} {k pc ck sk : Nat} {S : eg_S} (h : ea_h1 k pc L st G ck sk = some S) (hL : ea_lr xs L L2) (hs : ea_sr xs st st2) (hG : ea_gr xs G H) : ∃ L3 st3 H3, ea_lr xs S.2.1 L3 ∧ ea_sr xs S.2.2.1 st3 ∧ ea_gr xs S.2.2.2.1 H3 ∧ ∃ n, ∀ (scr : eg_Sc) (d r : Nat), eg_rn (r + n) scr d k pc L2 st2 H ck sk = eg_rn r scr d k S.1 L3 st3 H3 S.2.2.2.2.1 S.2.2.2.2.2 := by
  unfold ea_h1 at h
  split at h
  · rename_i hkp
    obtain ⟨rfl, rfl⟩ := hkp
    split at h
    · rename_i a i
      split at h
      · rename_i hi
        subst hi
        split at h
        · rename_i cj fs hfs
          split at h
          · rename_i w m hfw hfm
            split at h
            · rename_i tw nw fw tm nm fm hw hm
              split at h
              · rename_i hc
                obtain ⟨rfl, rfl, rfl, c1, c2, rfl, c3, c4, c5, c6, c7, c8, c9⟩ := hc
                cases h
                have hst : st2 = [] := hs
                obtain ⟨_, _, rfl, ⟨_, rfl, e1⟩, _, _, rfl, ⟨_, rfl, e2⟩, e3⟩ := hL
                have e1 : _ = Value.ref a := e1
                have e2 : _ = Value.int 0 := e2
                have e3 : _ = [] := e3
                subst hst e1 e2 e3
                have h1 := ea_at hG a
                rw [hfs] at h1
                obtain ⟨gs, ea, hgs⟩ := h1
                have h2 := ea_at hG w
                rw [hw] at h2
                obtain ⟨gw, ew, -⟩ := h2
                have h3 := ea_at hG m
                rw [hm] at h3
                obtain ⟨gm, em, -⟩ := h3
                obtain ⟨v1, ev1, hv1⟩ := ea_sr_get hgs hfw
                obtain ⟨v2, ev2, hv2⟩ := ea_sr_get hgs hfm
                have hv1 : v1 = Value.ref w := hv1
                have hv2 : v2 = Value.ref m := hv2
                subst hv1 hv2
                obtain ⟨g3, h9⟩ := ea_im ea ev1 ev2 ew c1 c3 c4 c5 c6 (by rw [hG.1]; exact c7) (by rw [hG.1]; exact c8) (by rw [hG.1]; exact c9) 11900 0 rfl gm
                rw [← em, ea_u0 c6] at h9
                exact ⟨[some (.ref a), some (.int 11900)], [], eg_u H m (.inl (0, (11900, .inl g3))), ⟨_, _, rfl, ⟨_, rfl, rfl⟩, _, _, rfl, ⟨_, rfl, rfl⟩, rfl⟩, rfl, ea_u hG m ⟨g3, rfl, fun _ => .inl rfl⟩, _, fun scr d r => h9 scr d r ck sk⟩
              · cases h
            · cases h
          · cases h
        · cases h
      · cases h
    · cases h
  · cases h
