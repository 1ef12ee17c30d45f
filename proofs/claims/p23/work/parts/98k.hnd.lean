/-! BY HAND: what the law compares: how much TAPE there is -/
section HPY
variable {T : List et_D} {M : et_M} {d k pc ck sk : Nat} {L : eg_Ls} {r : List Value} {G : eg_G} {Z : eg_O → Prop} {w : et_Wd} {u : eg_O} {P : eg_G → Prop} {c s : Nat}
theorem hs_cbvp {q : et_P} (hu : hi_Z T w M [(.inl (some q), c, s)] u ∧ P u.2.1) (h : ∀ (v : Value) (K' : et_K) (G' : eg_G) (c' s' : Nat), et_ex w.1 K' → et_fr M w.1 w.2.2 G' → et_H T K' G' → P G' → et_v K' q v → c' ≤ c → s' ≤ s → et_go none d k (pc + 3) L (v :: r) G' (ck + c') (sk + s') Z) : hs_cont d k pc L r ck sk Z u := by
  obtain ⟨⟨e, he, K', h1, h2, h3, h4, h5, h6⟩, hP⟩ := hu
  obtain rfl := List.mem_singleton.mp he
  obtain ⟨v, hv1, hv2⟩ := h4
  obtain ⟨u1, u2, u3, u4⟩ := u
  have hv1 : u1 = .inl (some v) := hv1
  subst hv1
  exact hs_cb (h v K' u2 u3 u4 h1 h2 h3 hP hv2 h5 h6)
/-- a call that ends in a throw, caught here -/
theorem hs_ch {x h i n : Nat} {hh : List (Nat × Nat × Nat × Nat)} {G' : eg_G} (hm : eg_mh k = some hh) (hx : eg_hd (eg_mo k) pc x hh = some h ∧ eg_ca1 k h = some (i, n)) (hi : i < L.length) (hg : et_go none d k (h + n) (eg_sn L i) [] G' (ck + c) (sk + s) Z) : hs_cont d k pc L r ck sk Z (.inr x, G', c, s) := by
  obtain ⟨o, ⟨g, hg⟩, hZ⟩ := hg
  refine ⟨o, ⟨g, fun q hq => ?_⟩, hZ⟩
  unfold eg_bk
  dsimp only
  rw [hm]
  dsimp only
  rw [hx.1]
  dsimp only
  rw [hx.2]
  dsimp only
  rw [if_pos hi]
  exact hg q hq
end HPY
/-- the length of what was fed: the class's, the reference's -/
def pl_at (G : eg_G) (rd c : Nat) : Prop := et_pl (eg_at G rd) 1 = some (.int (Int32.ofNat c))
def pm_at (G : eg_G) (am c : Nat) : Prop := et_pl (eg_at G am) 5 = some (.int (Int32.ofNat c))
/-- a number of a list, by the numbers that it was made of -/
def et_of (E : List et_N) (n : Nat) : Nat → Nat → Int → Option Int
  | 0, _, _ => none
  | q + 1, k, acc => if k = n then some acc else match E[k]? with
    | some (_, some (j, c)) => et_of E n q j (acc + c)
    | _ => none
theorem et_of_ok {K : et_K} {R : List Value} {E : List et_N} {n : Nat} {x : Int32} (hE : et_eo K R E) (hx : R[n]? = some (.int x)) : ∀ (q k : Nat) (acc r : Int) (y : Int32), R[k]? = some (.int y) → et_of E n q k acc = some r → y.toInt + acc = x.toInt + r := by
  intro q
  induction q with
  | zero => intro k acc r y _ h; cases h
  | succ q ih =>
    intro k acc r y hy h
    unfold et_of at h
    split at h
    · rename_i e
      cases h
      rw [e, hx] at hy
      cases hy
      rfl
    · split at h
      · rename_i p j c hk
        obtain ⟨v, g1, -, g3⟩ := hE.2 _ _ _ hk
        obtain ⟨x', y', g4, g5, g6⟩ := g3 _ _ rfl
        rw [hy] at g1
        cases g1
        cases g4
        have := ih j (acc + c) r y' g5 h
        omega
      · cases h
def et_ck (f n : Nat) (k : Int) (o : et_O) : Bool := o.2.1.any (fun e => decide (e.1 = 0) && decide (e.2.1 = f) && (match e.2.2 with
  | .float q => decide (et_of o.1 n 30 q.toNat 0 = some k)
  | _ => false))
/-- a contract whose start knows a field, whose end says what it has become -/
theorem et_kok {T : List et_D} {Ks : List et_Co} {an : Nat → Nat → Option et_A} {mi d f a d2 : Nat} {ps : List et_P} {M : et_M} {es : List ((Option et_P ⊕ Nat) × Nat × Nat)} {lo hi k : Int} {w : et_Wd} {as : List Value} {x : Int32} (hK : ∀ q ∈ Ks, et_cv T q) (hl0 : ps.length < 100)
    (h : (match et_rn T M Ks an 100000 [] none ((ps ++ [(.inl (lo, hi) : et_P)]).map (fun p => (p, none))) [(0, f, .float (UInt32.ofNat ps.length))] d mi 0 (eg_en (eg_mL mi) (et_ar 0 ps)) [] 0 0 with
      | none => false
      | some os => os.all (fun o => es.any (et_fe o) && et_ck f ps.length k o)) = true)
    (hH : et_H T w.1 w.2.2) (hd : d ≤ d2) (hl : as.length = ps.length) (hv : ∀ (i : Nat) (p : et_P) (v : Value), ps[i]? = some p → as[i]? = some v → et_v w.1 p v) (ha : as[0]? = some (.ref a)) (hlt : a < w.2.2.2) (hp : et_pl (eg_at w.2.2 a) f = some (.int x)) (h1 : lo ≤ x.toInt) (h2 : x.toInt ≤ hi) : et_go none d2 mi 0 (eg_en (eg_mL mi) as) [] w.2.2 0 0 (fun u => hi_Z T w M es u ∧ ∃ y : Int32, et_pl (eg_at u.2.1 a) f = some (.int y) ∧ y.toInt = x.toInt + k) := by
  split at h
  · cases h
  · rename_i os hos
    refine et_go_c (os := os) (Z := fun u => hi_Z T w M es u ∧ ∃ y : Int32, et_pl (eg_at u.2.1 a) f = some (.int y) ∧ y.toInt = x.toInt + k) hK hl0 hos hH hd hl hv ha hlt hp h1 h2 (fun o ho w' u hle hen => ?_)
    have h3 := List.all_eq_true.mp h o ho
    rw [Bool.and_eq_true] at h3
    obtain ⟨h3, h4⟩ := h3
    obtain ⟨e, he, hfe⟩ := List.any_eq_true.mp h3
    obtain ⟨b1, b2, b3, b4, b5, b6, b7⟩ := hen
    obtain ⟨a1, ⟨R1, aR⟩, a3⟩ := hle
    unfold et_fe at hfe
    rw [Bool.and_eq_true, Bool.and_eq_true] at hfe
    obtain ⟨c1, c2, c3⟩ := hfe
    have c2 := of_decide_eq_true c2
    have c3 := of_decide_eq_true c3
    refine ⟨⟨e, he, w'.1, a1, by rw [b1]; exact a3, by rw [b1]; exact b2, ?_, by omega, by omega⟩, ?_⟩
    · obtain ⟨oE, oC, ov, oc, osk⟩ := o
      obtain ⟨er, ec, es'⟩ := e
      dsimp only at c1 b3 b5 ⊢
      split at c1
      · exact b5
      · obtain ⟨x, x1, x2⟩ := b5
        exact ⟨x, x1, et_ft_ok c1 b3 b2.2.1 x2⟩
      · rw [← of_decide_eq_true c1]
        exact b5
      · cases c1
    · obtain ⟨e', he', h5⟩ := List.any_eq_true.mp h4
      rw [Bool.and_eq_true, Bool.and_eq_true] at h5
      obtain ⟨⟨i1, i2⟩, i3⟩ := h5
      have i1 := of_decide_eq_true i1
      have i2 := of_decide_eq_true i2
      obtain ⟨a', v, q1, q2, q3, q4⟩ := b4 e' he'
      have hx : w'.2.1[ps.length]? = some (.int x) := by
        rw [aR, ← hl]
        exact (List.getElem?_append_left (by rw [List.length_append]; exact Nat.lt_succ_self _)).trans (by rw [List.getElem?_append_right (Nat.le_refl _), Nat.sub_self]; rfl)
      have h0 : w'.2.1[0]? = some (.ref a) := by
        rw [aR]
        have g : (as ++ [Value.int x])[0]? = some (.ref a) := et_get_mono ha
        rw [List.getElem?_append_left (List.getElem?_eq_some_iff.mp g).1]
        exact g
      rw [i1, h0] at q1
      cases q1
      rw [i2] at q3
      split at i3
      · rename_i k' ek
        rw [ek] at q4
        obtain ⟨y, rfl, q5⟩ := q4
        have i3 := of_decide_eq_true i3
        have h9 := et_of_ok b3 hx _ _ _ _ _ q5 i3
        exact ⟨y, by rw [b1]; exact q3, by omega⟩
      · cases i3
theorem hi_of {y : Int32} {n : Nat} (h : y.toInt = n) (hn : n < 2147483648) : y = Int32.ofNat n := Int32.toInt_inj.mp (by rw [h, hs_nint hn])
section PPG
variable {w : et_Wd} {d2 rd am c : Nat} {x : Int32}
theorem hc_add4 (hH : et_H et_TT w.1 w.2.2) (k_rd : w.1 rd = some 7) (hl : pl_at w.2.2 rd c) (hc : c + 4 ≤ 400) (hd : 1 ≤ d2) : et_go none d2 64 0 (eg_en (eg_mL 64) [.ref rd, .int x]) [] w.2.2 0 0 (fun u => hi_Z et_TT w [(7, 1, 1), (33, 0, 100000)] [(.inl none, 0, 0)] u ∧ pl_at u.2.1 rd (c + 4)) :=
  (et_kok (T := et_TT) (Ks := []) (an := an_no) (d := 1) (f := 1) (ps := [.inr (.inr (0, 7)), .inl (et_mn, et_mx)]) (M := [(7, 1, 1), (33, 0, 100000)]) (es := [(.inl none, 0, 0)]) (lo := 0) (hi := 396) (k := 4) (w := w) (as := [.ref rd, .int x]) (a := rd) (x := Int32.ofNat c) (fun _ h => absurd h List.not_mem_nil) (by decide) (by decide +kernel) hH hd rfl (ht_ac (.inr ⟨by decide, _, rfl, k_rd⟩) (ht_ac hi_any ht_an)) rfl (hH.2.2 _ _ k_rd).1 hl (by rw [hs_nint (by omega)]; omega) (by rw [hs_nint (by omega)]; omega)).mono (fun u hu => ⟨hu.1, by
    obtain ⟨-, y, h1, h2⟩ := hu
    rw [hs_nint (by omega)] at h2
    obtain rfl := hi_of (y := y) (n := c + 4) (by omega) (by omega)
    exact h1⟩)
def ff (c : Nat) : Nat := if c + 20 ≤ 400 then c + 20 else c
def mf_M : et_M := [(13, 0, 0), (13, 5, 5), (14, 0, 100000), (34, 0, 100000)]
theorem hc_feedM {x1 x2 x3 x4 x5 : Int32} (hH : et_H et_TT w.1 w.2.2) (k_am : w.1 am = some 13) (hm : pm_at w.2.2 am c) (hc : c ≤ 400) (hd : 1 ≤ d2) : et_go none d2 177 0 (eg_en (eg_mL 177) [.ref am, .int x1, .int x2, .int x3, .int x4, .int x5]) [] w.2.2 0 0 (fun u => hi_Z et_TT w mf_M [(.inl (some (.inl (et_mn, et_mx))), 0, 0)] u ∧ pm_at u.2.1 am (ff c)) := by
  by_cases h : c + 20 ≤ 400
  · have e : ff c = c + 20 := if_pos h
    rw [e]
    exact (et_kok (T := et_TT) (Ks := []) (an := er_an) (d := 1) (f := 5) (ps := [.inr (.inr (0, 13)), .inl (et_mn, et_mx), .inl (et_mn, et_mx), .inl (et_mn, et_mx), .inl (et_mn, et_mx), .inl (et_mn, et_mx)]) (M := mf_M) (es := [(.inl (some (.inl (et_mn, et_mx))), 0, 0)]) (lo := 0) (hi := 380) (k := 20) (w := w) (as := [.ref am, .int x1, .int x2, .int x3, .int x4, .int x5]) (a := am) (x := Int32.ofNat c) (fun _ h => absurd h List.not_mem_nil) (by decide) (by decide +kernel) hH hd rfl (ht_ac (.inr ⟨by decide, _, rfl, k_am⟩) (ht_ac hi_any (ht_ac hi_any (ht_ac hi_any (ht_ac hi_any (ht_ac hi_any ht_an)))))) rfl (hH.2.2 _ _ k_am).1 hm (by rw [hs_nint (by omega)]; omega) (by rw [hs_nint (by omega)]; omega)).mono (fun u hu => ⟨hu.1, by
      obtain ⟨-, y, h1, h2⟩ := hu
      rw [hs_nint (by omega)] at h2
      obtain rfl := hi_of (y := y) (n := c + 20) (by omega) (by omega)
      exact h1⟩)
  · have e : ff c = c := if_neg h
    rw [e]
    exact (et_kok (T := et_TT) (Ks := []) (an := er_an) (d := 1) (f := 5) (ps := [.inr (.inr (0, 13)), .inl (et_mn, et_mx), .inl (et_mn, et_mx), .inl (et_mn, et_mx), .inl (et_mn, et_mx), .inl (et_mn, et_mx)]) (M := mf_M) (es := [(.inl (some (.inl (et_mn, et_mx))), 0, 0)]) (lo := 381) (hi := 400) (k := 0) (w := w) (as := [.ref am, .int x1, .int x2, .int x3, .int x4, .int x5]) (a := am) (x := Int32.ofNat c) (fun _ h => absurd h List.not_mem_nil) (by decide) (by decide +kernel) hH hd rfl (ht_ac (.inr ⟨by decide, _, rfl, k_am⟩) (ht_ac hi_any (ht_ac hi_any (ht_ac hi_any (ht_ac hi_any (ht_ac hi_any ht_an)))))) rfl (hH.2.2 _ _ k_am).1 hm (by rw [hs_nint (by omega)]; omega) (by rw [hs_nint (by omega)]; omega)).mono (fun u hu => ⟨hu.1, by
      obtain ⟨-, y, h1, h2⟩ := hu
      rw [hs_nint (by omega)] at h2
      obtain rfl := hi_of (y := y) (n := c) (by omega) (by omega)
      exact h1⟩)
end PPG

section PPH
variable {w : et_Wd} {K : et_K} {G : eg_G} {d2 d rd tn th am c : Nat} {pl n : Int32}
theorem pn_spl {c i : Nat} {x3 : Option Value} (hH : et_H et_TT K G) (hx0 : et_ex w.1 K) (hf : et_fr sp_M w.1 w.2.2 G) (k_rd : K rd = some 7) (hc7 : et_pl (eg_at G rd) 7 = some (.int (Int32.ofNat c))) (hc : c ≤ 400) (hi : i ≤ 400) : et_go none (d + 8) 67 22 [some (.ref rd), some (.int pl), some (.int (Int32.ofNat i)), x3] [] G 0 0 (fun u => hi_Z et_TT w sp_M [(.inl none, 0, 0)] u ∧ pl_at u.2.1 rd 0) := by
  induction hm : 400 - i using Nat.strongRecOn generalizing i c x3 K G with
  | _ z ih =>
    refine hs_iload (i := 2) (p := 23) (by decide +kernel) rfl ?_
    refine hs_aload (i := 0) (p := 24) (by decide +kernel) rfl ?_
    refine ht_getn (T := et_TT) (t := 7) (ci := 5) (f := 1) (p := 27) (by decide +kernel) rfl rfl hH k_rd (fun c24 h24 e24 => ?_)
    refine hs_br2n (c := .ge) (t := 122) (f := 30) (by decide +kernel) (by omega) (by omega) (fun (c27 : c24 ≤ i) => ?_) (fun (c27 : ¬ (c24 ≤ i)) => ?_)
    · refine hs_aload (i := 0) (p := 123) (by decide +kernel) rfl ?_
      refine ht_getr (T := et_TT) (t := 7) (ci := 5) (f := 4) (p := 126) (by decide +kernel) rfl rfl hH k_rd (fun a123 k_a123 e123 => ?_)
      refine hs_aload (i := 0) (p := 127) (by decide +kernel) rfl ?_
      refine ht_getn (T := et_TT) (t := 7) (ci := 5) (f := 7) (p := 130) (by decide +kernel) rfl rfl hH k_rd (fun c127 h127 e127 => ?_)
      have q127 : c127 = c := hb_cc e127 hc7 (by omega) (by omega)
      refine hs_gst (v := Value.ref 34) (p := 133) (by decide +kernel) ?_
      refine ht_aast (M := [(41, 0, 100000)]) (p := 134) (by decide +kernel) hH k_a123 (by omega) (hH.2.1 _ (by decide)) (hb_mm (by omega)) (fun G133 hH f133 => ?_)
      have hf := hf.tr hx0 (f133.wk (by decide +kernel))
      have hc7 := (f133.2 rd 7 k_rd 7 rfl).trans hc7
      refine hs_aload (i := 0) (p := 135) (by decide +kernel) rfl ?_
      refine ht_getr (T := et_TT) (t := 7) (ci := 5) (f := 5) (p := 138) (by decide +kernel) rfl rfl hH k_rd (fun a135 k_a135 e135 => ?_)
      refine hs_aload (i := 0) (p := 139) (by decide +kernel) rfl ?_
      refine ht_getn (T := et_TT) (t := 7) (ci := 5) (f := 7) (p := 142) (by decide +kernel) rfl rfl hH k_rd (fun c139 h139 e139 => ?_)
      have q139 : c139 = c := hb_cc e139 hc7 (by omega) (by omega)
      refine hs_aload (i := 0) (p := 143) (by decide +kernel) rfl ?_
      refine ht_getn (T := et_TT) (t := 7) (ci := 5) (f := 1) (p := 146) (by decide +kernel) rfl rfl hH k_rd (fun c143 h143 e143 => ?_)
      refine ht_ist (M := [(21, 0, 100000)]) (T := et_TT) (t := 21) (N := 401) (p := 147) (by decide +kernel) rfl rfl (by decide) hH k_a135 (by omega) (by decide) (fun s hs => absurd hs List.not_mem_nil) (hb_mm (by omega)) (fun G146 hH f146 => ?_)
      have hf := hf.tr hx0 (f146.wk (by decide +kernel))
      have hc7 := (f146.2 rd 7 k_rd 7 rfl).trans hc7
      refine hs_aload (i := 0) (p := 148) (by decide +kernel) rfl ?_
      refine hs_dup1 (p := 149) (by decide +kernel) ?_
      refine ht_getn (T := et_TT) (t := 7) (ci := 5) (f := 7) (p := 152) (by decide +kernel) rfl rfl hH k_rd (fun c149 h149 e149 => ?_)
      have q149 : c149 = c := hb_cc e149 hc7 (by omega) (by omega)
      refine hs_k (x := Int32.ofNat 1) (p := 153) (by decide +kernel) ?_
      refine hs_iaddn (p := 154) (by decide +kernel) ?_
      refine ht_put (M := [(7, 7, 7)]) (T := et_TT) (t := 7) (ci := 5) (f := 7) (p := 157) (ty := .int) (by decide +kernel) rfl rfl rfl rfl rfl (by decide +kernel) hH k_rd (hi_nv (by omega) (by omega)) (fun G154 hH f154 e154 => ?_)
      have hf := hf.tr hx0 (f154.wk (by decide +kernel))
      have hc7 := e154
      refine hs_aload (i := 0) (p := 158) (by decide +kernel) rfl ?_
      refine hs_k (x := Int32.ofNat 0) (p := 159) (by decide +kernel) ?_
      refine ht_put (M := [(7, 1, 1)]) (T := et_TT) (t := 7) (ci := 5) (f := 1) (p := 162) (ty := .int) (by decide +kernel) rfl rfl rfl rfl rfl (by decide +kernel) hH k_rd (hi_nv (by omega) (by omega)) (fun G159 hH f159 e159 => ?_)
      have hf := hf.tr hx0 (f159.wk (by decide +kernel))
      have hc7 := (f159.2 rd 7 k_rd 7 rfl).trans hc7
      refine hs_vret (by decide +kernel) ?_
      exact ⟨⟨_, List.mem_cons_self, _, hx0, hf, hH, rfl, Nat.le_refl _, Nat.le_refl _⟩, e159⟩
    · refine hs_aload (i := 0) (p := 31) (by decide +kernel) rfl ?_
      refine ht_getn (T := et_TT) (t := 7) (ci := 5) (f := 7) (p := 34) (by decide +kernel) rfl rfl hH k_rd (fun c31 h31 e31 => ?_)
      have q31 : c31 = c := hb_cc e31 hc7 (by omega) (by omega)
      refine hs_k (x := Int32.ofNat 400) (p := 37) (by decide +kernel) ?_
      refine hs_br2n (c := .ge) (t := 122) (f := 40) (by decide +kernel) (by omega) (by omega) (fun (c37 : 400 ≤ c31) => ?_) (fun (c37 : ¬ (400 ≤ c31)) => ?_)
      · refine hs_aload (i := 0) (p := 123) (by decide +kernel) rfl ?_
        refine ht_getr (T := et_TT) (t := 7) (ci := 5) (f := 4) (p := 126) (by decide +kernel) rfl rfl hH k_rd (fun a123 k_a123 e123 => ?_)
        refine hs_aload (i := 0) (p := 127) (by decide +kernel) rfl ?_
        refine ht_getn (T := et_TT) (t := 7) (ci := 5) (f := 7) (p := 130) (by decide +kernel) rfl rfl hH k_rd (fun c127 h127 e127 => ?_)
        have q127 : c127 = c := hb_cc e127 hc7 (by omega) (by omega)
        refine hs_gst (v := Value.ref 34) (p := 133) (by decide +kernel) ?_
        refine ht_aast (M := [(41, 0, 100000)]) (p := 134) (by decide +kernel) hH k_a123 (by omega) (hH.2.1 _ (by decide)) (hb_mm (by omega)) (fun G133 hH f133 => ?_)
        have hf := hf.tr hx0 (f133.wk (by decide +kernel))
        have hc7 := (f133.2 rd 7 k_rd 7 rfl).trans hc7
        refine hs_aload (i := 0) (p := 135) (by decide +kernel) rfl ?_
        refine ht_getr (T := et_TT) (t := 7) (ci := 5) (f := 5) (p := 138) (by decide +kernel) rfl rfl hH k_rd (fun a135 k_a135 e135 => ?_)
        refine hs_aload (i := 0) (p := 139) (by decide +kernel) rfl ?_
        refine ht_getn (T := et_TT) (t := 7) (ci := 5) (f := 7) (p := 142) (by decide +kernel) rfl rfl hH k_rd (fun c139 h139 e139 => ?_)
        have q139 : c139 = c := hb_cc e139 hc7 (by omega) (by omega)
        refine hs_aload (i := 0) (p := 143) (by decide +kernel) rfl ?_
        refine ht_getn (T := et_TT) (t := 7) (ci := 5) (f := 1) (p := 146) (by decide +kernel) rfl rfl hH k_rd (fun c143 h143 e143 => ?_)
        refine ht_ist (M := [(21, 0, 100000)]) (T := et_TT) (t := 21) (N := 401) (p := 147) (by decide +kernel) rfl rfl (by decide) hH k_a135 (by omega) (by decide) (fun s hs => absurd hs List.not_mem_nil) (hb_mm (by omega)) (fun G146 hH f146 => ?_)
        have hf := hf.tr hx0 (f146.wk (by decide +kernel))
        have hc7 := (f146.2 rd 7 k_rd 7 rfl).trans hc7
        refine hs_aload (i := 0) (p := 148) (by decide +kernel) rfl ?_
        refine hs_dup1 (p := 149) (by decide +kernel) ?_
        refine ht_getn (T := et_TT) (t := 7) (ci := 5) (f := 7) (p := 152) (by decide +kernel) rfl rfl hH k_rd (fun c149 h149 e149 => ?_)
        have q149 : c149 = c := hb_cc e149 hc7 (by omega) (by omega)
        refine hs_k (x := Int32.ofNat 1) (p := 153) (by decide +kernel) ?_
        refine hs_iaddn (p := 154) (by decide +kernel) ?_
        refine ht_put (M := [(7, 7, 7)]) (T := et_TT) (t := 7) (ci := 5) (f := 7) (p := 157) (ty := .int) (by decide +kernel) rfl rfl rfl rfl rfl (by decide +kernel) hH k_rd (hi_nv (by omega) (by omega)) (fun G154 hH f154 e154 => ?_)
        have hf := hf.tr hx0 (f154.wk (by decide +kernel))
        have hc7 := e154
        refine hs_aload (i := 0) (p := 158) (by decide +kernel) rfl ?_
        refine hs_k (x := Int32.ofNat 0) (p := 159) (by decide +kernel) ?_
        refine ht_put (M := [(7, 1, 1)]) (T := et_TT) (t := 7) (ci := 5) (f := 1) (p := 162) (ty := .int) (by decide +kernel) rfl rfl rfl rfl rfl (by decide +kernel) hH k_rd (hi_nv (by omega) (by omega)) (fun G159 hH f159 e159 => ?_)
        have hf := hf.tr hx0 (f159.wk (by decide +kernel))
        have hc7 := (f159.2 rd 7 k_rd 7 rfl).trans hc7
        refine hs_vret (by decide +kernel) ?_
        exact ⟨⟨_, List.mem_cons_self, _, hx0, hf, hH, rfl, Nat.le_refl _, Nat.le_refl _⟩, e159⟩
      · refine hs_aload (i := 0) (p := 41) (by decide +kernel) rfl ?_
        refine ht_getr (T := et_TT) (t := 7) (ci := 5) (f := 0) (p := 44) (by decide +kernel) rfl rfl hH k_rd (fun a41 k_a41 e41 => ?_)
        refine hs_iload (i := 2) (p := 45) (by decide +kernel) rfl ?_
        refine ht_cld (T := et_TT) (t := 33) (N := 400) (p := 46) (by decide +kernel) rfl hH k_a41 (by omega) (by decide) (fun x45 => ?_)
        refine hs_k (x := Int32.ofNat 32) (p := 48) (by decide +kernel) ?_
        refine hs_br2 (c := .eq) (t := 116) (f := 51) (by decide +kernel) (fun (c48 : x45 = Int32.ofNat 32) => ?_) (fun (c48 : ¬ (x45 = Int32.ofNat 32)) => ?_)
        · refine hs_iinc1 (i := 2) (p := 119) (by decide +kernel) rfl (Nat.le_of_ble_eq_true rfl) ?_
          refine hs_goto (p := 22) (by decide +kernel) ?_
          show et_go none (d + 8) 67 22 [some (.ref rd), some (.int pl), some (.int (Int32.ofNat (i + 1))), x3] [] _ 0 0 _
          exact ih (400 - (i + 1)) (by omega) hH hx0 hf k_rd hc7 (by omega) (by omega) rfl
        · refine hs_aload (i := 0) (p := 52) (by decide +kernel) rfl ?_
          refine hs_iload (i := 2) (p := 53) (by decide +kernel) rfl ?_
          have o_rd := k_rd
          refine ht_callv (T := et_TT) (t := 7) (mi := 68) (na := 1) (ci := 5) (lk := 4) (lm := 2) (L0 := eg_en (eg_mL 68) [.ref rd, .int (Int32.ofNat i)]) (by decide +kernel) rfl hH k_rd rfl rfl rfl rfl rfl (by rw [show eg_mL 68 = 2 from by decide +kernel]; first | done | rfl) ?_
          refine (ep_c1 (K, [], G) [.ref rd, .int (Int32.ofNat i)] _ hH (by omega) rfl (ht_ac (.inr ⟨by decide, _, rfl, k_rd⟩) (ht_ac hi_any ht_an))).mono (fun u hu => hs_cbv hu (fun v53 K53 G53 c53 s53 x53 f53 hH hv53 cl53 sl53 => ?_))
          have k_rd := x53 _ _ k_rd
          have k_a41 := x53 _ _ k_a41
          have hf := hf.tr hx0 (f53.wk (by decide +kernel))
          have hx0 := hx0.tr x53
          have hc7 := (f53.2 rd 7 o_rd 7 rfl).trans hc7
          obtain rfl : c53 = 0 := Nat.le_zero.mp cl53
          obtain rfl : s53 = 0 := Nat.le_zero.mp sl53
          obtain ⟨n53, hn53, rfl⟩ := hi_nat hv53
          show et_go none _ 67 56 _ [.int (Int32.ofNat n53)] _ 0 _ _
          refine hs_br1 (c := .ne) (t := 116) (f := 59) (by decide +kernel) (fun (c56 : ¬ Int32.ofNat n53 = 0) => ?_) (fun (c56 : ¬ (¬ Int32.ofNat n53 = 0)) => ?_)
          · refine hs_iinc1 (i := 2) (p := 119) (by decide +kernel) rfl (Nat.le_of_ble_eq_true rfl) ?_
            refine hs_goto (p := 22) (by decide +kernel) ?_
            show et_go none (d + 8) 67 22 [some (.ref rd), some (.int pl), some (.int (Int32.ofNat (i + 1))), x3] [] _ 0 0 _
            exact ih (400 - (i + 1)) (by omega) hH hx0 hf k_rd hc7 (by omega) (by omega) rfl
          · refine hs_aload (i := 0) (p := 60) (by decide +kernel) rfl ?_
            refine hs_iload (i := 2) (p := 61) (by decide +kernel) rfl ?_
            have o_rd := k_rd
            refine ht_callv (T := et_TT) (t := 7) (mi := 71) (na := 1) (ci := 5) (lk := 4) (lm := 3) (L0 := eg_en (eg_mL 71) [.ref rd, .int (Int32.ofNat i)]) (by decide +kernel) rfl hH k_rd rfl rfl rfl rfl rfl (by rw [show eg_mL 71 = 3 from by decide +kernel]; first | done | rfl) ?_
            refine (ep_c2 (K53, [], G53) [.ref rd, .int (Int32.ofNat i)] _ hH (by omega) rfl (ht_ac (.inr ⟨by decide, _, rfl, k_rd⟩) (ht_ac (hi_nv (by omega) (by omega)) ht_an))).mono (fun u hu => hs_cbv hu (fun v61 K61 G61 c61 s61 x61 f61 hH hv61 cl61 sl61 => ?_))
            have k_rd := x61 _ _ k_rd
            have k_a41 := x61 _ _ k_a41
            have hf := hf.tr hx0 (f61.wk (by decide +kernel))
            have hx0 := hx0.tr x61
            have hc7 := (f61.2 rd 7 o_rd 7 rfl).trans hc7
            obtain rfl : c61 = 0 := Nat.le_zero.mp cl61
            obtain rfl : s61 = 0 := Nat.le_zero.mp sl61
            obtain ⟨n61, hn61, rfl⟩ := hi_nat hv61
            show et_go none _ 67 64 _ [.int (Int32.ofNat n61)] _ 0 _ _
            refine hs_istore (i := 3) (p := 65) (by decide +kernel) (Nat.le_of_ble_eq_true rfl) ?_
            refine hs_aload (i := 0) (p := 66) (by decide +kernel) rfl ?_
            refine ht_getr (T := et_TT) (t := 7) (ci := 5) (f := 4) (p := 69) (by decide +kernel) rfl rfl hH k_rd (fun a66 k_a66 e66 => ?_)
            refine hs_aload (i := 0) (p := 70) (by decide +kernel) rfl ?_
            refine ht_getn (T := et_TT) (t := 7) (ci := 5) (f := 7) (p := 73) (by decide +kernel) rfl rfl hH k_rd (fun c70 h70 e70 => ?_)
            have q70 : c70 = c := hb_cc e70 hc7 (by omega) (by omega)
            refine hs_aload (i := 0) (p := 74) (by decide +kernel) rfl ?_
            refine hs_iload (i := 2) (p := 75) (by decide +kernel) rfl ?_
            refine hs_iload (i := 3) (p := 76) (by decide +kernel) rfl ?_
            refine hs_iload (i := 1) (p := 77) (by decide +kernel) rfl ?_
            have o_rd := k_rd
            refine ht_callv (T := et_TT) (t := 7) (mi := 72) (na := 3) (ci := 5) (lk := 4) (lm := 6) (L0 := eg_en (eg_mL 72) [.ref rd, .int (Int32.ofNat i), .int (Int32.ofNat n61), .int pl]) (by decide +kernel) rfl hH k_rd rfl rfl rfl rfl rfl (by rw [show eg_mL 72 = 6 from by decide +kernel]; first | done | rfl) ?_
            refine (hc_wordOf (K61, [], G61) [.ref rd, .int (Int32.ofNat i), .int (Int32.ofNat n61), .int pl] _ hH (by omega) rfl (ht_ac (.inr ⟨by decide, _, rfl, k_rd⟩) (ht_ac (hi_nv (by omega) (by omega)) (ht_ac hi_any (ht_ac hi_any ht_an))))).mono (fun u hu => hs_cbv hu (fun v77 K77 G77 c77 s77 x77 f77 hH hv77 cl77 sl77 => ?_))
            have k_rd := x77 _ _ k_rd
            have k_a41 := x77 _ _ k_a41
            have k_a66 := x77 _ _ k_a66
            have hf := hf.tr hx0 (f77.wk (by decide +kernel))
            have hx0 := hx0.tr x77
            have hc7 := (f77.2 rd 7 o_rd 7 rfl).trans hc7
            obtain rfl : c77 = 0 := Nat.le_zero.mp cl77
            obtain rfl : s77 = 0 := Nat.le_zero.mp sl77
            obtain ⟨b77, rfl, k_b77⟩ := hi_ref hv77
            show et_go none _ 67 80 _ [.ref b77, .int (Int32.ofNat c70), .ref a66] _ 0 _ _
            refine ht_aast (M := [(41, 0, 100000)]) (p := 81) (by decide +kernel) hH k_a66 (by omega) k_b77 (hb_mm (by omega)) (fun G80 hH f80 => ?_)
            have hf := hf.tr hx0 (f80.wk (by decide +kernel))
            have hc7 := (f80.2 rd 7 k_rd 7 rfl).trans hc7
            refine hs_aload (i := 0) (p := 82) (by decide +kernel) rfl ?_
            refine ht_getr (T := et_TT) (t := 7) (ci := 5) (f := 5) (p := 85) (by decide +kernel) rfl rfl hH k_rd (fun a82 k_a82 e82 => ?_)
            refine hs_aload (i := 0) (p := 86) (by decide +kernel) rfl ?_
            refine ht_getn (T := et_TT) (t := 7) (ci := 5) (f := 7) (p := 89) (by decide +kernel) rfl rfl hH k_rd (fun c86 h86 e86 => ?_)
            have q86 : c86 = c := hb_cc e86 hc7 (by omega) (by omega)
            refine hs_iload (i := 2) (p := 90) (by decide +kernel) rfl ?_
            refine ht_ist (M := [(21, 0, 100000)]) (T := et_TT) (t := 21) (N := 401) (p := 91) (by decide +kernel) rfl rfl (by decide) hH k_a82 (by omega) (by decide) (fun s hs => absurd hs List.not_mem_nil) (hb_mm (by omega)) (fun G90 hH f90 => ?_)
            have hf := hf.tr hx0 (f90.wk (by decide +kernel))
            have hc7 := (f90.2 rd 7 k_rd 7 rfl).trans hc7
            refine hs_aload (i := 0) (p := 92) (by decide +kernel) rfl ?_
            refine ht_getr (T := et_TT) (t := 7) (ci := 5) (f := 6) (p := 95) (by decide +kernel) rfl rfl hH k_rd (fun a92 k_a92 e92 => ?_)
            refine hs_aload (i := 0) (p := 96) (by decide +kernel) rfl ?_
            refine ht_getn (T := et_TT) (t := 7) (ci := 5) (f := 7) (p := 99) (by decide +kernel) rfl rfl hH k_rd (fun c96 h96 e96 => ?_)
            have q96 : c96 = c := hb_cc e96 hc7 (by omega) (by omega)
            refine hs_aload (i := 0) (p := 100) (by decide +kernel) rfl ?_
            refine hs_iload (i := 2) (p := 101) (by decide +kernel) rfl ?_
            refine hs_iload (i := 3) (p := 102) (by decide +kernel) rfl ?_
            have o_rd := k_rd
            refine ht_callv (T := et_TT) (t := 7) (mi := 74) (na := 2) (ci := 5) (lk := 4) (lm := 5) (L0 := eg_en (eg_mL 74) [.ref rd, .int (Int32.ofNat i), .int (Int32.ofNat n61)]) (by decide +kernel) rfl hH k_rd rfl rfl rfl rfl rfl (by rw [show eg_mL 74 = 5 from by decide +kernel]; first | done | rfl) ?_
            refine (ep_c3 (K77, [], G90) [.ref rd, .int (Int32.ofNat i), .int (Int32.ofNat n61)] _ hH (by omega) rfl (ht_ac (.inr ⟨by decide, _, rfl, k_rd⟩) (ht_ac (hi_nv (by omega) (by omega)) (ht_ac (hi_nv (by omega) (by omega)) ht_an)))).mono (fun u hu => hs_cbv hu (fun v102 K102 G102 c102 s102 x102 f102 hH hv102 cl102 sl102 => ?_))
            have k_rd := x102 _ _ k_rd
            have k_a41 := x102 _ _ k_a41
            have k_a66 := x102 _ _ k_a66
            have k_b77 := x102 _ _ k_b77
            have k_a82 := x102 _ _ k_a82
            have k_a92 := x102 _ _ k_a92
            have hf := hf.tr hx0 (f102.wk (by decide +kernel))
            have hx0 := hx0.tr x102
            have hc7 := (f102.2 rd 7 o_rd 7 rfl).trans hc7
            obtain rfl : c102 = 0 := Nat.le_zero.mp cl102
            obtain rfl : s102 = 0 := Nat.le_zero.mp sl102
            obtain ⟨n102, rfl, hn102, hm102⟩ := hi_int hv102
            show et_go none _ 67 105 _ [.int n102, .int (Int32.ofNat c96), .ref a92] _ 0 _ _
            refine ht_ist (M := [(21, 0, 100000)]) (T := et_TT) (t := 21) (N := 401) (p := 106) (by decide +kernel) rfl rfl (by decide) hH k_a92 (by omega) (by decide) (fun s hs => absurd hs List.not_mem_nil) (hb_mm (by omega)) (fun G105 hH f105 => ?_)
            have hf := hf.tr hx0 (f105.wk (by decide +kernel))
            have hc7 := (f105.2 rd 7 k_rd 7 rfl).trans hc7
            refine hs_aload (i := 0) (p := 107) (by decide +kernel) rfl ?_
            refine hs_dup1 (p := 108) (by decide +kernel) ?_
            refine ht_getn (T := et_TT) (t := 7) (ci := 5) (f := 7) (p := 111) (by decide +kernel) rfl rfl hH k_rd (fun c108 h108 e108 => ?_)
            have q108 : c108 = c := hb_cc e108 hc7 (by omega) (by omega)
            refine hs_k (x := Int32.ofNat 1) (p := 112) (by decide +kernel) ?_
            refine hs_iaddn (p := 113) (by decide +kernel) ?_
            refine ht_put (M := [(7, 7, 7)]) (T := et_TT) (t := 7) (ci := 5) (f := 7) (p := 116) (ty := .int) (by decide +kernel) rfl rfl rfl rfl rfl (by decide +kernel) hH k_rd (hi_nv (by omega) (by omega)) (fun G113 hH f113 e113 => ?_)
            have hf := hf.tr hx0 (f113.wk (by decide +kernel))
            have hc7 := e113
            refine hs_iinc1 (i := 2) (p := 119) (by decide +kernel) rfl (Nat.le_of_ble_eq_true rfl) ?_
            refine hs_goto (p := 22) (by decide +kernel) ?_
            show et_go none (d + 8) 67 22 [some (.ref rd), some (.int pl), some (.int (Int32.ofNat (i + 1))), some (.int (Int32.ofNat n61))] [] _ 0 0 _
            exact ih (400 - (i + 1)) (by omega) hH hx0 hf k_rd hc7 (by omega) (by omega) rfl
theorem hc_splL (hH : et_H et_TT w.1 w.2.2) (k_rd : w.1 rd = some 7) (hd : 8 ≤ d2) : et_go none d2 67 0 (eg_en (eg_mL 67) [.ref rd, .int pl]) [] w.2.2 0 0 (fun u => hi_Z et_TT w sp_M [(.inl none, 0, 0)] u ∧ pl_at u.2.1 rd 0) := by
  obtain ⟨d, rfl⟩ : ∃ d, d2 = d + 8 := ⟨d2 - 8, by omega⟩
  have hx0 : et_ex w.1 w.1 := et_ex.rf
  have hf : et_fr sp_M w.1 w.2.2 w.2.2 := et_fr.rf
  rw [show eg_mL 67 = 4 from by decide +kernel]
  show et_go none (d + 8) 67 0 [some (.ref rd), some (.int pl), none, none] [] w.2.2 0 0 _
  refine hs_aload (i := 0) (p := 1) (by decide +kernel) rfl ?_
  refine hs_k (x := (-1)) (p := 2) (by decide +kernel) ?_
  refine ht_put (M := [(7, 2, 2)]) (T := et_TT) (t := 7) (ci := 5) (f := 2) (p := 5) (ty := .int) (by decide +kernel) rfl rfl rfl rfl rfl (by decide +kernel) hH k_rd hi_any (fun G2 hH f2 e2 => ?_)
  have hf := hf.tr hx0 (f2.wk (by decide +kernel))
  refine hs_aload (i := 0) (p := 6) (by decide +kernel) rfl ?_
  refine hs_k (x := Int32.ofNat 0) (p := 7) (by decide +kernel) ?_
  refine ht_put (M := [(7, 3, 3)]) (T := et_TT) (t := 7) (ci := 5) (f := 3) (p := 10) (ty := .boolean) (by decide +kernel) rfl rfl rfl (by decide +kernel) rfl (by decide +kernel) hH k_rd (hi_nv (by omega) (by omega)) (fun G7 hH f7 e7 => ?_)
  have hf := hf.tr hx0 (f7.wk (by decide +kernel))
  refine hs_aload (i := 0) (p := 11) (by decide +kernel) rfl ?_
  refine hs_k (x := Int32.ofNat 0) (p := 12) (by decide +kernel) ?_
  refine ht_put (M := [(7, 7, 7)]) (T := et_TT) (t := 7) (ci := 5) (f := 7) (p := 15) (ty := .int) (by decide +kernel) rfl rfl rfl rfl rfl (by decide +kernel) hH k_rd (hi_nv (by omega) (by omega)) (fun G12 hH f12 e12 => ?_)
  have hf := hf.tr hx0 (f12.wk (by decide +kernel))
  have hc7 := e12
  refine hs_aload (i := 0) (p := 16) (by decide +kernel) rfl ?_
  refine hs_k (x := Int32.ofNat 0) (p := 17) (by decide +kernel) ?_
  refine ht_put (M := [(7, 8, 8)]) (T := et_TT) (t := 7) (ci := 5) (f := 8) (p := 20) (ty := .int) (by decide +kernel) rfl rfl rfl rfl rfl (by decide +kernel) hH k_rd (hi_nv (by omega) (by omega)) (fun G17 hH f17 e17 => ?_)
  have hf := hf.tr hx0 (f17.wk (by decide +kernel))
  have hc7 := (f17.2 rd 7 k_rd 7 rfl).trans hc7
  refine hs_k (x := Int32.ofNat 0) (p := 21) (by decide +kernel) ?_
  refine hs_istore (i := 2) (p := 22) (by decide +kernel) (Nat.le_of_ble_eq_true rfl) ?_
  show et_go none (d + 8) 67 22 [some (.ref rd), some (.int pl), some (.int (Int32.ofNat 0)), none] [] _ 0 0 _
  exact pn_spl (c := 0) hH hx0 hf k_rd hc7 (by omega) (by omega)
theorem hc_tcL (hH : et_H et_TT w.1 w.2.2) (k_rd : w.1 rd = some 7) (hd : 25 ≤ d2) : et_go none d2 66 0 (eg_en (eg_mL 66) [.ref rd, .int pl]) [] w.2.2 0 0 (fun u => hi_Z et_TT w tc_M [(.inl (some (.inr (.inr (1, 6)))), 805, 4830)] u ∧ pl_at u.2.1 rd 0) := by
  obtain ⟨d, rfl⟩ : ∃ d, d2 = d + 25 := ⟨d2 - 25, by omega⟩
  have hx0 : et_ex w.1 w.1 := et_ex.rf
  have hf : et_fr tc_M w.1 w.2.2 w.2.2 := et_fr.rf
  rw [show eg_mL 66 = 3 from by decide +kernel]
  show et_go none (d + 25) 66 0 [some (.ref rd), some (.int pl), none] [] w.2.2 0 0 _
  refine hs_aload (i := 0) (p := 1) (by decide +kernel) rfl ?_
  refine hs_iload (i := 1) (p := 2) (by decide +kernel) rfl ?_
  have hfo := hf
  refine ht_callv (T := et_TT) (t := 7) (mi := 67) (na := 1) (ci := 5) (lk := 3) (lm := 4) (L0 := eg_en (eg_mL 67) [.ref rd, .int pl]) (by decide +kernel) rfl hH k_rd rfl rfl rfl rfl rfl (by rw [show eg_mL 67 = 4 from by decide +kernel]; first | done | rfl) ?_
  refine (hc_splL (w := (w.1, [], w.2.2)) hH k_rd (by omega)).mono (fun u hu => hs_cbc (P := fun G' => pl_at G' rd 0) hu (fun K2 G2 x2 f2 hH hP => ?_))
  have k_rd := x2 _ _ k_rd
  have hf := hf.tr hx0 (f2.wk (by decide +kernel))
  have hx0 := hx0.tr x2
  have hl := hP
  obtain ⟨x, hxl, hx⟩ := pp_at0 hH k_rd
  show et_go none _ 66 5 _ [] _ 0 0 _
  refine hs_aload (i := 0) (p := 6) (by decide +kernel) rfl ?_
  refine hs_k (x := Int32.ofNat 0) (p := 7) (by decide +kernel) ?_
  refine hs_k (x := Int32.ofNat 0) (p := 8) (by decide +kernel) ?_
  have hfo := hf
  refine ht_callv (T := et_TT) (t := 7) (mi := 75) (na := 2) (ci := 5) (lk := 3) (lm := 8) (L0 := eg_en (eg_mL 75) [.ref rd, .int (Int32.ofNat 0), .int (Int32.ofNat 0)]) (by decide +kernel) rfl hH k_rd rfl rfl rfl rfl rfl (by rw [show eg_mL 75 = 8 from by decide +kernel]; first | done | rfl) ?_
  refine (pp_cond hH k_rd hx (by omega) (by omega)).mono (fun u hu => pp_cb hu (fun K8 G8 v8 y8 c8 s8 x8 f8 hH hx hy8 hz8 hs8 hA => ?_))
  have hl := (f8.2 rd 7 k_rd 1 rfl).trans hl
  have k_rd := x8 _ _ k_rd
  have hf := hf.tr hx0 (f8.wk (by decide +kernel))
  have hx0 := hx0.tr x8
  rcases hA with ⟨rfl, hA8⟩ | ⟨b8, rfl, k_b8, ge_b8, hA8⟩
  · show et_go none _ 66 11 _ [.null] _ (0 + c8) (0 + s8) _
    refine hs_astore0 (i := 2) (p := 12) (by decide +kernel) (Nat.le_of_ble_eq_true rfl) ?_
    refine hs_aload0 (i := 2) (p := 13) (by decide +kernel) rfl ?_
    refine hs_ifnull0 (p := 26) (by decide +kernel) ?_
    refine hs_aload0 (i := 2) (p := 27) (by decide +kernel) rfl ?_
    refine hs_goto (p := 34) (by decide +kernel) ?_
    refine hs_aretN (cn := "KnobEye$Node") (by decide +kernel) ?_
    exact ⟨⟨_, List.mem_cons_self, _, hx0, hf, hH, ⟨_, rfl, .inl ⟨by decide, rfl⟩⟩, (by dsimp only; omega), (by dsimp only; omega)⟩, hl⟩
  · have ge_b8 := Nat.le_trans hfo.1 ge_b8
    show et_go none _ 66 11 _ [.ref b8] _ (0 + c8) (0 + s8) _
    refine hs_astore (i := 2) (p := 12) (by decide +kernel) (Nat.le_of_ble_eq_true rfl) ?_
    refine hs_aload (i := 2) (p := 13) (by decide +kernel) rfl ?_
    refine hs_ifnull1 (p := 16) (by decide +kernel) ?_
    refine hs_aload (i := 0) (p := 17) (by decide +kernel) rfl ?_
    refine hs_gst (v := Value.ref 34) (p := 20) (by decide +kernel) ?_
    have lto_b8 := (hH.2.2 _ _ k_b8).1
    have hfo := hf
    refine ht_callv (T := et_TT) (t := 7) (mi := 78) (na := 1) (ci := 5) (lk := 3) (lm := 2) (L0 := eg_en (eg_mL 78) [.ref rd, .ref 34]) (by decide +kernel) rfl hH k_rd rfl rfl rfl rfl rfl (by rw [show eg_mL 78 = 2 from by decide +kernel]; first | done | rfl) ?_
    refine (pp_is hH k_rd hx (by omega) (hH.2.1 _ (by decide)) (by omega)).mono (fun u hu => pz_cb hu (fun K20 G20 v20 x20 f20 hH hA => ?_))
    have hx := (f20.2 rd 7 k_rd 8 rfl).trans hx
    have hl := (f20.2 rd 7 k_rd 1 rfl).trans hl
    have k_rd := x20 _ _ k_rd
    have k_b8 := x20 _ _ k_b8
    have hf := hf.tr hx0 (f20.wk (by decide +kernel))
    have hx0 := hx0.tr x20
    rcases hA with rfl | ⟨rfl, hi20⟩
    · show et_go none _ 66 23 _ [.int (Int32.ofNat 0)] _ (0 + c8) (0 + s8) _
      refine hs_if1 (c := .eq) (t := 30) (f := 26) (by decide +kernel) (show Int32.ofNat 0 = 0 by decide) ?_
      refine hs_aload (i := 0) (p := 31) (by decide +kernel) rfl ?_
      have lto_b8 := (hH.2.2 _ _ k_b8).1
      have hfo := hf
      refine ht_callv (T := et_TT) (t := 7) (mi := 76) (na := 0) (ci := 5) (lk := 3) (lm := 1) (L0 := eg_en (eg_mL 76) [.ref rd]) (by decide +kernel) rfl hH k_rd rfl rfl rfl rfl rfl (by rw [show eg_mL 76 = 1 from by decide +kernel]; first | done | rfl) ?_
      refine (ep_c4 (K20, [], G20) [.ref rd] _ hH (by omega) rfl (ht_ac (.inr ⟨by decide, _, rfl, k_rd⟩) ht_an)).mono (fun u hu => hs_cbv hu (fun v31 K31 G31 c31 s31 x31 f31 hH hv31 cl31 sl31 => ?_))
      have hx := (f31.2 rd 7 k_rd 8 rfl).trans hx
      have hl := (f31.2 rd 7 k_rd 1 rfl).trans hl
      have k_rd := x31 _ _ k_rd
      have k_b8 := x31 _ _ k_b8
      have hf := hf.tr hx0 (f31.wk (by decide +kernel))
      have hx0 := hx0.tr x31
      obtain rfl : c31 = 0 := Nat.le_zero.mp cl31
      obtain rfl : s31 = 0 := Nat.le_zero.mp sl31
      obtain rfl : v31 = .null := hv31.elim (fun h => h.2) (fun h => absurd h.1 (by decide))
      show et_go none _ 66 34 _ [.null] _ (0 + c8) (0 + s8) _
      refine hs_aretN (cn := "KnobEye$Node") (by decide +kernel) ?_
      exact ⟨⟨_, List.mem_cons_self, _, hx0, hf, hH, ⟨_, rfl, .inl ⟨by decide, rfl⟩⟩, (by dsimp only; omega), (by dsimp only; omega)⟩, hl⟩
    · show et_go none _ 66 23 _ [.int (Int32.ofNat 1)] _ (0 + c8) (0 + s8) _
      refine hs_if0 (c := .eq) (t := 30) (f := 26) (by decide +kernel) (show ¬ (Int32.ofNat 1 = 0) by decide) ?_
      refine hs_aload (i := 2) (p := 27) (by decide +kernel) rfl ?_
      refine hs_goto (p := 34) (by decide +kernel) ?_
      refine hs_aret (cn := "KnobEye$Node") (by decide +kernel) ?_
      exact ⟨⟨_, List.mem_cons_self, _, hx0, hf, hH, ⟨_, rfl, .inr ⟨by decide, _, rfl, k_b8⟩⟩, (by dsimp only; omega), (by dsimp only; omega)⟩, hl⟩
theorem pn_ttL {i mo ck sk y : Nat} (hH : et_H et_TT K G) (hx0 : et_ex w.1 K) (hf : et_fr tt_M w.1 w.2.2 G) (k_rd : K rd = some 7) (hx : pp_at G rd y) (hl : pl_at G rd 0) (k_tn : K tn = some 11) (hmo : mo ≤ 1) (hyl : y ≤ 401) (h3 : ck ≤ 4 + 2 * y + 3 * i) (hs : sk ≤ 34 + 6 * ck) (hi : i ≤ 11) : et_go none (d + 27) 84 31 [some (.ref rd), some (.ref tn), some (.int (Int32.ofNat mo)), some (.int (Int32.ofNat i))] [] G ck sk (fun u => hi_Z et_TT w tt_M [(.inl (some (.inr (.inr (1, 11)))), 840, 5100)] u ∧ pl_at u.2.1 rd 0) := by
  induction hm : 11 - i using Nat.strongRecOn generalizing i mo ck sk y K G with
  | _ z ih =>
    refine hs_iload (i := 3) (p := 32) (by decide +kernel) rfl ?_
    refine hs_k (x := Int32.ofNat 10) (p := 34) (by decide +kernel) ?_
    refine hs_br2n (c := .gt) (t := 90) (f := 37) (by decide +kernel) (by omega) (by omega) (fun (c34 : 10 < i) => ?_) (fun (c34 : ¬ (10 < i)) => ?_)
    · refine hs_aload (i := 0) (p := 91) (by decide +kernel) rfl ?_
      refine ht_geti (T := et_TT) (t := 7) (ci := 5) (f := 2) (p := 94) (by decide +kernel) rfl rfl hH k_rd (fun c91 h91 g91 e91 => ?_)
      refine hs_k (x := (-1)) (p := 95) (by decide +kernel) ?_
      refine hs_br2 (c := .ne) (t := 113) (f := 98) (by decide +kernel) (fun (c95 : ¬ c91 = (-1)) => ?_) (fun (c95 : ¬ (¬ c91 = (-1))) => ?_)
      · refine hs_aload (i := 0) (p := 114) (by decide +kernel) rfl ?_
        refine ht_geti (T := et_TT) (t := 7) (ci := 5) (f := 2) (p := 117) (by decide +kernel) rfl rfl hH k_rd (fun c114 h114 g114 e114 => ?_)
        refine hs_k (x := (-1)) (p := 118) (by decide +kernel) ?_
        refine hs_br2 (c := .ne) (t := 125) (f := 121) (by decide +kernel) (fun (c118 : ¬ c114 = (-1)) => ?_) (fun (c118 : ¬ (¬ c114 = (-1))) => ?_)
        · refine hs_nul (p := 126) (by decide +kernel) ?_
          refine hs_aretN (cn := "KnobEye$Turner") (by decide +kernel) ?_
          exact ⟨⟨_, List.mem_cons_self, _, hx0, hf, hH, ⟨_, rfl, .inl ⟨by decide, rfl⟩⟩, (by dsimp only; omega), (by dsimp only; omega)⟩, hl⟩
        · refine hs_aload (i := 1) (p := 122) (by decide +kernel) rfl ?_
          refine hs_goto (p := 126) (by decide +kernel) ?_
          refine hs_aret (cn := "KnobEye$Turner") (by decide +kernel) ?_
          exact ⟨⟨_, List.mem_cons_self, _, hx0, hf, hH, ⟨_, rfl, .inr ⟨by decide, _, rfl, k_tn⟩⟩, (by dsimp only; omega), (by dsimp only; omega)⟩, hl⟩
      · refine hs_aload (i := 0) (p := 99) (by decide +kernel) rfl ?_
        refine hs_gst (v := Value.ref 34) (p := 102) (by decide +kernel) ?_
        have hfo := hf
        refine ht_callv (T := et_TT) (t := 7) (mi := 78) (na := 1) (ci := 5) (lk := 4) (lm := 2) (L0 := eg_en (eg_mL 78) [.ref rd, .ref 34]) (by decide +kernel) rfl hH k_rd rfl rfl rfl rfl rfl (by rw [show eg_mL 78 = 2 from by decide +kernel]; first | done | rfl) ?_
        refine (pp_is hH k_rd hx (by omega) (hH.2.1 _ (by decide)) (by omega)).mono (fun u hu => pz_cb hu (fun K102 G102 v102 x102 f102 hH hA => ?_))
        have hx := (f102.2 rd 7 k_rd 8 rfl).trans hx
        have hl := (f102.2 rd 7 k_rd 1 rfl).trans hl
        have k_rd := x102 _ _ k_rd
        have k_tn := x102 _ _ k_tn
        have hf := hf.tr hx0 (f102.wk (by decide +kernel))
        have hx0 := hx0.tr x102
        rcases hA with rfl | ⟨rfl, hi102⟩
        · show et_go none _ 84 105 _ [.int (Int32.ofNat 0)] _ ck sk _
          refine hs_if0 (c := .ne) (t := 113) (f := 108) (by decide +kernel) (show ¬ (¬ Int32.ofNat 0 = 0) by decide) ?_
          refine hs_aload (i := 0) (p := 109) (by decide +kernel) rfl ?_
          have hfo := hf
          refine ht_callv (T := et_TT) (t := 7) (mi := 76) (na := 0) (ci := 5) (lk := 4) (lm := 1) (L0 := eg_en (eg_mL 76) [.ref rd]) (by decide +kernel) rfl hH k_rd rfl rfl rfl rfl rfl (by rw [show eg_mL 76 = 1 from by decide +kernel]; first | done | rfl) ?_
          refine (ep_c4 (K102, [], G102) [.ref rd] _ hH (by omega) rfl (ht_ac (.inr ⟨by decide, _, rfl, k_rd⟩) ht_an)).mono (fun u hu => hs_cbv hu (fun v109 K109 G109 c109 s109 x109 f109 hH hv109 cl109 sl109 => ?_))
          have hx := (f109.2 rd 7 k_rd 8 rfl).trans hx
          have hl := (f109.2 rd 7 k_rd 1 rfl).trans hl
          have k_rd := x109 _ _ k_rd
          have k_tn := x109 _ _ k_tn
          have hf := hf.tr hx0 (f109.wk (by decide +kernel))
          have hx0 := hx0.tr x109
          obtain rfl : c109 = 0 := Nat.le_zero.mp cl109
          obtain rfl : s109 = 0 := Nat.le_zero.mp sl109
          obtain rfl : v109 = .null := hv109.elim (fun h => h.2) (fun h => absurd h.1 (by decide))
          show et_go none _ 84 112 _ [.null] _ ck sk _
          refine hs_popn (p := 113) (by decide +kernel) ?_
          refine hs_aload (i := 0) (p := 114) (by decide +kernel) rfl ?_
          refine ht_geti (T := et_TT) (t := 7) (ci := 5) (f := 2) (p := 117) (by decide +kernel) rfl rfl hH k_rd (fun c114 h114 g114 e114 => ?_)
          refine hs_k (x := (-1)) (p := 118) (by decide +kernel) ?_
          refine hs_br2 (c := .ne) (t := 125) (f := 121) (by decide +kernel) (fun (c118 : ¬ c114 = (-1)) => ?_) (fun (c118 : ¬ (¬ c114 = (-1))) => ?_)
          · refine hs_nul (p := 126) (by decide +kernel) ?_
            refine hs_aretN (cn := "KnobEye$Turner") (by decide +kernel) ?_
            exact ⟨⟨_, List.mem_cons_self, _, hx0, hf, hH, ⟨_, rfl, .inl ⟨by decide, rfl⟩⟩, (by dsimp only; omega), (by dsimp only; omega)⟩, hl⟩
          · refine hs_aload (i := 1) (p := 122) (by decide +kernel) rfl ?_
            refine hs_goto (p := 126) (by decide +kernel) ?_
            refine hs_aret (cn := "KnobEye$Turner") (by decide +kernel) ?_
            exact ⟨⟨_, List.mem_cons_self, _, hx0, hf, hH, ⟨_, rfl, .inr ⟨by decide, _, rfl, k_tn⟩⟩, (by dsimp only; omega), (by dsimp only; omega)⟩, hl⟩
        · show et_go none _ 84 105 _ [.int (Int32.ofNat 1)] _ ck sk _
          refine hs_if1 (c := .ne) (t := 113) (f := 108) (by decide +kernel) (show ¬ Int32.ofNat 1 = 0 by decide) ?_
          refine hs_aload (i := 0) (p := 114) (by decide +kernel) rfl ?_
          refine ht_geti (T := et_TT) (t := 7) (ci := 5) (f := 2) (p := 117) (by decide +kernel) rfl rfl hH k_rd (fun c114 h114 g114 e114 => ?_)
          refine hs_k (x := (-1)) (p := 118) (by decide +kernel) ?_
          refine hs_br2 (c := .ne) (t := 125) (f := 121) (by decide +kernel) (fun (c118 : ¬ c114 = (-1)) => ?_) (fun (c118 : ¬ (¬ c114 = (-1))) => ?_)
          · refine hs_nul (p := 126) (by decide +kernel) ?_
            refine hs_aretN (cn := "KnobEye$Turner") (by decide +kernel) ?_
            exact ⟨⟨_, List.mem_cons_self, _, hx0, hf, hH, ⟨_, rfl, .inl ⟨by decide, rfl⟩⟩, (by dsimp only; omega), (by dsimp only; omega)⟩, hl⟩
          · refine hs_aload (i := 1) (p := 122) (by decide +kernel) rfl ?_
            refine hs_goto (p := 126) (by decide +kernel) ?_
            refine hs_aret (cn := "KnobEye$Turner") (by decide +kernel) ?_
            exact ⟨⟨_, List.mem_cons_self, _, hx0, hf, hH, ⟨_, rfl, .inr ⟨by decide, _, rfl, k_tn⟩⟩, (by dsimp only; omega), (by dsimp only; omega)⟩, hl⟩
    · refine hs_iload (i := 2) (p := 38) (by decide +kernel) rfl ?_
      refine hs_br1 (c := .eq) (t := 90) (f := 41) (by decide +kernel) (fun (c38 : Int32.ofNat mo = 0) => ?_) (fun (c38 : ¬ (Int32.ofNat mo = 0)) => ?_)
      · refine hs_aload (i := 0) (p := 91) (by decide +kernel) rfl ?_
        refine ht_geti (T := et_TT) (t := 7) (ci := 5) (f := 2) (p := 94) (by decide +kernel) rfl rfl hH k_rd (fun c91 h91 g91 e91 => ?_)
        refine hs_k (x := (-1)) (p := 95) (by decide +kernel) ?_
        refine hs_br2 (c := .ne) (t := 113) (f := 98) (by decide +kernel) (fun (c95 : ¬ c91 = (-1)) => ?_) (fun (c95 : ¬ (¬ c91 = (-1))) => ?_)
        · refine hs_aload (i := 0) (p := 114) (by decide +kernel) rfl ?_
          refine ht_geti (T := et_TT) (t := 7) (ci := 5) (f := 2) (p := 117) (by decide +kernel) rfl rfl hH k_rd (fun c114 h114 g114 e114 => ?_)
          refine hs_k (x := (-1)) (p := 118) (by decide +kernel) ?_
          refine hs_br2 (c := .ne) (t := 125) (f := 121) (by decide +kernel) (fun (c118 : ¬ c114 = (-1)) => ?_) (fun (c118 : ¬ (¬ c114 = (-1))) => ?_)
          · refine hs_nul (p := 126) (by decide +kernel) ?_
            refine hs_aretN (cn := "KnobEye$Turner") (by decide +kernel) ?_
            exact ⟨⟨_, List.mem_cons_self, _, hx0, hf, hH, ⟨_, rfl, .inl ⟨by decide, rfl⟩⟩, (by dsimp only; omega), (by dsimp only; omega)⟩, hl⟩
          · refine hs_aload (i := 1) (p := 122) (by decide +kernel) rfl ?_
            refine hs_goto (p := 126) (by decide +kernel) ?_
            refine hs_aret (cn := "KnobEye$Turner") (by decide +kernel) ?_
            exact ⟨⟨_, List.mem_cons_self, _, hx0, hf, hH, ⟨_, rfl, .inr ⟨by decide, _, rfl, k_tn⟩⟩, (by dsimp only; omega), (by dsimp only; omega)⟩, hl⟩
        · refine hs_aload (i := 0) (p := 99) (by decide +kernel) rfl ?_
          refine hs_gst (v := Value.ref 34) (p := 102) (by decide +kernel) ?_
          have hfo := hf
          refine ht_callv (T := et_TT) (t := 7) (mi := 78) (na := 1) (ci := 5) (lk := 4) (lm := 2) (L0 := eg_en (eg_mL 78) [.ref rd, .ref 34]) (by decide +kernel) rfl hH k_rd rfl rfl rfl rfl rfl (by rw [show eg_mL 78 = 2 from by decide +kernel]; first | done | rfl) ?_
          refine (pp_is hH k_rd hx (by omega) (hH.2.1 _ (by decide)) (by omega)).mono (fun u hu => pz_cb hu (fun K102 G102 v102 x102 f102 hH hA => ?_))
          have hx := (f102.2 rd 7 k_rd 8 rfl).trans hx
          have hl := (f102.2 rd 7 k_rd 1 rfl).trans hl
          have k_rd := x102 _ _ k_rd
          have k_tn := x102 _ _ k_tn
          have hf := hf.tr hx0 (f102.wk (by decide +kernel))
          have hx0 := hx0.tr x102
          rcases hA with rfl | ⟨rfl, hi102⟩
          · show et_go none _ 84 105 _ [.int (Int32.ofNat 0)] _ ck sk _
            refine hs_if0 (c := .ne) (t := 113) (f := 108) (by decide +kernel) (show ¬ (¬ Int32.ofNat 0 = 0) by decide) ?_
            refine hs_aload (i := 0) (p := 109) (by decide +kernel) rfl ?_
            have hfo := hf
            refine ht_callv (T := et_TT) (t := 7) (mi := 76) (na := 0) (ci := 5) (lk := 4) (lm := 1) (L0 := eg_en (eg_mL 76) [.ref rd]) (by decide +kernel) rfl hH k_rd rfl rfl rfl rfl rfl (by rw [show eg_mL 76 = 1 from by decide +kernel]; first | done | rfl) ?_
            refine (ep_c4 (K102, [], G102) [.ref rd] _ hH (by omega) rfl (ht_ac (.inr ⟨by decide, _, rfl, k_rd⟩) ht_an)).mono (fun u hu => hs_cbv hu (fun v109 K109 G109 c109 s109 x109 f109 hH hv109 cl109 sl109 => ?_))
            have hx := (f109.2 rd 7 k_rd 8 rfl).trans hx
            have hl := (f109.2 rd 7 k_rd 1 rfl).trans hl
            have k_rd := x109 _ _ k_rd
            have k_tn := x109 _ _ k_tn
            have hf := hf.tr hx0 (f109.wk (by decide +kernel))
            have hx0 := hx0.tr x109
            obtain rfl : c109 = 0 := Nat.le_zero.mp cl109
            obtain rfl : s109 = 0 := Nat.le_zero.mp sl109
            obtain rfl : v109 = .null := hv109.elim (fun h => h.2) (fun h => absurd h.1 (by decide))
            show et_go none _ 84 112 _ [.null] _ ck sk _
            refine hs_popn (p := 113) (by decide +kernel) ?_
            refine hs_aload (i := 0) (p := 114) (by decide +kernel) rfl ?_
            refine ht_geti (T := et_TT) (t := 7) (ci := 5) (f := 2) (p := 117) (by decide +kernel) rfl rfl hH k_rd (fun c114 h114 g114 e114 => ?_)
            refine hs_k (x := (-1)) (p := 118) (by decide +kernel) ?_
            refine hs_br2 (c := .ne) (t := 125) (f := 121) (by decide +kernel) (fun (c118 : ¬ c114 = (-1)) => ?_) (fun (c118 : ¬ (¬ c114 = (-1))) => ?_)
            · refine hs_nul (p := 126) (by decide +kernel) ?_
              refine hs_aretN (cn := "KnobEye$Turner") (by decide +kernel) ?_
              exact ⟨⟨_, List.mem_cons_self, _, hx0, hf, hH, ⟨_, rfl, .inl ⟨by decide, rfl⟩⟩, (by dsimp only; omega), (by dsimp only; omega)⟩, hl⟩
            · refine hs_aload (i := 1) (p := 122) (by decide +kernel) rfl ?_
              refine hs_goto (p := 126) (by decide +kernel) ?_
              refine hs_aret (cn := "KnobEye$Turner") (by decide +kernel) ?_
              exact ⟨⟨_, List.mem_cons_self, _, hx0, hf, hH, ⟨_, rfl, .inr ⟨by decide, _, rfl, k_tn⟩⟩, (by dsimp only; omega), (by dsimp only; omega)⟩, hl⟩
          · show et_go none _ 84 105 _ [.int (Int32.ofNat 1)] _ ck sk _
            refine hs_if1 (c := .ne) (t := 113) (f := 108) (by decide +kernel) (show ¬ Int32.ofNat 1 = 0 by decide) ?_
            refine hs_aload (i := 0) (p := 114) (by decide +kernel) rfl ?_
            refine ht_geti (T := et_TT) (t := 7) (ci := 5) (f := 2) (p := 117) (by decide +kernel) rfl rfl hH k_rd (fun c114 h114 g114 e114 => ?_)
            refine hs_k (x := (-1)) (p := 118) (by decide +kernel) ?_
            refine hs_br2 (c := .ne) (t := 125) (f := 121) (by decide +kernel) (fun (c118 : ¬ c114 = (-1)) => ?_) (fun (c118 : ¬ (¬ c114 = (-1))) => ?_)
            · refine hs_nul (p := 126) (by decide +kernel) ?_
              refine hs_aretN (cn := "KnobEye$Turner") (by decide +kernel) ?_
              exact ⟨⟨_, List.mem_cons_self, _, hx0, hf, hH, ⟨_, rfl, .inl ⟨by decide, rfl⟩⟩, (by dsimp only; omega), (by dsimp only; omega)⟩, hl⟩
            · refine hs_aload (i := 1) (p := 122) (by decide +kernel) rfl ?_
              refine hs_goto (p := 126) (by decide +kernel) ?_
              refine hs_aret (cn := "KnobEye$Turner") (by decide +kernel) ?_
              exact ⟨⟨_, List.mem_cons_self, _, hx0, hf, hH, ⟨_, rfl, .inr ⟨by decide, _, rfl, k_tn⟩⟩, (by dsimp only; omega), (by dsimp only; omega)⟩, hl⟩
      · refine hs_aload (i := 0) (p := 42) (by decide +kernel) rfl ?_
        refine hs_aload (i := 1) (p := 43) (by decide +kernel) rfl ?_
        have hfo := hf
        refine ht_callv (T := et_TT) (t := 7) (mi := 85) (na := 1) (ci := 5) (lk := 4) (lm := 5) (L0 := eg_en (eg_mL 85) [.ref rd, .ref tn]) (by decide +kernel) rfl hH k_rd rfl rfl rfl rfl rfl (by rw [show eg_mL 85 = 5 from by decide +kernel]; first | done | rfl) ?_
        refine (pp_line hH k_rd hx k_tn (by omega) (by omega)).mono (fun u hu => pl_cb hu (fun K43 G43 y43 c43 s43 x43 f43 hH hx hy43 hz43 hs43 hA43 => ?_))
        have hl := (f43.2 rd 7 k_rd 1 rfl).trans hl
        have k_rd := x43 _ _ k_rd
        have k_tn := x43 _ _ k_tn
        have hf := hf.tr hx0 (f43.wk (by decide +kernel))
        have hx0 := hx0.tr x43
        show et_go none _ 84 46 _ [] _ (ck + c43) (sk + s43) _
        refine hs_aload (i := 0) (p := 47) (by decide +kernel) rfl ?_
        refine ht_geti (T := et_TT) (t := 7) (ci := 5) (f := 2) (p := 50) (by decide +kernel) rfl rfl hH k_rd (fun c47 h47 g47 e47 => ?_)
        refine hs_k (x := (-1)) (p := 51) (by decide +kernel) ?_
        refine hs_br2 (c := .ne) (t := 68) (f := 54) (by decide +kernel) (fun (c51 : ¬ c47 = (-1)) => ?_) (fun (c51 : ¬ (¬ c47 = (-1))) => ?_)
        · refine hs_k (x := Int32.ofNat 0) (p := 69) (by decide +kernel) ?_
          refine hs_istore (i := 2) (p := 70) (by decide +kernel) (Nat.le_of_ble_eq_true rfl) ?_
          refine hs_iload (i := 2) (p := 71) (by decide +kernel) rfl ?_
          refine hs_if1 (c := .eq) (t := 84) (f := 74) (by decide +kernel) (show Int32.ofNat 0 = 0 by decide) ?_
          refine hs_iinc1 (i := 3) (p := 87) (by decide +kernel) rfl (Nat.le_of_ble_eq_true rfl) ?_
          refine hs_goto (p := 31) (by decide +kernel) ?_
          show et_go none (d + 27) 84 31 [some (.ref rd), some (.ref tn), some (.int (Int32.ofNat 0)), some (.int (Int32.ofNat (i + 1)))] [] _ _ _ _
          exact ih (11 - (i + 1)) (by omega) (i := (i + 1)) hH hx0 hf k_rd hx hl k_tn (by omega) (by omega) (by omega) (by omega) (by omega) rfl
        · refine hs_aload (i := 0) (p := 55) (by decide +kernel) rfl ?_
          refine hs_gst (v := Value.ref 32) (p := 58) (by decide +kernel) ?_
          have hfo := hf
          refine ht_callv (T := et_TT) (t := 7) (mi := 78) (na := 1) (ci := 5) (lk := 4) (lm := 2) (L0 := eg_en (eg_mL 78) [.ref rd, .ref 32]) (by decide +kernel) rfl hH k_rd rfl rfl rfl rfl rfl (by rw [show eg_mL 78 = 2 from by decide +kernel]; first | done | rfl) ?_
          refine (pp_is hH k_rd hx (by omega) (hH.2.1 _ (by decide)) (by omega)).mono (fun u hu => pz_cb hu (fun K58 G58 v58 x58 f58 hH hA => ?_))
          have hx := (f58.2 rd 7 k_rd 8 rfl).trans hx
          have hl := (f58.2 rd 7 k_rd 1 rfl).trans hl
          have k_rd := x58 _ _ k_rd
          have k_tn := x58 _ _ k_tn
          have hf := hf.tr hx0 (f58.wk (by decide +kernel))
          have hx0 := hx0.tr x58
          rcases hA with rfl | ⟨rfl, hi58⟩
          · show et_go none _ 84 61 _ [.int (Int32.ofNat 0)] _ (ck + c43) (sk + s43) _
            refine hs_if1 (c := .eq) (t := 68) (f := 64) (by decide +kernel) (show Int32.ofNat 0 = 0 by decide) ?_
            refine hs_k (x := Int32.ofNat 0) (p := 69) (by decide +kernel) ?_
            refine hs_istore (i := 2) (p := 70) (by decide +kernel) (Nat.le_of_ble_eq_true rfl) ?_
            refine hs_iload (i := 2) (p := 71) (by decide +kernel) rfl ?_
            refine hs_if1 (c := .eq) (t := 84) (f := 74) (by decide +kernel) (show Int32.ofNat 0 = 0 by decide) ?_
            refine hs_iinc1 (i := 3) (p := 87) (by decide +kernel) rfl (Nat.le_of_ble_eq_true rfl) ?_
            refine hs_goto (p := 31) (by decide +kernel) ?_
            show et_go none (d + 27) 84 31 [some (.ref rd), some (.ref tn), some (.int (Int32.ofNat 0)), some (.int (Int32.ofNat (i + 1)))] [] _ _ _ _
            exact ih (11 - (i + 1)) (by omega) (i := (i + 1)) hH hx0 hf k_rd hx hl k_tn (by omega) (by omega) (by omega) (by omega) (by omega) rfl
          · show et_go none _ 84 61 _ [.int (Int32.ofNat 1)] _ (ck + c43) (sk + s43) _
            refine hs_if0 (c := .eq) (t := 68) (f := 64) (by decide +kernel) (show ¬ (Int32.ofNat 1 = 0) by decide) ?_
            refine hs_k (x := Int32.ofNat 1) (p := 65) (by decide +kernel) ?_
            refine hs_goto (p := 69) (by decide +kernel) ?_
            refine hs_istore (i := 2) (p := 70) (by decide +kernel) (Nat.le_of_ble_eq_true rfl) ?_
            refine hs_iload (i := 2) (p := 71) (by decide +kernel) rfl ?_
            refine hs_if0 (c := .eq) (t := 84) (f := 74) (by decide +kernel) (show ¬ (Int32.ofNat 1 = 0) by decide) ?_
            refine hs_aload (i := 0) (p := 75) (by decide +kernel) rfl ?_
            refine hs_dup1 (p := 76) (by decide +kernel) ?_
            refine ht_getn (T := et_TT) (t := 7) (ci := 5) (f := 8) (p := 79) (by decide +kernel) rfl rfl hH k_rd (fun c76 h76 e76 => ?_)
            have q76 : c76 = y43 := hb_cc e76 hx (by omega) (by omega)
            refine hs_k (x := Int32.ofNat 1) (p := 80) (by decide +kernel) ?_
            refine hs_iaddn (p := 81) (by decide +kernel) ?_
            refine ht_put (M := [(7, 8, 8)]) (T := et_TT) (t := 7) (ci := 5) (f := 8) (p := 84) (ty := .int) (by decide +kernel) rfl rfl rfl rfl rfl (by decide +kernel) hH k_rd (hi_nv (by omega) (by omega)) (fun G81 hH f81 e81 => ?_)
            have hl := (f81.2 rd 7 k_rd 1 rfl).trans hl
            have hf := hf.tr hx0 (f81.wk (by decide +kernel))
            have hx := e81
            refine hs_iinc1 (i := 3) (p := 87) (by decide +kernel) rfl (Nat.le_of_ble_eq_true rfl) ?_
            refine hs_goto (p := 31) (by decide +kernel) ?_
            show et_go none (d + 27) 84 31 [some (.ref rd), some (.ref tn), some (.int (Int32.ofNat 1)), some (.int (Int32.ofNat (i + 1)))] [] _ _ _ _
            exact ih (11 - (i + 1)) (by omega) (i := (i + 1)) hH hx0 hf k_rd hx hl k_tn (by omega) (by omega) (by omega) (by omega) (by omega) rfl
theorem hc_ttL (hH : et_H et_TT w.1 w.2.2) (k_rd : w.1 rd = some 7) (hd : 27 ≤ d2) : et_go none d2 84 0 (eg_en (eg_mL 84) [.ref rd]) [] w.2.2 0 0 (fun u => hi_Z et_TT w tt_M [(.inl (some (.inr (.inr (1, 11)))), 840, 5100)] u ∧ pl_at u.2.1 rd 0) := by
  obtain ⟨d, rfl⟩ : ∃ d, d2 = d + 27 := ⟨d2 - 27, by omega⟩
  have hx0 : et_ex w.1 w.1 := et_ex.rf
  have hf : et_fr tt_M w.1 w.2.2 w.2.2 := et_fr.rf
  rw [show eg_mL 84 = 4 from by decide +kernel]
  show et_go none (d + 27) 84 0 [some (.ref rd), none, none, none] [] w.2.2 0 0 _
  refine hs_aload (i := 0) (p := 1) (by decide +kernel) rfl ?_
  refine hs_k (x := Int32.ofNat 1) (p := 2) (by decide +kernel) ?_
  have hfo := hf
  refine ht_callv (T := et_TT) (t := 7) (mi := 67) (na := 1) (ci := 5) (lk := 4) (lm := 4) (L0 := eg_en (eg_mL 67) [.ref rd, .int (Int32.ofNat 1)]) (by decide +kernel) rfl hH k_rd rfl rfl rfl rfl rfl (by rw [show eg_mL 67 = 4 from by decide +kernel]; first | done | rfl) ?_
  refine (hc_splL (w := (w.1, [], w.2.2)) hH k_rd (by omega)).mono (fun u hu => hs_cbc (P := fun G' => pl_at G' rd 0) hu (fun K2 G2 x2 f2 hH hP => ?_))
  have k_rd := x2 _ _ k_rd
  have hf := hf.tr hx0 (f2.wk (by decide +kernel))
  have hx0 := hx0.tr x2
  have hl := hP
  obtain ⟨x, hxl, hx⟩ := pp_at0 hH k_rd
  show et_go none _ 84 5 _ [] _ 0 0 _
  refine ht_newU (ci := 9) (n := 4) (fs := [.int 0, .null, .null, .null]) (p := 8) (by decide +kernel) (by omega) (by omega) (by decide +kernel) (by decide +kernel) hH (fun G5 o5 hu f5 => ?_)
  have hx := (f5.2 rd 7 k_rd 8 rfl).trans hx
  have hl := (f5.2 rd 7 k_rd 1 rfl).trans hl
  have hH := hu.1
  have hf := hf.tr hx0 (f5.wk (by decide +kernel))
  refine hs_dup1 (p := 9) (by decide +kernel) ?_
  have hfo := hf
  refine hs_callp (mi := 112) (na := 0) (lk := 4) (lm := 1) (L0 := eg_en (eg_mL 112) [.ref o5]) (by decide +kernel) rfl rfl rfl rfl rfl (by rw [show eg_mL 112 = 1 from by decide +kernel]; first | done | rfl) ?_
  refine (pu_turner hu).mono (fun u hu => pu_cb hu (fun K9 G9 x9 f9 hH k_o5 => ?_))
  have hx := (f9.2 rd 7 k_rd 8 rfl).trans hx
  have hl := (f9.2 rd 7 k_rd 1 rfl).trans hl
  have k_rd := x9 _ _ k_rd
  have hf := hf.tr hx0 (f9.wk (by decide +kernel))
  have hx0 := hx0.tr x9
  show et_go none _ 84 12 _ [.ref o5] _ ((0 + 1) + 3) ((0 + 4) + 30) _
  refine hs_astore (i := 1) (p := 13) (by decide +kernel) (Nat.le_of_ble_eq_true rfl) ?_
  refine hs_aload (i := 0) (p := 14) (by decide +kernel) rfl ?_
  refine hs_gst (v := Value.ref 34) (p := 17) (by decide +kernel) ?_
  have hfo := hf
  refine ht_callv (T := et_TT) (t := 7) (mi := 78) (na := 1) (ci := 5) (lk := 4) (lm := 2) (L0 := eg_en (eg_mL 78) [.ref rd, .ref 34]) (by decide +kernel) rfl hH k_rd rfl rfl rfl rfl rfl (by rw [show eg_mL 78 = 2 from by decide +kernel]; first | done | rfl) ?_
  refine (pp_is hH k_rd hx (by omega) (hH.2.1 _ (by decide)) (by omega)).mono (fun u hu => pz_cb hu (fun K17 G17 v17 x17 f17 hH hA => ?_))
  have hx := (f17.2 rd 7 k_rd 8 rfl).trans hx
  have hl := (f17.2 rd 7 k_rd 1 rfl).trans hl
  have k_rd := x17 _ _ k_rd
  have k_o5 := x17 _ _ k_o5
  have hf := hf.tr hx0 (f17.wk (by decide +kernel))
  have hx0 := hx0.tr x17
  rcases hA with rfl | ⟨rfl, hi17⟩
  · show et_go none _ 84 20 _ [.int (Int32.ofNat 0)] _ ((0 + 1) + 3) ((0 + 4) + 30) _
    refine hs_if0 (c := .ne) (t := 27) (f := 23) (by decide +kernel) (show ¬ (¬ Int32.ofNat 0 = 0) by decide) ?_
    refine hs_k (x := Int32.ofNat 1) (p := 24) (by decide +kernel) ?_
    refine hs_goto (p := 28) (by decide +kernel) ?_
    refine hs_istore (i := 2) (p := 29) (by decide +kernel) (Nat.le_of_ble_eq_true rfl) ?_
    refine hs_k (x := Int32.ofNat 0) (p := 30) (by decide +kernel) ?_
    refine hs_istore (i := 3) (p := 31) (by decide +kernel) (Nat.le_of_ble_eq_true rfl) ?_
    show et_go none (d + 27) 84 31 [some (.ref rd), some (.ref o5), some (.int (Int32.ofNat 1)), some (.int (Int32.ofNat 0))] [] _ _ _ _
    exact pn_ttL (i := 0) hH hx0 hf k_rd hx hl k_o5 (by omega) (by omega) (by omega) (by omega) (by omega)
  · show et_go none _ 84 20 _ [.int (Int32.ofNat 1)] _ ((0 + 1) + 3) ((0 + 4) + 30) _
    refine hs_if1 (c := .ne) (t := 27) (f := 23) (by decide +kernel) (show ¬ Int32.ofNat 1 = 0 by decide) ?_
    refine hs_k (x := Int32.ofNat 0) (p := 28) (by decide +kernel) ?_
    refine hs_istore (i := 2) (p := 29) (by decide +kernel) (Nat.le_of_ble_eq_true rfl) ?_
    refine hs_k (x := Int32.ofNat 0) (p := 30) (by decide +kernel) ?_
    refine hs_istore (i := 3) (p := 31) (by decide +kernel) (Nat.le_of_ble_eq_true rfl) ?_
    show et_go none (d + 27) 84 31 [some (.ref rd), some (.ref o5), some (.int (Int32.ofNat 0)), some (.int (Int32.ofNat 0))] [] _ _ _ _
    exact pn_ttL (i := 0) hH hx0 hf k_rd hx hl k_o5 (by omega) (by omega) (by omega) (by omega) (by omega)
theorem hc_ruleL (hH : et_H et_TT w.1 w.2.2) (k_th : w.1 th = some 12) (hd : 26 ≤ d2) : et_go none d2 131 0 (eg_en (eg_mL 131) [.ref th]) [] w.2.2 0 0 (fun u => hi_Z et_TT w ru_M [(.inl (some (.inl (et_mn, et_mx))), 806, 4836), (.inr 0, 806, 4836), (.inr 2, 806, 4836)] u ∧ (∀ rd, et_pl (eg_at w.2.2 th) 3 = some (.ref rd) → pl_at u.2.1 rd 0)) := by
  obtain ⟨d, rfl⟩ : ∃ d, d2 = d + 26 := ⟨d2 - 26, by omega⟩
  have hx0 : et_ex w.1 w.1 := et_ex.rf
  have hf : et_fr ru_M w.1 w.2.2 w.2.2 := et_fr.rf
  rw [show eg_mL 131 = 2 from by decide +kernel]
  show et_go none (d + 26) 131 0 [some (.ref th), none] [] w.2.2 0 0 _
  refine hs_aload (i := 0) (p := 1) (by decide +kernel) rfl ?_
  refine ht_getr (T := et_TT) (t := 12) (ci := 10) (f := 3) (p := 4) (by decide +kernel) rfl rfl hH k_th (fun a1 k_a1 e1 => ?_)
  refine hs_k (x := Int32.ofNat 0) (p := 5) (by decide +kernel) ?_
  have hfo := hf
  refine ht_callv (T := et_TT) (t := 7) (mi := 66) (na := 1) (ci := 5) (lk := 2) (lm := 3) (L0 := eg_en (eg_mL 66) [.ref a1, .int (Int32.ofNat 0)]) (by decide +kernel) rfl hH k_a1 rfl rfl rfl rfl rfl (by rw [show eg_mL 66 = 3 from by decide +kernel]; first | done | rfl) ?_
  refine (hc_tcL (w := (w.1, [], w.2.2)) hH k_a1 (by omega)).mono (fun u hu => hs_cbvp (P := fun G' => pl_at G' a1 0) hu (fun v5 K5 G5 c5 s5 x5 f5 hH hP hv5 cl5 sl5 => ?_))
  have k_th := x5 _ _ k_th
  have k_a1 := x5 _ _ k_a1
  have hf := hf.tr hx0 (f5.wk (by decide +kernel))
  have hx0 := hx0.tr x5
  have hl := hP
  rcases hi_q hv5 with rfl | ⟨b5, rfl, k_b5⟩
  · show et_go none _ 131 8 _ [.null] _ (0 + c5) (0 + s5) _
    refine hs_astore0 (i := 1) (p := 9) (by decide +kernel) (Nat.le_of_ble_eq_true rfl) ?_
    refine hs_aload0 (i := 1) (p := 10) (by decide +kernel) rfl ?_
    refine hs_ifnonnull0 (p := 13) (by decide +kernel) ?_
    refine hs_thr (x := 0) (lk := 2) (by decide +kernel) rfl rfl ?_
    exact ⟨⟨_, (List.mem_cons_of_mem _ List.mem_cons_self), _, hx0, hf, hH, rfl, (by dsimp only; omega), (by dsimp only; omega)⟩, fun rd e => by obtain rfl : a1 = rd := Value.ref.inj (Option.some.inj (e1.symm.trans e)); exact hl⟩
  · show et_go none _ 131 8 _ [.ref b5] _ (0 + c5) (0 + s5) _
    refine hs_astore (i := 1) (p := 9) (by decide +kernel) (Nat.le_of_ble_eq_true rfl) ?_
    refine hs_aload (i := 1) (p := 10) (by decide +kernel) rfl ?_
    refine hs_ifnonnull1 (p := 21) (by decide +kernel) ?_
    refine hs_aload (i := 0) (p := 22) (by decide +kernel) rfl ?_
    refine ht_getr (T := et_TT) (t := 12) (ci := 10) (f := 0) (p := 25) (by decide +kernel) rfl rfl hH k_th (fun a22 k_a22 e22 => ?_)
    have hs0 := e22
    refine ht_getn (T := et_TT) (t := 10) (ci := 8) (f := 0) (p := 28) (by decide +kernel) rfl rfl hH k_a22 (fun c25 h25 e25 => ?_)
    have hs1 := e25
    refine hs_k (x := Int32.ofNat 4) (p := 29) (by decide +kernel) ?_
    refine hs_br2n (c := .lt) (t := 40) (f := 32) (by decide +kernel) (by omega) (by omega) (fun (c29 : c25 < 4) => ?_) (fun (c29 : ¬ (c25 < 4)) => ?_)
    · refine hs_aload (i := 0) (p := 41) (by decide +kernel) rfl ?_
      refine ht_getr (T := et_TT) (t := 12) (ci := 10) (f := 0) (p := 44) (by decide +kernel) rfl rfl hH k_th (fun a41 k_a41 e41 => ?_)
      obtain rfl : a22 = a41 := Value.ref.inj (Option.some.inj (hs0.symm.trans e41))
      refine ht_getr (T := et_TT) (t := 10) (ci := 8) (f := 1) (p := 47) (by decide +kernel) rfl rfl hH k_a22 (fun a44 k_a44 e44 => ?_)
      refine hs_aload (i := 0) (p := 48) (by decide +kernel) rfl ?_
      refine ht_getr (T := et_TT) (t := 12) (ci := 10) (f := 0) (p := 51) (by decide +kernel) rfl rfl hH k_th (fun a48 k_a48 e48 => ?_)
      obtain rfl : a22 = a48 := Value.ref.inj (Option.some.inj (hs0.symm.trans e48))
      refine ht_getn (T := et_TT) (t := 10) (ci := 8) (f := 0) (p := 54) (by decide +kernel) rfl rfl hH k_a22 (fun c51 h51 e51 => ?_)
      obtain rfl : c25 = c51 := hb_cc hs1 e51 (by omega) (by omega)
      refine ht_newU (ci := 6) (n := 2) (fs := [.null, .null]) (p := 57) (by decide +kernel) (by omega) (by omega) (by decide +kernel) (by decide +kernel) hH (fun G54 o54 hu f54 => ?_)
      have hl := (f54.2 a1 7 k_a1 1 rfl).trans hl
      have hs0 := (f54.2 th 12 k_th 0 rfl).trans hs0
      have hs1 := (f54.2 a22 10 k_a22 0 rfl).trans hs1
      have hH := hu.1
      have hf := hf.tr hx0 (f54.wk (by decide +kernel))
      refine hs_dup1 (p := 58) (by decide +kernel) ?_
      refine hs_aload (i := 1) (p := 59) (by decide +kernel) rfl ?_
      have lto_b5 := (hH.2.2 _ _ k_b5).1
      have hfo := hf
      refine hs_callp (mi := 88) (na := 1) (lk := 2) (lm := 2) (L0 := eg_en (eg_mL 88) [.ref o54, .ref b5]) (by decide +kernel) rfl rfl rfl rfl rfl (by rw [show eg_mL 88 = 2 from by decide +kernel]; first | done | rfl) ?_
      refine (pu_rule hu k_b5).mono (fun u hu => pu_cb hu (fun K59 G59 x59 f59 hH k_o54 => ?_))
      have hl := (f59.2 a1 7 k_a1 1 rfl).trans hl
      have hs0 := (f59.2 th 12 k_th 0 rfl).trans hs0
      have hs1 := (f59.2 a22 10 k_a22 0 rfl).trans hs1
      have k_th := x59 _ _ k_th
      have k_a1 := x59 _ _ k_a1
      have k_b5 := x59 _ _ k_b5
      have k_a22 := x59 _ _ k_a22
      have k_a44 := x59 _ _ k_a44
      have hf := hf.tr hx0 (f59.wk (by decide +kernel))
      have hx0 := hx0.tr x59
      show et_go none _ 131 62 _ [.ref o54, .int (Int32.ofNat c25), .ref a44] _ ((0 + c5) + 1) ((0 + s5) + 2) _
      refine ht_aasg (M := [(37, 0, 100000)]) (t := 37) (u := 8) (N := 4) (kd := 5) (cj := 6) (p := 63) (by decide +kernel) ⟨rfl, rfl⟩ (by decide +kernel) hH k_a44 (by omega) k_o54 (hb_mm (by omega)) (fun G62 hH f62 => ?_)
      have hl := (f62.2 a1 7 k_a1 1 rfl).trans hl
      have hs0 := (f62.2 th 12 k_th 0 rfl).trans hs0
      have hs1 := (f62.2 a22 10 k_a22 0 rfl).trans hs1
      have hf := hf.tr hx0 (f62.wk (by decide +kernel))
      refine hs_aload (i := 0) (p := 64) (by decide +kernel) rfl ?_
      refine ht_getr (T := et_TT) (t := 12) (ci := 10) (f := 0) (p := 67) (by decide +kernel) rfl rfl hH k_th (fun a64 k_a64 e64 => ?_)
      obtain rfl : a22 = a64 := Value.ref.inj (Option.some.inj (hs0.symm.trans e64))
      refine hs_dup1 (p := 68) (by decide +kernel) ?_
      refine ht_getn (T := et_TT) (t := 10) (ci := 8) (f := 0) (p := 71) (by decide +kernel) rfl rfl hH k_a22 (fun c68 h68 e68 => ?_)
      obtain rfl : c25 = c68 := hb_cc hs1 e68 (by omega) (by omega)
      refine hs_k (x := Int32.ofNat 1) (p := 72) (by decide +kernel) ?_
      refine hs_iaddn (p := 73) (by decide +kernel) ?_
      refine ht_put (M := [(10, 0, 0)]) (T := et_TT) (t := 10) (ci := 8) (f := 0) (p := 76) (ty := .int) (by decide +kernel) rfl rfl rfl rfl rfl (by decide +kernel) hH k_a22 (hi_nv (by omega) (by omega)) (fun G73 hH f73 e73 => ?_)
      have hl := (f73.2 a1 7 k_a1 1 rfl).trans hl
      have hs0 := (f73.2 th 12 k_th 0 rfl).trans hs0
      have hf := hf.tr hx0 (f73.wk (by decide +kernel))
      refine hs_aload (i := 0) (p := 77) (by decide +kernel) rfl ?_
      refine ht_getr (T := et_TT) (t := 12) (ci := 10) (f := 0) (p := 80) (by decide +kernel) rfl rfl hH k_th (fun a77 k_a77 e77 => ?_)
      obtain rfl : a22 = a77 := Value.ref.inj (Option.some.inj (hs0.symm.trans e77))
      refine ht_getn (T := et_TT) (t := 10) (ci := 8) (f := 0) (p := 83) (by decide +kernel) rfl rfl hH k_a22 (fun c80 h80 e80 => ?_)
      refine hs_k (x := Int32.ofNat 1) (p := 84) (by decide +kernel) ?_
      refine hs_isub (p := 85) (by decide +kernel) ?_
      refine hs_iret (by decide +kernel) ?_
      exact ⟨⟨_, List.mem_cons_self, _, hx0, hf, hH, ⟨_, rfl, hi_any⟩, (by dsimp only; omega), (by dsimp only; omega)⟩, fun rd e => by obtain rfl : a1 = rd := Value.ref.inj (Option.some.inj (e1.symm.trans e)); exact hl⟩
    · refine hs_thr (x := 2) (lk := 2) (by decide +kernel) rfl rfl ?_
      exact ⟨⟨_, (List.mem_cons_of_mem _ (List.mem_cons_of_mem _ List.mem_cons_self)), _, hx0, hf, hH, rfl, (by dsimp only; omega), (by dsimp only; omega)⟩, fun rd e => by obtain rfl : a1 = rd := Value.ref.inj (Option.some.inj (e1.symm.trans e)); exact hl⟩
theorem hc_turnerL (hH : et_H et_TT w.1 w.2.2) (k_th : w.1 th = some 12) (hd : 28 ≤ d2) : et_go none d2 132 0 (eg_en (eg_mL 132) [.ref th]) [] w.2.2 0 0 (fun u => hi_Z et_TT w tu_M [(.inl (some (.inl (et_mn, et_mx))), 841, 5106), (.inr 0, 841, 5106), (.inr 2, 841, 5106)] u ∧ (∀ rd, et_pl (eg_at w.2.2 th) 3 = some (.ref rd) → pl_at u.2.1 rd 0)) := by
  obtain ⟨d, rfl⟩ : ∃ d, d2 = d + 28 := ⟨d2 - 28, by omega⟩
  have hx0 : et_ex w.1 w.1 := et_ex.rf
  have hf : et_fr tu_M w.1 w.2.2 w.2.2 := et_fr.rf
  rw [show eg_mL 132 = 2 from by decide +kernel]
  show et_go none (d + 28) 132 0 [some (.ref th), none] [] w.2.2 0 0 _
  refine hs_aload (i := 0) (p := 1) (by decide +kernel) rfl ?_
  refine ht_getr (T := et_TT) (t := 12) (ci := 10) (f := 3) (p := 4) (by decide +kernel) rfl rfl hH k_th (fun a1 k_a1 e1 => ?_)
  have hfo := hf
  refine ht_callv (T := et_TT) (t := 7) (mi := 84) (na := 0) (ci := 5) (lk := 2) (lm := 4) (L0 := eg_en (eg_mL 84) [.ref a1]) (by decide +kernel) rfl hH k_a1 rfl rfl rfl rfl rfl (by rw [show eg_mL 84 = 4 from by decide +kernel]; first | done | rfl) ?_
  refine (hc_ttL (w := (w.1, [], w.2.2)) hH k_a1 (by omega)).mono (fun u hu => hs_cbvp (P := fun G' => pl_at G' a1 0) hu (fun v4 K4 G4 c4 s4 x4 f4 hH hP hv4 cl4 sl4 => ?_))
  have k_th := x4 _ _ k_th
  have k_a1 := x4 _ _ k_a1
  have hf := hf.tr hx0 (f4.wk (by decide +kernel))
  have hx0 := hx0.tr x4
  have hl := hP
  rcases hi_q hv4 with rfl | ⟨b4, rfl, k_b4⟩
  · show et_go none _ 132 7 _ [.null] _ (0 + c4) (0 + s4) _
    refine hs_astore0 (i := 1) (p := 8) (by decide +kernel) (Nat.le_of_ble_eq_true rfl) ?_
    refine hs_aload0 (i := 1) (p := 9) (by decide +kernel) rfl ?_
    refine hs_ifnonnull0 (p := 12) (by decide +kernel) ?_
    refine hs_thr (x := 0) (lk := 2) (by decide +kernel) rfl rfl ?_
    exact ⟨⟨_, (List.mem_cons_of_mem _ List.mem_cons_self), _, hx0, hf, hH, rfl, (by dsimp only; omega), (by dsimp only; omega)⟩, fun rd e => by obtain rfl : a1 = rd := Value.ref.inj (Option.some.inj (e1.symm.trans e)); exact hl⟩
  · show et_go none _ 132 7 _ [.ref b4] _ (0 + c4) (0 + s4) _
    refine hs_astore (i := 1) (p := 8) (by decide +kernel) (Nat.le_of_ble_eq_true rfl) ?_
    refine hs_aload (i := 1) (p := 9) (by decide +kernel) rfl ?_
    refine hs_ifnonnull1 (p := 20) (by decide +kernel) ?_
    refine hs_aload (i := 0) (p := 21) (by decide +kernel) rfl ?_
    refine ht_getr (T := et_TT) (t := 12) (ci := 10) (f := 0) (p := 24) (by decide +kernel) rfl rfl hH k_th (fun a21 k_a21 e21 => ?_)
    have hs0 := e21
    refine ht_getn (T := et_TT) (t := 10) (ci := 8) (f := 7) (p := 27) (by decide +kernel) rfl rfl hH k_a21 (fun c24 h24 e24 => ?_)
    have hs1 := e24
    refine hs_k (x := Int32.ofNat 4) (p := 28) (by decide +kernel) ?_
    refine hs_br2n (c := .lt) (t := 39) (f := 31) (by decide +kernel) (by omega) (by omega) (fun (c28 : c24 < 4) => ?_) (fun (c28 : ¬ (c24 < 4)) => ?_)
    · refine hs_aload (i := 0) (p := 40) (by decide +kernel) rfl ?_
      refine ht_getr (T := et_TT) (t := 12) (ci := 10) (f := 0) (p := 43) (by decide +kernel) rfl rfl hH k_th (fun a40 k_a40 e40 => ?_)
      obtain rfl : a21 = a40 := Value.ref.inj (Option.some.inj (hs0.symm.trans e40))
      refine ht_getr (T := et_TT) (t := 10) (ci := 8) (f := 8) (p := 46) (by decide +kernel) rfl rfl hH k_a21 (fun a43 k_a43 e43 => ?_)
      refine hs_aload (i := 0) (p := 47) (by decide +kernel) rfl ?_
      refine ht_getr (T := et_TT) (t := 12) (ci := 10) (f := 0) (p := 50) (by decide +kernel) rfl rfl hH k_th (fun a47 k_a47 e47 => ?_)
      obtain rfl : a21 = a47 := Value.ref.inj (Option.some.inj (hs0.symm.trans e47))
      refine ht_getn (T := et_TT) (t := 10) (ci := 8) (f := 7) (p := 53) (by decide +kernel) rfl rfl hH k_a21 (fun c50 h50 e50 => ?_)
      obtain rfl : c24 = c50 := hb_cc hs1 e50 (by omega) (by omega)
      refine hs_aload (i := 1) (p := 54) (by decide +kernel) rfl ?_
      refine ht_aasg (M := [(38, 0, 100000)]) (t := 38) (u := 11) (N := 4) (kd := 7) (cj := 9) (p := 55) (by decide +kernel) ⟨rfl, rfl⟩ (by decide +kernel) hH k_a43 (by omega) k_b4 (hb_mm (by omega)) (fun G54 hH f54 => ?_)
      have hl := (f54.2 a1 7 k_a1 1 rfl).trans hl
      have hs0 := (f54.2 th 12 k_th 0 rfl).trans hs0
      have hs1 := (f54.2 a21 10 k_a21 7 rfl).trans hs1
      have hf := hf.tr hx0 (f54.wk (by decide +kernel))
      refine hs_aload (i := 0) (p := 56) (by decide +kernel) rfl ?_
      refine ht_getr (T := et_TT) (t := 12) (ci := 10) (f := 0) (p := 59) (by decide +kernel) rfl rfl hH k_th (fun a56 k_a56 e56 => ?_)
      obtain rfl : a21 = a56 := Value.ref.inj (Option.some.inj (hs0.symm.trans e56))
      refine hs_dup1 (p := 60) (by decide +kernel) ?_
      refine ht_getn (T := et_TT) (t := 10) (ci := 8) (f := 7) (p := 63) (by decide +kernel) rfl rfl hH k_a21 (fun c60 h60 e60 => ?_)
      obtain rfl : c24 = c60 := hb_cc hs1 e60 (by omega) (by omega)
      refine hs_k (x := Int32.ofNat 1) (p := 64) (by decide +kernel) ?_
      refine hs_iaddn (p := 65) (by decide +kernel) ?_
      refine ht_put (M := [(10, 7, 7)]) (T := et_TT) (t := 10) (ci := 8) (f := 7) (p := 68) (ty := .int) (by decide +kernel) rfl rfl rfl rfl rfl (by decide +kernel) hH k_a21 (hi_nv (by omega) (by omega)) (fun G65 hH f65 e65 => ?_)
      have hl := (f65.2 a1 7 k_a1 1 rfl).trans hl
      have hs0 := (f65.2 th 12 k_th 0 rfl).trans hs0
      have hf := hf.tr hx0 (f65.wk (by decide +kernel))
      refine hs_aload (i := 0) (p := 69) (by decide +kernel) rfl ?_
      refine ht_getr (T := et_TT) (t := 12) (ci := 10) (f := 0) (p := 72) (by decide +kernel) rfl rfl hH k_th (fun a69 k_a69 e69 => ?_)
      obtain rfl : a21 = a69 := Value.ref.inj (Option.some.inj (hs0.symm.trans e69))
      refine ht_getn (T := et_TT) (t := 10) (ci := 8) (f := 7) (p := 75) (by decide +kernel) rfl rfl hH k_a21 (fun c72 h72 e72 => ?_)
      refine hs_k (x := Int32.ofNat 1) (p := 76) (by decide +kernel) ?_
      refine hs_isub (p := 77) (by decide +kernel) ?_
      refine hs_iret (by decide +kernel) ?_
      exact ⟨⟨_, List.mem_cons_self, _, hx0, hf, hH, ⟨_, rfl, hi_any⟩, (by dsimp only; omega), (by dsimp only; omega)⟩, fun rd e => by obtain rfl : a1 = rd := Value.ref.inj (Option.some.inj (e1.symm.trans e)); exact hl⟩
    · refine hs_thr (x := 2) (lk := 2) (by decide +kernel) rfl rfl ?_
      exact ⟨⟨_, (List.mem_cons_of_mem _ (List.mem_cons_of_mem _ List.mem_cons_self)), _, hx0, hf, hH, rfl, (by dsimp only; omega), (by dsimp only; omega)⟩, fun rd e => by obtain rfl : a1 = rd := Value.ref.inj (Option.some.inj (e1.symm.trans e)); exact hl⟩
theorem hc_claimL (hH : et_H et_TT w.1 w.2.2) (k_th : w.1 th = some 12) (hd : 26 ≤ d2) : et_go none d2 133 0 (eg_en (eg_mL 133) [.ref th, .int pl, .int n]) [] w.2.2 0 0 (fun u => hi_Z et_TT w cl_M [(.inl (some (.inl (et_mn, et_mx))), 806, 4836), (.inr 0, 806, 4836), (.inr 1, 806, 4836), (.inr 2, 806, 4836)] u ∧ (∀ rd, et_pl (eg_at w.2.2 th) 3 = some (.ref rd) → pl_at u.2.1 rd 0)) := by
  obtain ⟨d, rfl⟩ : ∃ d, d2 = d + 26 := ⟨d2 - 26, by omega⟩
  have hx0 : et_ex w.1 w.1 := et_ex.rf
  have hf : et_fr cl_M w.1 w.2.2 w.2.2 := et_fr.rf
  rw [show eg_mL 133 = 4 from by decide +kernel]
  show et_go none (d + 26) 133 0 [some (.ref th), some (.int pl), some (.int n), none] [] w.2.2 0 0 _
  refine hs_aload (i := 0) (p := 1) (by decide +kernel) rfl ?_
  refine ht_getr (T := et_TT) (t := 12) (ci := 10) (f := 3) (p := 4) (by decide +kernel) rfl rfl hH k_th (fun a1 k_a1 e1 => ?_)
  refine hs_k (x := Int32.ofNat 2) (p := 5) (by decide +kernel) ?_
  have hfo := hf
  refine ht_callv (T := et_TT) (t := 7) (mi := 66) (na := 1) (ci := 5) (lk := 4) (lm := 3) (L0 := eg_en (eg_mL 66) [.ref a1, .int (Int32.ofNat 2)]) (by decide +kernel) rfl hH k_a1 rfl rfl rfl rfl rfl (by rw [show eg_mL 66 = 3 from by decide +kernel]; first | done | rfl) ?_
  refine (hc_tcL (w := (w.1, [], w.2.2)) hH k_a1 (by omega)).mono (fun u hu => hs_cbvp (P := fun G' => pl_at G' a1 0) hu (fun v5 K5 G5 c5 s5 x5 f5 hH hP hv5 cl5 sl5 => ?_))
  have k_th := x5 _ _ k_th
  have k_a1 := x5 _ _ k_a1
  have hf := hf.tr hx0 (f5.wk (by decide +kernel))
  have hx0 := hx0.tr x5
  have hl := hP
  rcases hi_q hv5 with rfl | ⟨b5, rfl, k_b5⟩
  · show et_go none _ 133 8 _ [.null] _ (0 + c5) (0 + s5) _
    refine hs_astore0 (i := 3) (p := 9) (by decide +kernel) (Nat.le_of_ble_eq_true rfl) ?_
    refine hs_aload (i := 0) (p := 10) (by decide +kernel) rfl ?_
    refine hs_iload (i := 1) (p := 11) (by decide +kernel) rfl ?_
    have hfo := hf
    refine ht_callv (T := et_TT) (t := 12) (mi := 128) (na := 1) (ci := 10) (lk := 4) (lm := 2) (L0 := eg_en (eg_mL 128) [.ref th, .int pl]) (by decide +kernel) rfl hH k_th rfl rfl rfl rfl rfl (by rw [show eg_mL 128 = 2 from by decide +kernel]; first | done | rfl) ?_
    refine (hc_needE (K5, [], G5) [.ref th, .int pl] _ hH (by omega) rfl (ht_ac (.inr ⟨by decide, _, rfl, k_th⟩) (ht_ac hi_any ht_an))).mono (fun u hu => hs_cbx (by decide +kernel) hu (fun v11 K11 G11 c11 s11 x11 f11 hH hv11 cl11 sl11 => ?_) (fun K11 G11 c11 s11 x11 f11 hH cl11 sl11 => ⟨⟨_, (List.mem_cons_of_mem _ (List.mem_cons_of_mem _ List.mem_cons_self)), _, hx0.tr x11, hf.tr hx0 (f11.wk (by decide +kernel)), hH, rfl, (by dsimp only; omega), (by dsimp only; omega)⟩, fun rd e => by obtain rfl : a1 = rd := Value.ref.inj (Option.some.inj (e1.symm.trans e)); exact (f11.2 a1 7 k_a1 1 rfl).trans hl⟩))
    have hl := (f11.2 a1 7 k_a1 1 rfl).trans hl
    have k_th := x11 _ _ k_th
    have k_a1 := x11 _ _ k_a1
    have hf := hf.tr hx0 (f11.wk (by decide +kernel))
    have hx0 := hx0.tr x11
    obtain ⟨b11, rfl, k_b11⟩ := hi_ref hv11
    show et_go none _ 133 14 _ [.ref b11] _ ((0 + c5) + c11) ((0 + s5) + s11) _
    refine hs_popr (p := 15) (by decide +kernel) ?_
    refine hs_aload (i := 0) (p := 16) (by decide +kernel) rfl ?_
    refine hs_iload (i := 2) (p := 17) (by decide +kernel) rfl ?_
    have hfo := hf
    refine ht_callv (T := et_TT) (t := 12) (mi := 129) (na := 1) (ci := 10) (lk := 4) (lm := 2) (L0 := eg_en (eg_mL 129) [.ref th, .int n]) (by decide +kernel) rfl hH k_th rfl rfl rfl rfl rfl (by rw [show eg_mL 129 = 2 from by decide +kernel]; first | done | rfl) ?_
    refine (hc_needR (K11, [], G11) [.ref th, .int n] _ hH (by omega) rfl (ht_ac (.inr ⟨by decide, _, rfl, k_th⟩) (ht_ac hi_any ht_an))).mono (fun u hu => hs_cbx (by decide +kernel) hu (fun v17 K17 G17 c17 s17 x17 f17 hH hv17 cl17 sl17 => ?_) (fun K17 G17 c17 s17 x17 f17 hH cl17 sl17 => ⟨⟨_, (List.mem_cons_of_mem _ (List.mem_cons_of_mem _ List.mem_cons_self)), _, hx0.tr x17, hf.tr hx0 (f17.wk (by decide +kernel)), hH, rfl, (by dsimp only; omega), (by dsimp only; omega)⟩, fun rd e => by obtain rfl : a1 = rd := Value.ref.inj (Option.some.inj (e1.symm.trans e)); exact (f17.2 a1 7 k_a1 1 rfl).trans hl⟩))
    have hl := (f17.2 a1 7 k_a1 1 rfl).trans hl
    have k_th := x17 _ _ k_th
    have k_a1 := x17 _ _ k_a1
    have k_b11 := x17 _ _ k_b11
    have hf := hf.tr hx0 (f17.wk (by decide +kernel))
    have hx0 := hx0.tr x17
    rcases hi_q hv17 with rfl | ⟨b17, rfl, k_b17⟩
    · show et_go none _ 133 20 _ [.null] _ (((0 + c5) + c11) + c17) (((0 + s5) + s11) + s17) _
      refine hs_popn (p := 21) (by decide +kernel) ?_
      refine hs_aload0 (i := 3) (p := 22) (by decide +kernel) rfl ?_
      refine hs_ifnonnull0 (p := 25) (by decide +kernel) ?_
      refine hs_thr (x := 0) (lk := 4) (by decide +kernel) rfl rfl ?_
      exact ⟨⟨_, (List.mem_cons_of_mem _ List.mem_cons_self), _, hx0, hf, hH, rfl, (by dsimp only; omega), (by dsimp only; omega)⟩, fun rd e => by obtain rfl : a1 = rd := Value.ref.inj (Option.some.inj (e1.symm.trans e)); exact hl⟩
    · show et_go none _ 133 20 _ [.ref b17] _ (((0 + c5) + c11) + c17) (((0 + s5) + s11) + s17) _
      refine hs_popr (p := 21) (by decide +kernel) ?_
      refine hs_aload0 (i := 3) (p := 22) (by decide +kernel) rfl ?_
      refine hs_ifnonnull0 (p := 25) (by decide +kernel) ?_
      refine hs_thr (x := 0) (lk := 4) (by decide +kernel) rfl rfl ?_
      exact ⟨⟨_, (List.mem_cons_of_mem _ List.mem_cons_self), _, hx0, hf, hH, rfl, (by dsimp only; omega), (by dsimp only; omega)⟩, fun rd e => by obtain rfl : a1 = rd := Value.ref.inj (Option.some.inj (e1.symm.trans e)); exact hl⟩
  · show et_go none _ 133 8 _ [.ref b5] _ (0 + c5) (0 + s5) _
    refine hs_astore (i := 3) (p := 9) (by decide +kernel) (Nat.le_of_ble_eq_true rfl) ?_
    refine hs_aload (i := 0) (p := 10) (by decide +kernel) rfl ?_
    refine hs_iload (i := 1) (p := 11) (by decide +kernel) rfl ?_
    have lto_b5 := (hH.2.2 _ _ k_b5).1
    have hfo := hf
    refine ht_callv (T := et_TT) (t := 12) (mi := 128) (na := 1) (ci := 10) (lk := 4) (lm := 2) (L0 := eg_en (eg_mL 128) [.ref th, .int pl]) (by decide +kernel) rfl hH k_th rfl rfl rfl rfl rfl (by rw [show eg_mL 128 = 2 from by decide +kernel]; first | done | rfl) ?_
    refine (hc_needE (K5, [], G5) [.ref th, .int pl] _ hH (by omega) rfl (ht_ac (.inr ⟨by decide, _, rfl, k_th⟩) (ht_ac hi_any ht_an))).mono (fun u hu => hs_cbx (by decide +kernel) hu (fun v11 K11 G11 c11 s11 x11 f11 hH hv11 cl11 sl11 => ?_) (fun K11 G11 c11 s11 x11 f11 hH cl11 sl11 => ⟨⟨_, (List.mem_cons_of_mem _ (List.mem_cons_of_mem _ List.mem_cons_self)), _, hx0.tr x11, hf.tr hx0 (f11.wk (by decide +kernel)), hH, rfl, (by dsimp only; omega), (by dsimp only; omega)⟩, fun rd e => by obtain rfl : a1 = rd := Value.ref.inj (Option.some.inj (e1.symm.trans e)); exact (f11.2 a1 7 k_a1 1 rfl).trans hl⟩))
    have hl := (f11.2 a1 7 k_a1 1 rfl).trans hl
    have k_th := x11 _ _ k_th
    have k_a1 := x11 _ _ k_a1
    have k_b5 := x11 _ _ k_b5
    have hf := hf.tr hx0 (f11.wk (by decide +kernel))
    have hx0 := hx0.tr x11
    obtain ⟨b11, rfl, k_b11⟩ := hi_ref hv11
    show et_go none _ 133 14 _ [.ref b11] _ ((0 + c5) + c11) ((0 + s5) + s11) _
    refine hs_popr (p := 15) (by decide +kernel) ?_
    refine hs_aload (i := 0) (p := 16) (by decide +kernel) rfl ?_
    refine hs_iload (i := 2) (p := 17) (by decide +kernel) rfl ?_
    have lto_b5 := (hH.2.2 _ _ k_b5).1
    have hfo := hf
    refine ht_callv (T := et_TT) (t := 12) (mi := 129) (na := 1) (ci := 10) (lk := 4) (lm := 2) (L0 := eg_en (eg_mL 129) [.ref th, .int n]) (by decide +kernel) rfl hH k_th rfl rfl rfl rfl rfl (by rw [show eg_mL 129 = 2 from by decide +kernel]; first | done | rfl) ?_
    refine (hc_needR (K11, [], G11) [.ref th, .int n] _ hH (by omega) rfl (ht_ac (.inr ⟨by decide, _, rfl, k_th⟩) (ht_ac hi_any ht_an))).mono (fun u hu => hs_cbx (by decide +kernel) hu (fun v17 K17 G17 c17 s17 x17 f17 hH hv17 cl17 sl17 => ?_) (fun K17 G17 c17 s17 x17 f17 hH cl17 sl17 => ⟨⟨_, (List.mem_cons_of_mem _ (List.mem_cons_of_mem _ List.mem_cons_self)), _, hx0.tr x17, hf.tr hx0 (f17.wk (by decide +kernel)), hH, rfl, (by dsimp only; omega), (by dsimp only; omega)⟩, fun rd e => by obtain rfl : a1 = rd := Value.ref.inj (Option.some.inj (e1.symm.trans e)); exact (f17.2 a1 7 k_a1 1 rfl).trans hl⟩))
    have hl := (f17.2 a1 7 k_a1 1 rfl).trans hl
    have k_th := x17 _ _ k_th
    have k_a1 := x17 _ _ k_a1
    have k_b5 := x17 _ _ k_b5
    have k_b11 := x17 _ _ k_b11
    have hf := hf.tr hx0 (f17.wk (by decide +kernel))
    have hx0 := hx0.tr x17
    rcases hi_q hv17 with rfl | ⟨b17, rfl, k_b17⟩
    · show et_go none _ 133 20 _ [.null] _ (((0 + c5) + c11) + c17) (((0 + s5) + s11) + s17) _
      refine hs_popn (p := 21) (by decide +kernel) ?_
      refine hs_aload (i := 3) (p := 22) (by decide +kernel) rfl ?_
      refine hs_ifnonnull1 (p := 33) (by decide +kernel) ?_
      refine hs_aload (i := 0) (p := 34) (by decide +kernel) rfl ?_
      refine ht_getr (T := et_TT) (t := 12) (ci := 10) (f := 0) (p := 37) (by decide +kernel) rfl rfl hH k_th (fun a34 k_a34 e34 => ?_)
      have hs0 := e34
      refine ht_getn (T := et_TT) (t := 10) (ci := 8) (f := 9) (p := 40) (by decide +kernel) rfl rfl hH k_a34 (fun c37 h37 e37 => ?_)
      have hs1 := e37
      refine hs_k (x := Int32.ofNat 6) (p := 42) (by decide +kernel) ?_
      refine hs_br2n (c := .lt) (t := 53) (f := 45) (by decide +kernel) (by omega) (by omega) (fun (c42 : c37 < 6) => ?_) (fun (c42 : ¬ (c37 < 6)) => ?_)
      · refine hs_aload (i := 0) (p := 54) (by decide +kernel) rfl ?_
        refine ht_getr (T := et_TT) (t := 12) (ci := 10) (f := 0) (p := 57) (by decide +kernel) rfl rfl hH k_th (fun a54 k_a54 e54 => ?_)
        obtain rfl : a34 = a54 := Value.ref.inj (Option.some.inj (hs0.symm.trans e54))
        refine ht_getr (T := et_TT) (t := 10) (ci := 8) (f := 10) (p := 60) (by decide +kernel) rfl rfl hH k_a34 (fun a57 k_a57 e57 => ?_)
        refine hs_aload (i := 0) (p := 61) (by decide +kernel) rfl ?_
        refine ht_getr (T := et_TT) (t := 12) (ci := 10) (f := 0) (p := 64) (by decide +kernel) rfl rfl hH k_th (fun a61 k_a61 e61 => ?_)
        obtain rfl : a34 = a61 := Value.ref.inj (Option.some.inj (hs0.symm.trans e61))
        refine ht_getn (T := et_TT) (t := 10) (ci := 8) (f := 9) (p := 67) (by decide +kernel) rfl rfl hH k_a34 (fun c64 h64 e64 => ?_)
        obtain rfl : c37 = c64 := hb_cc hs1 e64 (by omega) (by omega)
        refine ht_newU (ci := 0) (n := 4) (fs := [.null, .int 0, .int 0, .int 0]) (p := 70) (by decide +kernel) (by omega) (by omega) (by decide +kernel) (by decide +kernel) hH (fun G67 o67 hu f67 => ?_)
        have hl := (f67.2 a1 7 k_a1 1 rfl).trans hl
        have hs0 := (f67.2 th 12 k_th 0 rfl).trans hs0
        have hs1 := (f67.2 a34 10 k_a34 9 rfl).trans hs1
        have hH := hu.1
        have hf := hf.tr hx0 (f67.wk (by decide +kernel))
        refine hs_dup1 (p := 71) (by decide +kernel) ?_
        refine hs_aload (i := 3) (p := 72) (by decide +kernel) rfl ?_
        refine hs_iload (i := 1) (p := 73) (by decide +kernel) rfl ?_
        refine hs_iload (i := 2) (p := 74) (by decide +kernel) rfl ?_
        refine hs_aload (i := 0) (p := 75) (by decide +kernel) rfl ?_
        refine ht_getr (T := et_TT) (t := 12) (ci := 10) (f := 3) (p := 78) (by decide +kernel) rfl rfl hH k_th (fun a75 k_a75 e75 => ?_)
        refine ht_getn (T := et_TT) (t := 7) (ci := 5) (f := 3) (p := 81) (by decide +kernel) rfl rfl hH k_a75 (fun c78 h78 e78 => ?_)
        have lto_b5 := (hH.2.2 _ _ k_b5).1
        have hfo := hf
        refine hs_callp (mi := 30) (na := 4) (lk := 4) (lm := 5) (L0 := eg_en (eg_mL 30) [.ref o67, .ref b5, .int pl, .int n, .int (Int32.ofNat c78)]) (by decide +kernel) rfl rfl rfl rfl rfl (by rw [show eg_mL 30 = 5 from by decide +kernel]; first | done | rfl) ?_
        refine (pu_claim hu k_b5 (by omega)).mono (fun u hu => pu_cb hu (fun K81 G81 x81 f81 hH k_o67 => ?_))
        have hl := (f81.2 a1 7 k_a1 1 rfl).trans hl
        have hs0 := (f81.2 th 12 k_th 0 rfl).trans hs0
        have hs1 := (f81.2 a34 10 k_a34 9 rfl).trans hs1
        have k_th := x81 _ _ k_th
        have k_a1 := x81 _ _ k_a1
        have k_b5 := x81 _ _ k_b5
        have k_b11 := x81 _ _ k_b11
        have k_a34 := x81 _ _ k_a34
        have k_a57 := x81 _ _ k_a57
        have k_a75 := x81 _ _ k_a75
        have hf := hf.tr hx0 (f81.wk (by decide +kernel))
        have hx0 := hx0.tr x81
        show et_go none _ 133 84 _ [.ref o67, .int (Int32.ofNat c37), .ref a57] _ ((((0 + c5) + c11) + c17) + 1) ((((0 + s5) + s11) + s17) + 4) _
        refine ht_aasg (M := [(39, 0, 100000)]) (t := 39) (u := 2) (N := 6) (kd := 8) (cj := 0) (p := 85) (by decide +kernel) ⟨rfl, rfl⟩ (by decide +kernel) hH k_a57 (by omega) k_o67 (hb_mm (by omega)) (fun G84 hH f84 => ?_)
        have hl := (f84.2 a1 7 k_a1 1 rfl).trans hl
        have hs0 := (f84.2 th 12 k_th 0 rfl).trans hs0
        have hs1 := (f84.2 a34 10 k_a34 9 rfl).trans hs1
        have hf := hf.tr hx0 (f84.wk (by decide +kernel))
        refine hs_aload (i := 0) (p := 86) (by decide +kernel) rfl ?_
        refine ht_getr (T := et_TT) (t := 12) (ci := 10) (f := 0) (p := 89) (by decide +kernel) rfl rfl hH k_th (fun a86 k_a86 e86 => ?_)
        obtain rfl : a34 = a86 := Value.ref.inj (Option.some.inj (hs0.symm.trans e86))
        refine hs_dup1 (p := 90) (by decide +kernel) ?_
        refine ht_getn (T := et_TT) (t := 10) (ci := 8) (f := 9) (p := 93) (by decide +kernel) rfl rfl hH k_a34 (fun c90 h90 e90 => ?_)
        obtain rfl : c37 = c90 := hb_cc hs1 e90 (by omega) (by omega)
        refine hs_k (x := Int32.ofNat 1) (p := 94) (by decide +kernel) ?_
        refine hs_iaddn (p := 95) (by decide +kernel) ?_
        refine ht_put (M := [(10, 9, 9)]) (T := et_TT) (t := 10) (ci := 8) (f := 9) (p := 98) (ty := .int) (by decide +kernel) rfl rfl rfl rfl rfl (by decide +kernel) hH k_a34 (hi_nv (by omega) (by omega)) (fun G95 hH f95 e95 => ?_)
        have hl := (f95.2 a1 7 k_a1 1 rfl).trans hl
        have hs0 := (f95.2 th 12 k_th 0 rfl).trans hs0
        have hf := hf.tr hx0 (f95.wk (by decide +kernel))
        refine hs_aload (i := 0) (p := 99) (by decide +kernel) rfl ?_
        refine ht_getr (T := et_TT) (t := 12) (ci := 10) (f := 0) (p := 102) (by decide +kernel) rfl rfl hH k_th (fun a99 k_a99 e99 => ?_)
        obtain rfl : a34 = a99 := Value.ref.inj (Option.some.inj (hs0.symm.trans e99))
        refine ht_getn (T := et_TT) (t := 10) (ci := 8) (f := 9) (p := 105) (by decide +kernel) rfl rfl hH k_a34 (fun c102 h102 e102 => ?_)
        refine hs_k (x := Int32.ofNat 1) (p := 106) (by decide +kernel) ?_
        refine hs_isub (p := 107) (by decide +kernel) ?_
        refine hs_iret (by decide +kernel) ?_
        exact ⟨⟨_, List.mem_cons_self, _, hx0, hf, hH, ⟨_, rfl, hi_any⟩, (by dsimp only; omega), (by dsimp only; omega)⟩, fun rd e => by obtain rfl : a1 = rd := Value.ref.inj (Option.some.inj (e1.symm.trans e)); exact hl⟩
      · refine hs_thr (x := 2) (lk := 4) (by decide +kernel) rfl rfl ?_
        exact ⟨⟨_, (List.mem_cons_of_mem _ (List.mem_cons_of_mem _ (List.mem_cons_of_mem _ List.mem_cons_self))), _, hx0, hf, hH, rfl, (by dsimp only; omega), (by dsimp only; omega)⟩, fun rd e => by obtain rfl : a1 = rd := Value.ref.inj (Option.some.inj (e1.symm.trans e)); exact hl⟩
    · show et_go none _ 133 20 _ [.ref b17] _ (((0 + c5) + c11) + c17) (((0 + s5) + s11) + s17) _
      refine hs_popr (p := 21) (by decide +kernel) ?_
      refine hs_aload (i := 3) (p := 22) (by decide +kernel) rfl ?_
      refine hs_ifnonnull1 (p := 33) (by decide +kernel) ?_
      refine hs_aload (i := 0) (p := 34) (by decide +kernel) rfl ?_
      refine ht_getr (T := et_TT) (t := 12) (ci := 10) (f := 0) (p := 37) (by decide +kernel) rfl rfl hH k_th (fun a34 k_a34 e34 => ?_)
      have hs0 := e34
      refine ht_getn (T := et_TT) (t := 10) (ci := 8) (f := 9) (p := 40) (by decide +kernel) rfl rfl hH k_a34 (fun c37 h37 e37 => ?_)
      have hs1 := e37
      refine hs_k (x := Int32.ofNat 6) (p := 42) (by decide +kernel) ?_
      refine hs_br2n (c := .lt) (t := 53) (f := 45) (by decide +kernel) (by omega) (by omega) (fun (c42 : c37 < 6) => ?_) (fun (c42 : ¬ (c37 < 6)) => ?_)
      · refine hs_aload (i := 0) (p := 54) (by decide +kernel) rfl ?_
        refine ht_getr (T := et_TT) (t := 12) (ci := 10) (f := 0) (p := 57) (by decide +kernel) rfl rfl hH k_th (fun a54 k_a54 e54 => ?_)
        obtain rfl : a34 = a54 := Value.ref.inj (Option.some.inj (hs0.symm.trans e54))
        refine ht_getr (T := et_TT) (t := 10) (ci := 8) (f := 10) (p := 60) (by decide +kernel) rfl rfl hH k_a34 (fun a57 k_a57 e57 => ?_)
        refine hs_aload (i := 0) (p := 61) (by decide +kernel) rfl ?_
        refine ht_getr (T := et_TT) (t := 12) (ci := 10) (f := 0) (p := 64) (by decide +kernel) rfl rfl hH k_th (fun a61 k_a61 e61 => ?_)
        obtain rfl : a34 = a61 := Value.ref.inj (Option.some.inj (hs0.symm.trans e61))
        refine ht_getn (T := et_TT) (t := 10) (ci := 8) (f := 9) (p := 67) (by decide +kernel) rfl rfl hH k_a34 (fun c64 h64 e64 => ?_)
        obtain rfl : c37 = c64 := hb_cc hs1 e64 (by omega) (by omega)
        refine ht_newU (ci := 0) (n := 4) (fs := [.null, .int 0, .int 0, .int 0]) (p := 70) (by decide +kernel) (by omega) (by omega) (by decide +kernel) (by decide +kernel) hH (fun G67 o67 hu f67 => ?_)
        have hl := (f67.2 a1 7 k_a1 1 rfl).trans hl
        have hs0 := (f67.2 th 12 k_th 0 rfl).trans hs0
        have hs1 := (f67.2 a34 10 k_a34 9 rfl).trans hs1
        have hH := hu.1
        have hf := hf.tr hx0 (f67.wk (by decide +kernel))
        refine hs_dup1 (p := 71) (by decide +kernel) ?_
        refine hs_aload (i := 3) (p := 72) (by decide +kernel) rfl ?_
        refine hs_iload (i := 1) (p := 73) (by decide +kernel) rfl ?_
        refine hs_iload (i := 2) (p := 74) (by decide +kernel) rfl ?_
        refine hs_aload (i := 0) (p := 75) (by decide +kernel) rfl ?_
        refine ht_getr (T := et_TT) (t := 12) (ci := 10) (f := 3) (p := 78) (by decide +kernel) rfl rfl hH k_th (fun a75 k_a75 e75 => ?_)
        refine ht_getn (T := et_TT) (t := 7) (ci := 5) (f := 3) (p := 81) (by decide +kernel) rfl rfl hH k_a75 (fun c78 h78 e78 => ?_)
        have lto_b5 := (hH.2.2 _ _ k_b5).1
        have hfo := hf
        refine hs_callp (mi := 30) (na := 4) (lk := 4) (lm := 5) (L0 := eg_en (eg_mL 30) [.ref o67, .ref b5, .int pl, .int n, .int (Int32.ofNat c78)]) (by decide +kernel) rfl rfl rfl rfl rfl (by rw [show eg_mL 30 = 5 from by decide +kernel]; first | done | rfl) ?_
        refine (pu_claim hu k_b5 (by omega)).mono (fun u hu => pu_cb hu (fun K81 G81 x81 f81 hH k_o67 => ?_))
        have hl := (f81.2 a1 7 k_a1 1 rfl).trans hl
        have hs0 := (f81.2 th 12 k_th 0 rfl).trans hs0
        have hs1 := (f81.2 a34 10 k_a34 9 rfl).trans hs1
        have k_th := x81 _ _ k_th
        have k_a1 := x81 _ _ k_a1
        have k_b5 := x81 _ _ k_b5
        have k_b11 := x81 _ _ k_b11
        have k_b17 := x81 _ _ k_b17
        have k_a34 := x81 _ _ k_a34
        have k_a57 := x81 _ _ k_a57
        have k_a75 := x81 _ _ k_a75
        have hf := hf.tr hx0 (f81.wk (by decide +kernel))
        have hx0 := hx0.tr x81
        show et_go none _ 133 84 _ [.ref o67, .int (Int32.ofNat c37), .ref a57] _ ((((0 + c5) + c11) + c17) + 1) ((((0 + s5) + s11) + s17) + 4) _
        refine ht_aasg (M := [(39, 0, 100000)]) (t := 39) (u := 2) (N := 6) (kd := 8) (cj := 0) (p := 85) (by decide +kernel) ⟨rfl, rfl⟩ (by decide +kernel) hH k_a57 (by omega) k_o67 (hb_mm (by omega)) (fun G84 hH f84 => ?_)
        have hl := (f84.2 a1 7 k_a1 1 rfl).trans hl
        have hs0 := (f84.2 th 12 k_th 0 rfl).trans hs0
        have hs1 := (f84.2 a34 10 k_a34 9 rfl).trans hs1
        have hf := hf.tr hx0 (f84.wk (by decide +kernel))
        refine hs_aload (i := 0) (p := 86) (by decide +kernel) rfl ?_
        refine ht_getr (T := et_TT) (t := 12) (ci := 10) (f := 0) (p := 89) (by decide +kernel) rfl rfl hH k_th (fun a86 k_a86 e86 => ?_)
        obtain rfl : a34 = a86 := Value.ref.inj (Option.some.inj (hs0.symm.trans e86))
        refine hs_dup1 (p := 90) (by decide +kernel) ?_
        refine ht_getn (T := et_TT) (t := 10) (ci := 8) (f := 9) (p := 93) (by decide +kernel) rfl rfl hH k_a34 (fun c90 h90 e90 => ?_)
        obtain rfl : c37 = c90 := hb_cc hs1 e90 (by omega) (by omega)
        refine hs_k (x := Int32.ofNat 1) (p := 94) (by decide +kernel) ?_
        refine hs_iaddn (p := 95) (by decide +kernel) ?_
        refine ht_put (M := [(10, 9, 9)]) (T := et_TT) (t := 10) (ci := 8) (f := 9) (p := 98) (ty := .int) (by decide +kernel) rfl rfl rfl rfl rfl (by decide +kernel) hH k_a34 (hi_nv (by omega) (by omega)) (fun G95 hH f95 e95 => ?_)
        have hl := (f95.2 a1 7 k_a1 1 rfl).trans hl
        have hs0 := (f95.2 th 12 k_th 0 rfl).trans hs0
        have hf := hf.tr hx0 (f95.wk (by decide +kernel))
        refine hs_aload (i := 0) (p := 99) (by decide +kernel) rfl ?_
        refine ht_getr (T := et_TT) (t := 12) (ci := 10) (f := 0) (p := 102) (by decide +kernel) rfl rfl hH k_th (fun a99 k_a99 e99 => ?_)
        obtain rfl : a34 = a99 := Value.ref.inj (Option.some.inj (hs0.symm.trans e99))
        refine ht_getn (T := et_TT) (t := 10) (ci := 8) (f := 9) (p := 105) (by decide +kernel) rfl rfl hH k_a34 (fun c102 h102 e102 => ?_)
        refine hs_k (x := Int32.ofNat 1) (p := 106) (by decide +kernel) ?_
        refine hs_isub (p := 107) (by decide +kernel) ?_
        refine hs_iret (by decide +kernel) ?_
        exact ⟨⟨_, List.mem_cons_self, _, hx0, hf, hH, ⟨_, rfl, hi_any⟩, (by dsimp only; omega), (by dsimp only; omega)⟩, fun rd e => by obtain rfl : a1 = rd := Value.ref.inj (Option.some.inj (e1.symm.trans e)); exact hl⟩
      · refine hs_thr (x := 2) (lk := 4) (by decide +kernel) rfl rfl ?_
        exact ⟨⟨_, (List.mem_cons_of_mem _ (List.mem_cons_of_mem _ (List.mem_cons_of_mem _ List.mem_cons_self))), _, hx0, hf, hH, rfl, (by dsimp only; omega), (by dsimp only; omega)⟩, fun rd e => by obtain rfl : a1 = rd := Value.ref.inj (Option.some.inj (e1.symm.trans e)); exact hl⟩
end PPH
