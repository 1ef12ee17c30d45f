section ED
variable {xs : Nat → Int32} {L L2 : eg_Ls} {st st2 : List Value} {G H : eg_G} {I : ea_I}
/-- with fuel enough -/
def ea_E (scr : eg_Sc) (d k pc : Nat) (L : eg_Ls) (st : List Value) (G : eg_G) (ck sk : Nat) (o : eg_O) : Prop := ∃ g, ∀ r, g ≤ r → eg_rn r scr d k pc L st G ck sk = some o
def ea_ms (xs : Nat → Int32) (scr : Option Nat) : eg_Sc := scr.map (fun n => (n, xs))
def ea_W (xs : Nat → Int32) (os : List ea_O) (F : Nat → Option eg_O) : Prop := ∃ o ∈ os, ea_in xs o.1 ∧ ∃ G2, ea_gr xs o.2.2.1 G2 ∧ ∃ g, ∀ r, g ≤ r → F r = some (o.2.1, G2, o.2.2.2.1, o.2.2.2.2)
def ea_Ok (xs : Nat → Int32) (arec : ea_Rec) : Prop := ∀ (scr : Option Nat) (I : ea_I) (d k pc : Nat) (L : eg_Ls) (st : List Value) (G : eg_G) (ck sk : Nat) (os : List ea_O), (∀ n, scr = some n → n ≤ 6) → arec scr I d k pc L st G ck sk = some os → ∀ (L2 : eg_Ls) (st2 : List Value) (H : eg_G), ea_in xs I → ea_lr xs L L2 → ea_sr xs st st2 → ea_gr xs G H → ea_W xs os (fun r => eg_rn r (ea_ms xs scr) d k pc L2 st2 H ck sk)
theorem ea_Es {scr : eg_Sc} {d k pc : Nat} {ck sk : Nat} {os : List ea_O} {F : Nat → Option eg_O} (h : ea_W xs os F) (e : ∀ r, eg_one (eg_rn r) scr d k pc L st G ck sk = F r) : ea_W xs os (fun r => eg_rn r scr d k pc L st G ck sk) := by
  obtain ⟨o, ho, hI, G2, hG, g, hg⟩ := h
  refine ⟨o, ho, hI, G2, hG, g + 1, fun r hr => ?_⟩
  cases r with
  | zero => exact absurd hr (by omega)
  | succ r =>
    show eg_one (eg_rn r) scr d k pc L st G ck sk = _
    rw [e r]
    exact hg r (by omega)
theorem ea_W1 {o : ea_O} {F : Nat → Option eg_O} {G2 : eg_G} (hI : ea_in xs o.1) (hG : ea_gr xs o.2.2.1 G2) (h : ∀ r, F r = some (o.2.1, G2, o.2.2.2.1, o.2.2.2.2)) : ea_W xs [o] F := ⟨o, List.mem_cons_self, hI, G2, hG, 0, fun r _ => h r⟩
theorem ea_Wm {os os1 : List ea_O} {F F1 : Nat → Option eg_O} (h : ea_W xs os1 F1) (hm : ∀ o ∈ os1, o ∈ os) (n : Nat) (e : ∀ r, n ≤ r → F r = F1 r) : ea_W xs os F := by
  obtain ⟨o, ho, hI, G2, hG, g, hg⟩ := h
  exact ⟨o, hm o ho, hI, G2, hG, g + n, fun r hr => by rw [e r (by omega)]; exact hg r (by omega)⟩
theorem ea_rr_ok {ins : Instr} {ret : Option FieldType} {v : Option Value} (h : eg_rr ins ret st = some v) (hs : ea_sr xs st st2) : eg_rr ins ret st2 = some v := by
  unfold eg_rr at h
  split at h
  · have e : st2 = [] := hs
    rw [e]
    exact h
  · obtain ⟨_, r2, rfl, rfl, e⟩ := hs
    have e : r2 = [] := e
    subst e
    exact h
  all_goals first
    | (cases h; done)
    | (obtain ⟨_, r2, rfl, rfl, e⟩ := hs
       have e : r2 = [] := e
       subst e
       exact h)
theorem ea_rr_no {ins : Instr} {ret : Option FieldType} {st : List Value} (h : ¬ ea_rt ins = true) : eg_rr ins ret st = none := by
  cases ins <;> first | exact absurd rfl h | rfl
theorem ea_sc_ok {scr : Option Nat} {ins : Instr} {pc ck sk : Nat} {S : eg_S} (hn : ∀ n, scr = some n → n ≤ 6) (h : ea_sc scr ins pc L st G ck sk = some S) (hL : ea_lr xs L L2) (hs : ea_sr xs st st2) (hG : ea_gr xs G H) : ea_K xs (eg_sc (ea_ms xs scr) ins pc L2 st2 H ck sk) S := by
  unfold ea_sc at h
  split at h
  · rename_i n i a r
    split at h
    · rename_i hc
      cases h
      obtain ⟨_, _, rfl, rfl, _, r2, rfl, rfl, hr⟩ := hs
      have h6 := hn n rfl
      have hlt : i.toNatClampNeg < 6 := by
        show i.toInt.toNat < 6
        omega
      unfold eg_sc ea_ms
      dsimp only [Option.map]
      rw [if_pos hc]
      refine ea_k1 ⟨_, rfl, fun _ => ?_⟩ hL hr hG
      have e : (UInt32.ofNat i.toNatClampNeg).toNat = i.toNatClampNeg := by
        first
          | exact UInt32.toNat_ofNat_of_lt' (by omega)
          | (rw [UInt32.toNat_ofNat']; exact Nat.mod_eq_of_lt (by omega))
          | exact Nat.mod_eq_of_lt (by omega)
      rw [e]
      unfold ea_t
      rw [if_neg (by omega)]
    · cases h
  · rename_i n a r
    split at h
    · rename_i hc
      cases h
      obtain ⟨_, r2, rfl, rfl, hr⟩ := hs
      unfold eg_sc ea_ms
      dsimp only [Option.map]
      rw [if_pos hc]
      exact ea_k1 rfl hL hr hG
    · cases h
  · cases h
theorem ea_ns_ok {scr : Option Nat} {ins : Instr} {pc ck sk : Nat} (h : ea_ns scr ins st = true) (hs : ea_sr xs st st2) : eg_sc (ea_ms xs scr) ins pc L2 st2 H ck sk = none := by
  cases scr with
  | none => rfl
  | some n =>
    unfold ea_ns at h
    dsimp only at h
    split at h
    · split at h
      · rename_i i a r
        obtain ⟨_, _, rfl, rfl, _, r2, rfl, rfl, hr⟩ := hs
        unfold eg_sc ea_ms
        dsimp only [Option.map]
        rw [if_neg (by simpa only [Bool.not_eq_true', decide_eq_false_iff_not] using h)]
      · cases h
    · split at h
      · rename_i a r
        obtain ⟨_, r2, rfl, rfl, hr⟩ := hs
        unfold eg_sc ea_ms
        dsimp only [Option.map]
        rw [if_neg (by simpa only [Bool.not_eq_true', decide_eq_false_iff_not] using h)]
      · cases h
    · rename_i h1 h2
      unfold eg_sc
      split
      · exact absurd rfl h1
      · exact absurd rfl h2
      · rfl
theorem ea_mt_ok {mi : Nat} {v : Value} {r : List Value} (h : eg_mt mi st = some (v, r)) (hs : ea_sr xs st st2) : ∃ r2, eg_mt mi st2 = some (v, r2) ∧ ea_sr xs r r2 ∧ ea_nf v = true := by
  unfold eg_mt at h
  split at h
  · cases h
    obtain ⟨_, r2, rfl, rfl, hr⟩ := hs
    exact ⟨r2, rfl, hr, rfl⟩
  all_goals first
    | (cases h; done)
    | (cases h
       obtain ⟨_, _, rfl, rfl, _, r2, rfl, rfl, hr⟩ := hs
       exact ⟨r2, rfl, hr, rfl⟩)
theorem ea_bk_ok {arec : ea_Rec} (hr : ea_Ok xs arec) {scr : Option Nat} (hn : ∀ n, scr = some n → n ≤ 6) {d k pc ck sk : Nat} {q q2 : List Value} {o : ea_O} {os : List ea_O} (h : ea_bk arec scr d k pc L q ck sk o = some os) {G2 : eg_G} (hI : ea_in xs o.1) (hL : ea_lr xs L L2) (hq : ea_sr xs q q2) (hG : ea_gr xs o.2.2.1 G2) : ea_W xs os (fun r => eg_bk (eg_rn r) (ea_ms xs scr) d k pc L2 q2 ck sk (some (o.2.1, G2, o.2.2.2.1, o.2.2.2.2))) := by
  unfold ea_bk at h
  split at h
  · split at h
    · rename_i I v G' c s hv
      exact hr _ _ _ _ _ _ _ _ _ _ _ hn h _ _ _ hI hL (ea_sr_app (ea_sr_nf hv) hq) hG
    · cases h
  · rename_i I x G' c s
    split at h
    · rename_i hmh
      cases h
      refine ea_W1 hI hG (fun r => ?_)
      unfold eg_bk
      dsimp only
      rw [hmh]
    · rename_i hh hmh
      split at h
      · rename_i hd hhd
        split at h
        · rename_i i n hca
          split at h
          · rename_i hi
            refine ea_Wm (hr _ _ _ _ _ _ _ _ _ _ _ hn h _ _ _ hI (ea_lr_sn i hL) rfl hG) (fun _ h => h) 0 (fun r _ => ?_)
            unfold eg_bk
            dsimp only
            rw [hmh]
            dsimp only
            rw [hhd]
            dsimp only
            rw [hca]
            dsimp only
            rw [if_pos (by rw [ea_lr_len hL]; exact hi)]
          · cases h
        · cases h
      · cases h
theorem ea_cl1_ok {arec : ea_Rec} (hr : ea_Ok xs arec) {scr : Option Nat} (hn : ∀ n, scr = some n → n ≤ 6) {d k pc mi ck sk : Nat} {as q as2 q2 : List Value} {os : List ea_O} (h : ea_cl1 arec scr I d k pc mi as q L G ck sk = some os) (hI : ea_in xs I) (ha : ea_sr xs as as2) (hq : ea_sr xs q q2) (hL : ea_lr xs L L2) (hG : ea_gr xs G H) : ea_W xs os (fun r => eg_cl1 (eg_rn r) (ea_ms xs scr) d k pc mi as2 q2 L2 H ck sk) := by
  unfold ea_cl1 at h
  split at h
  · rename_i hc
    cases d with
    | zero => cases h
    | succ d =>
      dsimp only at h
      split at h
      · cases h
      · rename_i os1 h1
        obtain ⟨o, ho, hoI, G2, hG2, g, hg⟩ := hr none _ _ _ _ _ _ _ _ _ _ (fun _ h => nomatch h) h1 _ _ _ hI (ea_lr_en (eg_mL mi) ha) rfl hG
        obtain ⟨os2, h2, h3⟩ := ea_bd_mem h ho
        refine ea_Wm (ea_bk_ok hr hn h2 hoI hL hq hG2) h3 g (fun r hr' => ?_)
        unfold eg_cl1
        rw [if_pos ⟨by rw [ea_sr_cat hq]; exact hc.1, by rw [ea_lr_len hL]; exact hc.2.1, by rw [ea_lr_len (ea_lr_en0 ha)]; exact hc.2.2.1, hc.2.2.2.1, hc.2.2.2.2⟩]
        dsimp only
        rw [show eg_rn r none d mi 0 (eg_en (eg_mL mi) as2) [] H 0 0 = _ from hg r hr']
  · cases h
theorem ea_iv_ok {arec : ea_Rec} (hr : ea_Ok xs arec) {scr : Option Nat} (hn : ∀ n, scr = some n → n ≤ 6) {d k pc t i ck sk : Nat} {os : List ea_O} (h : ea_iv arec scr I d k pc t i L st G ck sk = some os) (hI : ea_in xs I) (hL : ea_lr xs L L2) (hs : ea_sr xs st st2) (hG : ea_gr xs G H) : ea_W xs os (fun r => eg_iv (eg_rn r) (ea_ms xs scr) d k pc t i L2 st2 H ck sk) := by
  cases hlk : (eg_mT.getD (eg_mo k) []).lookup i with
  | none =>
    unfold ea_iv at h
    rw [hlk] at h
    cases h
  | some y =>
    obtain ⟨mi, kd, x⟩ := y
    rcases t with _ | _ | t
    · rw [ea_w0 hlk] at h
      split at h
      · rename_i hc
        split at h
        · rename_i v r hm
          split at h
          · rename_i hc2
            obtain ⟨r2, e, hr2, hv⟩ := ea_mt_ok hm hs
            refine ea_Wm (hr _ _ _ _ _ _ _ _ _ _ _ hn h _ _ _ hI hL ⟨_, _, rfl, ea_vr_nf hv, hr2⟩ hG) (fun _ h => h) 0 (fun r _ => ?_)
            try dsimp only
            rw [ea_v0 hlk]
            rw [if_pos hc, e]
            dsimp only
            rw [if_pos ⟨by rw [ea_sr_cat hr2]; exact hc2.1, by rw [ea_lr_len hL]; exact hc2.2⟩]
          · cases h
        · cases h
      · rename_i hc
        split at h
        · rename_i hc2
          refine ea_Wm (ea_cl1_ok hr hn h hI (ea_sr_rev (ea_sr_take _ hs)) (ea_sr_drop _ hs) hL hG) (fun _ h => h) 0 (fun r _ => ?_)
          try dsimp only
          rw [ea_v0 hlk]
          rw [if_neg hc, if_pos ⟨hc2.1, by rw [ea_sr_len hs]; exact hc2.2⟩]
        · cases h
    · rw [ea_w1 hlk] at h
      split at h
      · rename_i b r hd
        split at h
        · rename_i hc
          have hd2 := ea_sr_drop (xs := xs) (eg_ma mi) hs
          rw [hd] at hd2
          obtain ⟨_, r2, e, rfl, hr2⟩ := hd2
          refine ea_Wm (ea_cl1_ok hr hn h hI ⟨_, _, rfl, rfl, ea_sr_rev (ea_sr_take _ hs)⟩ hr2 hL hG) (fun _ h => h) 0 (fun r _ => ?_)
          try dsimp only
          rw [ea_v1 hlk]
          rw [e]
          dsimp only
          rw [if_pos ⟨hc.1, by rw [hG.1]; exact hc.2.1, ea_is hG hc.2.2⟩]
        · cases h
      · cases h
    · rw [ea_w2 hlk] at h
      split at h
      · rename_i hc
        split at h
        · rename_i b r
          split at h
          · rename_i hc2
            obtain ⟨_, r2, rfl, rfl, hr2⟩ := hs
            refine ea_Wm (hr _ _ _ _ _ _ _ _ _ _ _ hn h _ _ _ hI hL hr2 hG) (fun _ h => h) 0 (fun r _ => ?_)
            try dsimp only
            rw [ea_v2 hlk]
            rw [if_pos hc]
            dsimp only
            rw [if_pos ⟨by rw [ea_sr_cat hr2]; exact hc2.1, by rw [ea_lr_len hL]; exact hc2.2⟩]
          · cases h
        · cases h
      · rename_i hc
        split at h
        · rename_i b r hd
          split at h
          · rename_i hc2
            have hd2 := ea_sr_drop (xs := xs) (eg_ma mi) hs
            rw [hd] at hd2
            obtain ⟨_, r2, e, rfl, hr2⟩ := hd2
            refine ea_Wm (ea_cl1_ok hr hn h hI ⟨_, _, rfl, rfl, ea_sr_rev (ea_sr_take _ hs)⟩ hr2 hL hG) (fun _ h => h) 0 (fun r _ => ?_)
            try dsimp only
            rw [ea_v2 hlk]
            rw [if_neg hc, e]
            dsimp only
            rw [if_pos hc2]
          · cases h
        · cases h
theorem ea_one_ok {arec : ea_Rec} (hr : ea_Ok xs arec) : ea_Ok xs (ea_one arec) := by
  intro scr I d k pc L st G ck sk os hn h L2 st2 H hI hL hs hG
  unfold ea_one at h
  split at h
  · rename_i S hk
    obtain ⟨L3, st3, H3, hL3, hs3, hG3, n, e⟩ := ea_hk_ok hk hL hs hG
    obtain ⟨o, ho, hoI, G2, hG2, g, hg⟩ := hr _ _ _ _ _ _ _ _ _ _ _ hn h _ _ _ hI hL3 hs3 hG3
    refine ⟨o, ho, hoI, G2, hG2, g + n, fun r hr' => ?_⟩
    have e2 : r = (r - n) + n := by omega
    dsimp only
    rw [e2, e]
    exact hg (r - n) (by omega)
  · split at h
    · cases h
    · rename_i ins len hcd
      split at h
      · rename_i hrt
        split at h
        · rename_i v hv
          cases h
          refine ea_Es (F := fun _ => some (.inl v, H, ck, sk)) (ea_W1 hI hG (fun _ => rfl)) (fun r => ?_)
          unfold eg_one
          rw [hcd]
          dsimp only
          rw [ea_rr_ok hv hs]
        · cases h
      · rename_i hrt
        have hno : eg_rr ins (eg_mr k) st2 = none := ea_rr_no hrt
        split at h
        · rename_i S hsc
          obtain ⟨L3, st3, H3, e, hL3, hs3, hG3⟩ := ea_sc_ok hn hsc hL hs hG
          refine ea_Es (hr _ _ _ _ _ _ _ _ _ _ _ hn h _ _ _ hI hL3 hs3 hG3) (fun r => ?_)
          unfold eg_one
          rw [hcd]
          dsimp only
          rw [hno]
          dsimp only
          rw [e]
        · split at h
          · rename_i hns
            have hsn : eg_sc (ea_ms xs scr) ins pc L2 st2 H ck sk = none := ea_ns_ok hns hs
            split at h
            · rename_i q hth
              split at h
              · rename_i hc
                cases h
                refine ea_Es (F := fun _ => some (.inr q.2.2, H, ck + 1, sk + 6)) (ea_W1 hI hG (fun _ => rfl)) (fun r => ?_)
                unfold eg_one
                rw [hcd]
                dsimp only
                rw [hno]
                dsimp only
                rw [hsn]
                dsimp only
                rw [hth]
                dsimp only
                rw [if_pos ⟨by rw [ea_sr_cat hs]; exact hc.1, by rw [ea_lr_len hL]; exact hc.2⟩]
              · cases h
            · rename_i hth
              split at h
              · rename_i t i hik
                refine ea_Es (ea_iv_ok hr hn h hI hL hs hG) (fun r => ?_)
                unfold eg_one
                rw [hcd]
                dsimp only
                rw [hno]
                dsimp only
                rw [hsn]
                dsimp only
                rw [hth]
                dsimp only
                rw [hik]
              · rename_i hik
                unfold ea_nx at h
                split at h
                · rename_i l hl
                  obtain ⟨e, he, heI, L3, st3, H3, ek, hL3, hs3, hG3⟩ := ea_step_ok hl hI hL hs hG
                  obtain ⟨os1, h1, h2⟩ := ea_bd_mem h he
                  refine ea_Es (ea_Wm (hr _ _ _ _ _ _ _ _ _ _ _ hn h1 _ _ _ heI hL3 hs3 hG3) h2 0 (fun _ _ => rfl)) (fun r => ?_)
                  unfold eg_one
                  rw [hcd]
                  dsimp only
                  rw [hno]
                  dsimp only
                  rw [hsn]
                  dsimp only
                  rw [hth]
                  dsimp only
                  rw [hik]
                  dsimp only
                  rw [ek]
                  rfl
                · cases h
          · cases h
theorem ea_rn_ok (xs : Nat → Int32) : ∀ f : Nat, ea_Ok xs (ea_rn f)
  | 0 => fun _ _ _ _ _ _ _ _ _ _ _ _ h => (nomatch h)
  | f + 1 => ea_one_ok (ea_rn_ok xs f)
end ED
