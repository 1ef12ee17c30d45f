/-! CALLS, AND THE WHOLE -/
section EGD
theorem eg_met {rec : eg_Rec} (hrec : eg_Sd rec) {l : Launch} (hl : l.stackTraces = false) {b0 : Nat} {D : va_G} {dA : Nat → ClassId} {adc ad : Nat → Nat} {d mi cN sN : Nat} {as : List Value} {G G' : eg_G} {r : eg_R} (hm : mi < 316) (hm20 : ¬ eg_mo mi = 20) (hlen : (eg_en0 as).length ≤ eg_mL mi)
    (h : rec none d mi 0 (eg_en (eg_mL mi) as) [] G 0 0 = some (r, G', cN, sN)) :
    vx_Met l (eg_mn mi) [eg_yw (eg_me mi)] (eg_rm d cN sN) (eg_Pc b0 D dA adc as ad G) (eg_Qc b0 D dA adc ad G.2 r G') (eg_XC b0 D dA adc ad G.2 r G') cN sN (eg_A b0) := by
  obtain ⟨hpl, hmh, hpar, h15, hown0⟩ := eg_mok_at hm
  have hpl := hpl.resolve_left hm20
  have body : ∀ p e s m args below meth c s₁, BodyLoose p l (eg_mn mi) (headSpec [eg_yw (eg_me mi)] (eg_rm d cN sN)) (eg_mb mi) (eg_mL mi) (eg_mr mi) e s m args below meth c s₁ → c.maxLocals = eg_mL mi → c.exceptionTable.toList = tableOf ((eg_mh mi).getD []) → eg_Pc b0 D dA adc as ad G args s →
      W p l e (headSpec [eg_yw (eg_me mi)] (eg_rm d cN sN)).room s m args below meth c s.heap [] 0 0 (vx_MQ below (eg_Qc b0 D dA adc ad G.2 r G') (eg_XC b0 D dA adc ad G.2 r G') args s cN sN (eg_A b0)) (entryFrame m args (eg_mL mi)) := by
    intro p e s m args below meth c s₁ B hml htab hP
    obtain ⟨ha, hF, hP1, hD1, hok, hag, hv⟩ := hP
    have hB : eg_B p s m meth c (eg_rm d cN sN) mi d cN sN := ⟨B.exec, B.bytes, hml, by rw [hown0]; exact findClass_of_methodNamed B.named, B.notSynchronized, B.returns, fun hin => (name_of_methodNamed B.named B.method).1.trans (by simpa [eg_in] using hin), (fun _ => htab), rfl, rfl, Nat.le_refl _, Nat.le_refl _⟩
    obtain ⟨k1, k2, k3⟩ := eg_ends (p := p) (e := e) (below := below) (n0 := G.2) (ad0 := ad) (args := args) (r := r) (G' := G') (by unfold eg_LK; omega) hB hF hl (Nat.le_refl _) (Nat.le_refl _) rfl
    have hJ := hrec none d mi 0 _ _ _ 0 0 r G' cN sN h (p := p) (l := l) (e := e) (R := eg_rm d cN sN) (s := s) (m := m) (args := args) (below := below) (meth := meth) (c := c) (b0 := b0) (D := D) (dA := dA) (adc := adc) (n0 := G.2) (ad0 := ad) (mc := cN) (ms := sN) ⟨hB, hF, hl, (fun _ _ h9 => nomatch h9), Nat.le_refl _, Nat.le_refl _, k1, k2, k3⟩
    have h9 := hJ ad s.heap [] _ ⟨hP1, hD1, va_S.rf, hok, hag, Nat.le_refl _, fun _ _ => rfl⟩ (eg_en_LR hlen hv) (fun _ h => nomatch h)
    rw [ha, lg_entry_eq]
    rw [ha] at h9
    exact h9
  have hmi := eg_mi_k hm
  have hyw : eg_yw (eg_me mi) = match eg_mh mi with | none => .code (eg_mn mi) (eg_mb mi) (eg_mL mi) (eg_mr mi) | some hh => .codeWith (eg_mn mi) (eg_mb mi) (eg_mL mi) (eg_mr mi) hh := by
    unfold eg_yw eg_mh eg_mn eg_mb eg_mL eg_mr
    rw [hmi]
    split <;> rename_i h9 <;> rw [h9]
  cases hh : eg_mh mi with
  | none =>
    rw [hh] at hyw
    refine vx_ofW (cc := eg_mb mi) (maxL := eg_mL mi) (ret := eg_mr mi) hpl (by rw [hyw]) (fun p e s m args below meth c s₁ B hml hx hP => body p e s m args below meth c s₁ B hml ?_ hP)
    rw [hh]
    show _ = []
    cases h9 : c.exceptionTable.toList with
    | nil => rfl
    | cons z t => exact (hx z (by rw [h9]; exact List.mem_cons_self)).elim
  | some hh1 =>
    rw [hh] at hyw
    refine vx_ofWH (cc := eg_mb mi) (maxL := eg_mL mi) (ret := eg_mr mi) (hh := hh1) hpl (by rw [hyw]) (fun p e s m args below meth c s₁ B hml hP => body p e s m args below meth c s₁ B hml ?_ hP)
    rw [hh]
    refine vx_table (x := eg_mn mi) B (hh := hh1) (bytes := eg_mb mi) (maxL' := eg_mL mi) (ret' := eg_mr mi) ?_
    have h9 := atoms_spec (ws := [eg_yw (eg_me mi)]) B.pre _ List.mem_cons_self
    rw [hyw] at h9
    exact h9
section In
variable {p : Program} {l : Launch} {e : Env} {R : Room} {s : State} {m : MethodId} {args : Array Value} {below : List Frame} {meth : Method} {c : Code} {Q : State → Prop} {b0 : Nat} {D : va_G} {dA : Nat → ClassId} {adc : Nat → Nat} {n0 : Nat} {ad0 : Nat → Nat} {scr : eg_Sc} {d k mc ms : Nat} {r : eg_R} {G G' : eg_G} {ck sk ck' sk' : Nat} {L : eg_Ls} {st : List Value}
theorem eg_run_W {q1 : eg_R} {G1 : eg_G} {cN sN pc : Nat} {a : Array Value} {ad : Nat → Nat} {H : Heap} {locs : List Loc} {ls : Array Slot} {st0 rest : List Value} (hR : eg_Rel s b0 D dA adc n0 ad0 ad G H locs)
    (hr : vx_Run p l e R s m args below meth c H locs ck sk cN sN (F0 m pc ls st0) rest (eg_Qc b0 D dA adc ad G.2 q1 G1 a) (eg_XC b0 D dA adc ad G.2 q1 G1) (eg_A b0))
    (kr : ∀ (v : Option Value) (ad' : Nat → Nat) (H1 : Heap) (locs1 : List Loc), q1 = .inl v → (∀ w, v = some w → eg_okv G1.2 w) → eg_ag G.2 ad ad' → G.2 ≤ G1.2 → eg_Rel s b0 D dA adc n0 ad0 ad' G1 H1 locs1 → W p l e R s m args below meth c H1 locs1 (ck + cN) (sk + sN) Q (F0 m (pc + 3) ls ((v.map (eg_v ad')).toList ++ rest)))
    (kx : ∀ (x : Nat) (ad' : Nat → Nat) (H1 : Heap) (locs1 : List Loc) (q : Nat) (ce : Cell), q1 = .inr x → x < 4 → eg_ag G.2 ad ad' → G.2 ≤ G1.2 → eg_Rel s b0 D dA adc n0 ad0 ad' G1 H1 locs1 → H1[q]? = some ce → ce.vm = .none → s.vm.findClass (eg_xn x) = some ce.cls → vx_W p l e R s m args below meth c H1 locs1 (ck + cN) (sk + sN) Q (F0 m pc ls rest) q) : W p l e R s m args below meth c H locs ck sk Q (F0 m pc ls st0) := by
  intro T hT X
  obtain ⟨-, -, hS0, -, -, hn0, had0⟩ := hR
  have go : ∀ (ad' : Nat → Nat) (H1 : Heap) (locs1 : List Loc), eg_Qp b0 D dA adc ad G.2 G1 ad' H1 → va_S (eg_A b0) s.heap H1 locs1 → eg_Rel s b0 D dA adc n0 ad0 ad' G1 H1 locs1 := fun ad' H1 locs1 h hS1 =>
    ⟨h.2.2.1, h.2.2.2.1, hS1, h.2.2.2.2.1, h.2.2.2.2.2, Nat.le_trans hn0 h.2.1, fun i hi => (h.1 i (Nat.lt_of_lt_of_le hi hn0)).trans (had0 i hi)⟩
  rcases hr T hT X with ⟨v, st₀, t, T', L, h0, X', hL, e1, e2, ⟨v2, ad', hq1, ho, hok, hQ, hF⟩, stp⟩ | ⟨q, st₀, t, T', L, E, ce, h0, X', hL, e1, e2, ⟨x, ad', hq1, hx4, hE, hQ, hF⟩, hce, hcv, hcl, stp⟩
  · obtain ⟨k1, k2, k3⟩ := vx_keep h0 e1 hS0 (fun q _ h => h) (fun q h => h) hL hF
    have hv : v = v2.map (eg_v ad') := Outcome.returned.inj ho
    subst hv
    obtain ⟨t2, a1, b1⟩ := kr v2 ad' T'.heap (locs ++ L) hq1 hok hQ.1 hQ.2.1 (go ad' _ _ (by rw [e1]; exact hQ) k3) T' rfl X'
    exact ⟨t2, stp t2 a1, b1⟩
  · obtain ⟨k1, k2, k3⟩ := vx_keep h0 e1 hS0 (fun q _ h => h) (fun q h => h) hL hF
    subst hE
    obtain ⟨t2, a1, b1⟩ := kx x ad' T'.heap (locs ++ L) q ce hq1 hx4 hQ.1 hQ.2.1 (go ad' _ _ (by rw [e1]; exact hQ) k3) (by rw [e1]; exact hce) hcv hcl T' rfl X'
    exact ⟨t2, stp.trans a1, b1⟩
/-- the row of a table that takes an exception -/
theorem eg_hd_at {o pc x h : Nat} (hx4 : x < 4) (hw : ∀ w ∈ eg_W, w.before args s = true) (hN : ∀ x y : Nat, x < 4 → y < 4 → x ≠ y → va_Nc (eg_xn x) (eg_xn y) s) : ∀ hh : List (Nat × Nat × Nat × Nat), eg_hd o pc x hh = some h →
    ∃ (pre : List ExceptionTableEntry) (z : ExceptionTableEntry) (suf : List ExceptionTableEntry), tableOf hh = pre ++ z :: suf ∧ (∀ y ∈ pre, covers y pc = false ∨ (y.catchType ≠ 0 ∧ ∃ nm : String, (Cond.classLink (eg_on o) y.catchType nm).before args s = true ∧ va_Nc (eg_xn x) nm s)) ∧
      covers z pc = true ∧ z.catchType ≠ 0 ∧ (Cond.classLink (eg_on o) z.catchType (eg_xn x)).before args s = true ∧ z.handlerPc = h
  | [], hq => nomatch hq
  | (a, b, h1, ct) :: t, hq => by
    have hcn : ∀ y : Nat, 20 ≤ y → y < 24 → eg_cn y = eg_xn (y - 20) := fun y h1 h2 => by
      unfold eg_cn eg_xn
      rw [if_neg (by omega), if_neg (by omega), if_neg (by omega)]
    unfold eg_hd at hq
    split at hq
    · rename_i hc
      split at hq
      · rename_i y hy
        have hwy := hw _ (eg_w4 (eg_lk hy))
        split at hq
        · cases hq
        · rename_i hct
          split at hq
          · rename_i hyx
            cases hq
            subst hyx
            refine ⟨[], ⟨a, b, h, ct⟩, tableOf t, rfl, (fun _ h => nomatch h), ?_, hct, ?_, rfl⟩
            · simp [covers, hc.1, hc.2]
            · have h9 : eg_cw o (ct, 20 + x) = .classLink (eg_on o) ct (eg_xn x) := by
                unfold eg_cw
                rw [hcn _ (by omega) (by omega), show 20 + x - 20 = x by omega]
              rw [← h9]
              exact hwy
          · rename_i hyx
            split at hq
            · rename_i hyr
              obtain ⟨pre, z, suf, e1, e2, e3⟩ := eg_hd_at hx4 hw hN t hq
              refine ⟨⟨a, b, h1, ct⟩ :: pre, z, suf, by show _ :: tableOf t = _; rw [e1]; rfl, fun w hw9 => ?_, e3⟩
              rcases List.mem_cons.mp hw9 with rfl | hw9
              · refine Or.inr ⟨hct, eg_xn (y - 20), ?_, hN _ _ hx4 (by omega) (by omega)⟩
                have h9 : eg_cw o (ct, y) = .classLink (eg_on o) ct (eg_xn (y - 20)) := by
                  unfold eg_cw
                  rw [hcn _ hyr.1 hyr.2]
                rw [← h9]
                exact hwy
              · exact e2 w hw9
            · cases hq
      · cases hq
    · rename_i hc
      obtain ⟨pre, z, suf, e1, e2, e3⟩ := eg_hd_at hx4 hw hN t hq
      refine ⟨⟨a, b, h1, ct⟩ :: pre, z, suf, by show _ :: tableOf t = _; rw [e1]; rfl, fun w hw9 => ?_, e3⟩
      rcases List.mem_cons.mp hw9 with rfl | hw9
      · left
        by_cases ha : a ≤ pc
        · have : ¬ pc < b := fun h => hc ⟨ha, h⟩
          simp [covers, this]
        · simp [covers, ha]
      · exact e2 w hw9
theorem eg_LR_sn {ad : Nat → Nat} {n i : Nat} {ls ls' : Array Slot} {L : eg_Ls} {v : Value} (h : eg_LR ad n ls L)
    (h' : lv_has ls' L.length ((i, v) :: (eg_lq ad 0 L).filter (fun q => !(q.1 == i) && !(q.1 + 1 == i && q.2.category == 2)))) : eg_LR ad n ls' (eg_sn L i) := by
  have hat : ∀ (k : Nat) (w : Value), (eg_sn L i)[k]? = some (some w) → k ≠ i ∧ L[k]? = some (some w) ∧ (k + 1 = i → w.category = 1) := fun k w hk => by
    unfold eg_sn at hk
    rw [List.getElem?_set] at hk
    split at hk
    · split at hk <;> cases hk
    · rename_i hne
      rcases eg_s1_at L i k .null w hk with ⟨h1, -⟩ | h1
      · exact absurd h1.symm hne
      · exact h1
  refine ⟨⟨?_, h'.2.1, fun q hq => h'.2.2 q ?_⟩, fun w hw => ?_⟩
  · unfold eg_sn
    rw [List.length_set, eg_s1_len]
    exact h'.1
  · obtain ⟨k, w, rfl, hk⟩ := eg_lq_of ad _ _ _ hq
    rw [Nat.zero_add]
    obtain ⟨h1, h2, h3⟩ := hat k w hk
    refine List.mem_cons_of_mem _ (List.mem_filter.mpr ⟨?_, ?_⟩)
    · have := eg_lq_at ad L 0 k w h2
      rwa [Nat.zero_add] at this
    · simp only [eg_vcat]
      by_cases hki : k + 1 = i
      · simp [h1, hki, h3 hki]
      · simp [h1, hki]
  · obtain ⟨k, hk⟩ := List.getElem?_of_mem hw
    exact h.2 w (List.mem_of_getElem? (hat k w hk).2.1)
theorem eg_ca1_W {h i n : Nat} {ad : Nat → Nat} {H : Heap} {locs : List Loc} {ls : Array Slot} {q : Nat} {G1 : eg_G} (hH : eg_H p l e R s m args below meth c Q b0 D dA adc n0 ad0 scr d k mc ms r G' ck' sk') (hca : eg_ca1 k h = some (i, n)) (hi : i < L.length) (hR : eg_Rel s b0 D dA adc n0 ad0 ad G1 H locs) (hL : eg_LR ad G1.2 ls L)
    (kk : eg_J p l e R s m args below meth c Q b0 D dA adc n0 ad0 (h + n) (eg_sn L i) [] G1 ck sk) : W p l e R s m args below meth c H locs ck sk Q (F0 m h ls [.ref q]) := by
  obtain ⟨⟨hx, hb, -⟩, -⟩ := hH
  unfold eg_ca1 at hca
  split at hca
  · rename_i len hcd
    cases hca
    obtain ⟨hd, hlo⟩ := eg_cd_dec hcd
    have hl' : len = 1 := by simpa [eg_lok] using hlo
    subst hl'
    exact lv_astore_n hx hb hd rfl hL.1 hi rfl (fun ls' hl' => kk ad H locs ls' hR (eg_LR_sn hL hl') (fun _ h => nomatch h))
  · rename_i len hcd
    cases hca
    obtain ⟨hd, hlo⟩ := eg_cd_dec hcd
    have hl' : len = 2 := by simpa [eg_lok] using hlo
    subst hl'
    exact lv_astore hx hb hd hL.1 hi rfl (fun ls' hl' => kk ad H locs ls' hR (eg_LR_sn hL hl') (fun _ h => nomatch h))
  · cases hca
/-- a call, by its kind's run -/
theorem eg_cl1_J {rec : eg_Rec} (hrec : eg_Sd rec) (hle : eg_le rec) {pc mi : Nat} {as rr st0 : List Value} (H : eg_H p l e R s m args below meth c Q b0 D dA adc n0 ad0 scr d k mc ms r G' ck' sk') (hcl : eg_cl1 rec scr d k pc mi as rr L G ck sk = some (r, G', ck', sk')) (hrr : ∀ v ∈ rr, v ∈ st0)
    (hrun : ∀ (d' cN sN : Nat) (q1 : eg_R) (G1 : eg_G), d = d' + 1 → mi < 316 → ck + cN ≤ mc → sk + sN ≤ ms → eg_cat rr ≤ 8 → ∀ (ad : Nat → Nat) (H : Heap) (locs : List Loc) (ls : Array Slot), eg_Rel s b0 D dA adc n0 ad0 ad G H locs → ls.size = c.maxLocals → (∀ v ∈ st0, eg_okv G.2 v) →
      vx_Met l (eg_mn mi) [eg_yw (eg_me mi)] (eg_rm d' cN sN) (eg_Pc b0 D dA adc as ad G) (eg_Qc b0 D dA adc ad G.2 q1 G1) (eg_XC b0 D dA adc ad G.2 q1 G1) cN sN (eg_A b0) →
      vx_Run p l e R s m args below meth c H locs ck sk cN sN (F0 m pc ls (st0.map (eg_v ad))) (rr.map (eg_v ad)) (eg_Qc b0 D dA adc ad G.2 q1 G1 (as.map (eg_v ad)).toArray) (eg_XC b0 D dA adc ad G.2 q1 G1) (eg_A b0)) : eg_J p l e R s m args below meth c Q b0 D dA adc n0 ad0 pc L st0 G ck sk := by
  unfold eg_cl1 at hcl
  split at hcl
  · rename_i hc
    obtain ⟨hc8, hLl, hen, hmi, hm20⟩ := hc
    split at hcl
    · cases hcl
    · rename_i d'
      obtain ⟨q1, G1, cN, sN, ho, hcN, hsN⟩ := eg_bk_le hle hcl
      have H0 := H
      obtain ⟨hB, hF, hlf, hsc, hck, hsk, k1, k2, k3⟩ := H
      rw [ho] at hcl
      intro ad Hh locs ls hR hL hS
      have hsz : ls.size = c.maxLocals := by rw [hL.1.1, hLl]; exact hB.2.2.1.symm
      have hM := eg_met hrec (l := l) hlf (b0 := b0) (D := D) (dA := dA) (adc := adc) (ad := ad) hmi hm20 hen ho
      have hr := hrun d' cN sN q1 G1 rfl hmi (by omega) (by omega) hc8 ad Hh locs ls hR hsz hS hM
      have hokr : ∀ v ∈ rr, eg_okv G.2 v := fun v hv => hS v (hrr v hv)
      refine eg_run_W hR hr (fun v ad' H1 locs1 hq1 hok hag hle1 hR1 => ?_) (fun x ad' H1 locs1 q ce hq1 hx4 hag hle1 hR1 hce hcv hcl2 => ?_)
      · subst hq1
        have hJ := hrec scr (d' + 1) k (pc + 3) L (v.toList ++ rr) G1 (ck + cN) (sk + sN) r G' ck' sk' hcl H0
        have h9 := hJ ad' H1 locs1 ls hR1 (hL.up hag hle1) (fun w hw => by
          rcases List.mem_append.mp hw with h | h
          · exact hok w (by simpa using h)
          · exact (hokr w h).up hle1)
        have e1 : (v.toList ++ rr).map (eg_v ad') = (v.map (eg_v ad')).toList ++ rr.map (eg_v ad) := by
          rw [List.map_append, eg_ag_st hag hokr]
          cases v <;> rfl
        rw [e1] at h9
        exact h9
      · subst hq1
        unfold eg_bk at hcl
        dsimp only at hcl
        split at hcl
        · rename_i hh
          cases hcl
          exact k2 hh ad' H1 locs1 ls pc _ x q ce rfl hx4 hR1 hce hcv hcl2
        · rename_i hh1 hh
          split at hcl
          · rename_i h hhd
            split at hcl
            · rename_i i n hca
              split at hcl
              · rename_i hi
                have hJ := hrec scr (d' + 1) k (h + n) (eg_sn L i) [] G1 (ck + cN) (sk + sN) r G' ck' sk' hcl H0
                have hW := eg_ca1_W (q := q) H0 hca hi hR1 (hL.up hag hle1) hJ
                obtain ⟨f1, f2, f3, f4, f5, f6, f7, f8, f9, f10⟩ := hF
                obtain ⟨pre, z, suf, e1, e2, e3, e4, e5, e6⟩ := eg_hd_at hx4 (args := args) (eg_kp_s eg_kp_W f1) f7 hh1 hhd
                have hkn : k ≠ eg_LK := fun h9 => by
                  rw [h9] at hh
                  unfold eg_mh eg_mi at hh
                  rw [if_pos rfl] at hh
                  cases hh
                have htab := hB.2.2.2.2.2.2.2.1 hkn
                rw [hh] at htab
                rw [← e6] at hW
                exact vx_catch hB.2.2.2.1 pre z suf (htab.trans e1) e2 e3 e4 e5 (eg_kp_s eg_kp_W10 f2 _ (eg_W10_cast hx4)) hce hcv hcl2 hW
              · cases hcl
            · cases hcl
          · cases hcl
  · cases hcl
end In
end EGD
