/-! the heap's steps over the machine -/
theorem eg_v_rf (ad : Nat → Nat) (x : Option Nat) : eg_v ad (va_rf x) = va_rf (x.map ad) := by cases x <;> rfl
theorem eg_okv_rf {n : Nat} {x : Option Nat} (h : ∀ i, x = some i → i < n) : eg_okv n (va_rf x) := by
  cases x with
  | none => exact eg_okn
  | some i => exact eg_okr (h i rfl)
theorem eg_nc0 : 36 + 2 * eg_NS + 4 = eg_NC := rfl
theorem eg_con_arr {i t : Nat} {x : vp_A} (hi : i < eg_NC) (h : eg_con i = .inl (t, x)) : (t = 1 ∧ ∃ f, x.2 = .inl f) ∨ (t = 9 ∧ x = (36, .inr (.inr (.inr (.inr (fun j => some j)))))) ∨ (t = 0 ∧ ∃ f, x.2 = .inl f) := by
  unfold eg_con at h
  split at h
  · cases h
  · split at h
    · cases h
    · split at h
      · cases h
        exact Or.inl ⟨rfl, _, rfl⟩
      · split at h
        · cases h
          exact Or.inr (Or.inl ⟨rfl, rfl⟩)
        · split at h
          · cases h
            exact Or.inr (Or.inr ⟨rfl, _, rfl⟩)
          · cases h
theorem eg_tt_ref {t : Nat} (h5 : 5 ≤ t) (h6 : t < 12) : (eg_tt t).isReference = true := by
  match t, h5, h6 with
  | 5, _, _ => rfl
  | 6, _, _ => rfl
  | 7, _, _ => rfl
  | 8, _, _ => rfl
  | 9, _, _ => rfl
  | 10, _, _ => rfl
  | 11, _, _ => rfl
  | k + 12, _, h => exact absurd h (by omega)
theorem eg_tt_obj {t : Nat} (h5 : 5 ≤ t) (h6 : t < 11) : ∃ C : String, eg_tt t = .object C := by
  match t, h5, h6 with
  | 5, _, _ => exact ⟨_, rfl⟩
  | 6, _, _ => exact ⟨_, rfl⟩
  | 7, _, _ => exact ⟨_, rfl⟩
  | 8, _, _ => exact ⟨_, rfl⟩
  | 9, _, _ => exact ⟨_, rfl⟩
  | 10, _, _ => exact ⟨_, rfl⟩
  | k + 11, _, h => exact absurd h (by omega)
theorem eg_el_9 {t : Nat} (h5 : 5 ≤ t) (h6 : t < 11) : (eg_el t = 12 → t = 9) ∧ eg_el t ≠ 13 := by
  match t, h5, h6 with
  | 5, _, _ => exact ⟨by decide, by decide⟩
  | 6, _, _ => exact ⟨by decide, by decide⟩
  | 7, _, _ => exact ⟨by decide, by decide⟩
  | 8, _, _ => exact ⟨by decide, by decide⟩
  | 9, _, _ => exact ⟨by decide, by decide⟩
  | 10, _, _ => exact ⟨by decide, by decide⟩
  | k + 11, _, h => exact absurd h (by omega)
theorem eg_okc_at {G : eg_G} {a : Nat} (h : eg_ok G) (h1 : eg_NC ≤ a) (h2 : a < G.2) : eg_okc G.2 (G.1 a) := h.2 a h1 h2
section EGH
variable {p : Program} {l : Launch} {e : Env} {R : Room} {s : State} {m : MethodId} {args : Array Value} {below : List Frame} {meth : Method} {c : Code} {Q : State → Prop} {b0 : Nat} {D : va_G} {dA : Nat → ClassId} {adc : Nat → Nat} {n0 : Nat} {ad0 : Nat → Nat} {o : Nat} {ini : Bool} {mc ms : Nat} {cc : ByteArray}
variable {pc pc' len : Nat} {L L' : eg_Ls} {st st' r : List Value} {G G' : eg_G} {ck sk ck' sk' : Nat} {ins : Instr}
theorem sh_iaload0 {i : Int32} {a n : Nat} {f : Nat → Int32} (X : eg_X p s m args meth c R b0 D dA adc o ini mc ms cc) (d : decode cc pc = .ok (.iaload, 1)) (hG : G.1 a = .inl (0, (n, .inl f))) (ha : eg_NC ≤ a) (han : a < G.2) (hi : 0 ≤ i.toInt ∧ i.toInt < n)
    (k : eg_J p l e R s m args below meth c Q b0 D dA adc n0 ad0 (pc + 1) L (.int (f i.toNatClampNeg) :: r) G ck sk) : eg_J p l e R s m args below meth c Q b0 D dA adc n0 ad0 pc L (.int i :: .ref a :: r) G ck sk := by
  obtain ⟨hx, hb, hown, hts, hK, hC, hAO, hAOA, hRc, hRs, hini, hb0⟩ := X
  intro ad H locs ls hR hL hS
  obtain ⟨hP, hD, hS0, hok, hag⟩ := id hR
  obtain ⟨-, h2⟩ := List.forall_mem_cons.mp hS
  obtain ⟨-, h2⟩ := List.forall_mem_cons.mp h2
  have hw := eg_ws_at (ad := ad) (dA := dA) ha han
  rw [hG] at hw
  exact va_iald hx hb hK hP (a - eg_NC) 0 hw (eg_tys_at (by decide)) (eg_vin hi) d (k ad H locs ls hR hL (List.forall_mem_cons.mpr ⟨eg_oki, h2⟩))
theorem sh_baload1 {i : Int32} {a n : Nat} {f : Nat → Int32} (X : eg_X p s m args meth c R b0 D dA adc o ini mc ms cc) (d : decode cc pc = .ok (.baload, 1)) (hG : G.1 a = .inl (1, (n, .inl f))) (ha : eg_NC ≤ a) (han : a < G.2) (hi : 0 ≤ i.toInt ∧ i.toInt < n)
    (k : eg_J p l e R s m args below meth c Q b0 D dA adc n0 ad0 (pc + 1) L (.int (f i.toNatClampNeg) :: r) G ck sk) : eg_J p l e R s m args below meth c Q b0 D dA adc n0 ad0 pc L (.int i :: .ref a :: r) G ck sk := by
  obtain ⟨hx, hb, hown, hts, hK, hC, hAO, hAOA, hRc, hRs, hini, hb0⟩ := X
  intro ad H locs ls hR hL hS
  obtain ⟨hP, hD, hS0, hok, hag⟩ := id hR
  obtain ⟨-, h2⟩ := List.forall_mem_cons.mp hS
  obtain ⟨-, h2⟩ := List.forall_mem_cons.mp h2
  have hw := eg_ws_at (ad := ad) (dA := dA) ha han
  rw [hG] at hw
  exact va_bald hx hb hK hP (a - eg_NC) 1 hw (eg_tys_at (by decide)) (eg_vin hi) d (k ad H locs ls hR hL (List.forall_mem_cons.mpr ⟨eg_oki, h2⟩))
theorem sh_baload3 {i : Int32} {a n : Nat} {f : Nat → Int32} (X : eg_X p s m args meth c R b0 D dA adc o ini mc ms cc) (d : decode cc pc = .ok (.baload, 1)) (hG : G.1 a = .inl (3, (n, .inl f))) (ha : eg_NC ≤ a) (han : a < G.2) (hi : 0 ≤ i.toInt ∧ i.toInt < n)
    (k : eg_J p l e R s m args below meth c Q b0 D dA adc n0 ad0 (pc + 1) L (.int (f i.toNatClampNeg) :: r) G ck sk) : eg_J p l e R s m args below meth c Q b0 D dA adc n0 ad0 pc L (.int i :: .ref a :: r) G ck sk := by
  obtain ⟨hx, hb, hown, hts, hK, hC, hAO, hAOA, hRc, hRs, hini, hb0⟩ := X
  intro ad H locs ls hR hL hS
  obtain ⟨hP, hD, hS0, hok, hag⟩ := id hR
  obtain ⟨-, h2⟩ := List.forall_mem_cons.mp hS
  obtain ⟨-, h2⟩ := List.forall_mem_cons.mp h2
  have hw := eg_ws_at (ad := ad) (dA := dA) ha han
  rw [hG] at hw
  exact va_zald hx hb hK hP (a - eg_NC) 3 hw (eg_tys_at (by decide)) (eg_vin hi) d (k ad H locs ls hR hL (List.forall_mem_cons.mpr ⟨eg_oki, h2⟩))
theorem sh_caload4 {i : Int32} {a n : Nat} {f : Nat → Int32} (X : eg_X p s m args meth c R b0 D dA adc o ini mc ms cc) (d : decode cc pc = .ok (.caload, 1)) (hG : G.1 a = .inl (4, (n, .inl f))) (ha : eg_NC ≤ a) (han : a < G.2) (hi : 0 ≤ i.toInt ∧ i.toInt < n)
    (k : eg_J p l e R s m args below meth c Q b0 D dA adc n0 ad0 (pc + 1) L (.int (f i.toNatClampNeg) :: r) G ck sk) : eg_J p l e R s m args below meth c Q b0 D dA adc n0 ad0 pc L (.int i :: .ref a :: r) G ck sk := by
  obtain ⟨hx, hb, hown, hts, hK, hC, hAO, hAOA, hRc, hRs, hini, hb0⟩ := X
  intro ad H locs ls hR hL hS
  obtain ⟨hP, hD, hS0, hok, hag⟩ := id hR
  obtain ⟨-, h2⟩ := List.forall_mem_cons.mp hS
  obtain ⟨-, h2⟩ := List.forall_mem_cons.mp h2
  have hw := eg_ws_at (ad := ad) (dA := dA) ha han
  rw [hG] at hw
  exact va_cald hx hb hK hP (a - eg_NC) 4 hw (eg_tys_at (by decide)) (eg_vin hi) d (k ad H locs ls hR hL (List.forall_mem_cons.mpr ⟨eg_oki, h2⟩))
theorem sh_laload2 {i : Int32} {a n : Nat} {f : Nat → Int64} (X : eg_X p s m args meth c R b0 D dA adc o ini mc ms cc) (d : decode cc pc = .ok (.laload, 1)) (hG : G.1 a = .inl (2, (n, .inr (.inl f)))) (ha : eg_NC ≤ a) (han : a < G.2) (hi : 0 ≤ i.toInt ∧ i.toInt < n)
    (k : eg_J p l e R s m args below meth c Q b0 D dA adc n0 ad0 (pc + 1) L (.long (f i.toNatClampNeg) :: r) G ck sk) : eg_J p l e R s m args below meth c Q b0 D dA adc n0 ad0 pc L (.int i :: .ref a :: r) G ck sk := by
  obtain ⟨hx, hb, hown, hts, hK, hC, hAO, hAOA, hRc, hRs, hini, hb0⟩ := X
  intro ad H locs ls hR hL hS
  obtain ⟨hP, hD, hS0, hok, hag⟩ := id hR
  obtain ⟨-, h2⟩ := List.forall_mem_cons.mp hS
  obtain ⟨-, h2⟩ := List.forall_mem_cons.mp h2
  have hw := eg_ws_at (ad := ad) (dA := dA) ha han
  rw [hG] at hw
  exact va_lald hx hb hK hP (a - eg_NC) 2 hw (eg_tys_at (by decide)) (eg_vin hi) d (k ad H locs ls hR hL (List.forall_mem_cons.mpr ⟨eg_okl, h2⟩))
theorem sh_aaload {i : Int32} {a t n : Nat} {f : Nat → Option Nat} (X : eg_X p s m args meth c R b0 D dA adc o ini mc ms cc) (d : decode cc pc = .ok (.aaload, 1)) (hG : G.1 a = .inl (t, (n, .inr (.inr (.inr (.inr f)))))) (ha : eg_NC ≤ a) (han : a < G.2) (ht : 5 ≤ t ∧ t < 12) (hi : 0 ≤ i.toInt ∧ i.toInt < n)
    (k : eg_J p l e R s m args below meth c Q b0 D dA adc n0 ad0 (pc + 1) L (va_rf (f i.toNatClampNeg) :: r) G ck sk) : eg_J p l e R s m args below meth c Q b0 D dA adc n0 ad0 pc L (.int i :: .ref a :: r) G ck sk := by
  obtain ⟨hx, hb, hown, hts, hK, hC, hAO, hAOA, hRc, hRs, hini, hb0⟩ := X
  intro ad H locs ls hR hL hS
  obtain ⟨hP, hD, hS0, hok, hag⟩ := id hR
  obtain ⟨-, h2⟩ := List.forall_mem_cons.mp hS
  obtain ⟨-, h2⟩ := List.forall_mem_cons.mp h2
  have hw := eg_ws_at (ad := ad) (dA := dA) ha han
  rw [hG] at hw
  have hcl := eg_okc_at hok ha han
  rw [hG] at hcl
  have hv : eg_okv G.2 (va_rf (f i.toNatClampNeg)) := eg_okv_rf (fun j hj => hcl f rfl _ j hj)
  have hin := eg_vin hi
  have hlt : i.toNatClampNeg < n := Nat.not_le.mp fun q => hin (Or.inr q)
  have hkk := k ad H locs ls hR hL (List.forall_mem_cons.mpr ⟨hv, h2⟩)
  have e1 : (va_rf (f i.toNatClampNeg) :: r).map (eg_v ad) = va_rf ((f i.toNatClampNeg).map ad) :: r.map (eg_v ad) := by rw [List.map_cons, eg_v_rf]
  rw [e1] at hkk
  have hty := eg_tt_ref ht.1 ht.2
  exact W.aald (v := va_rf ((f i.toNatClampNeg).map ad)) (ty := eg_tt t) hx hb (hP _ _ hw) ((hK.2 t _ (eg_tys_at ht.2)).1 n (fun j => va_rf ((f j).map ad))) hty (fun q => by cases q) (by show ¬ (i < 0 ∨ (arrV _ _ _).slots.size ≤ _); rw [arrV_size]; exact hin) (by show (arrV (dA t) n (fun j => va_rf ((f j).map ad))).slots[_]? = _; rw [arrV_read _ _ hlt]) rfl rfl d hkk
theorem sh_conI {i : Int32} {a n : Nat} {f : Nat → Int32} (X : eg_X p s m args meth c R b0 D dA adc o ini mc ms cc) (d : decode cc pc = .ok (.iaload, 1)) (hG : eg_con a = .inl (0, (n, .inl f))) (ha : a < eg_NC) (hi : 0 ≤ i.toInt ∧ i.toInt < n)
    (k : eg_J p l e R s m args below meth c Q b0 D dA adc n0 ad0 (pc + 1) L (.int (f i.toNatClampNeg) :: r) G ck sk) : eg_J p l e R s m args below meth c Q b0 D dA adc n0 ad0 pc L (.int i :: .ref a :: r) G ck sk := by
  obtain ⟨hx, hb, hown, hts, hK, hC, hAO, hAOA, hRc, hRs, hini, hb0⟩ := X
  intro ad H locs ls hR hL hS
  obtain ⟨hP, hD, hS0, hok, hag⟩ := id hR
  obtain ⟨-, h2⟩ := List.forall_mem_cons.mp hS
  obtain ⟨-, h2⟩ := List.forall_mem_cons.mp h2
  have hT := hC.2.2.1 a 0 _ ha hG
  have hkk := k ad H locs ls hR hL (List.forall_mem_cons.mpr ⟨eg_oki, h2⟩)
  have e1 : (Value.int i :: .ref a :: r).map (eg_v ad) = .int i :: .ref (adc a) :: r.map (eg_v ad) := by
    show Value.int i :: .ref (ad a) :: _ = _
    rw [hag.1 a ha]
  rw [e1]
  exact va_ti hx hb hT hS0 (eg_vin hi) rfl d hkk
theorem sh_conB {i : Int32} {a n : Nat} {f : Nat → Int32} (X : eg_X p s m args meth c R b0 D dA adc o ini mc ms cc) (d : decode cc pc = .ok (.baload, 1)) (hG : eg_con a = .inl (1, (n, .inl f))) (ha : a < eg_NC) (hi : 0 ≤ i.toInt ∧ i.toInt < n)
    (k : eg_J p l e R s m args below meth c Q b0 D dA adc n0 ad0 (pc + 1) L (.int (f i.toNatClampNeg) :: r) G ck sk) : eg_J p l e R s m args below meth c Q b0 D dA adc n0 ad0 pc L (.int i :: .ref a :: r) G ck sk := by
  obtain ⟨hx, hb, hown, hts, hK, hC, hAO, hAOA, hRc, hRs, hini, hb0⟩ := X
  intro ad H locs ls hR hL hS
  obtain ⟨hP, hD, hS0, hok, hag⟩ := id hR
  obtain ⟨-, h2⟩ := List.forall_mem_cons.mp hS
  obtain ⟨-, h2⟩ := List.forall_mem_cons.mp h2
  have hT := hC.2.2.1 a 1 _ ha hG
  have hkk := k ad H locs ls hR hL (List.forall_mem_cons.mpr ⟨eg_oki, h2⟩)
  have e1 : (Value.int i :: .ref a :: r).map (eg_v ad) = .int i :: .ref (adc a) :: r.map (eg_v ad) := by
    show Value.int i :: .ref (ad a) :: _ = _
    rw [hag.1 a ha]
  rw [e1]
  exact va_tb hx hb hT hS0 (eg_vin hi) rfl d hkk
theorem sh_conQ {i : Int32} {a : Nat} (X : eg_X p s m args meth c R b0 D dA adc o ini mc ms cc) (d : decode cc pc = .ok (.aaload, 1)) (hG : eg_con a = .inl (9, (36, .inr (.inr (.inr (.inr (fun j => some j))))))) (ha : a < eg_NC) (hi : 0 ≤ i.toInt ∧ i.toInt < 36)
    (k : eg_J p l e R s m args below meth c Q b0 D dA adc n0 ad0 (pc + 1) L (.ref i.toNatClampNeg :: r) G ck sk) : eg_J p l e R s m args below meth c Q b0 D dA adc n0 ad0 pc L (.int i :: .ref a :: r) G ck sk := by
  obtain ⟨hx, hb, hown, hts, hK, hC, hAO, hAOA, hRc, hRs, hini, hb0⟩ := X
  intro ad H locs ls hR hL hS
  obtain ⟨hP, hD, hS0, hok, hag⟩ := id hR
  obtain ⟨-, h2⟩ := List.forall_mem_cons.mp hS
  obtain ⟨-, h2⟩ := List.forall_mem_cons.mp h2
  obtain ⟨cell, q1, q2, q3, q4, q5, q6, q7⟩ := hC.2.2.1 a 9 _ ha hG
  have hin : vp_in i 36 := eg_vin hi
  have hlt : i.toNatClampNeg < 36 := Nat.not_le.mp fun q => hin (Or.inr q)
  have hN : (36 : Nat) ≤ eg_NC := by decide
  have hlt2 : i.toNatClampNeg < eg_NC := Nat.lt_of_lt_of_le hlt hN
  have hkk := k ad H locs ls hR hL (List.forall_mem_cons.mpr ⟨eg_okr (Nat.lt_of_lt_of_le hlt2 hok.1), h2⟩)
  have e1 : (Value.int i :: .ref a :: r).map (eg_v ad) = .int i :: .ref (adc a) :: r.map (eg_v ad) := by
    show Value.int i :: .ref (ad a) :: _ = _
    rw [hag.1 a ha]
  have e2 : (Value.ref i.toNatClampNeg :: r).map (eg_v ad) = .ref (adc i.toNatClampNeg) :: r.map (eg_v ad) := by
    show Value.ref (ad _) :: _ = _
    rw [hag.1 _ hlt2]
  rw [e1]
  rw [e2] at hkk
  have q4' : (36 : Nat) ≤ cell.slots.size := q4
  have hin' : ¬ (i < 0 ∨ cell.slots.size ≤ i.toNatClampNeg) := by
    intro q
    rcases q with q | q
    · exact hin (Or.inl q)
    · omega
  exact W.aald (v := .ref (adc i.toNatClampNeg)) (ty := eg_tt 9) hx hb (by rw [hS0.2.1 _ (Array.getElem?_eq_some_iff.mp q1).1 q7]; exact q1) q2 rfl q3 hin' (q6 _ hlt) rfl rfl d hkk
theorem sh_iastore0 {i : Int32} {x : Int32} {a n : Nat} {f : Nat → Int32} (X : eg_X p s m args meth c R b0 D dA adc o ini mc ms cc) (d : decode cc pc = .ok (.iastore, 1)) (hG : G.1 a = .inl (0, (n, .inl (f)))) (ha : eg_NC ≤ a) (han : a < G.2) (hi : 0 ≤ i.toInt ∧ i.toInt < n)
    (k : eg_J p l e R s m args below meth c Q b0 D dA adc n0 ad0 (pc + 1) L r (eg_u G a (.inl (0, (n, .inl (upd f i.toNatClampNeg x))))) ck sk) : eg_J p l e R s m args below meth c Q b0 D dA adc n0 ad0 pc L (.int x :: .int i :: .ref a :: r) G ck sk := by
  obtain ⟨hx, hb, hown, hts, hK, hC, hAO, hAOA, hRc, hRs, hini, hb0⟩ := X
  intro ad H locs ls hR hL hS
  obtain ⟨hP, hD, hS0, hok, hag⟩ := id hR
  obtain ⟨-, h2⟩ := List.forall_mem_cons.mp hS
  obtain ⟨-, h2⟩ := List.forall_mem_cons.mp h2
  obtain ⟨-, h2⟩ := List.forall_mem_cons.mp h2
  have hw := eg_ws_at (ad := ad) (dA := dA) ha han
  rw [hG] at hw
  refine va_iast hx hb hK hP hD hS0 (a - eg_NC) 0 hw (eg_tys_at (by decide)) (eg_vin hi) d (fun H1 locs1 hP1 hD1 hS1 => ?_)
  have e1 := eg_ws_set (ad := ad) (dA := dA) (G := G) (.inl (0, (n, .inl (upd f i.toNatClampNeg x)))) ha
  have e2 : eg_e ad dA (.inl (0, (n, .inl (upd f i.toNatClampNeg x)))) = .inl (dA 0, (n, .inl (upd f i.toNatClampNeg x))) := rfl
  rw [e2] at e1
  rw [e1] at hP1 hD1
  exact k ad H1 locs1 ls ⟨hP1, hD1, hS1, eg_ok_u hok (fun _ h => nomatch h), hag⟩ hL h2
theorem sh_bastore1 {i : Int32} {x : Int32} {a n : Nat} {f : Nat → Int32} (X : eg_X p s m args meth c R b0 D dA adc o ini mc ms cc) (d : decode cc pc = .ok (.bastore, 1)) (hG : G.1 a = .inl (1, (n, .inl (f)))) (ha : eg_NC ≤ a) (han : a < G.2) (hi : 0 ≤ i.toInt ∧ i.toInt < n)
    (k : eg_J p l e R s m args below meth c Q b0 D dA adc n0 ad0 (pc + 1) L r (eg_u G a (.inl (1, (n, .inl (upd f i.toNatClampNeg (vp_nar .byte x)))))) ck sk) : eg_J p l e R s m args below meth c Q b0 D dA adc n0 ad0 pc L (.int x :: .int i :: .ref a :: r) G ck sk := by
  obtain ⟨hx, hb, hown, hts, hK, hC, hAO, hAOA, hRc, hRs, hini, hb0⟩ := X
  intro ad H locs ls hR hL hS
  obtain ⟨hP, hD, hS0, hok, hag⟩ := id hR
  obtain ⟨-, h2⟩ := List.forall_mem_cons.mp hS
  obtain ⟨-, h2⟩ := List.forall_mem_cons.mp h2
  obtain ⟨-, h2⟩ := List.forall_mem_cons.mp h2
  have hw := eg_ws_at (ad := ad) (dA := dA) ha han
  rw [hG] at hw
  refine va_bast hx hb hK hP hD hS0 (a - eg_NC) 1 hw (eg_tys_at (by decide)) (eg_vin hi) d (fun H1 locs1 hP1 hD1 hS1 => ?_)
  have e1 := eg_ws_set (ad := ad) (dA := dA) (G := G) (.inl (1, (n, .inl (upd f i.toNatClampNeg (vp_nar .byte x))))) ha
  have e2 : eg_e ad dA (.inl (1, (n, .inl (upd f i.toNatClampNeg (vp_nar .byte x))))) = .inl (dA 1, (n, .inl (upd f i.toNatClampNeg (vp_nar .byte x)))) := rfl
  rw [e2] at e1
  rw [e1] at hP1 hD1
  exact k ad H1 locs1 ls ⟨hP1, hD1, hS1, eg_ok_u hok (fun _ h => nomatch h), hag⟩ hL h2
theorem sh_bastore3 {i : Int32} {x : Int32} {a n : Nat} {f : Nat → Int32} (X : eg_X p s m args meth c R b0 D dA adc o ini mc ms cc) (d : decode cc pc = .ok (.bastore, 1)) (hG : G.1 a = .inl (3, (n, .inl (f)))) (ha : eg_NC ≤ a) (han : a < G.2) (hi : 0 ≤ i.toInt ∧ i.toInt < n)
    (k : eg_J p l e R s m args below meth c Q b0 D dA adc n0 ad0 (pc + 1) L r (eg_u G a (.inl (3, (n, .inl (upd f i.toNatClampNeg (vp_nar .boolean x)))))) ck sk) : eg_J p l e R s m args below meth c Q b0 D dA adc n0 ad0 pc L (.int x :: .int i :: .ref a :: r) G ck sk := by
  obtain ⟨hx, hb, hown, hts, hK, hC, hAO, hAOA, hRc, hRs, hini, hb0⟩ := X
  intro ad H locs ls hR hL hS
  obtain ⟨hP, hD, hS0, hok, hag⟩ := id hR
  obtain ⟨-, h2⟩ := List.forall_mem_cons.mp hS
  obtain ⟨-, h2⟩ := List.forall_mem_cons.mp h2
  obtain ⟨-, h2⟩ := List.forall_mem_cons.mp h2
  have hw := eg_ws_at (ad := ad) (dA := dA) ha han
  rw [hG] at hw
  refine va_zast hx hb hK hP hD hS0 (a - eg_NC) 3 hw (eg_tys_at (by decide)) (eg_vin hi) d (fun H1 locs1 hP1 hD1 hS1 => ?_)
  have e1 := eg_ws_set (ad := ad) (dA := dA) (G := G) (.inl (3, (n, .inl (upd f i.toNatClampNeg (vp_nar .boolean x))))) ha
  have e2 : eg_e ad dA (.inl (3, (n, .inl (upd f i.toNatClampNeg (vp_nar .boolean x))))) = .inl (dA 3, (n, .inl (upd f i.toNatClampNeg (vp_nar .boolean x)))) := rfl
  rw [e2] at e1
  rw [e1] at hP1 hD1
  exact k ad H1 locs1 ls ⟨hP1, hD1, hS1, eg_ok_u hok (fun _ h => nomatch h), hag⟩ hL h2
theorem sh_castore4 {i : Int32} {x : Int32} {a n : Nat} {f : Nat → Int32} (X : eg_X p s m args meth c R b0 D dA adc o ini mc ms cc) (d : decode cc pc = .ok (.castore, 1)) (hG : G.1 a = .inl (4, (n, .inl (f)))) (ha : eg_NC ≤ a) (han : a < G.2) (hi : 0 ≤ i.toInt ∧ i.toInt < n)
    (k : eg_J p l e R s m args below meth c Q b0 D dA adc n0 ad0 (pc + 1) L r (eg_u G a (.inl (4, (n, .inl (upd f i.toNatClampNeg (vp_nar .char x)))))) ck sk) : eg_J p l e R s m args below meth c Q b0 D dA adc n0 ad0 pc L (.int x :: .int i :: .ref a :: r) G ck sk := by
  obtain ⟨hx, hb, hown, hts, hK, hC, hAO, hAOA, hRc, hRs, hini, hb0⟩ := X
  intro ad H locs ls hR hL hS
  obtain ⟨hP, hD, hS0, hok, hag⟩ := id hR
  obtain ⟨-, h2⟩ := List.forall_mem_cons.mp hS
  obtain ⟨-, h2⟩ := List.forall_mem_cons.mp h2
  obtain ⟨-, h2⟩ := List.forall_mem_cons.mp h2
  have hw := eg_ws_at (ad := ad) (dA := dA) ha han
  rw [hG] at hw
  refine va_cast hx hb hK hP hD hS0 (a - eg_NC) 4 hw (eg_tys_at (by decide)) (eg_vin hi) d (fun H1 locs1 hP1 hD1 hS1 => ?_)
  have e1 := eg_ws_set (ad := ad) (dA := dA) (G := G) (.inl (4, (n, .inl (upd f i.toNatClampNeg (vp_nar .char x))))) ha
  have e2 : eg_e ad dA (.inl (4, (n, .inl (upd f i.toNatClampNeg (vp_nar .char x))))) = .inl (dA 4, (n, .inl (upd f i.toNatClampNeg (vp_nar .char x)))) := rfl
  rw [e2] at e1
  rw [e1] at hP1 hD1
  exact k ad H1 locs1 ls ⟨hP1, hD1, hS1, eg_ok_u hok (fun _ h => nomatch h), hag⟩ hL h2
theorem sh_lastore2 {i : Int32} {x : Int64} {a n : Nat} {f : Nat → Int64} (X : eg_X p s m args meth c R b0 D dA adc o ini mc ms cc) (d : decode cc pc = .ok (.lastore, 1)) (hG : G.1 a = .inl (2, (n, .inr (.inl (f))))) (ha : eg_NC ≤ a) (han : a < G.2) (hi : 0 ≤ i.toInt ∧ i.toInt < n)
    (k : eg_J p l e R s m args below meth c Q b0 D dA adc n0 ad0 (pc + 1) L r (eg_u G a (.inl (2, (n, .inr (.inl (vp_updL f i.toNatClampNeg x)))))) ck sk) : eg_J p l e R s m args below meth c Q b0 D dA adc n0 ad0 pc L (.long x :: .int i :: .ref a :: r) G ck sk := by
  obtain ⟨hx, hb, hown, hts, hK, hC, hAO, hAOA, hRc, hRs, hini, hb0⟩ := X
  intro ad H locs ls hR hL hS
  obtain ⟨hP, hD, hS0, hok, hag⟩ := id hR
  obtain ⟨-, h2⟩ := List.forall_mem_cons.mp hS
  obtain ⟨-, h2⟩ := List.forall_mem_cons.mp h2
  obtain ⟨-, h2⟩ := List.forall_mem_cons.mp h2
  have hw := eg_ws_at (ad := ad) (dA := dA) ha han
  rw [hG] at hw
  refine va_last hx hb hK hP hD hS0 (a - eg_NC) 2 hw (eg_tys_at (by decide)) (eg_vin hi) d (fun H1 locs1 hP1 hD1 hS1 => ?_)
  have e1 := eg_ws_set (ad := ad) (dA := dA) (G := G) (.inl (2, (n, .inr (.inl (vp_updL f i.toNatClampNeg x))))) ha
  have e2 : eg_e ad dA (.inl (2, (n, .inr (.inl (vp_updL f i.toNatClampNeg x))))) = .inl (dA 2, (n, .inr (.inl (vp_updL f i.toNatClampNeg x)))) := rfl
  rw [e2] at e1
  rw [e1] at hP1 hD1
  exact k ad H1 locs1 ls ⟨hP1, hD1, hS1, eg_ok_u hok (fun _ h => nomatch h), hag⟩ hL h2
theorem eg_up_map (ad : Nat → Nat) (f : Nat → Option Nat) (i : Nat) (z : Option Nat) : (fun j => (va_up f i z j).map ad) = va_up (fun j => (f j).map ad) i (z.map ad) := by
  funext j
  unfold va_up
  split <;> rfl
theorem sh_aastoreN {i : Int32} {a t n : Nat} {f : Nat → Option Nat} (X : eg_X p s m args meth c R b0 D dA adc o ini mc ms cc) (d : decode cc pc = .ok (.aastore, 1)) (hG : G.1 a = .inl (t, (n, .inr (.inr (.inr (.inr f)))))) (ha : eg_NC ≤ a) (han : a < G.2) (ht : 5 ≤ t ∧ t < 11) (hi : 0 ≤ i.toInt ∧ i.toInt < n)
    (k : eg_J p l e R s m args below meth c Q b0 D dA adc n0 ad0 (pc + 1) L r (eg_u G a (.inl (t, (n, .inr (.inr (.inr (.inr (va_up f i.toNatClampNeg none)))))))) ck sk) : eg_J p l e R s m args below meth c Q b0 D dA adc n0 ad0 pc L (.null :: .int i :: .ref a :: r) G ck sk := by
  obtain ⟨hx, hb, hown, hts, hK, hC, hAO, hAOA, hRc, hRs, hini, hb0⟩ := X
  intro ad H locs ls hR hL hS
  obtain ⟨hP, hD, hS0, hok, hag⟩ := id hR
  obtain ⟨-, h2⟩ := List.forall_mem_cons.mp hS
  obtain ⟨-, h2⟩ := List.forall_mem_cons.mp h2
  obtain ⟨-, h2⟩ := List.forall_mem_cons.mp h2
  have hw := eg_ws_at (ad := ad) (dA := dA) ha han
  have hcl := eg_okc_at hok ha han
  rw [hG] at hw hcl
  obtain ⟨C, hty⟩ := eg_tt_obj ht.1 ht.2
  have htt := eg_tys_at (dA := dA) (t := t) (by omega)
  rw [hty] at htt
  refine va_astqN (C := C) hx hb hK hP hD hS0 (a - eg_NC) t hw htt (eg_vin hi) d (fun H1 locs1 hP1 hD1 hS1 => ?_)
  have e1 := eg_ws_set (ad := ad) (dA := dA) (G := G) (.inl (t, (n, .inr (.inr (.inr (.inr (va_up f i.toNatClampNeg none))))))) ha
  have e2 : eg_e ad dA (.inl (t, (n, .inr (.inr (.inr (.inr (va_up f i.toNatClampNeg none))))))) = .inl (dA t, (n, .inr (.inr (.inr (.inr (va_up (fun j => (f j).map ad) i.toNatClampNeg none)))))) := by
    show Sum.inl (dA t, (n, Sum.inr (Sum.inr (Sum.inr (Sum.inr (fun j => (va_up f i.toNatClampNeg none j).map ad)))))) = _
    rw [eg_up_map]
    rfl
  rw [e2] at e1
  rw [e1] at hP1 hD1
  refine k ad H1 locs1 ls ⟨hP1, hD1, hS1, eg_ok_u hok (fun g hg j q hj => ?_), hag⟩ hL h2
  cases hg
  unfold va_up at hj
  split at hj
  · cases hj
  · exact hcl f rfl j q hj
theorem eg_el_cl {t : Nat} (h : 5 ≤ t ∧ t < 11) (h9 : t ≠ 9) : ∃ r : vw_C, eg_cl[eg_el t]? = some r ∧ eg_tt t = .object r.1 := by
  obtain ⟨h5, h6⟩ := h
  match t, h5, h6, h9 with
  | 5, _, _, _ => exact ⟨_, rfl, rfl⟩
  | 6, _, _, _ => exact ⟨_, rfl, rfl⟩
  | 7, _, _, _ => exact ⟨_, rfl, rfl⟩
  | 8, _, _, _ => exact ⟨_, rfl, rfl⟩
  | 9, _, _, h => exact absurd rfl h
  | 10, _, _, _ => exact ⟨_, rfl, rfl⟩
  | k + 11, _, h, _ => exact absurd h (by omega)
theorem eg_con_obj {i ci : Nat} {fs : List Value} (h : eg_con i = .inr (ci, fs)) : (ci = 12 ∧ i < 36) ∨ (ci = 13 ∧ 36 ≤ i ∧ i < 36 + eg_NS) ∨ (ci = 98 ∧ fs = []) := by
  unfold eg_con at h
  split at h
  · cases h
    rename_i hi
    exact Or.inl ⟨rfl, hi⟩
  · split at h
    · cases h
      rename_i h1 h2
      exact Or.inr (Or.inl ⟨rfl, by omega, h2⟩)
    · split at h
      · cases h
      · split at h
        · cases h
        · split at h
          · cases h
          · cases h
            exact Or.inr (Or.inr ⟨rfl, rfl⟩)
theorem eg_el_98 (t : Nat) : eg_el t ≠ 98 := by
  unfold eg_el
  split <;> decide
theorem sh_aastoreR {i : Int32} {a t n q : Nat} {f : Nat → Option Nat} (X : eg_X p s m args meth c R b0 D dA adc o ini mc ms cc) (d : decode cc pc = .ok (.aastore, 1)) (hG : G.1 a = .inl (t, (n, .inr (.inr (.inr (.inr f)))))) (ha : eg_NC ≤ a) (han : a < G.2) (ht : 5 ≤ t ∧ t < 11) (hi : 0 ≤ i.toInt ∧ i.toInt < n) (hq : q < G.2) (hcls : eg_is (eg_at G q) (eg_el t) = true)
    (k : eg_J p l e R s m args below meth c Q b0 D dA adc n0 ad0 (pc + 1) L r (eg_u G a (.inl (t, (n, .inr (.inr (.inr (.inr (va_up f i.toNatClampNeg (some q))))))))) ck sk) : eg_J p l e R s m args below meth c Q b0 D dA adc n0 ad0 pc L (.ref q :: .int i :: .ref a :: r) G ck sk := by
  obtain ⟨hx, hb, hown, hts, hK, hC, hAO, hAOA, hRc, hRs, hini, hb0⟩ := X
  intro ad H locs ls hR hL hS
  obtain ⟨hP, hD, hS0, hok, hag⟩ := id hR
  obtain ⟨-, h2⟩ := List.forall_mem_cons.mp hS
  obtain ⟨-, h2⟩ := List.forall_mem_cons.mp h2
  obtain ⟨-, h2⟩ := List.forall_mem_cons.mp h2
  have hw := eg_ws_at (ad := ad) (dA := dA) ha han
  have hcl := eg_okc_at hok ha han
  rw [hG] at hw hcl
  have fin : ∀ (H1 : Heap) (locs1 : List Loc), va_P D eg_cl ((eg_ws ad dA G).set (a - eg_NC) (ad a, .inl (dA t, n, .inr (.inr (.inr (.inr (va_up (fun j => (f j).map ad) i.toNatClampNeg (some (ad q))))))))) H1 → va_D (eg_A b0) ((eg_ws ad dA G).set (a - eg_NC) (ad a, .inl (dA t, n, .inr (.inr (.inr (.inr (va_up (fun j => (f j).map ad) i.toNatClampNeg (some (ad q))))))))) → va_S (eg_A b0) s.heap H1 locs1 → W p l e R s m args below meth c H1 locs1 ck sk Q (F0 m (pc + 1) ls (r.map (eg_v ad))) := by
    intro H1 locs1 hP1 hD1 hS1
    have e1 := eg_ws_set (ad := ad) (dA := dA) (G := G) (.inl (t, (n, .inr (.inr (.inr (.inr (va_up f i.toNatClampNeg (some q)))))))) ha
    have e2 : eg_e ad dA (.inl (t, (n, .inr (.inr (.inr (.inr (va_up f i.toNatClampNeg (some q)))))))) = .inl (dA t, (n, .inr (.inr (.inr (.inr (va_up (fun j => (f j).map ad) i.toNatClampNeg (some (ad q)))))))) := by
      show Sum.inl (dA t, (n, Sum.inr (Sum.inr (Sum.inr (Sum.inr (fun j => (va_up f i.toNatClampNeg (some q) j).map ad)))))) = _
      rw [eg_up_map]
      rfl
    rw [e2] at e1
    rw [e1] at hP1 hD1
    refine k ad H1 locs1 ls ⟨hP1, hD1, hS1, eg_ok_u hok (fun g hg j z hj => ?_), hag⟩ hL h2
    cases hg
    unfold va_up at hj
    split at hj
    · cases hj
      exact hq
    · exact hcl f rfl j z hj
  have htt := eg_tys_at (dA := dA) (t := t) (by omega)
  by_cases hc : q < eg_NC
  · rw [eg_at_lo hc] at hcls
    have h9 : t = 9 ∧ q < 36 := by
      unfold eg_is at hcls
      split at hcls
      · rename_i k0 fs0 hk0
        have hk1 : k0 = eg_el t := by simpa using hcls
        rcases eg_con_obj hk0 with ⟨h1, h2⟩ | ⟨h1, -, -⟩ | ⟨h1, -⟩
        · exact ⟨(eg_el_9 ht.1 ht.2).1 (hk1.symm.trans h1), h2⟩
        · exact absurd (hk1.symm.trans h1) (eg_el_9 ht.1 ht.2).2
        · exact absurd (hk1.symm.trans h1) (eg_el_98 t)
      · cases hcls
    obtain ⟨rfl, hq36⟩ := h9
    have hany : va_Any "KnobEye$Word" s H (ad q) := by
      obtain ⟨cell, g1, g2, g3, g4⟩ := (hC.2.2.2.2.2.1 q hq36).kept hS0.2.1
      rw [hag.1 q hc]
      obtain ⟨kC, hkC, -⟩ := Vm.findClass_spec g3
      exact ⟨cell, g1, g2, ⟨kC, hkC⟩, fun comp hcomp => by rw [Option.some.inj (hcomp.symm.trans g3)]; exact va_asg _ _⟩
    exact va_astqM (E := "KnobEye$Word") hx hb hK hP hD hS0 (a - eg_NC) 9 hw htt hany (eg_vin hi) d fin
  · rw [eg_at_hi (Nat.le_of_not_lt hc)] at hcls
    have hwq := eg_ws_at (ad := ad) (dA := dA) (Nat.le_of_not_lt hc) hq
    unfold eg_is at hcls
    split at hcls
    · rename_i k0 fs0 hk0
      rw [hk0] at hwq
      have hk1 : k0 = eg_el t := by simpa using hcls
      subst hk1
      have h9 : t ≠ 9 := by
        intro h
        subst h
        obtain ⟨r0, h1, -⟩ := hP _ _ hwq
        cases h1
      obtain ⟨r0, hr1, hr2⟩ := eg_el_cl ht h9
      rw [hr2] at htt
      exact va_astq hx hb hK hP hD hS0 (a - eg_NC) t (q - eg_NC) (eg_el t) hw htt hwq hr1 (eg_vin hi) d fin
    · cases hcls
theorem sh_len {a t : Nat} {x : vp_A} (X : eg_X p s m args meth c R b0 D dA adc o ini mc ms cc) (d : decode cc pc = .ok (.arraylength, 1)) (hG : eg_at G a = .inl (t, x)) (han : a < G.2) (ht : t < 12)
    (k : eg_J p l e R s m args below meth c Q b0 D dA adc n0 ad0 (pc + 1) L (.int (Int32.ofNat x.1) :: r) G ck sk) : eg_J p l e R s m args below meth c Q b0 D dA adc n0 ad0 pc L (.ref a :: r) G ck sk := by
  obtain ⟨hx, hb, hown, hts, hK, hC, hAO, hAOA, hRc, hRs, hini, hb0⟩ := X
  intro ad H locs ls hR hL hS
  obtain ⟨hP, hD, hS0, hok, hag⟩ := id hR
  obtain ⟨-, h2⟩ := List.forall_mem_cons.mp hS
  have hkk := k ad H locs ls hR hL (List.forall_mem_cons.mpr ⟨eg_oki, h2⟩)
  by_cases ha : a < eg_NC
  · rw [eg_at_lo ha] at hG
    have hT := hC.2.2.1 a t _ ha hG
    have e1 : (Value.ref a :: r).map (eg_v ad) = .ref (adc a) :: r.map (eg_v ad) := by
      show Value.ref (ad a) :: _ = _
      rw [hag.1 a ha]
    rw [e1]
    exact va_tlen hx hb hT hS0 rfl d hkk
  · have hw := eg_ws_at (ad := ad) (dA := dA) (Nat.le_of_not_lt ha) han
    rw [eg_at_hi (Nat.le_of_not_lt ha)] at hG
    rw [hG] at hw
    exact va_alen hx hb hK hP (a - eg_NC) t hw (eg_tys_at ht) rfl d hkk
end EGH
