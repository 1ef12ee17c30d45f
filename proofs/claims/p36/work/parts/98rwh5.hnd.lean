section
/-! read: the class's columns: pairs, yes CARDS, no CARDS, asked cards -/
def bcL (Y : Nat → Nat) (b : Nat) : Nat → List Nat
  | 0 => []
  | n + 1 => bcL Y b n ++ (if Y n = b then [n] else [])
def oxL (X : Nat → Int32) (l : List Nat) : List (Int32 × Int32) := l.map (fun c => (X c, Int32.ofNat 0))
def asC (a : Nat) : Int32 := if a < 16 then Int32.ofNat 1 <<< (Int32.ofNat a &&& 31) else Int32.ofNat 3 <<< (Int32.ofNat (a - 16) &&& 31)
def axL : Nat → List (Int32 × Int32)
  | 0 => []
  | a + 1 => axL a ++ [(asC a, Int32.ofNat 0)]
section AIA
variable {X : Nat → Int32} {Y : Nat → Nat} {b n : Nat} {L : List (Int32 × Int32)}
theorem bc_y (h : Y n = b) : bcL Y b (n + 1) = bcL Y b n ++ [n] := by
  show bcL Y b n ++ (if Y n = b then [n] else []) = _
  rw [if_pos h]
theorem bc_n (h : ¬ Y n = b) : bcL Y b (n + 1) = bcL Y b n := by
  show bcL Y b n ++ (if Y n = b then [n] else []) = _
  rw [if_neg h, List.append_nil]
theorem ap_len {α : Type} {A : List α} {d : α} : (A ++ [d]).length = A.length + 1 := List.length_append
theorem ox_len {l : List Nat} : (oxL X l).length = l.length := List.length_map _
theorem ox_y (h : Y n = b) : L ++ oxL X (bcL Y b (n + 1)) = (L ++ oxL X (bcL Y b n)) ++ [(X n, Int32.ofNat 0)] := by
  rw [bc_y h, show oxL X (bcL Y b n ++ [n]) = oxL X (bcL Y b n) ++ [(X n, Int32.ofNat 0)] from List.map_append, ← List.append_assoc]
theorem ox_n (h : ¬ Y n = b) : L ++ oxL X (bcL Y b (n + 1)) = L ++ oxL X (bcL Y b n) := by rw [bc_n h]
theorem bc_len : ∀ n, (bcL Y b n).length ≤ n
  | 0 => Nat.le_refl 0
  | n + 1 => by
    have ih := bc_len n
    by_cases h : Y n = b
    · rw [bc_y h, ap_len]
      omega
    · rw [bc_n h]
      omega
theorem bc_two : ∀ n, (bcL Y 1 n).length + (bcL Y 0 n).length ≤ n
  | 0 => Nat.le_refl 0
  | n + 1 => by
    have ih := bc_two n
    by_cases h : Y n = 1
    · rw [bc_y h, bc_n (by omega), ap_len]
      omega
    · by_cases h2 : Y n = 0
      · rw [bc_n h, bc_y h2, ap_len]
        omega
      · rw [bc_n h, bc_n h2]
        omega
theorem lx_len : (L ++ oxL X (bcL Y b n)).length = L.length + (bcL Y b n).length := by rw [List.length_append, ox_len]
theorem ax_len : ∀ a, (axL a).length = a
  | 0 => rfl
  | a + 1 => by
    show (axL a ++ [(asC a, Int32.ofNat 0)]).length = a + 1
    rw [ap_len, ax_len a]
theorem la_len {a : Nat} : (L ++ axL a).length = L.length + a := by rw [List.length_append, ax_len]
theorem la_s {a : Nat} : L ++ axL (a + 1) = (L ++ axL a) ++ [(asC a, Int32.ofNat 0)] := (List.append_assoc L (axL a) [(asC a, Int32.ofNat 0)]).symm
end AIA
/-! where a column stands -/
section AIB
variable {α : Type} {A B : List α} {d : α} {c : Nat}
theorem gd_l (h : c < A.length) : (A ++ B).getD c d = A.getD c d := by
  rw [List.getD_eq_getElem?_getD, List.getD_eq_getElem?_getD, List.getElem?_append_left h]
theorem gd_r : (A ++ B).getD (A.length + c) d = B.getD c d := by
  rw [List.getD_eq_getElem?_getD, List.getD_eq_getElem?_getD, List.getElem?_append_right (Nat.le_add_right _ _), Nat.add_sub_cancel_left]
end AIB
section AIC
variable {X : Nat → Int32} {Y : Nat → Nat} {b n : Nat}
theorem ox_at {l : List Nat} {c : Nat} (h : c < l.length) : (oxL X l).getD c (0, 0) = (X (l.getD c 0), Int32.ofNat 0) := by
  unfold oxL
  rw [List.getD_eq_getElem?_getD, List.getD_eq_getElem?_getD, List.getElem?_map, List.getElem?_eq_getElem h]
  rfl
theorem ax_at {a : Nat} : ∀ m, a < m → (axL m).getD a (0, 0) = (asC a, Int32.ofNat 0)
  | 0, h => absurd h (Nat.not_lt_zero a)
  | m + 1, h => by
    show (axL m ++ [(asC m, Int32.ofNat 0)]).getD a (0, 0) = _
    by_cases e : a = m
    · have h2 := gd_r (A := axL m) (B := [(asC m, Int32.ofNat 0)]) (d := ((0 : Int32), (0 : Int32))) (c := 0)
      rw [ax_len, Nat.add_zero] at h2
      rw [e, h2]
      rfl
    · rw [gd_l (by rw [ax_len]; omega)]
      exact ax_at m (by omega)
theorem px_at {m c : Nat} (hc : c < (pxL X (prL Y m m)).length) : ∃ h l, h < m ∧ l < m ∧ Y h = 1 ∧ ¬ Y l = 1 ∧ (pxL X (prL Y m m)).getD c (0, 0) = (X h, X l) := by
  rw [pxL_n] at hc
  have h1 := (prL_m (Y := Y) (m := m) (q := (prL Y m m)[c]) m).mp (List.getElem_mem hc)
  refine ⟨_, _, h1.1, h1.2.1, h1.2.2.1, h1.2.2.2, ?_⟩
  unfold pxL
  rw [List.getD_eq_getElem?_getD, List.getElem?_map, List.getElem?_eq_getElem hc]
  rfl
end AIC
/-- all columns -/
def rcL (X : Nat → Int32) (Y : Nat → Nat) (nc a : Nat) : List (Int32 × Int32) := pxL X (prL Y nc nc) ++ oxL X (bcL Y 1 nc) ++ oxL X (bcL Y 0 nc) ++ axL a
section AID
variable {X : Nat → Int32} {Y : Nat → Nat} {nc a c : Nat}
theorem rc_n : (rcL X Y nc a).length = (pxL X (prL Y nc nc)).length + (bcL Y 1 nc).length + (bcL Y 0 nc).length + a := by
  unfold rcL
  rw [la_len, lx_len, lx_len]
theorem rc_p (h : c < (pxL X (prL Y nc nc)).length) : (rcL X Y nc a).getD c (0, 0) = (pxL X (prL Y nc nc)).getD c (0, 0) := by
  unfold rcL
  rw [gd_l (by rw [lx_len, lx_len]; omega), gd_l (by rw [lx_len]; omega), gd_l h]
theorem rc_y (h : c < (bcL Y 1 nc).length) : (rcL X Y nc a).getD ((pxL X (prL Y nc nc)).length + c) (0, 0) = (X ((bcL Y 1 nc).getD c 0), Int32.ofNat 0) := by
  unfold rcL
  rw [gd_l (by rw [lx_len, lx_len]; omega), gd_l (by rw [lx_len]; omega), gd_r, ox_at h]
theorem rc_o (h : c < (bcL Y 0 nc).length) : (rcL X Y nc a).getD ((pxL X (prL Y nc nc)).length + (bcL Y 1 nc).length + c) (0, 0) = (X ((bcL Y 0 nc).getD c 0), Int32.ofNat 0) := by
  unfold rcL
  rw [gd_l (by rw [lx_len, lx_len]; omega), ← lx_len (X := X) (Y := Y) (b := 1) (n := nc) (L := pxL X (prL Y nc nc)), gd_r, ox_at h]
theorem rc_a (h : c < a) : (rcL X Y nc a).getD ((pxL X (prL Y nc nc)).length + (bcL Y 1 nc).length + (bcL Y 0 nc).length + c) (0, 0) = (asC c, Int32.ofNat 0) := by
  unfold rcL
  rw [← lx_len (X := X) (Y := Y) (b := 1) (n := nc) (L := pxL X (prL Y nc nc)), ← lx_len (X := X) (Y := Y) (b := 0) (n := nc) (L := pxL X (prL Y nc nc) ++ oxL X (bcL Y 1 nc)), gd_r, ax_at a h]
end AID
/-! read: what a column sums up to -/
section AIE
variable {v : evT} {X : Nat → Int32} {Y : Nat → Nat} {L : List (Int32 × Int32)} {k q p nc a : Nat} {x : Int32}
theorem su_i (hk : k ≤ 3) (hW : v.1 ≤ 6) : (suN v.2.1 v.2.2.1 (kvT k v.1 p) x v.1).toInt = paS k v.1 p (fun u => (vaI (v.2.1 u) (v.2.2.1 u) x).toInt) v.1 := by
  rw [← trN_su]
  exact trN_i hk hW (fun u => ⟨Int.le_trans (by decide) vaI_i.1, vaI_i.2⟩) v.1 (Nat.le_refl v.1)
theorem co_su (hk : k ≤ 3) (hW : v.1 ≤ 6) (hkd : ∀ m, m < v.1 → v.2.2.1 m ≤ 2) (hnz : ∀ u, u < v.1 → ¬ v.2.1 u = 0) (h : L.getD q (0, 0) = (x, Int32.ofNat 0)) {y : Int32} (hy : y.toInt = paS k v.1 p (fun w => (coV v.2.1 v.2.2.1 L q w).toInt) v.1) : y = suN v.2.1 v.2.2.1 (kvT k v.1 p) x v.1 := by
  refine i32_t ?_
  rw [hy, su_i hk hW]
  refine paS_co v.1 (fun m hm => ?_)
  have e : coV v.2.1 v.2.2.1 L q m = vaI (v.2.1 m) (v.2.2.1 m) x := by
    unfold coV
    rw [h]
    show vaI (v.2.1 m) (v.2.2.1 m) x - vaI (v.2.1 m) (v.2.2.1 m) 0 = _
    rw [vaI_0 (hnz m hm) (hkd m hm)]
    exact Int32.sub_zero _
  show (coV v.2.1 v.2.2.1 L q m).toInt = (vaI (v.2.1 m) (v.2.2.1 m) x).toInt
  rw [e]
theorem rhX_co {f g : Nat → Int32} : ∀ n, (∀ m, m < n → f m = g m) → rhX f n = rhX g n
  | 0, _ => rfl
  | n + 1, h => by
    show mnI (rhX f n) (f n - Int32.ofNat 1) = mnI (rhX g n) (g n - Int32.ofNat 1)
    rw [rhX_co n (fun m hm => h m (by omega)), h n (by omega)]
theorem rlX_co {f g : Nat → Int32} : ∀ n, (∀ m, m < n → f m = g m) → rlX f n = rlX g n
  | 0, _ => rfl
  | n + 1, h => by
    show mxI (rlX f n) (f n) = mxI (rlX g n) (g n)
    rw [rlX_co n (fun m hm => h m (by omega)), h n (by omega)]
theorem rh_bc {S : Nat → Int32} : ∀ n, rhX (fun m => S ((bcL Y 1 n).getD m 0)) (bcL Y 1 n).length = rhI S Y n
  | 0 => rfl
  | n + 1 => by
    have ih := rh_bc (S := S) n
    have e : rhI S Y (n + 1) = if Y n = 1 then mnI (rhI S Y n) (S n - Int32.ofNat 1) else rhI S Y n := rfl
    rw [e]
    by_cases h : Y n = 1
    · rw [if_pos h, bc_y h, ap_len, ← ih]
      have e2 := gd_r (A := bcL Y 1 n) (B := [n]) (d := 0) (c := 0)
      rw [Nat.add_zero] at e2
      have e2 : (bcL Y 1 n ++ [n]).getD (bcL Y 1 n).length 0 = n := e2
      show mnI (rhX (fun m => S ((bcL Y 1 n ++ [n]).getD m 0)) (bcL Y 1 n).length) (S ((bcL Y 1 n ++ [n]).getD (bcL Y 1 n).length 0) - Int32.ofNat 1) = _
      rw [e2, rhX_co (f := fun m => S ((bcL Y 1 n ++ [n]).getD m 0)) (g := fun m => S ((bcL Y 1 n).getD m 0)) _ (fun m hm => by
        show S ((bcL Y 1 n ++ [n]).getD m 0) = S ((bcL Y 1 n).getD m 0)
        rw [gd_l hm])]
    · rw [if_neg h, bc_n h]
      exact ih
theorem rl_bc {S : Nat → Int32} : ∀ n, (∀ c, c < n → Y c ≤ 1) → rlX (fun m => S ((bcL Y 0 n).getD m 0)) (bcL Y 0 n).length = rlI S Y n
  | 0, _ => rfl
  | n + 1, hY => by
    have ih := rl_bc (S := S) n (fun c hc => hY c (by omega))
    have hy := hY n (by omega)
    have e : rlI S Y (n + 1) = if Y n = 1 then rlI S Y n else mxI (rlI S Y n) (S n) := rfl
    rw [e]
    by_cases h : Y n = 1
    · rw [if_pos h, bc_n (by omega)]
      exact ih
    · rw [if_neg h, bc_y (show Y n = 0 by omega), ap_len, ← ih]
      have e2 := gd_r (A := bcL Y 0 n) (B := [n]) (d := 0) (c := 0)
      rw [Nat.add_zero] at e2
      have e2 : (bcL Y 0 n ++ [n]).getD (bcL Y 0 n).length 0 = n := e2
      show mxI (rlX (fun m => S ((bcL Y 0 n ++ [n]).getD m 0)) (bcL Y 0 n).length) (S ((bcL Y 0 n ++ [n]).getD (bcL Y 0 n).length 0)) = _
      rw [e2, rlX_co (f := fun m => S ((bcL Y 0 n ++ [n]).getD m 0)) (g := fun m => S ((bcL Y 0 n).getD m 0)) _ (fun m hm => by
        show S ((bcL Y 0 n ++ [n]).getD m 0) = S ((bcL Y 0 n).getD m 0)
        rw [gd_l hm])]
end AIE
theorem smI_fl {f : Nat → Int32} {a b : Nat} (h : ∀ m, m < b → f (a + m) = Int32.ofNat 0) : smI f (a + b) = smI f a := by
  rw [smI_ap, smI_z _ h, i32_zr]
/-- what has been counted before number n -/
def rdJ (v : evT) (X : Nat → Int32) (Y : Nat → Nat) (nc k as_ P ny nn se sy n : Nat) (G : eg_G) : Prop := (et_pl (eg_at G se) 9 = some (.int (Int32.ofNat 1)) ∧ et_pl (eg_at G se) 10 = some (.int (Int32.ofNat (P + ny))) ∧ et_pl (eg_at G se) 11 = some (.int (Int32.ofNat (P + ny + nn))) ∧ et_pl (eg_at G se) 12 = some (.int (Int32.ofNat as_)) ∧ et_pl (eg_at G se) 15 = some (.int (Int32.ofNat 1073741824))) ∧ et_pl (eg_at G se) 16 = some (.int (smI (fun m => reT v X Y nc (kvT k v.1 m)) n)) ∧ ∀ c, c < as_ → et_pl (eg_at G sy) c = some (.int (smI (fun m => rsT v X Y nc (asC c) (kvT k v.1 m)) n))
section AIF
variable {K : et_K} {G G' : eg_G} {v : evT} {X : Nat → Int32} {Y : Nat → Nat} {nc k as_ P ny nn se tA tR tS td be sy n c w p r : Nat}
theorem rdJ.fr (h : rdJ v X Y nc k as_ P ny nn se sy n G) (h1 : ∀ j, et_pl (eg_at G' se) j = et_pl (eg_at G se) j) (h2 : ∀ j, et_pl (eg_at G' sy) j = et_pl (eg_at G sy) j) : rdJ v X Y nc k as_ P ny nn se sy n G' := ⟨⟨(h1 9).trans h.1.1, (h1 10).trans h.1.2.1, (h1 11).trans h.1.2.2.1, (h1 12).trans h.1.2.2.2.1, (h1 15).trans h.1.2.2.2.2⟩, (h1 16).trans h.2.1, fun c hc => (h2 c).trans (h.2.2 c hc)⟩
theorem rdJ.f (t : seT K se tA tR tS td be sy) (h : rdJ v X Y nc k as_ P ny nn se sy n G) (hH : et_H et_TT K G) (x : xf (fun b _ => (tR + 1 ≤ b ∧ b ≤ tR + 7) ∨ (tS + 1 ≤ b ∧ b ≤ tS + 7) ∨ b = td) G G') : rdJ v X Y nc k as_ P ny nn se sy n G' := by
  have nr : ∀ b u, K b = some u → ¬ u = 45 → ¬ u = 51 → ¬ ((tR + 1 ≤ b ∧ b ≤ tR + 7) ∨ (tS + 1 ≤ b ∧ b ≤ tS + 7) ∨ b = td) := fun b u kb hu hu2 q => by
    rcases q with ⟨q1, q2⟩ | ⟨q1, q2⟩ | q
    · rw [t.rR q1 q2] at kb
      exact hu (Option.some.inj kb).symm
    · rw [t.rS q1 q2] at kb
      exact hu (Option.some.inj kb).symm
    · rw [q, t.1.2.2.2.2.1] at kb
      exact hu2 (Option.some.inj kb).symm
  exact h.fr (fun j => x.2 se j (hH.2.2 _ _ t.1.1).1 (nr _ _ t.1.1 (by decide) (by decide))) (fun j => x.2 sy j (hH.2.2 _ _ t.1.2.2.2.2.2.2).1 (nr _ _ t.1.2.2.2.2.2.2 (by decide) (by decide)))
theorem rdJ.l (hk : k ≤ 3) (hW : v.1 ≤ 6) (h : rdJ v X Y nc k as_ P ny nn se sy n G) : ∃ l : Nat, l ≤ 1073741824 ∧ et_pl (eg_at G se) 15 = some (.int (Int32.ofNat l)) ∧ ∀ w p r, v.1 = w + r → n = (p * (2 * k + 1) ^ r) → l ≤ kvS k w p w → rdJ v X Y nc k as_ P ny nn se sy ((p + 1) * (2 * k + 1) ^ r) G := by
  refine ⟨1073741824, Nat.le_refl _, h.1.2.2.2.2, fun w p r h1 _ h3 => ?_⟩
  have h4 := kvS_le (k := k) (W := w) (n := p) w
  have h5 : k * w ≤ 3 * 6 := Nat.mul_le_mul hk (by omega)
  omega
/-- where some yes CARD is not above some no CARD there is no LINE -/
theorem re_c (hk : k ≤ 3) (hW : v.1 ≤ 6) (hc : c < (pxL X (prL Y nc nc)).length) (h : paS k v.1 n (fun w => (coV v.2.1 v.2.2.1 (rcL X Y nc as_) c w).toInt) v.1 ≤ 0) : reT v X Y nc (kvT k v.1 n) = Int32.ofNat 0 ∧ ∀ x, rsT v X Y nc x (kvT k v.1 n) = Int32.ofNat 0 := by
  obtain ⟨h9, l9, a1, a2, a3, a4, a5⟩ := px_at hc
  have e : paS k v.1 n (fun w => (coV v.2.1 v.2.2.1 (rcL X Y nc as_) c w).toInt) v.1 = (seS v (kvT k v.1 n) X h9).toInt - (seS v (kvT k v.1 n) X l9).toInt := by
    show _ = (suN v.2.1 v.2.2.1 (kvT k v.1 n) (X h9) v.1).toInt - (suN v.2.1 v.2.2.1 (kvT k v.1 n) (X l9) v.1).toInt
    rw [su_i hk hW, su_i hk hW, ← paS_sub]
    refine paS_co v.1 (fun m hm => ?_)
    have h8 := (coV_i (C := v.2.1) (Kd := v.2.2.1) (L := rcL X Y nc as_) (c := c) (w := m)).1
    rw [rc_p hc, a5] at h8
    exact h8
  have hlt : rhI (seS v (kvT k v.1 n) X) Y nc < rlI (seS v (kvT k v.1 n) X) Y nc := re_z (fun c _ => ss_b hk hW) a1 a2 a3 a4 (by omega)
  exact ⟨reN_z hlt, fun x => rsN_z hlt⟩
theorem rdJ.cc (hk : k ≤ 3) (hW : v.1 ≤ 6) (h1 : v.1 = w + r) (hc : c < (pxL X (prL Y nc nc)).length) (h2 : paS k w p (fun w => (coV v.2.1 v.2.2.1 (rcL X Y nc as_) c w).toInt) w + reS k (fun w => (coV v.2.1 v.2.2.1 (rcL X Y nc as_) c w).toInt) r w ≤ 0) (h : rdJ v X Y nc k as_ P ny nn se sy (p * (2 * k + 1) ^ r) G) : rdJ v X Y nc k as_ P ny nn se sy ((p + 1) * (2 * k + 1) ^ r) G := by
  have hz : ∀ n, p * (2 * k + 1) ^ r ≤ n → n < p * (2 * k + 1) ^ r + (2 * k + 1) ^ r → reT v X Y nc (kvT k v.1 n) = Int32.ofNat 0 ∧ ∀ x, rsT v X Y nc x (kvT k v.1 n) = Int32.ofNat 0 := fun n a1 a2 => by
    refine re_c (as_ := as_) hk hW hc ?_
    have e := paS_up (k := k) (a := fun w => (coV v.2.1 v.2.2.1 (rcL X Y nc as_) c w).toInt) h1 a1 (by rw [Nat.add_mul, Nat.one_mul]; exact a2) w (Nat.le_refl w)
    have e2 := paS_le (k := k) (W := v.1) (n := n) (a := fun w => (coV v.2.1 v.2.2.1 (rcL X Y nc as_) c w).toInt) r w
    rw [← h1, e] at e2
    omega
  have e1 : smI (fun m => reT v X Y nc (kvT k v.1 m)) ((p + 1) * (2 * k + 1) ^ r) = smI (fun m => reT v X Y nc (kvT k v.1 m)) (p * (2 * k + 1) ^ r) := by
    rw [Nat.add_mul, Nat.one_mul]
    exact smI_fl (fun m hm => (hz _ (Nat.le_add_right _ _) (by omega)).1)
  have e2 : ∀ x, smI (fun m => rsT v X Y nc x (kvT k v.1 m)) ((p + 1) * (2 * k + 1) ^ r) = smI (fun m => rsT v X Y nc x (kvT k v.1 m)) (p * (2 * k + 1) ^ r) := fun x => by
    rw [Nat.add_mul, Nat.one_mul]
    exact smI_fl (fun m hm => (hz _ (Nat.le_add_right _ _) (by omega)).2 x)
  refine ⟨h.1, ?_, fun c hc => ?_⟩
  · rw [e1]
    exact h.2.1
  · rw [e2]
    exact h.2.2 c hc
end AIF
/-! read: what stays as columns are laid, also where sayYes is cleared -/
theorem bgI.xq {K : et_K} {G G' : eg_G} {S : Nat → Nat → Prop} {se tA tR tS td be sy e ca ki kn s0 la ly nc k : Nat} {v : evT} {X : Nat → Int32} {Y : Nat → Nat} (h : bgI G se tA tR tS td be sy e ca ki kn s0 la ly nc k v X Y) (t : seT K se tA tR tS td be sy) (t9 : evK K e ca ki kn v.1 v.2.2.1) (k_s0 : K s0 = some 10) (k_la : K la = some 17) (k_ly : K ly = some 27) (hH : et_H et_TT K G) (x : xf S G G') (hs : ∀ b j t, K b = some t → S b j → t = 19) : bgI G' se tA tR tS td be sy e ca ki kn s0 la ly nc k v X Y := by
  obtain ⟨h1, h2, h3, h4, h5, h6⟩ := h
  have lt : ∀ a t, K a = some t → a < G.2 := fun a t ha => (hH.2.2 a t ha).1
  have f : ∀ a t, K a = some t → ¬ t = 19 → ∀ j, et_pl (eg_at G' a) j = et_pl (eg_at G a) j := fun a t ha n1 j => x.2 a j (lt _ _ ha) (fun q => n1 (hs _ _ _ ha q))
  refine ⟨h1.xs t hH x (fun b j t kb q => ?_), h2.xs t9 hH x (fun b j q => ⟨fun kb => ?_, fun kb => ?_⟩), (f _ _ k_s0 (by decide) 2).trans h3, ⟨⟨(f _ _ k_s0 (by decide) 3).trans h4.1.1, (f _ _ k_s0 (by decide) 4).trans h4.1.2⟩, fun c hc => ⟨(f _ _ k_la (by decide) c).trans (h4.2 c hc).1, (f _ _ k_ly (by decide) c).trans (h4.2 c hc).2.1, (h4.2 c hc).2.2⟩⟩, (f _ _ t.1.1 (by decide) 6).trans h5, (f _ _ t.1.1 (by decide) 7).trans h6⟩
  · obtain rfl := hs _ _ _ kb q
    exact ⟨by decide, by decide, fun h => absurd h (by decide)⟩
  · exact absurd (hs _ _ _ kb q) (by decide)
  · exact absurd (hs _ _ _ kb q) (by decide)
section AIG
variable {K : et_K} {G G0 : eg_G} {se tA tR tS td be sy e ca ki kn s0 la ly nc k b c as_ d d2 : Nat} {v : evT} {X : Nat → Int32} {Y : Nat → Nat} {L : List (Int32 × Int32)}
theorem fd_acL (hH0 : et_H et_TT K G0) (hH : et_H et_TT K G) (t : seT K se tA tR tS td be sy) (t9 : evK K e ca ki kn v.1 v.2.2.1) (k_s0 : K s0 = some 10) (k_la : K la = some 17) (k_ly : K ly = some 27) (hbg : bgI G se tA tR tS td be sy e ca ki kn s0 la ly nc k v X Y) (hcap : L.length + nc ≤ 151) (hb : b ≤ 1) (hX : xf (fun b j => (b = se ∧ j = 5) ∨ (tA + 1 ≤ b ∧ b ≤ tA + 6)) G0 G) (hc : et_pl (eg_at G se) 5 = some (.int (Int32.ofNat (L ++ oxL X (bcL Y b c)).length)) ∧ coR G tA v.1 v.2.1 v.2.2.1 (L ++ oxL X (bcL Y b c))) (hcn : c ≤ nc) : et_go none (d + 3) 100 3 [some (.ref se), some (.ref e), some (.ref s0), some (.int (Int32.ofNat b)), some (.int (Int32.ofNat c))] [] G 0 0 (xw_Z (fun b j => (b = se ∧ j = 5) ∨ (tA + 1 ≤ b ∧ b ≤ tA + 6)) K G0 (fun g v9 => v9 = none ∧ bgI g se tA tR tS td be sy e ca ki kn s0 la ly nc k v X Y ∧ et_pl (eg_at g se) 5 = some (.int (Int32.ofNat (L ++ oxL X (bcL Y b nc)).length)) ∧ coR g tA v.1 v.2.1 v.2.2.1 (L ++ oxL X (bcL Y b nc)))) := by
  induction hq9 : nc - c using Nat.strongRecOn generalizing c G with
  | _ q9 ih =>
    have k_se := t.1.1
    have k_tA := t.1.2.1
    have k_tR := t.1.2.2.1
    have k_tS := t.1.2.2.2.1
    have k_td := t.1.2.2.2.2.1
    have k_be := t.1.2.2.2.2.2.1
    have k_sy := t.1.2.2.2.2.2.2
    have hsR := hbg.1
    have hv := hbg.2.1
    have g2 := hbg.2.2.1
    have hcc := hbg.2.2.2.1
    have q6 := hbg.2.2.2.2.1
    have q7 := hbg.2.2.2.2.2
    have hlen : (L ++ oxL X (bcL Y b c)).length = L.length + (bcL Y b c).length := lx_len
    have hbl := bc_len (Y := Y) (b := b) c
    refine hs_iload (i := 4) (p := 5) (by decide +kernel) rfl ?_
    refine hs_aload (i := 2) (p := 6) (by decide +kernel) rfl ?_
    refine hf_get (T := et_TT) (t := 10) (ci := 8) (f := 2) (p := 9) (by decide +kernel) rfl hH k_s0 g2 ?_
    refine hs_br2n (c := .ge) (t := 42) (f := 12) (by decide +kernel) (by omega) (by omega) (fun (c9 : nc ≤ c) => ?_) (fun (c9 : ¬ (nc ≤ c)) => ?_)
    · refine hs_vret (by decide +kernel) ?_
      obtain rfl : c = nc := by omega
      exact ⟨_, _, rfl, hH, hX, rfl, hbg, hc⟩
    · have hyc := (hcc.2 c (by omega)).2.2
      refine hs_aload (i := 2) (p := 13) (by decide +kernel) rfl ?_
      refine hf_get (T := et_TT) (t := 10) (ci := 8) (f := 4) (p := 16) (by decide +kernel) rfl hH k_s0 hcc.1.2 ?_
      refine hs_iload (i := 4) (p := 18) (by decide +kernel) rfl ?_
      refine hf_ald (ins := .baload) (T := et_TT) (t := 27) (kd := 3) (N := 20) (p := 19) (by decide +kernel) (fun _ _ _ _ _ _ _ _ _ _ => rfl) rfl rfl rfl hH k_ly (by decide) (hcc.2 c (by omega)).2.1 ?_
      refine hs_iload (i := 3) (p := 20) (by decide +kernel) rfl ?_
      refine hs_br2n (c := .ne) (t := 36) (f := 23) (by decide +kernel) (by omega) (by omega) (fun (c20 : ¬ (Y c) = b) => ?_) (fun (c20 : ¬ (¬ (Y c) = b)) => ?_)
      · refine hs_iinc1 (i := 4) (p := 39) (by decide +kernel) rfl (Nat.le_of_ble_eq_true rfl) ?_
        refine hs_goto (p := 3) (by decide +kernel) ?_
        exact ih (nc - (c + 1)) (by omega) hH hbg hX (by rw [ox_n c20]; exact hc) (by omega) rfl
      · refine hs_aload (i := 0) (p := 24) (by decide +kernel) rfl ?_
        refine hs_aload (i := 1) (p := 25) (by decide +kernel) rfl ?_
        refine hs_aload (i := 2) (p := 26) (by decide +kernel) rfl ?_
        refine hf_get (T := et_TT) (t := 10) (ci := 8) (f := 3) (p := 29) (by decide +kernel) rfl hH k_s0 hcc.1.1 ?_
        refine hs_iload (i := 4) (p := 31) (by decide +kernel) rfl ?_
        refine hf_ald (ins := .iaload) (T := et_TT) (t := 17) (kd := 0) (N := 20) (p := 32) (by decide +kernel) (fun _ _ _ _ _ _ _ _ _ _ => rfl) rfl rfl rfl hH k_la (by decide) (hcc.2 c (by omega)).1 ?_
        refine hs_k (x := Int32.ofNat 0) (p := 33) (by decide +kernel) ?_
        have hHo := hH
        refine ht_callv (T := et_TT) (t := 9) (mi := 92) (na := 3) (ci := 7) (lk := 5) (lm := 5) (L0 := eg_en (eg_mL 92) [.ref se, .ref e, .int (X c), .int (Int32.ofNat 0)]) (by decide +kernel) rfl hH k_se rfl rfl rfl rfl rfl (by rw [show eg_mL 92 = 5 from by decide +kernel]; first | done | rfl) ?_
        refine (fd_add (L := (L ++ oxL X (bcL Y b c))) hH t hsR t9 hv hc.1 q6 (by omega) hc.2 (by omega)).mono (fun u9 hu9 => xw_cb hu9 (fun G2 v2 hH x2 hc2 => ?_))
        obtain ⟨rfl, hc2⟩ := hc2
        have hbg := hbg.xs t t9 k_s0 k_la k_ly hHo x2 (fun b j t9 kb h => by rcases h with h | h; rw [h.1, t.1.1] at kb; cases kb; exact .inr ⟨rfl, by have h := h.2; omega⟩; rw [t.a45 h.1 h.2] at kb; cases kb; exact .inl rfl)
        have hX := hX.tr x2 (fun b j _ h => h)
        show et_go none _ 100 36 _ [] _ _ _ _
        refine hs_iinc1 (i := 4) (p := 39) (by decide +kernel) rfl (Nat.le_of_ble_eq_true rfl) ?_
        refine hs_goto (p := 3) (by decide +kernel) ?_
        exact ih (nc - (c + 1)) (by omega) hH hbg hX (by rw [ox_y (Decidable.of_not_not c20), ap_len]; exact hc2) (by omega) rfl
theorem fd_ac (hH : et_H et_TT K G) (t : seT K se tA tR tS td be sy) (t9 : evK K e ca ki kn v.1 v.2.2.1) (k_s0 : K s0 = some 10) (k_la : K la = some 17) (k_ly : K ly = some 27) (hbg : bgI G se tA tR tS td be sy e ca ki kn s0 la ly nc k v X Y) (hcap : L.length + nc ≤ 151) (hb : b ≤ 1) (q5 : et_pl (eg_at G se) 5 = some (.int (Int32.ofNat L.length))) (hco : coR G tA v.1 v.2.1 v.2.2.1 L) (hd : 3 ≤ d2) : et_go none d2 100 0 (eg_en (eg_mL 100) [.ref se, .ref e, .ref s0, .int (Int32.ofNat b)]) [] G 0 0 (xw_Z (fun b j => (b = se ∧ j = 5) ∨ (tA + 1 ≤ b ∧ b ≤ tA + 6)) K G (fun g v9 => v9 = none ∧ bgI g se tA tR tS td be sy e ca ki kn s0 la ly nc k v X Y ∧ et_pl (eg_at g se) 5 = some (.int (Int32.ofNat (L ++ oxL X (bcL Y b nc)).length)) ∧ coR g tA v.1 v.2.1 v.2.2.1 (L ++ oxL X (bcL Y b nc)))) := by
  obtain ⟨d, rfl⟩ : ∃ d, d2 = d + 3 := ⟨d2 - 3, by omega⟩
  rw [show eg_mL 100 = 5 from by decide +kernel]
  show et_go none (d + 3) 100 0 [some (.ref se), some (.ref e), some (.ref s0), some (.int (Int32.ofNat b)), none] [] G 0 0 _
  refine hs_k (x := Int32.ofNat 0) (p := 1) (by decide +kernel) ?_
  refine hs_istore (i := 4) (p := 3) (by decide +kernel) (Nat.le_of_ble_eq_true rfl) ?_
  exact fd_acL (c := 0) hH hH t t9 k_s0 k_la k_ly hbg hcap hb xf.rf (by rw [show (L ++ oxL X (bcL Y b 0)) = L from List.append_nil L]; exact ⟨q5, hco⟩) (Nat.zero_le nc)
theorem fd_takeR (t : seT K se tA tR tS td be sy) (hW : v.1 ≤ 6) (hk : k ≤ 3) (hkd : ∀ m, m < v.1 → v.2.2.1 m ≤ 2) (hnz : ∀ u, u < v.1 → ¬ v.2.1 u = 0) (hY1 : ∀ c, c < nc → Y c ≤ 1) (hsz : (rcL X Y nc as_).length ≤ 151) (has : as_ ≤ 31) (p l : Nat) (G : eg_G) (d2 : Nat) (hd : 2 ≤ d2) (hH : et_H et_TT K G) (hci : (chI G se tA tR tS td be sy (pxL X (prL Y nc nc)).length (rcL X Y nc as_).length v.1 k v.2.1 v.2.2.1 (rcL X Y nc as_) (fun w c => reI (fun w => coV v.2.1 v.2.2.1 (rcL X Y nc as_) c w) k (v.1 - w) w))) (hJ : rdJ v X Y nc k as_ (pxL X (prL Y nc nc)).length (bcL Y 1 nc).length (bcL Y 0 nc).length se sy p G) (hl : l ≤ 1073741824) (q15 : et_pl (eg_at G se) 15 = some (.int (Int32.ofNat l))) (hkl : kvS k v.1 p v.1 < l) (hok : ∀ c, c < (pxL X (prL Y nc nc)).length → 0 < paS k v.1 p (fun w => (coV v.2.1 v.2.2.1 (rcL X Y nc as_) c w).toInt) v.1) (htd : tdQ G td v.1 (kvT k v.1 p)) (hsm : smR G tS v.1 (rcL X Y nc as_).length (fun c => paS k v.1 p (fun w => (coV v.2.1 v.2.2.1 (rcL X Y nc as_) c w).toInt) v.1)) : et_go none d2 95 0 (eg_en (eg_mL 95) [.ref se, .int (Int32.ofNat (kvS k v.1 p v.1))]) [] G 0 0 (xw_Z (fun b j => (b = se ∧ (j = 13 ∨ j = 15 ∨ j = 16)) ∨ b = be ∨ b = sy) K G (fun g v9 => v9 = none ∧ rdJ v X Y nc k as_ (pxL X (prL Y nc nc)).length (bcL Y 1 nc).length (bcL Y 0 nc).length se sy (p + 1) g)) := by
  have k_se := t.1.1
  have k_tA := t.1.2.1
  have k_tR := t.1.2.2.1
  have k_tS := t.1.2.2.2.1
  have k_td := t.1.2.2.2.2.1
  have k_be := t.1.2.2.2.2.2.1
  have k_sy := t.1.2.2.2.2.2.2
  obtain ⟨F, hF1, hF2⟩ := hsm
  have hn := rc_n (X := X) (Y := Y) (nc := nc) (a := as_)
  have k_r := t.2.2.2.2 v.1 (by omega)
  have hX : xf (fun b j => (b = se ∧ (j = 13 ∨ j = 15 ∨ j = 16)) ∨ b = be ∨ b = sy) G G := xf.rf
  have lt_se := (hH.2.2 _ _ k_se).1
  have lt_tS := (hH.2.2 _ _ k_tS).1
  have lt_sy := (hH.2.2 _ _ k_sy).1
  have lt_r := (hH.2.2 _ _ k_r).1
  have hT : ∀ q x, q < (rcL X Y nc as_).length → (rcL X Y nc as_).getD q (0, 0) = (x, Int32.ofNat 0) → F q = suN v.2.1 v.2.2.1 (kvT k v.1 p) x v.1 := fun q x hq hg => co_su hk hW hkd hnz hg (hF2 q hq)
  have hY9 : ∀ m, m < (bcL Y 1 nc).length → et_pl (eg_at G (tS + 1 + v.1)) ((pxL X (prL Y nc nc)).length + m) = some (.int (seS v (kvT k v.1 p) X ((bcL Y 1 nc).getD m 0))) := fun m hm => (hF1 _ (by omega)).trans (by rw [hT _ _ (by omega) (rc_y hm)]; rfl)
  have hN9 : ∀ m, m < (bcL Y 0 nc).length → et_pl (eg_at G (tS + 1 + v.1)) ((pxL X (prL Y nc nc)).length + (bcL Y 1 nc).length + m) = some (.int (seS v (kvT k v.1 p) X ((bcL Y 0 nc).getD m 0))) := fun m hm => (hF1 _ (by omega)).trans (by rw [hT _ _ (by omega) (rc_o hm)]; rfl)
  have hA9 : ∀ m, m < as_ → et_pl (eg_at G (tS + 1 + v.1)) ((pxL X (prL Y nc nc)).length + (bcL Y 1 nc).length + (bcL Y 0 nc).length + m) = some (.int (suN v.2.1 v.2.2.1 (kvT k v.1 p) (asC m) v.1)) := fun m hm => (hF1 _ (by omega)).trans (by rw [hT _ _ (by omega) (rc_a hm)])
  have q2 := hci.1.1.2.2.1
  have q4 := hci.2.1.1
  have q6 := hci.2.1.2.2.1
  have q17 := hci.1.1.2.2.2.2.2
  have qr := hci.1.2.2.2 v.1 (by omega)
  obtain ⟨⟨q9, q10, q11, q12, q15b⟩, q16, hg9⟩ := hJ
  obtain ⟨d, rfl⟩ : ∃ d, d2 = d + 2 := ⟨d2 - 2, by omega⟩
  rw [show eg_mL 95 = 3 from by decide +kernel]
  show et_go none (d + 2) 95 0 [some (.ref se), some (.int (Int32.ofNat (kvS k v.1 p v.1))), none] [] G 0 0 _
  refine hs_aload (i := 0) (p := 1) (by decide +kernel) rfl ?_
  refine hs_k (x := Int32.ofNat 1) (p := 2) (by decide +kernel) ?_
  have hHo := hH
  refine hf_put (T := et_TT) (t := 9) (ci := 7) (f := 13) (p := 5) (ty := .boolean) (by decide +kernel) rfl rfl rfl (by decide +kernel) rfl hH k_se (hi_nv (by omega) (by omega)) (fun G2 hH x2 e2 => ?_)
  have q2 := (x2.2 se 2 lt_se (fun h => absurd h.2 (by decide))).trans q2
  have q4 := (x2.2 se 4 lt_se (fun h => absurd h.2 (by decide))).trans q4
  have q6 := (x2.2 se 6 lt_se (fun h => absurd h.2 (by decide))).trans q6
  have q9 := (x2.2 se 9 lt_se (fun h => absurd h.2 (by decide))).trans q9
  have q10 := (x2.2 se 10 lt_se (fun h => absurd h.2 (by decide))).trans q10
  have q11 := (x2.2 se 11 lt_se (fun h => absurd h.2 (by decide))).trans q11
  have q12 := (x2.2 se 12 lt_se (fun h => absurd h.2 (by decide))).trans q12
  have q15b := (x2.2 se 15 lt_se (fun h => absurd h.2 (by decide))).trans q15b
  have q16 := (x2.2 se 16 lt_se (fun h => absurd h.2 (by decide))).trans q16
  have q17 := (x2.2 se 17 lt_se (fun h => absurd h.2 (by decide))).trans q17
  have qr := (x2.2 tS v.1 lt_tS (fun h => hi_ne k_tS k_se (by decide) h.1)).trans qr
  have hY9 : ∀ m, m < (bcL Y 1 nc).length → et_pl (eg_at G2 (tS + 1 + v.1)) ((pxL X (prL Y nc nc)).length + m) = some (.int (seS v (kvT k v.1 p) X ((bcL Y 1 nc).getD m 0))) := fun m hm => (x2.2 _ _ lt_r (fun h => hi_ne k_r k_se (by decide) h.1)).trans (hY9 m hm)
  have hN9 : ∀ m, m < (bcL Y 0 nc).length → et_pl (eg_at G2 (tS + 1 + v.1)) ((pxL X (prL Y nc nc)).length + (bcL Y 1 nc).length + m) = some (.int (seS v (kvT k v.1 p) X ((bcL Y 0 nc).getD m 0))) := fun m hm => (x2.2 _ _ lt_r (fun h => hi_ne k_r k_se (by decide) h.1)).trans (hN9 m hm)
  have hA9 : ∀ m, m < as_ → et_pl (eg_at G2 (tS + 1 + v.1)) ((pxL X (prL Y nc nc)).length + (bcL Y 1 nc).length + (bcL Y 0 nc).length + m) = some (.int (suN v.2.1 v.2.2.1 (kvT k v.1 p) (asC m) v.1)) := fun m hm => (x2.2 _ _ lt_r (fun h => hi_ne k_r k_se (by decide) h.1)).trans (hA9 m hm)
  have hg9 : ∀ c, c < as_ → et_pl (eg_at G2 sy) c = some (.int (smI (fun m => rsT v X Y nc (asC c) (kvT k v.1 m)) p)) := fun c hc => (x2.2 sy c lt_sy (fun h => hi_ne k_sy k_se (by decide) h.1)).trans (hg9 c hc)
  have hX := hX.tr x2 (fun b j _ h => .inl ⟨h.1, by have h := h.2; omega⟩)
  have lt_se := Nat.lt_of_lt_of_le lt_se x2.1
  refine hs_aload (i := 0) (p := 6) (by decide +kernel) rfl ?_
  refine hf_get (T := et_TT) (t := 9) (ci := 7) (f := 9) (p := 9) (by decide +kernel) rfl hH k_se q9 ?_
  refine hs_if0 (c := .eq) (t := 17) (f := 12) (by decide +kernel) (show ¬ (Int32.ofNat 1 = 0) by decide) ?_
  refine hs_aload (i := 0) (p := 13) (by decide +kernel) rfl ?_
  refine ht_callv (T := et_TT) (t := 9) (mi := 96) (na := 0) (ci := 7) (lk := 3) (lm := 6) (L0 := eg_en (eg_mL 96) [.ref se]) (by decide +kernel) rfl hH k_se rfl rfl rfl rfl rfl (by rw [show eg_mL 96 = 6 from by decide +kernel]; first | done | rfl) ?_
  refine (fd_cl (P := (pxL X (prL Y nc nc)).length) (W := v.1) (ny := (bcL Y 1 nc).length) (nn := (bcL Y 0 nc).length) (as_ := as_) hH k_se k_tS k_r k_sy hW (by omega) has q2 q4 q6 q10 q11 q12 q17 qr q16 hY9 hN9 hA9 hg9).mono (fun u9 hu9 => xw_cb hu9 (fun G9 v9 hH9 x9 hP9 => ?_))
  obtain ⟨rfl, r16, rsy⟩ := hP9
  rw [rh_bc (S := seS v (kvT k v.1 p) X) nc, rl_bc (S := seS v (kvT k v.1 p) X) nc hY1] at r16
  rw [rh_bc (S := seS v (kvT k v.1 p) X) nc, rl_bc (S := seS v (kvT k v.1 p) X) nc hY1] at rsy
  have q9 := (x9.2 se 9 lt_se (fun h => by rcases h with h | h; exact absurd h.2 (by decide); exact hi_ne k_se k_sy (by decide) h)).trans q9
  have q10 := (x9.2 se 10 lt_se (fun h => by rcases h with h | h; exact absurd h.2 (by decide); exact hi_ne k_se k_sy (by decide) h)).trans q10
  have q11 := (x9.2 se 11 lt_se (fun h => by rcases h with h | h; exact absurd h.2 (by decide); exact hi_ne k_se k_sy (by decide) h)).trans q11
  have q12 := (x9.2 se 12 lt_se (fun h => by rcases h with h | h; exact absurd h.2 (by decide); exact hi_ne k_se k_sy (by decide) h)).trans q12
  have q15b := (x9.2 se 15 lt_se (fun h => by rcases h with h | h; exact absurd h.2 (by decide); exact hi_ne k_se k_sy (by decide) h)).trans q15b
  have hX := hX.tr x9 (fun b j _ h => by rcases h with h | h; exact .inl ⟨h.1, .inr (.inr h.2)⟩; exact .inr (.inr h))
  have hH := hH9
  show et_go none _ 95 16 _ [] _ _ _ _
  refine hs_vret (by decide +kernel) ?_
  exact ⟨_, _, rfl, hH, hX, rfl, ⟨q9, q10, q11, q12, q15b⟩, r16, rsy⟩
end AIG
end
section
/-! read: the class goes through all KNOBS -/
theorem asC_1 {c : Nat} (h : c < 16) : asC c = Int32.ofNat 1 <<< (Int32.ofNat c &&& 31) := if_pos h
theorem asC_2 {c : Nat} (h : ¬ c < 16) : asC c = Int32.ofNat 3 <<< (Int32.ofNat (c - 16) &&& 31) := if_neg h
section AJA
variable {K : et_K} {G G0 : eg_G} {Z : eg_O → Prop} {se tA tR tS td be sy e ca ki kn s0 la ly nc k c as_ d d2 P n10 n11 : Nat} {v : evT} {X : Nat → Int32} {Y : Nat → Nat} {L : List (Int32 × Int32)}
theorem fd_eaL (hH0 : et_H et_TT K G0) (hH : et_H et_TT K G) (t : seT K se tA tR tS td be sy) (t9 : evK K e ca ki kn v.1 v.2.2.1) (k_s0 : K s0 = some 10) (k_la : K la = some 17) (k_ly : K ly = some 27) (k_sy : K sy = some 19) (hbg : bgI G se tA tR tS td be sy e ca ki kn s0 la ly nc k v X Y) (q4 : et_pl (eg_at G se) 4 = some (.int (Int32.ofNat P))) (q9 : et_pl (eg_at G se) 9 = some (.int (Int32.ofNat 1))) (q10 : et_pl (eg_at G se) 10 = some (.int (Int32.ofNat n10))) (q11 : et_pl (eg_at G se) 11 = some (.int (Int32.ofNat n11))) (q12 : et_pl (eg_at G se) 12 = some (.int (Int32.ofNat as_))) (q13 : et_pl (eg_at G se) 13 = some (.int (Int32.ofNat 0))) (q15 : et_pl (eg_at G se) 15 = some (.int (Int32.ofNat 1073741824))) (q16 : et_pl (eg_at G se) 16 = some (.int (Int32.ofNat 0))) (hcap : L.length + as_ ≤ 151) (has : as_ ≤ 31) (hX : xf (fun b j => (b = se ∧ j = 5) ∨ (tA + 1 ≤ b ∧ b ≤ tA + 6) ∨ b = sy) G0 G) (hz : (∀ m, m < c → et_pl (eg_at G sy) m = some (.int (Int32.ofNat 0)))) (hc : (et_pl (eg_at G se) 5 = some (.int (Int32.ofNat (L ++ axL c).length)) ∧ coR G tA v.1 v.2.1 v.2.2.1 (L ++ axL c))) (hca : c ≤ as_) (h : ∀ G', et_H et_TT K G' → xf (fun b j => (b = se ∧ j = 5) ∨ (tA + 1 ≤ b ∧ b ≤ tA + 6) ∨ b = sy) G0 G' → bgI G' se tA tR tS td be sy e ca ki kn s0 la ly nc k v X Y → (et_pl (eg_at G' se) 4 = some (.int (Int32.ofNat P)) ∧ et_pl (eg_at G' se) 9 = some (.int (Int32.ofNat 1)) ∧ et_pl (eg_at G' se) 10 = some (.int (Int32.ofNat n10)) ∧ et_pl (eg_at G' se) 11 = some (.int (Int32.ofNat n11)) ∧ et_pl (eg_at G' se) 12 = some (.int (Int32.ofNat as_)) ∧ et_pl (eg_at G' se) 13 = some (.int (Int32.ofNat 0)) ∧ et_pl (eg_at G' se) 15 = some (.int (Int32.ofNat 1073741824)) ∧ et_pl (eg_at G' se) 16 = some (.int (Int32.ofNat 0))) → (∀ m, m < as_ → et_pl (eg_at G' sy) m = some (.int (Int32.ofNat 0))) → (et_pl (eg_at G' se) 5 = some (.int (Int32.ofNat (L ++ axL as_).length)) ∧ coR G' tA v.1 v.2.1 v.2.2.1 (L ++ axL as_)) → et_go none (d + 4) 99 110 [some (.ref se), some (.ref e), some (.ref s0), some (.int (Int32.ofNat k)), some (.int (Int32.ofNat as_)), some (.int (Int32.ofNat as_))] [] G' 0 0 Z) : et_go none (d + 4) 99 60 [some (.ref se), some (.ref e), some (.ref s0), some (.int (Int32.ofNat k)), some (.int (Int32.ofNat as_)), some (.int (Int32.ofNat c))] [] G 0 0 Z := by
  induction hq9 : as_ - c using Nat.strongRecOn generalizing c G with
  | _ q9 ih =>
    have k_se := t.1.1
    have k_tA := t.1.2.1
    have k_tR := t.1.2.2.1
    have k_tS := t.1.2.2.2.1
    have k_td := t.1.2.2.2.2.1
    have k_be := t.1.2.2.2.2.2.1
    have hsR := hbg.1
    have hv := hbg.2.1
    have g2 := hbg.2.2.1
    have hcc := hbg.2.2.2.1
    have q6 := hbg.2.2.2.2.1
    have q7 := hbg.2.2.2.2.2
    have lt_se := (hH.2.2 _ _ k_se).1
    have lt_sy := (hH.2.2 _ _ k_sy).1
    have hlen : (L ++ axL c).length = L.length + c := la_len
    refine hs_iload (i := 5) (p := 62) (by decide +kernel) rfl ?_
    refine hs_aload (i := 0) (p := 63) (by decide +kernel) rfl ?_
    refine hf_get (T := et_TT) (t := 9) (ci := 7) (f := 12) (p := 66) (by decide +kernel) rfl hH k_se q12 ?_
    refine hs_br2n (c := .ge) (t := 110) (f := 69) (by decide +kernel) (by omega) (by omega) (fun (c66 : as_ ≤ c) => ?_) (fun (c66 : ¬ (as_ ≤ c)) => ?_)
    · obtain rfl : c = as_ := by omega
      exact h _ hH hX hbg ⟨q4, q9, q10, q11, q12, q13, q15, q16⟩ hz hc
    · refine hs_aload (i := 0) (p := 70) (by decide +kernel) rfl ?_
      refine hf_get (T := et_TT) (t := 9) (ci := 7) (f := 17) (p := 73) (by decide +kernel) rfl hH k_se hsR.1.2.2.2.2.2 ?_
      refine hs_iload (i := 5) (p := 75) (by decide +kernel) rfl ?_
      refine hs_k (x := Int32.ofNat 0) (p := 76) (by decide +kernel) ?_
      have hHo := hH
      refine hf_ist (T := et_TT) (t := 19) (N := 31) (p := 77) (by decide +kernel) rfl rfl (by decide) hH k_sy (by omega) (by decide) (fun s hs => absurd hs List.not_mem_nil) (fun G76 hH x76 e76 => ?_)
      have hbg := hbg.xq t t9 k_s0 k_la k_ly hHo x76 (fun b j t9 kb h => by rw [h.1, k_sy] at kb; cases kb; rfl)
      have hsR := hbg.1
      have hv := hbg.2.1
      have g2 := hbg.2.2.1
      have hcc := hbg.2.2.2.1
      have q6 := hbg.2.2.2.2.1
      have q7 := hbg.2.2.2.2.2
      have q4 := (x76.2 se 4 lt_se (fun h => hi_ne k_se k_sy (by decide) h.1)).trans q4
      have q9 := (x76.2 se 9 lt_se (fun h => hi_ne k_se k_sy (by decide) h.1)).trans q9
      have q10 := (x76.2 se 10 lt_se (fun h => hi_ne k_se k_sy (by decide) h.1)).trans q10
      have q11 := (x76.2 se 11 lt_se (fun h => hi_ne k_se k_sy (by decide) h.1)).trans q11
      have q12 := (x76.2 se 12 lt_se (fun h => hi_ne k_se k_sy (by decide) h.1)).trans q12
      have q13 := (x76.2 se 13 lt_se (fun h => hi_ne k_se k_sy (by decide) h.1)).trans q13
      have q15 := (x76.2 se 15 lt_se (fun h => hi_ne k_se k_sy (by decide) h.1)).trans q15
      have q16 := (x76.2 se 16 lt_se (fun h => hi_ne k_se k_sy (by decide) h.1)).trans q16
      have hz2 : (∀ m, m < (c + 1) → et_pl (eg_at G76 sy) m = some (.int (Int32.ofNat 0))) := fun m hm => by
        by_cases em : m = c
        · rw [em]; exact e76
        · exact (x76.2 sy m lt_sy (fun h => em h.2)).trans (hz m (by omega))
      have hc : (et_pl (eg_at G76 se) 5 = some (.int (Int32.ofNat (L ++ axL c).length)) ∧ coR G76 tA v.1 v.2.1 v.2.2.1 (L ++ axL c)) := ⟨(x76.2 se 5 lt_se (fun h => hi_ne k_se k_sy (by decide) h.1)).trans hc.1, hc.2.xs t9.2.1 t hHo x76 (fun b j h h1 h2 => absurd (t.a45 h1 h2) (by rw [h.1, k_sy]; decide))⟩
      have hX := hX.tr x76 (fun b j _ h => .inr (.inr h.1))
      have lt_se := Nat.lt_of_lt_of_le lt_se x76.1
      have lt_sy := Nat.lt_of_lt_of_le lt_sy x76.1
      refine hs_aload (i := 0) (p := 78) (by decide +kernel) rfl ?_
      refine hs_aload (i := 1) (p := 79) (by decide +kernel) rfl ?_
      refine hs_iload (i := 5) (p := 81) (by decide +kernel) rfl ?_
      refine hs_k (x := Int32.ofNat 16) (p := 83) (by decide +kernel) ?_
      refine hs_br2n (c := .ge) (t := 93) (f := 86) (by decide +kernel) (by omega) (by omega) (fun (c83 : 16 ≤ c) => ?_) (fun (c83 : ¬ (16 ≤ c)) => ?_)
      · refine hs_k (x := Int32.ofNat 3) (p := 94) (by decide +kernel) ?_
        refine hs_iload (i := 5) (p := 96) (by decide +kernel) rfl ?_
        refine hs_k (x := Int32.ofNat 16) (p := 98) (by decide +kernel) ?_
        refine hs_isubn (p := 99) (by decide +kernel) (by omega) ?_
        refine hs_st (ins := .ishl) (len := 1) (p := 100) (by decide +kernel) rfl rfl ?_
        show et_go none _ 99 100 _ [.int (Int32.ofNat 3 <<< (Int32.ofNat (c - 16) &&& 31)), .ref e, .ref se] _ _ _ _
        rw [← asC_2 (by omega)]
        refine hs_k (x := Int32.ofNat 0) (p := 101) (by decide +kernel) ?_
        have hHo := hH
        refine ht_callv (T := et_TT) (t := 9) (mi := 92) (na := 3) (ci := 7) (lk := 6) (lm := 5) (L0 := eg_en (eg_mL 92) [.ref se, .ref e, .int (asC c), .int (Int32.ofNat 0)]) (by decide +kernel) rfl hH k_se rfl rfl rfl rfl rfl (by rw [show eg_mL 92 = 5 from by decide +kernel]; first | done | rfl) ?_
        refine (fd_add (L := (L ++ axL c)) hH t hsR t9 hv hc.1 q6 (by omega) hc.2 (by omega)).mono (fun u9 hu9 => xw_cb hu9 (fun G2 v2 hH x2 hc2 => ?_))
        obtain ⟨rfl, hc2⟩ := hc2
        have hbg := hbg.xs t t9 k_s0 k_la k_ly hHo x2 (fun b j t9 kb h => by rcases h with h | h; rw [h.1, k_se] at kb; cases kb; exact .inr ⟨rfl, by have h := h.2; omega⟩; rw [t.a45 h.1 h.2] at kb; cases kb; exact .inl rfl)
        have q4 := (x2.2 se 4 lt_se (fun h => by rcases h with h | h; exact absurd h.2 (by decide); exact t.n9 h)).trans q4
        have q9 := (x2.2 se 9 lt_se (fun h => by rcases h with h | h; exact absurd h.2 (by decide); exact t.n9 h)).trans q9
        have q10 := (x2.2 se 10 lt_se (fun h => by rcases h with h | h; exact absurd h.2 (by decide); exact t.n9 h)).trans q10
        have q11 := (x2.2 se 11 lt_se (fun h => by rcases h with h | h; exact absurd h.2 (by decide); exact t.n9 h)).trans q11
        have q12 := (x2.2 se 12 lt_se (fun h => by rcases h with h | h; exact absurd h.2 (by decide); exact t.n9 h)).trans q12
        have q13 := (x2.2 se 13 lt_se (fun h => by rcases h with h | h; exact absurd h.2 (by decide); exact t.n9 h)).trans q13
        have q15 := (x2.2 se 15 lt_se (fun h => by rcases h with h | h; exact absurd h.2 (by decide); exact t.n9 h)).trans q15
        have q16 := (x2.2 se 16 lt_se (fun h => by rcases h with h | h; exact absurd h.2 (by decide); exact t.n9 h)).trans q16
        have hz3 : (∀ m, m < (c + 1) → et_pl (eg_at G2 sy) m = some (.int (Int32.ofNat 0))) := fun m hm => (x2.2 sy m lt_sy (fun h => by rcases h with h | h; exact hi_ne k_sy k_se (by decide) h.1; exact absurd (t.a45 h.1 h.2) (by rw [k_sy]; decide))).trans (hz2 m hm)
        have hX := hX.tr x2 (fun b j _ h => by rcases h with h | h; exact .inl h; exact .inr (.inl h))
        show et_go none _ 99 104 _ [] _ _ _ _
        refine hs_iinc1 (i := 5) (p := 107) (by decide +kernel) rfl (Nat.le_of_ble_eq_true rfl) ?_
        refine hs_goto (p := 60) (by decide +kernel) ?_
        exact ih (as_ - (c + 1)) (by omega) hH hbg q4 q9 q10 q11 q12 q13 q15 q16 hX hz3 (by rw [la_s, ap_len]; exact hc2) (by omega) rfl
      · refine hs_k (x := Int32.ofNat 1) (p := 87) (by decide +kernel) ?_
        refine hs_iload (i := 5) (p := 89) (by decide +kernel) rfl ?_
        refine hs_st (ins := .ishl) (len := 1) (p := 90) (by decide +kernel) rfl rfl ?_
        show et_go none _ 99 90 _ [.int (Int32.ofNat 1 <<< (Int32.ofNat c &&& 31)), .ref e, .ref se] _ _ _ _
        rw [← asC_1 (by omega)]
        refine hs_goto (p := 100) (by decide +kernel) ?_
        refine hs_k (x := Int32.ofNat 0) (p := 101) (by decide +kernel) ?_
        have hHo := hH
        refine ht_callv (T := et_TT) (t := 9) (mi := 92) (na := 3) (ci := 7) (lk := 6) (lm := 5) (L0 := eg_en (eg_mL 92) [.ref se, .ref e, .int (asC c), .int (Int32.ofNat 0)]) (by decide +kernel) rfl hH k_se rfl rfl rfl rfl rfl (by rw [show eg_mL 92 = 5 from by decide +kernel]; first | done | rfl) ?_
        refine (fd_add (L := (L ++ axL c)) hH t hsR t9 hv hc.1 q6 (by omega) hc.2 (by omega)).mono (fun u9 hu9 => xw_cb hu9 (fun G2 v2 hH x2 hc2 => ?_))
        obtain ⟨rfl, hc2⟩ := hc2
        have hbg := hbg.xs t t9 k_s0 k_la k_ly hHo x2 (fun b j t9 kb h => by rcases h with h | h; rw [h.1, k_se] at kb; cases kb; exact .inr ⟨rfl, by have h := h.2; omega⟩; rw [t.a45 h.1 h.2] at kb; cases kb; exact .inl rfl)
        have q4 := (x2.2 se 4 lt_se (fun h => by rcases h with h | h; exact absurd h.2 (by decide); exact t.n9 h)).trans q4
        have q9 := (x2.2 se 9 lt_se (fun h => by rcases h with h | h; exact absurd h.2 (by decide); exact t.n9 h)).trans q9
        have q10 := (x2.2 se 10 lt_se (fun h => by rcases h with h | h; exact absurd h.2 (by decide); exact t.n9 h)).trans q10
        have q11 := (x2.2 se 11 lt_se (fun h => by rcases h with h | h; exact absurd h.2 (by decide); exact t.n9 h)).trans q11
        have q12 := (x2.2 se 12 lt_se (fun h => by rcases h with h | h; exact absurd h.2 (by decide); exact t.n9 h)).trans q12
        have q13 := (x2.2 se 13 lt_se (fun h => by rcases h with h | h; exact absurd h.2 (by decide); exact t.n9 h)).trans q13
        have q15 := (x2.2 se 15 lt_se (fun h => by rcases h with h | h; exact absurd h.2 (by decide); exact t.n9 h)).trans q15
        have q16 := (x2.2 se 16 lt_se (fun h => by rcases h with h | h; exact absurd h.2 (by decide); exact t.n9 h)).trans q16
        have hz3 : (∀ m, m < (c + 1) → et_pl (eg_at G2 sy) m = some (.int (Int32.ofNat 0))) := fun m hm => (x2.2 sy m lt_sy (fun h => by rcases h with h | h; exact hi_ne k_sy k_se (by decide) h.1; exact absurd (t.a45 h.1 h.2) (by rw [k_sy]; decide))).trans (hz2 m hm)
        have hX := hX.tr x2 (fun b j _ h => by rcases h with h | h; exact .inl h; exact .inr (.inl h))
        show et_go none _ 99 104 _ [] _ _ _ _
        refine hs_iinc1 (i := 5) (p := 107) (by decide +kernel) rfl (Nat.le_of_ble_eq_true rfl) ?_
        refine hs_goto (p := 60) (by decide +kernel) ?_
        exact ih (as_ - (c + 1)) (by omega) hH hbg q4 q9 q10 q11 q12 q13 q15 q16 hX hz3 (by rw [la_s, ap_len]; exact hc2) (by omega) rfl
theorem fd_each (hH : et_H et_TT K G) (t : seT K se tA tR tS td be sy) (t9 : evK K e ca ki kn v.1 v.2.2.1) (k_s0 : K s0 = some 10) (k_la : K la = some 17) (k_ly : K ly = some 27) (hsR : seR G se tA tR tS td be sy) (hv : evc G e ca ki kn v) (g2 : et_pl (eg_at G s0) 2 = some (.int (Int32.ofNat nc))) (hcc : ccP G s0 la ly nc X Y) (hnc : nc ≤ 20) (hk : k ≤ 3) (has : as_ ≤ 31) (hnz : ∀ u, u < v.1 → ¬ v.2.1 u = 0) (hd : 13 ≤ d2) : et_go none d2 99 0 (eg_en (eg_mL 99) [.ref se, .ref e, .ref s0, .int (Int32.ofNat k), .int (Int32.ofNat as_)]) [] G 0 0 (xw_Z (fun b j => (b = se ∧ ((4 ≤ j ∧ j ≤ 13) ∨ j = 15 ∨ j = 16)) ∨ K b = some 45 ∨ b = td ∨ b = be ∨ b = sy) K G (fun g v9 => v9 = none ∧ rdJ v X Y nc k as_ (pxL X (prL Y nc nc)).length (bcL Y 1 nc).length (bcL Y 0 nc).length se sy ((2 * k + 1) ^ v.1) g)) := by
  obtain ⟨d, rfl⟩ : ∃ d, d2 = d + 13 := ⟨d2 - 13, by omega⟩
  rw [show eg_mL 99 = 6 from by decide +kernel]
  show et_go none (d + 13) 99 0 [some (.ref se), some (.ref e), some (.ref s0), some (.int (Int32.ofNat k)), some (.int (Int32.ofNat as_)), none] [] G 0 0 _
  have k_se := t.1.1
  have k_tA := t.1.2.1
  have k_tR := t.1.2.2.1
  have k_tS := t.1.2.2.2.1
  have k_td := t.1.2.2.2.2.1
  have k_be := t.1.2.2.2.2.2.1
  have k_sy := t.1.2.2.2.2.2.2
  have hW := t9.2.1
  have hkd := t9.2.2
  have k_e := t9.1.1
  have lt_se := (hH.2.2 _ _ k_se).1
  have hlen : (pxL X (prL Y nc nc)).length ≤ 100 := by rw [pxL_n]; exact prL_le (by omega)
  have hl1 : (pxL X (prL Y nc nc) ++ oxL X (bcL Y 1 nc)).length = (pxL X (prL Y nc nc)).length + (bcL Y 1 nc).length := lx_len
  have hl2 : (pxL X (prL Y nc nc) ++ oxL X (bcL Y 1 nc) ++ oxL X (bcL Y 0 nc)).length = (pxL X (prL Y nc nc) ++ oxL X (bcL Y 1 nc)).length + (bcL Y 0 nc).length := lx_len
  have hb2 := bc_two (Y := Y) nc
  have hY1 : ∀ c, c < nc → Y c ≤ 1 := fun c hc => (hcc.2 c hc).2.2
  have hrn := rc_n (X := X) (Y := Y) (nc := nc) (a := as_)
  have e31 : (if Int32.ofNat 31 < Int32.ofNat as_ then Int32.ofNat 31 else Int32.ofNat as_) = Int32.ofNat as_ := if_neg (fun h => by have h9 := (hs_nlt (by decide) (by omega)).mp h; omega)
  refine hs_aload (i := 0) (p := 1) (by decide +kernel) rfl ?_
  refine hs_aload (i := 1) (p := 2) (by decide +kernel) rfl ?_
  refine hs_aload (i := 2) (p := 3) (by decide +kernel) rfl ?_
  refine hs_aload (i := 2) (p := 4) (by decide +kernel) rfl ?_
  refine hf_get (T := et_TT) (t := 10) (ci := 8) (f := 2) (p := 7) (by decide +kernel) rfl hH k_s0 g2 ?_
  refine hs_iload (i := 3) (p := 8) (by decide +kernel) rfl ?_
  refine ht_callv (T := et_TT) (t := 9) (mi := 91) (na := 4) (ci := 7) (lk := 6) (lm := 7) (L0 := eg_en (eg_mL 91) [.ref se, .ref e, .ref s0, .int (Int32.ofNat nc), .int (Int32.ofNat k)]) (by decide +kernel) rfl hH k_se rfl rfl rfl rfl rfl (by rw [show eg_mL 91 = 7 from by decide +kernel]; first | done | rfl) ?_
  refine (fd_begin (m := nc) hH t t9 k_s0 k_la k_ly hsR hv g2 hcc hnc (Nat.le_refl nc) hk (by omega)).mono (fun u9 hu9 => xw_cb hu9 (fun G8 v2 hH x8 hP2 => ?_))
  obtain ⟨rfl, hbg, ⟨q4, q5, q8, q9, q13, q15, q16⟩, hco⟩ := hP2
  have hsR := hbg.1
  have hv := hbg.2.1
  have g2 := hbg.2.2.1
  have hcc := hbg.2.2.2.1
  have q6 := hbg.2.2.2.2.1
  have q7 := hbg.2.2.2.2.2
  have hX : xf (fun b j => (b = se ∧ ((4 ≤ j ∧ j ≤ 13) ∨ j = 15 ∨ j = 16)) ∨ K b = some 45 ∨ b = td ∨ b = be ∨ b = sy) G G8 := x8.wk (fun b j _ h => by
    rcases h with ⟨h1, h2⟩ | ⟨h1, h2⟩ | ⟨h1, h2⟩
    · exact .inl ⟨h1, by omega⟩
    · exact .inl ⟨h1, by omega⟩
    · exact .inr (.inl (t.a45 h1 h2)))
  have lt_se := Nat.lt_of_lt_of_le lt_se x8.1
  have hc := And.intro q5 hco
  show et_go none _ 99 11 _ [] _ _ _ _
  refine hs_aload (i := 0) (p := 12) (by decide +kernel) rfl ?_
  refine hs_k (x := Int32.ofNat 1) (p := 13) (by decide +kernel) ?_
  have hHo := hH
  refine hf_put (T := et_TT) (t := 9) (ci := 7) (f := 9) (p := 16) (ty := .boolean) (by decide +kernel) rfl rfl rfl (by decide +kernel) rfl hH k_se (hi_nv (by omega) (by omega)) (fun G13 hH x13 e13 => ?_)
  have hbg := hbg.xs t t9 k_s0 k_la k_ly hHo x13 (fun b j t9 kb h => by rw [h.1, k_se] at kb; cases kb; exact .inr ⟨rfl, by have h := h.2; omega⟩)
  have hsR := hbg.1
  have hv := hbg.2.1
  have g2 := hbg.2.2.1
  have hcc := hbg.2.2.2.1
  have q6 := hbg.2.2.2.2.1
  have q7 := hbg.2.2.2.2.2
  have hc := And.intro ((x13.2 se 5 lt_se (fun h => absurd h.2 (by decide))).trans hc.1) (hc.2.xs hW t hHo x13 (fun b j h h1 h2 => absurd (And.intro h1 h2) (by rw [h.1]; exact t.n9)))
  have q4 := (x13.2 se 4 lt_se (fun h => absurd h.2 (by decide))).trans q4
  have q13 := (x13.2 se 13 lt_se (fun h => absurd h.2 (by decide))).trans q13
  have q15 := (x13.2 se 15 lt_se (fun h => absurd h.2 (by decide))).trans q15
  have q16 := (x13.2 se 16 lt_se (fun h => absurd h.2 (by decide))).trans q16
  have hX := hX.tr x13 (fun b j _ h => .inl ⟨h.1, by have h := h.2; omega⟩)
  have lt_se := Nat.lt_of_lt_of_le lt_se x13.1
  have q9 := e13
  refine hs_aload (i := 0) (p := 17) (by decide +kernel) rfl ?_
  refine hs_iload (i := 4) (p := 19) (by decide +kernel) rfl ?_
  refine hs_k (x := Int32.ofNat 31) (p := 21) (by decide +kernel) ?_
  refine hs_math (mi := 311) (lk := 6) (p := 24) (by decide +kernel) rfl rfl rfl rfl ?_
  rw [e31]
  have hHo := hH
  refine hf_put (T := et_TT) (t := 9) (ci := 7) (f := 12) (p := 27) (ty := .int) (by decide +kernel) rfl rfl rfl rfl rfl hH k_se (hi_nv (by omega) (by omega)) (fun G24 hH x24 e24 => ?_)
  have hbg := hbg.xs t t9 k_s0 k_la k_ly hHo x24 (fun b j t9 kb h => by rw [h.1, k_se] at kb; cases kb; exact .inr ⟨rfl, by have h := h.2; omega⟩)
  have hsR := hbg.1
  have hv := hbg.2.1
  have g2 := hbg.2.2.1
  have hcc := hbg.2.2.2.1
  have q6 := hbg.2.2.2.2.1
  have q7 := hbg.2.2.2.2.2
  have hc := And.intro ((x24.2 se 5 lt_se (fun h => absurd h.2 (by decide))).trans hc.1) (hc.2.xs hW t hHo x24 (fun b j h h1 h2 => absurd (And.intro h1 h2) (by rw [h.1]; exact t.n9)))
  have q4 := (x24.2 se 4 lt_se (fun h => absurd h.2 (by decide))).trans q4
  have q9 := (x24.2 se 9 lt_se (fun h => absurd h.2 (by decide))).trans q9
  have q13 := (x24.2 se 13 lt_se (fun h => absurd h.2 (by decide))).trans q13
  have q15 := (x24.2 se 15 lt_se (fun h => absurd h.2 (by decide))).trans q15
  have q16 := (x24.2 se 16 lt_se (fun h => absurd h.2 (by decide))).trans q16
  have hX := hX.tr x24 (fun b j _ h => .inl ⟨h.1, by have h := h.2; omega⟩)
  have lt_se := Nat.lt_of_lt_of_le lt_se x24.1
  have q12 := e24
  refine hs_aload (i := 0) (p := 28) (by decide +kernel) rfl ?_
  refine hs_aload (i := 1) (p := 29) (by decide +kernel) rfl ?_
  refine hs_aload (i := 2) (p := 30) (by decide +kernel) rfl ?_
  refine hs_k (x := Int32.ofNat 1) (p := 31) (by decide +kernel) ?_
  refine ht_callv (T := et_TT) (t := 9) (mi := 100) (na := 3) (ci := 7) (lk := 6) (lm := 5) (L0 := eg_en (eg_mL 100) [.ref se, .ref e, .ref s0, .int (Int32.ofNat 1)]) (by decide +kernel) rfl hH k_se rfl rfl rfl rfl rfl (by rw [show eg_mL 100 = 5 from by decide +kernel]; first | done | rfl) ?_
  have hHo := hH
  refine (fd_ac (L := (pxL X (prL Y nc nc))) hH t t9 k_s0 k_la k_ly hbg (by omega) (by decide) hc.1 hc.2 (by omega)).mono (fun u9 hu9 => xw_cb hu9 (fun G31 v2 hH x31 hP2 => ?_))
  obtain ⟨rfl, hbg, hc⟩ := hP2
  have hsR := hbg.1
  have hv := hbg.2.1
  have g2 := hbg.2.2.1
  have hcc := hbg.2.2.2.1
  have q6 := hbg.2.2.2.2.1
  have q7 := hbg.2.2.2.2.2
  have q4 := (x31.2 se 4 lt_se (fun h => by rcases h with h | h; exact absurd h.2 (by decide); exact t.n9 h)).trans q4
  have q9 := (x31.2 se 9 lt_se (fun h => by rcases h with h | h; exact absurd h.2 (by decide); exact t.n9 h)).trans q9
  have q12 := (x31.2 se 12 lt_se (fun h => by rcases h with h | h; exact absurd h.2 (by decide); exact t.n9 h)).trans q12
  have q13 := (x31.2 se 13 lt_se (fun h => by rcases h with h | h; exact absurd h.2 (by decide); exact t.n9 h)).trans q13
  have q15 := (x31.2 se 15 lt_se (fun h => by rcases h with h | h; exact absurd h.2 (by decide); exact t.n9 h)).trans q15
  have q16 := (x31.2 se 16 lt_se (fun h => by rcases h with h | h; exact absurd h.2 (by decide); exact t.n9 h)).trans q16
  have hX := hX.tr x31 (fun b j _ h => by
    rcases h with h | h
    · exact .inl ⟨h.1, by have h := h.2; omega⟩
    · exact .inr (.inl (t.a45 h.1 h.2)))
  have lt_se := Nat.lt_of_lt_of_le lt_se x31.1
  show et_go none _ 99 34 _ [] _ _ _ _
  refine hs_aload (i := 0) (p := 35) (by decide +kernel) rfl ?_
  refine hs_aload (i := 0) (p := 36) (by decide +kernel) rfl ?_
  refine hf_get (T := et_TT) (t := 9) (ci := 7) (f := 5) (p := 39) (by decide +kernel) rfl hH k_se hc.1 ?_
  have hHo := hH
  refine hf_put (T := et_TT) (t := 9) (ci := 7) (f := 10) (p := 42) (ty := .int) (by decide +kernel) rfl rfl rfl rfl rfl hH k_se (hi_nv (by omega) (by omega)) (fun G39 hH x39 e39 => ?_)
  have hbg := hbg.xs t t9 k_s0 k_la k_ly hHo x39 (fun b j t9 kb h => by rw [h.1, k_se] at kb; cases kb; exact .inr ⟨rfl, by have h := h.2; omega⟩)
  have hsR := hbg.1
  have hv := hbg.2.1
  have g2 := hbg.2.2.1
  have hcc := hbg.2.2.2.1
  have q6 := hbg.2.2.2.2.1
  have q7 := hbg.2.2.2.2.2
  have hc := And.intro ((x39.2 se 5 lt_se (fun h => absurd h.2 (by decide))).trans hc.1) (hc.2.xs hW t hHo x39 (fun b j h h1 h2 => absurd (And.intro h1 h2) (by rw [h.1]; exact t.n9)))
  have q4 := (x39.2 se 4 lt_se (fun h => absurd h.2 (by decide))).trans q4
  have q9 := (x39.2 se 9 lt_se (fun h => absurd h.2 (by decide))).trans q9
  have q12 := (x39.2 se 12 lt_se (fun h => absurd h.2 (by decide))).trans q12
  have q13 := (x39.2 se 13 lt_se (fun h => absurd h.2 (by decide))).trans q13
  have q15 := (x39.2 se 15 lt_se (fun h => absurd h.2 (by decide))).trans q15
  have q16 := (x39.2 se 16 lt_se (fun h => absurd h.2 (by decide))).trans q16
  have hX := hX.tr x39 (fun b j _ h => .inl ⟨h.1, by have h := h.2; omega⟩)
  have lt_se := Nat.lt_of_lt_of_le lt_se x39.1
  have q10 := e39
  refine hs_aload (i := 0) (p := 43) (by decide +kernel) rfl ?_
  refine hs_aload (i := 1) (p := 44) (by decide +kernel) rfl ?_
  refine hs_aload (i := 2) (p := 45) (by decide +kernel) rfl ?_
  refine hs_k (x := Int32.ofNat 0) (p := 46) (by decide +kernel) ?_
  refine ht_callv (T := et_TT) (t := 9) (mi := 100) (na := 3) (ci := 7) (lk := 6) (lm := 5) (L0 := eg_en (eg_mL 100) [.ref se, .ref e, .ref s0, .int (Int32.ofNat 0)]) (by decide +kernel) rfl hH k_se rfl rfl rfl rfl rfl (by rw [show eg_mL 100 = 5 from by decide +kernel]; first | done | rfl) ?_
  have hHo := hH
  refine (fd_ac (L := (pxL X (prL Y nc nc) ++ oxL X (bcL Y 1 nc))) hH t t9 k_s0 k_la k_ly hbg (by omega) (by decide) hc.1 hc.2 (by omega)).mono (fun u9 hu9 => xw_cb hu9 (fun G46 v2 hH x46 hP2 => ?_))
  obtain ⟨rfl, hbg, hc⟩ := hP2
  have hsR := hbg.1
  have hv := hbg.2.1
  have g2 := hbg.2.2.1
  have hcc := hbg.2.2.2.1
  have q6 := hbg.2.2.2.2.1
  have q7 := hbg.2.2.2.2.2
  have q4 := (x46.2 se 4 lt_se (fun h => by rcases h with h | h; exact absurd h.2 (by decide); exact t.n9 h)).trans q4
  have q9 := (x46.2 se 9 lt_se (fun h => by rcases h with h | h; exact absurd h.2 (by decide); exact t.n9 h)).trans q9
  have q10 := (x46.2 se 10 lt_se (fun h => by rcases h with h | h; exact absurd h.2 (by decide); exact t.n9 h)).trans q10
  have q12 := (x46.2 se 12 lt_se (fun h => by rcases h with h | h; exact absurd h.2 (by decide); exact t.n9 h)).trans q12
  have q13 := (x46.2 se 13 lt_se (fun h => by rcases h with h | h; exact absurd h.2 (by decide); exact t.n9 h)).trans q13
  have q15 := (x46.2 se 15 lt_se (fun h => by rcases h with h | h; exact absurd h.2 (by decide); exact t.n9 h)).trans q15
  have q16 := (x46.2 se 16 lt_se (fun h => by rcases h with h | h; exact absurd h.2 (by decide); exact t.n9 h)).trans q16
  have hX := hX.tr x46 (fun b j _ h => by
    rcases h with h | h
    · exact .inl ⟨h.1, by have h := h.2; omega⟩
    · exact .inr (.inl (t.a45 h.1 h.2)))
  have lt_se := Nat.lt_of_lt_of_le lt_se x46.1
  show et_go none _ 99 49 _ [] _ _ _ _
  refine hs_aload (i := 0) (p := 50) (by decide +kernel) rfl ?_
  refine hs_aload (i := 0) (p := 51) (by decide +kernel) rfl ?_
  refine hf_get (T := et_TT) (t := 9) (ci := 7) (f := 5) (p := 54) (by decide +kernel) rfl hH k_se hc.1 ?_
  have hHo := hH
  refine hf_put (T := et_TT) (t := 9) (ci := 7) (f := 11) (p := 57) (ty := .int) (by decide +kernel) rfl rfl rfl rfl rfl hH k_se (hi_nv (by omega) (by omega)) (fun G54 hH x54 e54 => ?_)
  have hbg := hbg.xs t t9 k_s0 k_la k_ly hHo x54 (fun b j t9 kb h => by rw [h.1, k_se] at kb; cases kb; exact .inr ⟨rfl, by have h := h.2; omega⟩)
  have hsR := hbg.1
  have hv := hbg.2.1
  have g2 := hbg.2.2.1
  have hcc := hbg.2.2.2.1
  have q6 := hbg.2.2.2.2.1
  have q7 := hbg.2.2.2.2.2
  have hc := And.intro ((x54.2 se 5 lt_se (fun h => absurd h.2 (by decide))).trans hc.1) (hc.2.xs hW t hHo x54 (fun b j h h1 h2 => absurd (And.intro h1 h2) (by rw [h.1]; exact t.n9)))
  have q4 := (x54.2 se 4 lt_se (fun h => absurd h.2 (by decide))).trans q4
  have q9 := (x54.2 se 9 lt_se (fun h => absurd h.2 (by decide))).trans q9
  have q10 := (x54.2 se 10 lt_se (fun h => absurd h.2 (by decide))).trans q10
  have q12 := (x54.2 se 12 lt_se (fun h => absurd h.2 (by decide))).trans q12
  have q13 := (x54.2 se 13 lt_se (fun h => absurd h.2 (by decide))).trans q13
  have q15 := (x54.2 se 15 lt_se (fun h => absurd h.2 (by decide))).trans q15
  have q16 := (x54.2 se 16 lt_se (fun h => absurd h.2 (by decide))).trans q16
  have hX := hX.tr x54 (fun b j _ h => .inl ⟨h.1, by have h := h.2; omega⟩)
  have lt_se := Nat.lt_of_lt_of_le lt_se x54.1
  have q11 := e54
  refine hs_k (x := Int32.ofNat 0) (p := 58) (by decide +kernel) ?_
  refine hs_istore (i := 5) (p := 60) (by decide +kernel) (Nat.le_of_ble_eq_true rfl) ?_
  have hc0 : et_pl (eg_at G54 se) 5 = some (.int (Int32.ofNat ((pxL X (prL Y nc nc) ++ oxL X (bcL Y 1 nc) ++ oxL X (bcL Y 0 nc)) ++ axL 0).length)) ∧ coR G54 tA v.1 v.2.1 v.2.2.1 ((pxL X (prL Y nc nc) ++ oxL X (bcL Y 1 nc) ++ oxL X (bcL Y 0 nc)) ++ axL 0) := by rw [show (pxL X (prL Y nc nc) ++ oxL X (bcL Y 1 nc) ++ oxL X (bcL Y 0 nc)) ++ axL 0 = (pxL X (prL Y nc nc) ++ oxL X (bcL Y 1 nc) ++ oxL X (bcL Y 0 nc)) from List.append_nil (pxL X (prL Y nc nc) ++ oxL X (bcL Y 1 nc) ++ oxL X (bcL Y 0 nc))]; exact hc
  refine fd_eaL (d := d + 9) (c := 0) (P := (pxL X (prL Y nc nc)).length) (n10 := (pxL X (prL Y nc nc) ++ oxL X (bcL Y 1 nc)).length) (n11 := (pxL X (prL Y nc nc) ++ oxL X (bcL Y 1 nc) ++ oxL X (bcL Y 0 nc)).length) (L := (pxL X (prL Y nc nc) ++ oxL X (bcL Y 1 nc) ++ oxL X (bcL Y 0 nc))) hH hH t t9 k_s0 k_la k_ly k_sy hbg q4 q9 q10 q11 q12 q13 q15 q16 (by omega) has xf.rf (fun m hm => absurd hm (Nat.not_lt_zero m)) hc0 (Nat.zero_le as_) (fun G9 hH9 x9 hbg hq hz hc => ?_)
  have hH := hH9
  obtain ⟨q4, q9, q10, q11, q12, q13, q15, q16⟩ := hq
  have hsR := hbg.1
  have hv := hbg.2.1
  have g2 := hbg.2.2.1
  have hcc := hbg.2.2.2.1
  have q6 := hbg.2.2.2.2.1
  have q7 := hbg.2.2.2.2.2
  have hc : et_pl (eg_at G9 se) 5 = some (.int (Int32.ofNat (rcL X Y nc as_).length)) ∧ coR G9 tA v.1 v.2.1 v.2.2.1 (rcL X Y nc as_) := hc
  have hX := hX.tr x9 (fun b j _ h => by
    rcases h with h | h | h
    · exact .inl ⟨h.1, by have h := h.2; omega⟩
    · exact .inr (.inl (t.a45 h.1 h.2))
    · exact .inr (.inr (.inr (.inr h))))
  refine hs_aload (i := 0) (p := 111) (by decide +kernel) rfl ?_
  refine ht_callv (T := et_TT) (t := 9) (mi := 93) (na := 0) (ci := 7) (lk := 6) (lm := 4) (L0 := eg_en (eg_mL 93) [.ref se]) (by decide +kernel) rfl hH k_se rfl rfl rfl rfl rfl (by rw [show eg_mL 93 = 4 from by decide +kernel]; first | done | rfl) ?_
  have hru : ruI G9 se tA tR tS td be sy (pxL X (prL Y nc nc)).length (rcL X Y nc as_).length v.1 k v.2.1 v.2.2.1 (rcL X Y nc as_) := ⟨hsR, ⟨q4, hc.1, q6, q7, q15⟩, hc.2⟩
  have hJ0 : rdJ v X Y nc k as_ (pxL X (prL Y nc nc)).length (bcL Y 1 nc).length (bcL Y 0 nc).length se sy 0 G9 := ⟨⟨q9, by rw [← hl1]; exact q10, by rw [← hl1, ← hl2]; exact q11, q12, q15⟩, q16, hz⟩
  refine (fd_run (J := rdJ v X Y nc k as_ (pxL X (prL Y nc nc)).length (bcL Y 1 nc).length (bcL Y 0 nc).length se sy) t hW hk (by omega) (by omega) rfl (fun n G G' h h1 h2 => rdJ.f t h h1 h2) (fun n G h => rdJ.l hk hW h) (fun w p r c G h1 h2 h3 h4 => rdJ.cc hk hW h1 h2 h3 h4) (fd_takeR t hW hk hkd hnz hY1 (by omega) has) hH hru hJ0 (by omega)).mono (fun u9 hu9 => xw_cb hu9 (fun G111 v3 hH x111 hP3 => ?_))
  obtain ⟨rfl, hJ⟩ := hP3
  have hX := hX.tr x111 (fun b j _ h => by
    rcases h with ⟨h1, h2⟩ | ⟨h1, h2⟩ | h1 | ⟨h1, h2⟩ | h1 | h1
    · exact .inr (.inl (t.rR h1 h2))
    · exact .inr (.inl (t.rS h1 h2))
    · exact .inr (.inr (.inl h1))
    · exact .inl ⟨h1, by omega⟩
    · exact .inr (.inr (.inr (.inl h1)))
    · exact .inr (.inr (.inr (.inr h1))))
  show et_go none _ 99 114 _ [] _ _ _ _
  refine hs_vret (by decide +kernel) ?_
  exact ⟨_, _, rfl, hH, hX, rfl, hJ⟩
end AJA
end
