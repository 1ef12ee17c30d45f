/-! FUNCTIONAL: how the reference goes over the bytes -/
/-- a byte with its sign -/
def sx (x : Nat) : Int32 := if x < 128 then Int32.ofNat x else Int32.ofInt ((x : Int) - 256)
theorem sx_t {x : Nat} (h : x < 256) : (sx x).toInt = if x < 128 then (x : Int) else (x : Int) - 256 := by
  have h0 : ∀ x ∈ List.range 256, (sx x).toInt = if x < 128 then (x : Int) else (x : Int) - 256 := by decide +kernel
  exact h0 x (List.mem_range.mpr h)
theorem sx_n {x : Nat} (h : x < 128) : sx x = Int32.ofNat x := if_pos h
theorem sx_eq {x c : Nat} (h : x < 256) (hc : c < 128) : sx x = Int32.ofNat c ↔ x = c := by
  constructor
  · intro e
    have e1 := congrArg Int32.toInt e
    rw [sx_t h, hs_nint (by omega)] at e1
    split at e1 <;> omega
  · intro e
    rw [e, sx_n hc]
/-- behind blanks -/
def tz_sk (b : Nat → Nat) : Nat → Nat → Nat
  | 0, p => p
  | k + 1, p => if b p = 32 then tz_sk b k (p + 1) else p
def skp (b : Nat → Nat) (n p : Nat) : Nat := tz_sk b (n - p) p
/-- a place that is not within a word or NUMBER -/
def tal (b : Nat → Nat) (n p : Nat) : Prop := p ≤ n ∧ tz_go b n p = false
theorem skp_y {b : Nat → Nat} {n p : Nat} (h : p < n) (h1 : b p = 32) : skp b n p = skp b n (p + 1) := by
  unfold skp
  obtain ⟨k, hk⟩ : ∃ k, n - p = k + 1 := ⟨n - p - 1, by omega⟩
  rw [hk, show n - (p + 1) = k by omega]
  exact if_pos h1
theorem skp_n {b : Nat → Nat} {n p : Nat} (h : ¬ (p < n ∧ b p = 32)) : skp b n p = p := by
  unfold skp
  by_cases h1 : p < n
  · obtain ⟨k, hk⟩ : ∃ k, n - p = k + 1 := ⟨n - p - 1, by omega⟩
    rw [hk]
    exact if_neg (fun h2 => h ⟨h1, h2⟩)
  · rw [show n - p = 0 by omega]
    rfl
theorem go_sp {b : Nat → Nat} {n p : Nat} (h : b p = 32) : tz_go b n (p + 1) = false := by
  refine Bool.eq_false_iff.mpr (fun hg => ?_)
  have h1 := (tz_go_iff.mp hg).2.2
  rw [Nat.add_sub_cancel, h] at h1
  rcases h1 with ⟨h1, -⟩ | ⟨h1, -⟩ <;> exact absurd h1 (by decide)
theorem go_n {b : Nat → Nat} {n p : Nat} (h : n ≤ p) : tz_go b n p = false := Bool.eq_false_iff.mpr (fun hg => by
  have := (tz_go_iff.mp hg).2.1
  omega)
theorem tz_bg_add {b : Nat → Nat} {n : Nat} : ∀ (k m p : Nat), tz_bg b n (k + m) p = tz_bg b n k p ++ tz_bg b n m (p + k)
  | 0, m, p => by
    rw [Nat.zero_add]
    rfl
  | k + 1, m, p => by
    rw [show k + 1 + m = (k + m) + 1 by omega]
    have h := tz_bg_add (b := b) (n := n) k m (p + 1)
    rw [show p + 1 + k = p + (k + 1) by omega] at h
    show (if tz_st b n p = true then p :: tz_bg b n (k + m) (p + 1) else tz_bg b n (k + m) (p + 1)) = (if tz_st b n p = true then p :: tz_bg b n k (p + 1) else tz_bg b n k (p + 1)) ++ _
    rw [h]
    split <;> rfl
theorem tz_bg_0 {b : Nat → Nat} {n : Nat} : ∀ (k p : Nat), (∀ q, p ≤ q → q < p + k → tz_st b n q = false) → tz_bg b n k p = []
  | 0, _, _ => rfl
  | k + 1, p, h => by
    show (if tz_st b n p = true then p :: tz_bg b n k (p + 1) else tz_bg b n k (p + 1)) = []
    rw [h p (Nat.le_refl _) (by omega)]
    exact tz_bg_0 k (p + 1) (fun q h1 h2 => h q (by omega) (by omega))
theorem tz_en_go {b : Nat → Nat} {n : Nat} : ∀ (k e : Nat), ∀ q, e ≤ q → q < tz_en b n k e → tz_go b n q = true
  | 0, e, q, h1, h2 => by
    have h2 : q < e := h2
    omega
  | k + 1, e, q, h1, h2 => by
    by_cases g : tz_go b n e = true
    · have h3 : tz_en b n (k + 1) e = tz_en b n k (e + 1) := by
        show (if tz_go b n e = true then _ else _) = _
        rw [if_pos g]
      rw [h3] at h2
      by_cases he : q = e
      · rw [he]
        exact g
      · exact tz_en_go k (e + 1) q (by omega) h2
    · rw [tz_en_t (by simpa using g)] at h2
      omega
theorem tz_en_al {b : Nat → Nat} {n : Nat} : ∀ (k e : Nat), n ≤ e + k → tz_go b n (tz_en b n k e) = false
  | 0, e, h => show tz_go b n e = false from go_n (by omega)
  | k + 1, e, h => by
    by_cases g : tz_go b n e = true
    · have h3 : tz_en b n (k + 1) e = tz_en b n k (e + 1) := by
        show (if tz_go b n e = true then _ else _) = _
        rw [if_pos g]
      rw [h3]
      exact tz_en_al k (e + 1) (by omega)
    · rw [tz_en_t (by simpa using g)]
      simpa using g
theorem tal_end {b : Nat → Nat} {n q : Nat} (h : q < n) : tal b n (tz_end b n q) := ⟨(tz_end_le h).2, tz_en_al _ _ (by omega)⟩
theorem skp_al {b : Nat → Nat} {n : Nat} : ∀ {k p : Nat}, n - p = k → tal b n p → p ≤ skp b n p ∧ tal b n (skp b n p) ∧ (skp b n p < n → ¬ b (skp b n p) = 32)
  | 0, p, hk, h => by
    rw [skp_n (by omega)]
    exact ⟨Nat.le_refl _, h, fun h1 => by omega⟩
  | k + 1, p, hk, h => by
    by_cases h1 : b p = 32
    · rw [skp_y (by omega) h1]
      have := skp_al (b := b) (n := n) (k := k) (p := p + 1) (by omega) ⟨by omega, go_sp h1⟩
      exact ⟨by omega, this.2⟩
    · rw [skp_n (fun h2 => h1 h2.2)]
      exact ⟨Nat.le_refl _, h, fun _ => h1⟩
theorem ts_n {pl n p : Nat} {b : Nat → Nat} (h : n ≤ p) : tz_ts pl b n p = [] := by
  unfold tz_ts
  rw [show n - p = 0 by omega]
  rfl
theorem ts_sp {pl n p : Nat} {b : Nat → Nat} (h : p < n) (h1 : b p = 32) : tz_ts pl b n p = tz_ts pl b n (p + 1) := by
  unfold tz_ts
  obtain ⟨k, hk⟩ : ∃ k, n - p = k + 1 := ⟨n - p - 1, by omega⟩
  rw [hk, show n - (p + 1) = k by omega]
  congr 1
  show (if tz_st b n p = true then _ else _) = _
  rw [if_neg]
  unfold tz_st
  rw [h1]
  simp
theorem ts_sk {pl n : Nat} {b : Nat → Nat} : ∀ {k p : Nat}, n - p = k → tz_ts pl b n p = tz_ts pl b n (skp b n p)
  | 0, p, hk => by rw [skp_n (by omega)]
  | k + 1, p, hk => by
    by_cases h1 : b p = 32
    · rw [skp_y (by omega) h1, ts_sp (by omega) h1]
      exact ts_sk (k := k) (by omega)
    · rw [skp_n (fun h2 => h1 h2.2)]
theorem ts_c {pl n q : Nat} {b : Nat → Nat} (h : q < n) (ha : tz_go b n q = false) (h1 : ¬ b q = 32) : tz_ts pl b n q = tz_tk pl b n q :: tz_ts pl b n (tz_end b n q) := by
  have he := tz_end_le (b := b) h
  unfold tz_ts
  rw [show n - q = 1 + ((tz_end b n q - (q + 1)) + (n - tz_end b n q)) by omega, tz_bg_add, tz_bg_add, tz_bg_0 (tz_end b n q - (q + 1)) (q + 1) (fun r h2 h3 => ?_), show q + 1 + (tz_end b n q - (q + 1)) = tz_end b n q by omega, List.nil_append]
  · have h4 : tz_bg b n 1 q = [q] := by
      show (if tz_st b n q = true then _ else _) = _
      rw [if_pos]
      · rfl
      · unfold tz_st
        rw [beq_eq_false_iff_ne.mpr h1, ha]
        rfl
    rw [h4]
    rfl
  · unfold tz_st
    rw [tz_en_go (n - (q + 1)) (q + 1) r h2 (show r < tz_end b n q by omega)]
    simp
/-- letters that go on -/
theorem end_l {b : Nat → Nat} {n : Nat} : ∀ (k e : Nat), 0 < e → tz_l (b (e - 1)) = true → ∀ r, e ≤ r → r < tz_en b n k e → tz_l (b r) = true
  | 0, e, _, _, r, h1, h2 => by
    have h2 : r < e := h2
    omega
  | k + 1, e, h0, h, r, h1, h2 => by
    by_cases g : tz_go b n e = true
    · have h3 : tz_en b n (k + 1) e = tz_en b n k (e + 1) := by
        show (if tz_go b n e = true then _ else _) = _
        rw [if_pos g]
      have hd : tz_l (b e) = true := by
        rcases (tz_go_iff.mp g).2.2 with h4 | h4
        · exact h4.2
        · have a := tz_d_iff.mp h4.1
          have c := tz_l_iff.mp h
          omega
      rw [h3] at h2
      by_cases he : r = e
      · rw [he]
        exact hd
      · exact end_l k (e + 1) (by omega) (by rw [Nat.add_sub_cancel]; exact hd) r (by omega) h2
    · rw [tz_en_t (by simpa using g)] at h2
      omega
/-- one place more of a run: letters -/
theorem end_lr {b : Nat → Nat} {n q e : Nat} (h : q < n) (hl : tz_l (b q) = true) (h1 : q ≤ e) (h2 : e ≤ tz_end b n q) (h3 : 0 < e - q) : (e < n ∧ tz_l (b e) = true) ↔ e < tz_end b n q := by
  have hlast : tz_l (b (e - 1)) = true := by
    by_cases hq : e - 1 = q
    · rw [hq]
      exact hl
    · exact end_l (n := n) (n - (q + 1)) (q + 1) (by omega) (by rw [Nat.add_sub_cancel]; exact hl) (e - 1) (by omega) (show e - 1 < tz_end b n q by omega)
  constructor
  · rintro ⟨h4, h5⟩
    have hg : tz_go b n e = true := tz_go_iff.mpr ⟨by omega, h4, .inl ⟨hlast, h5⟩⟩
    have ha := (tal_end (b := b) h).2
    by_cases he : e = tz_end b n q
    · rw [← he, hg] at ha
      cases ha
    · omega
  · intro h4
    have hg := tz_en_go _ _ e (by omega) (show e < tz_en b n (n - (q + 1)) (q + 1) from h4)
    have hn := (tz_end_le (b := b) h).2
    exact ⟨by omega, end_l (n := n) (n - (q + 1)) (q + 1) (by omega) (by rw [Nat.add_sub_cancel]; exact hl) e (by omega) h4⟩
theorem end_dr {b : Nat → Nat} {n q e : Nat} (h : q < n) (hl : tz_d (b q) = true) (h1 : q ≤ e) (h2 : e ≤ tz_end b n q) (h3 : 0 < e - q) : (e < n ∧ tz_d (b e) = true) ↔ e < tz_end b n q := by
  have hlast : tz_d (b (e - 1)) = true := tz_end_d h hl (e - 1) (by omega) (by omega)
  constructor
  · rintro ⟨h4, h5⟩
    have hg : tz_go b n e = true := tz_go_iff.mpr ⟨by omega, h4, .inr ⟨hlast, h5⟩⟩
    have ha := (tal_end (b := b) h).2
    by_cases he : e = tz_end b n q
    · rw [← he, hg] at ha
      cases ha
    · omega
  · intro h4
    have hn := (tz_end_le (b := b) h).2
    exact ⟨by omega, tz_end_d h hl e (by omega) h4⟩
/-- a sign is alone -/
theorem end_s {b : Nat → Nat} {n q : Nat} (h1 : tz_l (b q) = false) (h2 : tz_d (b q) = false) : tz_end b n q = q + 1 := by
  unfold tz_end
  refine tz_en_t (Bool.eq_false_iff.mpr (fun hg => ?_))
  have h3 := (tz_go_iff.mp hg).2.2
  rw [Nat.add_sub_cancel, h1, h2] at h3
  rcases h3 with ⟨h3, -⟩ | ⟨h3, -⟩ <;> cases h3
theorem hf_wst2 {K : et_K} {d k pc ck sk a n p : Nat} {x : Int32} {L : eg_Ls} {r : List Value} {G : eg_G} {Z : eg_O → Prop} (hc : hs_o k pc = some (.iastore, p)) (hH : et_H et_TT K G) (ha : K a = some 46) (hn : 11900 ≤ n ∧ n < 12741) (h : ∀ G', et_H et_TT K G' → xf (fun b j => b = a ∧ j = n) G G' → et_pl (eg_at G' a) n = some (.int x) → et_go none d k p L r G' ck sk Z) : et_go none d k pc L (.int x :: .int (Int32.ofNat n) :: .ref a :: r) G ck sk Z := by
  obtain ⟨f, e, h1, hx⟩ := hi_arr hH ha et_t46 (by decide) (.inl rfl)
  have g := hi_at hH ha (by decide)
  refine hs_iast hc e g (by decide) (by omega) (h _ (hi_uarr hH ha (by decide) et_t46 (.inl rfl) (fun s hs' i i1 i2 i3 => ?_) (fun _ _ => (hx rfl (.inl rfl) _ _ e).lo (fun i i1 i2 => hs_un (by omega)))) ⟨Nat.le_refl _, fun b i hb hi => ?_⟩ ?_)
  · have := hi_w46 s hs'
    rw [hs_un (by omega)]
    exact h1 s hs' i i1 i2 i3
  · by_cases e3 : b = a
    · subst e3
      rw [et_at_us g.1, e]
      exact hf_plu (.inl rfl) (fun h => hi ⟨rfl, h⟩)
    · rw [et_at_u e3]
  · rw [et_at_us g.1, hf_pl (.inl rfl), if_pos (by omega), hs_us]
theorem sx_lt {x lo : Nat} (h : x < 256) (h1 : 1 ≤ lo) (h2 : lo < 128) : sx x < Int32.ofNat lo ↔ ¬ (lo ≤ x ∧ x < 128) := by
  rw [Int32.lt_iff_toInt_lt, sx_t h, hs_nint (by omega)]
  split <;> omega
theorem sx_gt {x hi : Nat} (h : x < 256) (h2 : hi < 128) : Int32.ofNat hi < sx x ↔ hi < x ∧ x < 128 := by
  rw [Int32.lt_iff_toInt_lt, sx_t h, hs_nint (by omega)]
  split <;> omega
/-- where letters end; where digits end -/
def lst (b : Nat → Nat) (n q : Nat) : Nat := if q < n ∧ tz_l (b q) = true then tz_end b n q else q
def dst (b : Nat → Nat) (n q : Nat) : Nat := if q < n ∧ tz_d (b q) = true then tz_end b n q else q
theorem lst_le {b : Nat → Nat} {n q : Nat} (h : q ≤ n) : q ≤ lst b n q ∧ lst b n q ≤ n := by
  unfold lst
  split
  · rename_i h1
    have := tz_end_le (b := b) h1.1
    omega
  · omega
theorem dst_le {b : Nat → Nat} {n q : Nat} (h : q ≤ n) : q ≤ dst b n q ∧ dst b n q ≤ n := by
  unfold dst
  split
  · rename_i h1
    have := tz_end_le (b := b) h1.1
    omega
  · omega
theorem lst_iff {b : Nat → Nat} {n q e : Nat} (h1 : q ≤ e) (h2 : e ≤ lst b n q) : (e < n ∧ 97 ≤ b e ∧ b e ≤ 122) ↔ e < lst b n q := by
  have hd : (97 ≤ b e ∧ b e ≤ 122) ↔ tz_l (b e) = true := tz_l_iff.symm
  rw [hd]
  unfold lst at h2 ⊢
  by_cases h : q < n ∧ tz_l (b q) = true
  · rw [if_pos h] at h2 ⊢
    by_cases he : e = q
    · rw [he]
      have := tz_end_le (b := b) h.1
      exact ⟨fun _ => this.1, fun _ => h⟩
    · exact end_lr h.1 h.2 h1 h2 (by omega)
  · rw [if_neg h] at h2 ⊢
    obtain rfl : e = q := by omega
    exact ⟨fun h3 => absurd h3 h, fun h3 => by omega⟩
theorem dst_iff {b : Nat → Nat} {n q e : Nat} (h1 : q ≤ e) (h2 : e ≤ dst b n q) : (e < n ∧ 48 ≤ b e ∧ b e ≤ 57) ↔ e < dst b n q := by
  have hd : (48 ≤ b e ∧ b e ≤ 57) ↔ tz_d (b e) = true := tz_d_iff.symm
  rw [hd]
  unfold dst at h2 ⊢
  by_cases h : q < n ∧ tz_d (b q) = true
  · rw [if_pos h] at h2 ⊢
    by_cases he : e = q
    · rw [he]
      have := tz_end_le (b := b) h.1
      exact ⟨fun _ => this.1, fun _ => h⟩
    · exact end_dr h.1 h.2 h1 h2 (by omega)
  · rw [if_neg h] at h2 ⊢
    obtain rfl : e = q := by omega
    exact ⟨fun h3 => absurd h3 h, fun h3 => by omega⟩
theorem tz_nu_snoc {b : Nat → Nat} : ∀ (k i v : Nat), tz_nu b (k + 1) i v = 10 * tz_nu b k i v + b (i + k) - 48
  | 0, i, v => rfl
  | k + 1, i, v => by
    have h := tz_nu_snoc (b := b) k (i + 1) (10 * v + b i - 48)
    rw [show i + 1 + k = i + (k + 1) by omega] at h
    exact h

section FSA
variable {K : et_K} {G G0 : eg_G} {b : Nat → Nat} {d2 d am tm n p lo hi q e j c : Nat}
theorem skp_le {b : Nat → Nat} {n : Nat} : ∀ {p : Nat}, p ≤ n → p ≤ skp b n p ∧ skp b n p ≤ n := by
  intro p h
  have h1 : ∀ k p, p ≤ tz_sk b k p ∧ tz_sk b k p ≤ p + k := by
    intro k
    induction k with
    | zero => intro p; exact ⟨Nat.le_refl _, Nat.le_refl _⟩
    | succ k ih =>
      intro p
      unfold tz_sk
      split
      · have := ih (p + 1)
        omega
      · omega
  have := h1 (n - p) p
  unfold skp
  omega
theorem fm_isAt (hH : et_H et_TT K G) (k_am : K am = some 13) (m4 : et_pl (eg_at G am) 4 = some (.ref tm)) (k_tm : K tm = some 34) (m7 : et_pl (eg_at G am) 7 = some (.int (Int32.ofNat n))) (hn : n ≤ 400) (ht : ∀ i, i < n → et_pl (eg_at G tm) i = some (.int (sx (b i)))) (hb : ∀ i, i < n → b i < 256) (m6 : et_pl (eg_at G am) 6 = some (.int (Int32.ofNat p))) (hp4 : p ≤ 400) (h1 : 1 ≤ lo) (h2 : lo < 128) (h3 : hi < 128) : et_go none d2 185 0 (eg_en (eg_mL 185) [.ref am, .int (Int32.ofNat lo), .int (Int32.ofNat hi)]) [] G 0 0 (xp_Z G (some (.int (Int32.ofNat (if p < n ∧ lo ≤ b p ∧ b p ≤ hi then 1 else 0))))) := by
  rw [show eg_mL 185 = 3 from by decide +kernel]
  show et_go none d2 185 0 [some (.ref am), some (.int (Int32.ofNat lo)), some (.int (Int32.ofNat hi))] [] G 0 0 _
  refine hs_aload (i := 0) (p := 1) (by decide +kernel) rfl ?_
  refine hf_get (T := et_TT) (t := 13) (ci := 11) (f := 6) (p := 4) (by decide +kernel) rfl hH k_am m6 ?_
  refine hs_aload (i := 0) (p := 5) (by decide +kernel) rfl ?_
  refine hf_get (T := et_TT) (t := 13) (ci := 11) (f := 7) (p := 8) (by decide +kernel) rfl hH k_am m7 ?_
  refine hs_br2n (c := .ge) (t := 41) (f := 11) (by decide +kernel) (by omega) (by omega) (fun (c8 : n ≤ p) => ?_) (fun (c8 : ¬ (n ≤ p)) => ?_)
  · refine hs_k (x := Int32.ofNat 0) (p := 42) (by decide +kernel) ?_
    refine hs_zret (by decide +kernel) (.inl rfl) ?_
    rw [if_neg (fun h => by omega)]
    rfl
  · refine hs_aload (i := 0) (p := 12) (by decide +kernel) rfl ?_
    refine hf_get (T := et_TT) (t := 13) (ci := 11) (f := 4) (p := 15) (by decide +kernel) rfl hH k_am m4 ?_
    refine hs_aload (i := 0) (p := 16) (by decide +kernel) rfl ?_
    refine hf_get (T := et_TT) (t := 13) (ci := 11) (f := 6) (p := 19) (by decide +kernel) rfl hH k_am m6 ?_
    refine hf_ald (ins := .baload) (T := et_TT) (t := 34) (kd := 1) (N := 400) (p := 20) (by decide +kernel) (fun _ _ _ _ _ _ _ _ _ _ => rfl) rfl rfl rfl hH k_tm (by decide) (ht p (by omega)) ?_
    refine hs_iload (i := 1) (p := 21) (by decide +kernel) rfl ?_
    refine hs_br2 (c := .lt) (t := 41) (f := 24) (by decide +kernel) (fun (c21 : (sx (b p)) < Int32.ofNat lo) => ?_) (fun (c21 : ¬ ((sx (b p)) < Int32.ofNat lo)) => ?_)
    · rw [sx_lt (hb p (by omega)) (by omega) (by omega)] at c21
      have hbp := hb p (by omega)
      refine hs_k (x := Int32.ofNat 0) (p := 42) (by decide +kernel) ?_
      refine hs_zret (by decide +kernel) (.inl rfl) ?_
      rw [if_neg (fun h => by omega)]
      rfl
    · rw [sx_lt (hb p (by omega)) (by omega) (by omega)] at c21
      have hbp := hb p (by omega)
      refine hs_aload (i := 0) (p := 25) (by decide +kernel) rfl ?_
      refine hf_get (T := et_TT) (t := 13) (ci := 11) (f := 4) (p := 28) (by decide +kernel) rfl hH k_am m4 ?_
      refine hs_aload (i := 0) (p := 29) (by decide +kernel) rfl ?_
      refine hf_get (T := et_TT) (t := 13) (ci := 11) (f := 6) (p := 32) (by decide +kernel) rfl hH k_am m6 ?_
      refine hf_ald (ins := .baload) (T := et_TT) (t := 34) (kd := 1) (N := 400) (p := 33) (by decide +kernel) (fun _ _ _ _ _ _ _ _ _ _ => rfl) rfl rfl rfl hH k_tm (by decide) (ht p (by omega)) ?_
      refine hs_iload (i := 2) (p := 34) (by decide +kernel) rfl ?_
      refine hs_br2 (c := .gt) (t := 41) (f := 37) (by decide +kernel) (fun (c34 : Int32.ofNat hi < (sx (b p))) => ?_) (fun (c34 : ¬ (Int32.ofNat hi < (sx (b p)))) => ?_)
      · rw [sx_gt (hb p (by omega)) (by omega)] at c34
        have hbp := hb p (by omega)
        refine hs_k (x := Int32.ofNat 0) (p := 42) (by decide +kernel) ?_
        refine hs_zret (by decide +kernel) (.inl rfl) ?_
        rw [if_neg (fun h => by omega)]
        rfl
      · rw [sx_gt (hb p (by omega)) (by omega)] at c34
        have hbp := hb p (by omega)
        refine hs_k (x := Int32.ofNat 1) (p := 38) (by decide +kernel) ?_
        refine hs_goto (p := 42) (by decide +kernel) ?_
        refine hs_zret (by decide +kernel) (.inr rfl) ?_
        rw [if_pos ⟨by omega, by omega, by omega⟩]
        rfl
theorem fm_blL (hH : et_H et_TT K G) (k_am : K am = some 13) (m4 : et_pl (eg_at G am) 4 = some (.ref tm)) (k_tm : K tm = some 34) (m7 : et_pl (eg_at G am) 7 = some (.int (Int32.ofNat n))) (hn : n ≤ 400) (ht : ∀ i, i < n → et_pl (eg_at G tm) i = some (.int (sx (b i)))) (hb : ∀ i, i < n → b i < 256) (m6 : et_pl (eg_at G am) 6 = some (.int (Int32.ofNat p))) (hp : p ≤ n) (hX : xf (fun c j => (c = am ∧ j = 6) ∨ (c = am ∧ j = 8)) G0 G) : et_go none (d + 1) 184 0 [some (.ref am)] [] G 0 0 (xw_Z (fun c j => (c = am ∧ j = 6) ∨ (c = am ∧ j = 8)) K G0 (fun G' v => v = none ∧ et_pl (eg_at G' am) 6 = some (.int (Int32.ofNat (skp b n p))) ∧ et_pl (eg_at G' am) 8 = some (.int (Int32.ofNat (skp b n p))))) := by
  induction hm : n - p using Nat.strongRecOn generalizing p G with
  | _ z ih =>
    have lt_am := (hH.2.2 _ _ k_am).1
    have lt_tm := (hH.2.2 _ _ k_tm).1
    refine hs_aload (i := 0) (p := 1) (by decide +kernel) rfl ?_
    refine hs_k (x := Int32.ofNat 32) (p := 3) (by decide +kernel) ?_
    refine hs_k (x := Int32.ofNat 32) (p := 5) (by decide +kernel) ?_
    refine ht_callv (T := et_TT) (t := 13) (mi := 185) (na := 2) (ci := 11) (lk := 1) (lm := 3) (L0 := eg_en (eg_mL 185) [.ref am, .int (Int32.ofNat 32), .int (Int32.ofNat 32)]) (by decide +kernel) rfl hH k_am rfl rfl rfl rfl rfl (by rw [show eg_mL 185 = 3 from by decide +kernel]; first | done | rfl) ?_
    refine (fm_isAt hH k_am m4 k_tm m7 hn ht hb m6 (by omega) (by decide) (by decide) (by decide)).mono (fun u hu => xp_cb hu ?_)
    by_cases a5 : p < n ∧ 32 ≤ b p ∧ b p ≤ 32
    · rw [if_pos a5]
      show et_go none _ 184 8 _ [.int (Int32.ofNat 1)] _ _ _ _
      refine hs_if0 (c := .eq) (t := 24) (f := 11) (by decide +kernel) (show ¬ (Int32.ofNat 1 = 0) by decide) ?_
      refine hs_aload (i := 0) (p := 12) (by decide +kernel) rfl ?_
      refine hs_dup1 (p := 13) (by decide +kernel) ?_
      refine hf_get (T := et_TT) (t := 13) (ci := 11) (f := 6) (p := 16) (by decide +kernel) rfl hH k_am m6 ?_
      refine hs_k (x := Int32.ofNat 1) (p := 17) (by decide +kernel) ?_
      refine hs_iaddn (p := 18) (by decide +kernel) ?_
      refine hf_put (T := et_TT) (t := 13) (ci := 11) (f := 6) (p := 21) (ty := .int) (by decide +kernel) rfl rfl rfl rfl rfl hH k_am (hi_nv (by omega) (by omega)) (fun G18 hH x18 e18 => ?_)
      have m4 := (x18.2 am 4 lt_am (fun h => absurd h.2 (by decide))).trans m4
      have m7 := (x18.2 am 7 lt_am (fun h => absurd h.2 (by decide))).trans m7
      have ht : ∀ i, i < n → et_pl (eg_at G18 tm) i = some (.int (sx (b i))) := fun i hi => (x18.2 tm i lt_tm (fun h => (hi_ne k_tm k_am (by decide)) h.1)).trans (ht i hi)
      have lt_am := Nat.lt_of_lt_of_le lt_am x18.1
      have lt_tm := Nat.lt_of_lt_of_le lt_tm x18.1
      have hX := hX.tr x18 (fun b j hb h => by first | omega | (dsimp only at h ⊢; omega) | (dsimp only at h; omega) | (dsimp only; omega))
      refine hs_goto (p := 0) (by decide +kernel) ?_
      rw [skp_y (by omega) (by omega)]
      exact ih (n - (p + 1)) (by omega) hH m4 m7 ht e18 (by omega) hX rfl
    · rw [if_neg a5]
      show et_go none _ 184 8 _ [.int (Int32.ofNat 0)] _ _ _ _
      refine hs_if1 (c := .eq) (t := 24) (f := 11) (by decide +kernel) (show Int32.ofNat 0 = 0 by decide) ?_
      refine hs_aload (i := 0) (p := 25) (by decide +kernel) rfl ?_
      refine hs_aload (i := 0) (p := 26) (by decide +kernel) rfl ?_
      refine hf_get (T := et_TT) (t := 13) (ci := 11) (f := 6) (p := 29) (by decide +kernel) rfl hH k_am m6 ?_
      refine hf_put (T := et_TT) (t := 13) (ci := 11) (f := 8) (p := 32) (ty := .int) (by decide +kernel) rfl rfl rfl rfl rfl hH k_am (hi_nv (by omega) (by omega)) (fun G29 hH x29 e29 => ?_)
      have m4 := (x29.2 am 4 lt_am (fun h => absurd h.2 (by decide))).trans m4
      have m7 := (x29.2 am 7 lt_am (fun h => absurd h.2 (by decide))).trans m7
      have m6 := (x29.2 am 6 lt_am (fun h => absurd h.2 (by decide))).trans m6
      have ht : ∀ i, i < n → et_pl (eg_at G29 tm) i = some (.int (sx (b i))) := fun i hi => (x29.2 tm i lt_tm (fun h => (hi_ne k_tm k_am (by decide)) h.1)).trans (ht i hi)
      have lt_am := Nat.lt_of_lt_of_le lt_am x29.1
      have lt_tm := Nat.lt_of_lt_of_le lt_tm x29.1
      have hX := hX.tr x29 (fun b j hb h => by first | omega | (dsimp only at h ⊢; omega) | (dsimp only at h; omega) | (dsimp only; omega))
      refine hs_vret (by decide +kernel) ?_
      rw [skp_n (fun h => a5 ⟨h.1, by omega, by omega⟩)]
      exact ⟨_, _, rfl, hH, hX, rfl, m6, e29⟩
theorem fm_bl (hH : et_H et_TT K G) (k_am : K am = some 13) (m4 : et_pl (eg_at G am) 4 = some (.ref tm)) (k_tm : K tm = some 34) (m7 : et_pl (eg_at G am) 7 = some (.int (Int32.ofNat n))) (hn : n ≤ 400) (ht : ∀ i, i < n → et_pl (eg_at G tm) i = some (.int (sx (b i)))) (hb : ∀ i, i < n → b i < 256) (m6 : et_pl (eg_at G am) 6 = some (.int (Int32.ofNat p))) (hp : p ≤ n) (hd : 1 ≤ d2) : et_go none d2 184 0 (eg_en (eg_mL 184) [.ref am]) [] G 0 0 (xw_Z (fun c j => (c = am ∧ j = 6) ∨ (c = am ∧ j = 8)) K G (fun G' v => v = none ∧ et_pl (eg_at G' am) 6 = some (.int (Int32.ofNat (skp b n p))) ∧ et_pl (eg_at G' am) 8 = some (.int (Int32.ofNat (skp b n p))))) := by
  obtain ⟨d, rfl⟩ : ∃ d, d2 = d + 1 := ⟨d2 - 1, by omega⟩
  rw [show eg_mL 184 = 1 from by decide +kernel]
  exact fm_blL hH k_am m4 k_tm m7 hn ht hb m6 hp xf.rf
theorem fm_letL (hH : et_H et_TT K G) (k_am : K am = some 13) (m4 : et_pl (eg_at G am) 4 = some (.ref tm)) (k_tm : K tm = some 34) (m7 : et_pl (eg_at G am) 7 = some (.int (Int32.ofNat n))) (hn : n ≤ 400) (ht : ∀ i, i < n → et_pl (eg_at G tm) i = some (.int (sx (b i)))) (hb : ∀ i, i < n → b i < 256) (m6 : et_pl (eg_at G am) 6 = some (.int (Int32.ofNat e))) (m8 : et_pl (eg_at G am) 8 = some (.int (Int32.ofNat q))) (hq : q ≤ n) (h1 : q ≤ e) (h2 : e ≤ lst b n q) (hX : xf (fun c j => (c = am ∧ j = 6) ∨ (c = am ∧ j = 8)) G0 G) : et_go none (d + 2) 188 4 [some (.ref am)] [] G 0 0 (xw_Z (fun c j => (c = am ∧ j = 6) ∨ (c = am ∧ j = 8)) K G0 (fun G' v => v = none ∧ et_pl (eg_at G' am) 6 = some (.int (Int32.ofNat (lst b n q))) ∧ et_pl (eg_at G' am) 8 = some (.int (Int32.ofNat q)))) := by
  induction hm : n - e using Nat.strongRecOn generalizing e G with
  | _ z ih =>
    have hl := lst_le (b := b) hq
    have hli := lst_iff h1 h2
    have lt_am := (hH.2.2 _ _ k_am).1
    have lt_tm := (hH.2.2 _ _ k_tm).1
    refine hs_aload (i := 0) (p := 5) (by decide +kernel) rfl ?_
    refine hs_k (x := Int32.ofNat 97) (p := 7) (by decide +kernel) ?_
    refine hs_k (x := Int32.ofNat 122) (p := 9) (by decide +kernel) ?_
    refine ht_callv (T := et_TT) (t := 13) (mi := 185) (na := 2) (ci := 11) (lk := 1) (lm := 3) (L0 := eg_en (eg_mL 185) [.ref am, .int (Int32.ofNat 97), .int (Int32.ofNat 122)]) (by decide +kernel) rfl hH k_am rfl rfl rfl rfl rfl (by rw [show eg_mL 185 = 3 from by decide +kernel]; first | done | rfl) ?_
    refine (fm_isAt hH k_am m4 k_tm m7 hn ht hb m6 (by omega) (by decide) (by decide) (by decide)).mono (fun u hu => xp_cb hu ?_)
    by_cases a9 : e < n ∧ 97 ≤ b e ∧ b e ≤ 122
    · rw [if_pos a9]
      show et_go none _ 188 12 _ [.int (Int32.ofNat 1)] _ _ _ _
      refine hs_if0 (c := .eq) (t := 28) (f := 15) (by decide +kernel) (show ¬ (Int32.ofNat 1 = 0) by decide) ?_
      refine hs_aload (i := 0) (p := 16) (by decide +kernel) rfl ?_
      refine hs_dup1 (p := 17) (by decide +kernel) ?_
      refine hf_get (T := et_TT) (t := 13) (ci := 11) (f := 6) (p := 20) (by decide +kernel) rfl hH k_am m6 ?_
      refine hs_k (x := Int32.ofNat 1) (p := 21) (by decide +kernel) ?_
      refine hs_iaddn (p := 22) (by decide +kernel) ?_
      refine hf_put (T := et_TT) (t := 13) (ci := 11) (f := 6) (p := 25) (ty := .int) (by decide +kernel) rfl rfl rfl rfl rfl hH k_am (hi_nv (by omega) (by omega)) (fun G22 hH x22 e22 => ?_)
      have m4 := (x22.2 am 4 lt_am (fun h => absurd h.2 (by decide))).trans m4
      have m7 := (x22.2 am 7 lt_am (fun h => absurd h.2 (by decide))).trans m7
      have m8 := (x22.2 am 8 lt_am (fun h => absurd h.2 (by decide))).trans m8
      have ht : ∀ i, i < n → et_pl (eg_at G22 tm) i = some (.int (sx (b i))) := fun i hi => (x22.2 tm i lt_tm (fun h => (hi_ne k_tm k_am (by decide)) h.1)).trans (ht i hi)
      have lt_am := Nat.lt_of_lt_of_le lt_am x22.1
      have lt_tm := Nat.lt_of_lt_of_le lt_tm x22.1
      have hX := hX.tr x22 (fun b j hb h => by first | omega | (dsimp only at h ⊢; omega) | (dsimp only at h; omega) | (dsimp only; omega))
      refine hs_goto (p := 4) (by decide +kernel) ?_
      have hlt := hli.mp a9
      exact ih (n - (e + 1)) (by omega) hH m4 m7 ht e22 m8 (by omega) (by omega) hX rfl
    · rw [if_neg a9]
      show et_go none _ 188 12 _ [.int (Int32.ofNat 0)] _ _ _ _
      refine hs_if1 (c := .eq) (t := 28) (f := 15) (by decide +kernel) (show Int32.ofNat 0 = 0 by decide) ?_
      refine hs_vret (by decide +kernel) ?_
      have hne : ¬ e < lst b n q := fun h => a9 (hli.mpr h)
      have hee : e = lst b n q := by omega
      rw [hee] at m6
      exact ⟨_, _, rfl, hH, hX, rfl, m6, m8⟩
theorem fm_let (hH : et_H et_TT K G) (k_am : K am = some 13) (m4 : et_pl (eg_at G am) 4 = some (.ref tm)) (k_tm : K tm = some 34) (m7 : et_pl (eg_at G am) 7 = some (.int (Int32.ofNat n))) (hn : n ≤ 400) (ht : ∀ i, i < n → et_pl (eg_at G tm) i = some (.int (sx (b i)))) (hb : ∀ i, i < n → b i < 256) (m6 : et_pl (eg_at G am) 6 = some (.int (Int32.ofNat p))) (hp : p ≤ n) (hd : 2 ≤ d2) : et_go none d2 188 0 (eg_en (eg_mL 188) [.ref am]) [] G 0 0 (xw_Z (fun c j => (c = am ∧ j = 6) ∨ (c = am ∧ j = 8)) K G (fun G' v => v = none ∧ et_pl (eg_at G' am) 6 = some (.int (Int32.ofNat (lst b n (skp b n p)))) ∧ et_pl (eg_at G' am) 8 = some (.int (Int32.ofNat (skp b n p))))) := by
  obtain ⟨d, rfl⟩ : ∃ d, d2 = d + 2 := ⟨d2 - 2, by omega⟩
  rw [show eg_mL 188 = 1 from by decide +kernel]
  show et_go none (d + 2) 188 0 [some (.ref am)] [] G 0 0 _
  have lt_am := (hH.2.2 _ _ k_am).1
  have lt_tm := (hH.2.2 _ _ k_tm).1
  have hX : xf (fun c j => (c = am ∧ j = 6) ∨ (c = am ∧ j = 8)) G G := xf.rf
  refine hs_aload (i := 0) (p := 1) (by decide +kernel) rfl ?_
  refine ht_callv (T := et_TT) (t := 13) (mi := 184) (na := 0) (ci := 11) (lk := 1) (lm := 1) (L0 := eg_en (eg_mL 184) [.ref am]) (by decide +kernel) rfl hH k_am rfl rfl rfl rfl rfl (by rw [show eg_mL 184 = 1 from by decide +kernel]; first | done | rfl) ?_
  refine (fm_bl hH k_am m4 k_tm m7 hn ht hb m6 (by omega) (by omega)).mono (fun u hu => xw_cb hu (fun G1 v1 hH x1 hP1 => ?_))
  have m4 := (x1.2 am 4 lt_am (fun h => Or.elim h (fun h => absurd h.2 (by decide)) (fun h => absurd h.2 (by decide)))).trans m4
  have m7 := (x1.2 am 7 lt_am (fun h => Or.elim h (fun h => absurd h.2 (by decide)) (fun h => absurd h.2 (by decide)))).trans m7
  have ht : ∀ i, i < n → et_pl (eg_at G1 tm) i = some (.int (sx (b i))) := fun i hi => (x1.2 tm i lt_tm (fun h => Or.elim h (fun h => (hi_ne k_tm k_am (by decide)) h.1) (fun h => (hi_ne k_tm k_am (by decide)) h.1))).trans (ht i hi)
  have lt_am := Nat.lt_of_lt_of_le lt_am x1.1
  have lt_tm := Nat.lt_of_lt_of_le lt_tm x1.1
  have hX := hX.tr x1 (fun b j hb h => by first | omega | (dsimp only at h ⊢; omega) | (dsimp only at h; omega) | (dsimp only; omega))
  obtain ⟨rfl, b6_1, b8_1⟩ := hP1
  have hsk := skp_le (b := b) (n := n) (p := p) (by omega)
  show et_go none _ 188 4 _ [] _ _ _ _
  exact fm_letL hH k_am m4 k_tm m7 hn ht hb b6_1 b8_1 hsk.2 (Nat.le_refl _) (lst_le hsk.2).1 hX
theorem fm_isWL (hH : et_H et_TT K G) (k_am : K am = some 13) (m4 : et_pl (eg_at G am) 4 = some (.ref tm)) (k_tm : K tm = some 34) (m7 : et_pl (eg_at G am) 7 = some (.int (Int32.ofNat n))) (hn : n ≤ 400) (ht : ∀ i, i < n → et_pl (eg_at G tm) i = some (.int (sx (b i)))) (hb : ∀ i, i < n → b i < 256) (m6 : et_pl (eg_at G am) 6 = some (.int (Int32.ofNat e))) (m8 : et_pl (eg_at G am) 8 = some (.int (Int32.ofNat q))) {k : Nat} (hj : j < 56) (hk : k ≤ rs_n j) (hin : q + rs_n j ≤ n) : et_go none (d + 5) 190 24 [some (.ref am), some (.ref (36 + j)), some (.int (Int32.ofNat 1)), some (.int (Int32.ofNat k))] [] G 0 0 (xp_Z G (some (.int (Int32.ofNat (if tz_eq b (q + k) ((tz_by j).drop k) = true then 1 else 0))))) := by
  have hG : 152 ≤ G.2 := hH.1
  have hrn := rs_nlt (j := j)
  induction hm : rs_n j - k using Nat.strongRecOn generalizing k with
  | _ z ih =>
    refine hs_iload (i := 2) (p := 25) (by decide +kernel) rfl ?_
    refine hs_if0 (c := .eq) (t := 67) (f := 28) (by decide +kernel) (show ¬ (Int32.ofNat 1 = 0) by decide) ?_
    refine hs_iload (i := 3) (p := 29) (by decide +kernel) rfl ?_
    refine hs_aload (i := 1) (p := 30) (by decide +kernel) rfl ?_
    refine hs_callv (mi := 294) (na := 0) (ci := 13) (lk := 4) (lm := 1) (by decide +kernel) rfl rfl rfl rfl rfl rfl (by omega) (by rw [rs_con hj]; rfl) (rs_len hG hj (hs_cb ?_))
    show et_go none _ 190 33 _ [.int (Int32.ofNat (rs_n j)), .int (Int32.ofNat k)] _ _ _ _
    refine hs_br2n (c := .ge) (t := 67) (f := 36) (by decide +kernel) (by omega) (by omega) (fun (c33 : (rs_n j) ≤ k) => ?_) (fun (c33 : ¬ ((rs_n j) ≤ k)) => ?_)
    · refine hs_iload (i := 2) (p := 68) (by decide +kernel) rfl ?_
      refine hs_zret (by decide +kernel) (.inr rfl) ?_
      rw [show (tz_by j).drop k = [] from List.drop_eq_nil_iff.mpr (by rw [tz_by_len]; omega)]
      rfl
    · refine hs_aload (i := 0) (p := 37) (by decide +kernel) rfl ?_
      refine hf_get (T := et_TT) (t := 13) (ci := 11) (f := 4) (p := 40) (by decide +kernel) rfl hH k_am m4 ?_
      refine hs_aload (i := 0) (p := 41) (by decide +kernel) rfl ?_
      refine hf_get (T := et_TT) (t := 13) (ci := 11) (f := 8) (p := 44) (by decide +kernel) rfl hH k_am m8 ?_
      refine hs_iload (i := 3) (p := 45) (by decide +kernel) rfl ?_
      refine hs_iaddn (p := 46) (by decide +kernel) ?_
      refine hf_ald (ins := .baload) (T := et_TT) (t := 34) (kd := 1) (N := 400) (p := 47) (by decide +kernel) (fun _ _ _ _ _ _ _ _ _ _ => rfl) rfl rfl rfl hH k_tm (by decide) (ht (q + k) (by omega)) ?_
      have hb46 := hb (q + k) (by omega)
      have hc46 := tz_by_lt (j := j) (k := k)
      refine hs_aload (i := 1) (p := 48) (by decide +kernel) rfl ?_
      refine hs_iload (i := 3) (p := 49) (by decide +kernel) rfl ?_
      refine hs_callv (mi := 296) (na := 1) (ci := 13) (lk := 4) (lm := 2) (by decide +kernel) rfl rfl rfl rfl rfl rfl (by omega) (by rw [rs_con hj]; rfl) (rs_chrX hG hj (by omega) (hs_cb ?_))
      show et_go none _ 190 52 _ [.int (Int32.ofNat ((tz_by j).getD k 0)), .int (sx (b (q + k)))] _ _ _ _
      refine hs_br2 (c := .ne) (t := 59) (f := 55) (by decide +kernel) (fun (c52 : ¬ (sx (b (q + k))) = Int32.ofNat ((tz_by j).getD k 0)) => ?_) (fun (c52 : ¬ (¬ (sx (b (q + k))) = Int32.ofNat ((tz_by j).getD k 0))) => ?_)
      · have c52 : ¬ b (q + k) = (tz_by j).getD k 0 := fun h => c52 ((sx_eq hb46 hc46).mpr h)
        refine hs_k (x := Int32.ofNat 0) (p := 60) (by decide +kernel) ?_
        refine hs_istore (i := 2) (p := 61) (by decide +kernel) (Nat.le_of_ble_eq_true rfl) ?_
        refine hs_iinc1 (i := 3) (p := 64) (by decide +kernel) rfl (Nat.le_of_ble_eq_true rfl) ?_
        refine hs_goto (p := 24) (by decide +kernel) ?_
        refine hs_iload (i := 2) (p := 25) (by decide +kernel) rfl ?_
        refine hs_if1 (c := .eq) (t := 67) (f := 28) (by decide +kernel) (show Int32.ofNat 0 = 0 by decide) ?_
        refine hs_iload (i := 2) (p := 68) (by decide +kernel) rfl ?_
        refine hs_zret (by decide +kernel) (.inl rfl) ?_
        rw [tz_eq_s (by omega), show (b (q + k) == (tz_by j).getD k 0) = false from beq_eq_false_iff_ne.mpr c52]
        rfl
      · have c52 : b (q + k) = (tz_by j).getD k 0 := (sx_eq hb46 hc46).mp (Decidable.of_not_not c52)
        refine hs_k (x := Int32.ofNat 1) (p := 56) (by decide +kernel) ?_
        refine hs_goto (p := 60) (by decide +kernel) ?_
        refine hs_istore (i := 2) (p := 61) (by decide +kernel) (Nat.le_of_ble_eq_true rfl) ?_
        refine hs_iinc1 (i := 3) (p := 64) (by decide +kernel) rfl (Nat.le_of_ble_eq_true rfl) ?_
        refine hs_goto (p := 24) (by decide +kernel) ?_
        rw [tz_eq_s (by omega), c52, beq_self_eq_true, Bool.true_and]
        show et_go none _ 190 24 [some (.ref am), some (.ref (36 + j)), some (.int (Int32.ofNat 1)), some (.int (Int32.ofNat (k + 1)))] [] _ _ _ _
        exact ih (rs_n j - (k + 1)) (by omega) (by omega) rfl
theorem fm_isW (hH : et_H et_TT K G) (k_am : K am = some 13) (m4 : et_pl (eg_at G am) 4 = some (.ref tm)) (k_tm : K tm = some 34) (m7 : et_pl (eg_at G am) 7 = some (.int (Int32.ofNat n))) (hn : n ≤ 400) (ht : ∀ i, i < n → et_pl (eg_at G tm) i = some (.int (sx (b i)))) (hb : ∀ i, i < n → b i < 256) (m6 : et_pl (eg_at G am) 6 = some (.int (Int32.ofNat e))) (m8 : et_pl (eg_at G am) 8 = some (.int (Int32.ofNat q))) (hj : j < 56) (hqe : q ≤ e) (hen : e ≤ n) (hd : 5 ≤ d2) : et_go none d2 190 0 (eg_en (eg_mL 190) [.ref am, .ref (36 + j)]) [] G 0 0 (xp_Z G (some (.int (Int32.ofNat (if tz_is b (tz_by j) q e = true then 1 else 0))))) := by
  obtain ⟨d, rfl⟩ : ∃ d, d2 = d + 5 := ⟨d2 - 5, by omega⟩
  have hG : 152 ≤ G.2 := hH.1
  have hrn := rs_nlt (j := j)
  rw [show eg_mL 190 = 4 from by decide +kernel]
  show et_go none (d + 5) 190 0 [some (.ref am), some (.ref (36 + j)), none, none] [] G 0 0 _
  refine hs_aload (i := 0) (p := 1) (by decide +kernel) rfl ?_
  refine hf_get (T := et_TT) (t := 13) (ci := 11) (f := 6) (p := 4) (by decide +kernel) rfl hH k_am m6 ?_
  refine hs_aload (i := 0) (p := 5) (by decide +kernel) rfl ?_
  refine hf_get (T := et_TT) (t := 13) (ci := 11) (f := 8) (p := 8) (by decide +kernel) rfl hH k_am m8 ?_
  refine hs_isubn (p := 9) (by decide +kernel) (by omega) ?_
  refine hs_aload (i := 1) (p := 10) (by decide +kernel) rfl ?_
  refine hs_callv (mi := 294) (na := 0) (ci := 13) (lk := 4) (lm := 1) (by decide +kernel) rfl rfl rfl rfl rfl rfl (by omega) (by rw [rs_con hj]; rfl) (rs_len hG hj (hs_cb ?_))
  show et_go none _ 190 13 _ [.int (Int32.ofNat (rs_n j)), .int (Int32.ofNat (e - q))] _ _ _ _
  refine hs_br2n (c := .ne) (t := 20) (f := 16) (by decide +kernel) (by omega) (by omega) (fun (c13 : ¬ (e - q) = (rs_n j)) => ?_) (fun (c13 : ¬ (¬ (e - q) = (rs_n j))) => ?_)
  · refine hs_k (x := Int32.ofNat 0) (p := 21) (by decide +kernel) ?_
    refine hs_istore (i := 2) (p := 22) (by decide +kernel) (Nat.le_of_ble_eq_true rfl) ?_
    refine hs_k (x := Int32.ofNat 0) (p := 23) (by decide +kernel) ?_
    refine hs_istore (i := 3) (p := 24) (by decide +kernel) (Nat.le_of_ble_eq_true rfl) ?_
    refine hs_iload (i := 2) (p := 25) (by decide +kernel) rfl ?_
    refine hs_if1 (c := .eq) (t := 67) (f := 28) (by decide +kernel) (show Int32.ofNat 0 = 0 by decide) ?_
    refine hs_iload (i := 2) (p := 68) (by decide +kernel) rfl ?_
    refine hs_zret (by decide +kernel) (.inl rfl) ?_
    rw [show tz_is b (tz_by j) q e = false from by unfold tz_is; rw [tz_by_len, beq_eq_false_iff_ne.mpr (fun h => c13 h.symm), Bool.false_and]]
    rfl
  · refine hs_k (x := Int32.ofNat 1) (p := 17) (by decide +kernel) ?_
    refine hs_goto (p := 21) (by decide +kernel) ?_
    refine hs_istore (i := 2) (p := 22) (by decide +kernel) (Nat.le_of_ble_eq_true rfl) ?_
    refine hs_k (x := Int32.ofNat 0) (p := 23) (by decide +kernel) ?_
    refine hs_istore (i := 3) (p := 24) (by decide +kernel) (Nat.le_of_ble_eq_true rfl) ?_
    have c13 : e - q = rs_n j := Decidable.of_not_not c13
    rw [show tz_is b (tz_by j) q e = tz_eq b (q + 0) ((tz_by j).drop 0) from by unfold tz_is; rw [tz_by_len, ← c13, beq_self_eq_true, Bool.true_and]; rfl]
    exact fm_isWL hH k_am m4 k_tm m7 hn ht hb m6 m8 hj (Nat.zero_le _) (by omega)
theorem fm_pass (hH : et_H et_TT K G) (k_am : K am = some 13) (m4 : et_pl (eg_at G am) 4 = some (.ref tm)) (k_tm : K tm = some 34) (m7 : et_pl (eg_at G am) 7 = some (.int (Int32.ofNat n))) (hn : n ≤ 400) (ht : ∀ i, i < n → et_pl (eg_at G tm) i = some (.int (sx (b i)))) (hb : ∀ i, i < n → b i < 256) (m6 : et_pl (eg_at G am) 6 = some (.int (Int32.ofNat p))) (hj : j < 56) (hp : p ≤ n) (hd : 6 ≤ d2) : et_go none d2 192 0 (eg_en (eg_mL 192) [.ref am, .ref (36 + j)]) [] G 0 0 (xw_Z (fun c j => (c = am ∧ j = 6) ∨ (c = am ∧ j = 8)) K G (fun G' v => et_pl (eg_at G' am) 8 = some (.int (Int32.ofNat (skp b n p))) ∧ ((tz_is b (tz_by j) (skp b n p) (lst b n (skp b n p)) = true ∧ v = some (.int (Int32.ofNat 1)) ∧ et_pl (eg_at G' am) 6 = some (.int (Int32.ofNat (lst b n (skp b n p))))) ∨ (¬ tz_is b (tz_by j) (skp b n p) (lst b n (skp b n p)) = true ∧ v = some (.int (Int32.ofNat 0)) ∧ et_pl (eg_at G' am) 6 = some (.int (Int32.ofNat (skp b n p))))))) := by
  obtain ⟨d, rfl⟩ : ∃ d, d2 = d + 6 := ⟨d2 - 6, by omega⟩
  rw [show eg_mL 192 = 2 from by decide +kernel]
  show et_go none (d + 6) 192 0 [some (.ref am), some (.ref (36 + j))] [] G 0 0 _
  have lt_am := (hH.2.2 _ _ k_am).1
  have lt_tm := (hH.2.2 _ _ k_tm).1
  have hX : xf (fun c j => (c = am ∧ j = 6) ∨ (c = am ∧ j = 8)) G G := xf.rf
  refine hs_aload (i := 0) (p := 1) (by decide +kernel) rfl ?_
  refine ht_callv (T := et_TT) (t := 13) (mi := 188) (na := 0) (ci := 11) (lk := 2) (lm := 1) (L0 := eg_en (eg_mL 188) [.ref am]) (by decide +kernel) rfl hH k_am rfl rfl rfl rfl rfl (by rw [show eg_mL 188 = 1 from by decide +kernel]; first | done | rfl) ?_
  refine (fm_let hH k_am m4 k_tm m7 hn ht hb m6 (by omega) (by omega)).mono (fun u hu => xw_cb hu (fun G1 v1 hH x1 hP1 => ?_))
  have m4 := (x1.2 am 4 lt_am (fun h => Or.elim h (fun h => absurd h.2 (by decide)) (fun h => absurd h.2 (by decide)))).trans m4
  have m7 := (x1.2 am 7 lt_am (fun h => Or.elim h (fun h => absurd h.2 (by decide)) (fun h => absurd h.2 (by decide)))).trans m7
  have ht : ∀ i, i < n → et_pl (eg_at G1 tm) i = some (.int (sx (b i))) := fun i hi => (x1.2 tm i lt_tm (fun h => Or.elim h (fun h => (hi_ne k_tm k_am (by decide)) h.1) (fun h => (hi_ne k_tm k_am (by decide)) h.1))).trans (ht i hi)
  have lt_am := Nat.lt_of_lt_of_le lt_am x1.1
  have lt_tm := Nat.lt_of_lt_of_le lt_tm x1.1
  have hX := hX.tr x1 (fun b j hb h => by first | omega | (dsimp only at h ⊢; omega) | (dsimp only at h; omega) | (dsimp only; omega))
  obtain ⟨rfl, b6_1, b8_1⟩ := hP1
  have hsk := skp_le (b := b) (n := n) (p := p) (by omega)
  have hls := lst_le (b := b) hsk.2
  show et_go none _ 192 4 _ [] _ _ _ _
  refine hs_aload (i := 0) (p := 5) (by decide +kernel) rfl ?_
  refine hs_aload (i := 1) (p := 6) (by decide +kernel) rfl ?_
  refine ht_callv (T := et_TT) (t := 13) (mi := 190) (na := 1) (ci := 11) (lk := 2) (lm := 4) (L0 := eg_en (eg_mL 190) [.ref am, .ref (36 + j)]) (by decide +kernel) rfl hH k_am rfl rfl rfl rfl rfl (by rw [show eg_mL 190 = 4 from by decide +kernel]; first | done | rfl) ?_
  refine (fm_isW hH k_am m4 k_tm m7 hn ht hb b6_1 b8_1 hj (by omega) (by omega) (by omega)).mono (fun u hu => xp_cb hu ?_)
  by_cases w6 : tz_is b (tz_by j) (skp b n p) (lst b n (skp b n p)) = true
  · rw [if_pos w6]
    show et_go none _ 192 9 _ [.int (Int32.ofNat 1)] _ _ _ _
    refine hs_if0 (c := .eq) (t := 14) (f := 12) (by decide +kernel) (show ¬ (Int32.ofNat 1 = 0) by decide) ?_
    refine hs_k (x := Int32.ofNat 1) (p := 13) (by decide +kernel) ?_
    refine hs_zret (by decide +kernel) (.inr rfl) ?_
    exact ⟨_, _, rfl, hH, hX, b8_1, .inl ⟨w6, rfl, b6_1⟩⟩
  · rw [if_neg w6]
    show et_go none _ 192 9 _ [.int (Int32.ofNat 0)] _ _ _ _
    refine hs_if1 (c := .eq) (t := 14) (f := 12) (by decide +kernel) (show Int32.ofNat 0 = 0 by decide) ?_
    refine hs_aload (i := 0) (p := 15) (by decide +kernel) rfl ?_
    refine hs_aload (i := 0) (p := 16) (by decide +kernel) rfl ?_
    refine hf_get (T := et_TT) (t := 13) (ci := 11) (f := 8) (p := 19) (by decide +kernel) rfl hH k_am b8_1 ?_
    refine hf_put (T := et_TT) (t := 13) (ci := 11) (f := 6) (p := 22) (ty := .int) (by decide +kernel) rfl rfl rfl rfl rfl hH k_am (hi_nv (by omega) (by omega)) (fun G19 hH x19 e19 => ?_)
    have m4 := (x19.2 am 4 lt_am (fun h => absurd h.2 (by decide))).trans m4
    have m7 := (x19.2 am 7 lt_am (fun h => absurd h.2 (by decide))).trans m7
    have b8_1 := (x19.2 am 8 lt_am (fun h => absurd h.2 (by decide))).trans b8_1
    have ht : ∀ i, i < n → et_pl (eg_at G19 tm) i = some (.int (sx (b i))) := fun i hi => (x19.2 tm i lt_tm (fun h => (hi_ne k_tm k_am (by decide)) h.1)).trans (ht i hi)
    have lt_am := Nat.lt_of_lt_of_le lt_am x19.1
    have lt_tm := Nat.lt_of_lt_of_le lt_tm x19.1
    have hX := hX.tr x19 (fun b j hb h => by first | omega | (dsimp only at h ⊢; omega) | (dsimp only at h; omega) | (dsimp only; omega))
    refine hs_k (x := Int32.ofNat 0) (p := 23) (by decide +kernel) ?_
    refine hs_zret (by decide +kernel) (.inl rfl) ?_
    exact ⟨_, _, rfl, hH, hX, b8_1, .inr ⟨w6, rfl, e19⟩⟩
theorem fm_sign (hH : et_H et_TT K G) (k_am : K am = some 13) (m4 : et_pl (eg_at G am) 4 = some (.ref tm)) (k_tm : K tm = some 34) (m7 : et_pl (eg_at G am) 7 = some (.int (Int32.ofNat n))) (hn : n ≤ 400) (ht : ∀ i, i < n → et_pl (eg_at G tm) i = some (.int (sx (b i)))) (hb : ∀ i, i < n → b i < 256) (m6 : et_pl (eg_at G am) 6 = some (.int (Int32.ofNat p))) (hp : p ≤ n) (hc1 : 1 ≤ c) (hc2 : c < 128) (hd : 2 ≤ d2) : et_go none d2 196 0 (eg_en (eg_mL 196) [.ref am, .int (Int32.ofNat c)]) [] G 0 0 (xw_Z (fun c j => (c = am ∧ j = 6) ∨ (c = am ∧ j = 8)) K G (fun G' v => et_pl (eg_at G' am) 8 = some (.int (Int32.ofNat (skp b n p))) ∧ (((skp b n p < n ∧ b (skp b n p) = c) ∧ v = some (.int (Int32.ofNat 1)) ∧ et_pl (eg_at G' am) 6 = some (.int (Int32.ofNat (skp b n p + 1)))) ∨ (¬ (skp b n p < n ∧ b (skp b n p) = c) ∧ v = some (.int (Int32.ofNat 0)) ∧ et_pl (eg_at G' am) 6 = some (.int (Int32.ofNat (skp b n p))))))) := by
  obtain ⟨d, rfl⟩ : ∃ d, d2 = d + 2 := ⟨d2 - 2, by omega⟩
  rw [show eg_mL 196 = 2 from by decide +kernel]
  show et_go none (d + 2) 196 0 [some (.ref am), some (.int (Int32.ofNat c))] [] G 0 0 _
  have lt_am := (hH.2.2 _ _ k_am).1
  have lt_tm := (hH.2.2 _ _ k_tm).1
  have hX : xf (fun c j => (c = am ∧ j = 6) ∨ (c = am ∧ j = 8)) G G := xf.rf
  refine hs_aload (i := 0) (p := 1) (by decide +kernel) rfl ?_
  refine ht_callv (T := et_TT) (t := 13) (mi := 184) (na := 0) (ci := 11) (lk := 2) (lm := 1) (L0 := eg_en (eg_mL 184) [.ref am]) (by decide +kernel) rfl hH k_am rfl rfl rfl rfl rfl (by rw [show eg_mL 184 = 1 from by decide +kernel]; first | done | rfl) ?_
  refine (fm_bl hH k_am m4 k_tm m7 hn ht hb m6 (by omega) (by omega)).mono (fun u hu => xw_cb hu (fun G1 v1 hH x1 hP1 => ?_))
  have m4 := (x1.2 am 4 lt_am (fun h => Or.elim h (fun h => absurd h.2 (by decide)) (fun h => absurd h.2 (by decide)))).trans m4
  have m7 := (x1.2 am 7 lt_am (fun h => Or.elim h (fun h => absurd h.2 (by decide)) (fun h => absurd h.2 (by decide)))).trans m7
  have ht : ∀ i, i < n → et_pl (eg_at G1 tm) i = some (.int (sx (b i))) := fun i hi => (x1.2 tm i lt_tm (fun h => Or.elim h (fun h => (hi_ne k_tm k_am (by decide)) h.1) (fun h => (hi_ne k_tm k_am (by decide)) h.1))).trans (ht i hi)
  have lt_am := Nat.lt_of_lt_of_le lt_am x1.1
  have lt_tm := Nat.lt_of_lt_of_le lt_tm x1.1
  have hX := hX.tr x1 (fun b j hb h => by first | omega | (dsimp only at h ⊢; omega) | (dsimp only at h; omega) | (dsimp only; omega))
  obtain ⟨rfl, b6_1, b8_1⟩ := hP1
  have hsk := skp_le (b := b) (n := n) (p := p) (by omega)
  show et_go none _ 196 4 _ [] _ _ _ _
  refine hs_aload (i := 0) (p := 5) (by decide +kernel) rfl ?_
  refine hs_iload (i := 1) (p := 6) (by decide +kernel) rfl ?_
  refine hs_iload (i := 1) (p := 7) (by decide +kernel) rfl ?_
  refine ht_callv (T := et_TT) (t := 13) (mi := 185) (na := 2) (ci := 11) (lk := 2) (lm := 3) (L0 := eg_en (eg_mL 185) [.ref am, .int (Int32.ofNat c), .int (Int32.ofNat c)]) (by decide +kernel) rfl hH k_am rfl rfl rfl rfl rfl (by rw [show eg_mL 185 = 3 from by decide +kernel]; first | done | rfl) ?_
  refine (fm_isAt hH k_am m4 k_tm m7 hn ht hb b6_1 (by omega) (by omega) (by omega) (by omega)).mono (fun u hu => xp_cb hu ?_)
  by_cases a7 : (skp b n p) < n ∧ c ≤ b (skp b n p) ∧ b (skp b n p) ≤ c
  · rw [if_pos a7]
    show et_go none _ 196 10 _ [.int (Int32.ofNat 1)] _ _ _ _
    refine hs_if1 (c := .ne) (t := 15) (f := 13) (by decide +kernel) (show ¬ Int32.ofNat 1 = 0 by decide) ?_
    refine hs_aload (i := 0) (p := 16) (by decide +kernel) rfl ?_
    refine hs_dup1 (p := 17) (by decide +kernel) ?_
    refine hf_get (T := et_TT) (t := 13) (ci := 11) (f := 6) (p := 20) (by decide +kernel) rfl hH k_am b6_1 ?_
    refine hs_k (x := Int32.ofNat 1) (p := 21) (by decide +kernel) ?_
    refine hs_iaddn (p := 22) (by decide +kernel) ?_
    refine hf_put (T := et_TT) (t := 13) (ci := 11) (f := 6) (p := 25) (ty := .int) (by decide +kernel) rfl rfl rfl rfl rfl hH k_am (hi_nv (by omega) (by omega)) (fun G22 hH x22 e22 => ?_)
    have m4 := (x22.2 am 4 lt_am (fun h => absurd h.2 (by decide))).trans m4
    have m7 := (x22.2 am 7 lt_am (fun h => absurd h.2 (by decide))).trans m7
    have b8_1 := (x22.2 am 8 lt_am (fun h => absurd h.2 (by decide))).trans b8_1
    have ht : ∀ i, i < n → et_pl (eg_at G22 tm) i = some (.int (sx (b i))) := fun i hi => (x22.2 tm i lt_tm (fun h => (hi_ne k_tm k_am (by decide)) h.1)).trans (ht i hi)
    have lt_am := Nat.lt_of_lt_of_le lt_am x22.1
    have lt_tm := Nat.lt_of_lt_of_le lt_tm x22.1
    have hX := hX.tr x22 (fun b j hb h => by first | omega | (dsimp only at h ⊢; omega) | (dsimp only at h; omega) | (dsimp only; omega))
    refine hs_k (x := Int32.ofNat 1) (p := 26) (by decide +kernel) ?_
    refine hs_zret (by decide +kernel) (.inr rfl) ?_
    exact ⟨_, _, rfl, hH, hX, b8_1, .inl ⟨⟨a7.1, by omega⟩, rfl, e22⟩⟩
  · rw [if_neg a7]
    show et_go none _ 196 10 _ [.int (Int32.ofNat 0)] _ _ _ _
    refine hs_if0 (c := .ne) (t := 15) (f := 13) (by decide +kernel) (show ¬ (¬ Int32.ofNat 0 = 0) by decide) ?_
    refine hs_k (x := Int32.ofNat 0) (p := 14) (by decide +kernel) ?_
    refine hs_zret (by decide +kernel) (.inl rfl) ?_
    exact ⟨_, _, rfl, hH, hX, b8_1, .inr ⟨(fun h => a7 ⟨h.1, by omega, by omega⟩), rfl, b6_1⟩⟩
theorem tz_nu_d {b : Nat → Nat} {q : Nat} : ∀ (k : Nat), (∀ r, q ≤ r → r < q + k → 48 ≤ b r ∧ b r ≤ 57) → tz_nu b k q 0 < 10 ^ k
  | 0, _ => show 0 < 1 by decide
  | k + 1, h => by
    have h1 := tz_nu_d k (fun r h2 h3 => h r h2 (by omega))
    have h4 := h (q + k) (by omega) (by omega)
    rw [tz_nu_snoc, Nat.pow_succ]
    omega
theorem tz_nm_y {q x : Nat} (hq : q < n) (hd : tz_d (b q) = true) (h4 : ¬ 4 < tz_end b n q - q) : tz_nm b n q = some (tz_nu b (tz_end b n q - q) q 0) := if_neg (fun h => h.elim h4 (fun h => by rw [hd] at h; cases h))
theorem fm_numL (hH : et_H et_TT K G) (k_am : K am = some 13) (m4 : et_pl (eg_at G am) 4 = some (.ref tm)) (k_tm : K tm = some 34) (m7 : et_pl (eg_at G am) 7 = some (.int (Int32.ofNat n))) (hn : n ≤ 400) (ht : ∀ i, i < n → et_pl (eg_at G tm) i = some (.int (sx (b i)))) (hb : ∀ i, i < n → b i < 256) (m6 : et_pl (eg_at G am) 6 = some (.int (Int32.ofNat e))) (m8 : et_pl (eg_at G am) 8 = some (.int (Int32.ofNat q))) {v : Nat} (hq : q ≤ n) (h1 : q ≤ e) (h2 : e ≤ dst b n q) (hv : v = tz_nu b (min (e - q) 4) q 0) (hhi : hi ≤ 9999) (hX : xf (fun c j => (c = am ∧ j = 6) ∨ (c = am ∧ j = 8)) G0 G) : et_go none (d + 2) 191 6 [some (.ref am), some (.int (Int32.ofNat hi)), some (.int (Int32.ofNat v))] [] G 0 0 (xw_Z (fun c j => (c = am ∧ j = 6) ∨ (c = am ∧ j = 8)) K G0 (fun G' v => et_pl (eg_at G' am) 8 = some (.int (Int32.ofNat q)) ∧ et_pl (eg_at G' am) 6 = some (.int (Int32.ofNat (dst b n q))) ∧ ((∃ x, (q < n ∧ tz_d (b q) = true) ∧ tz_nm b n q = some x ∧ x ≤ hi ∧ v = some (.int (Int32.ofNat x))) ∨ ((q < n ∧ tz_d (b q) = true → ∀ x, tz_nm b n q = some x → ¬ x ≤ hi) ∧ v = some (.int (-1)))))) := by
  induction hm : n - e using Nat.strongRecOn generalizing e v G with
  | _ z ih =>
    have hl := dst_le (b := b) hq
    have hli := dst_iff h1 h2
    have hdg : ∀ r, q ≤ r → r < e → 48 ≤ b r ∧ b r ≤ 57 := fun r h3 h4 => ((dst_iff (n := n) h3 (by omega)).mpr (by omega)).2
    have hv4 : v < 10000 := by
      rw [hv]
      have := tz_nu_d (b := b) (q := q) (min (e - q) 4) (fun r h3 h4 => hdg r h3 (by omega))
      exact Nat.lt_of_lt_of_le this (Nat.pow_le_pow_right (by decide) (Nat.min_le_right _ _))
    have lt_am := (hH.2.2 _ _ k_am).1
    have lt_tm := (hH.2.2 _ _ k_tm).1
    refine hs_aload (i := 0) (p := 7) (by decide +kernel) rfl ?_
    refine hs_k (x := Int32.ofNat 48) (p := 9) (by decide +kernel) ?_
    refine hs_k (x := Int32.ofNat 57) (p := 11) (by decide +kernel) ?_
    refine ht_callv (T := et_TT) (t := 13) (mi := 185) (na := 2) (ci := 11) (lk := 3) (lm := 3) (L0 := eg_en (eg_mL 185) [.ref am, .int (Int32.ofNat 48), .int (Int32.ofNat 57)]) (by decide +kernel) rfl hH k_am rfl rfl rfl rfl rfl (by rw [show eg_mL 185 = 3 from by decide +kernel]; first | done | rfl) ?_
    refine (fm_isAt hH k_am m4 k_tm m7 hn ht hb m6 (by omega) (by decide) (by decide) (by decide)).mono (fun u hu => xp_cb hu ?_)
    by_cases a11 : e < n ∧ 48 ≤ b e ∧ b e ≤ 57
    · rw [if_pos a11]
      show et_go none _ 191 14 _ [.int (Int32.ofNat 1)] _ _ _ _
      refine hs_if0 (c := .eq) (t := 65) (f := 17) (by decide +kernel) (show ¬ (Int32.ofNat 1 = 0) by decide) ?_
      refine hs_aload (i := 0) (p := 18) (by decide +kernel) rfl ?_
      refine hf_get (T := et_TT) (t := 13) (ci := 11) (f := 6) (p := 21) (by decide +kernel) rfl hH k_am m6 ?_
      refine hs_aload (i := 0) (p := 22) (by decide +kernel) rfl ?_
      refine hf_get (T := et_TT) (t := 13) (ci := 11) (f := 8) (p := 25) (by decide +kernel) rfl hH k_am m8 ?_
      refine hs_isubn (p := 26) (by decide +kernel) (by omega) ?_
      refine hs_k (x := Int32.ofNat 4) (p := 27) (by decide +kernel) ?_
      refine hs_br2n (c := .ge) (t := 50) (f := 30) (by decide +kernel) (by omega) (by omega) (fun (c27 : 4 ≤ (e - q)) => ?_) (fun (c27 : ¬ (4 ≤ (e - q))) => ?_)
      · refine hs_iload (i := 2) (p := 51) (by decide +kernel) rfl ?_
        refine hs_istore (i := 2) (p := 52) (by decide +kernel) (Nat.le_of_ble_eq_true rfl) ?_
        refine hs_aload (i := 0) (p := 53) (by decide +kernel) rfl ?_
        refine hs_dup1 (p := 54) (by decide +kernel) ?_
        refine hf_get (T := et_TT) (t := 13) (ci := 11) (f := 6) (p := 57) (by decide +kernel) rfl hH k_am m6 ?_
        refine hs_k (x := Int32.ofNat 1) (p := 58) (by decide +kernel) ?_
        refine hs_iaddn (p := 59) (by decide +kernel) ?_
        refine hf_put (T := et_TT) (t := 13) (ci := 11) (f := 6) (p := 62) (ty := .int) (by decide +kernel) rfl rfl rfl rfl rfl hH k_am (hi_nv (by omega) (by omega)) (fun G59 hH x59 e59 => ?_)
        have m4 := (x59.2 am 4 lt_am (fun h => absurd h.2 (by decide))).trans m4
        have m7 := (x59.2 am 7 lt_am (fun h => absurd h.2 (by decide))).trans m7
        have m8 := (x59.2 am 8 lt_am (fun h => absurd h.2 (by decide))).trans m8
        have ht : ∀ i, i < n → et_pl (eg_at G59 tm) i = some (.int (sx (b i))) := fun i hi => (x59.2 tm i lt_tm (fun h => (hi_ne k_tm k_am (by decide)) h.1)).trans (ht i hi)
        have lt_am := Nat.lt_of_lt_of_le lt_am x59.1
        have lt_tm := Nat.lt_of_lt_of_le lt_tm x59.1
        have hX := hX.tr x59 (fun b j hb h => by first | omega | (dsimp only at h ⊢; omega) | (dsimp only at h; omega) | (dsimp only; omega))
        refine hs_goto (p := 6) (by decide +kernel) ?_
        have hlt := hli.mp a11
        show et_go none _ 191 6 [some (.ref am), some (.int (Int32.ofNat hi)), some (.int (Int32.ofNat v))] [] _ _ _ _
        exact ih (n - (e + 1)) (by omega) hH m4 m7 ht e59 m8 (by omega) (by omega) (by rw [hv, show min (e + 1 - q) 4 = min (e - q) 4 from by omega]) hX rfl
      · refine hs_k (x := Int32.ofNat 10) (p := 32) (by decide +kernel) ?_
        refine hs_iload (i := 2) (p := 33) (by decide +kernel) rfl ?_
        refine hs_imuln (p := 34) (by decide +kernel) ?_
        refine hs_aload (i := 0) (p := 35) (by decide +kernel) rfl ?_
        refine hf_get (T := et_TT) (t := 13) (ci := 11) (f := 4) (p := 38) (by decide +kernel) rfl hH k_am m4 ?_
        refine hs_aload (i := 0) (p := 39) (by decide +kernel) rfl ?_
        refine hf_get (T := et_TT) (t := 13) (ci := 11) (f := 6) (p := 42) (by decide +kernel) rfl hH k_am m6 ?_
        refine hf_ald (ins := .baload) (T := et_TT) (t := 34) (kd := 1) (N := 400) (p := 43) (by decide +kernel) (fun _ _ _ _ _ _ _ _ _ _ => rfl) rfl rfl rfl hH k_tm (by decide) ((ht e (by omega)).trans (congrArg (fun z => some (Value.int z)) (sx_n (by omega)))) ?_
        refine hs_iaddn (p := 44) (by decide +kernel) ?_
        refine hs_k (x := Int32.ofNat 48) (p := 46) (by decide +kernel) ?_
        refine hs_isubn (p := 47) (by decide +kernel) (by omega) ?_
        refine hs_goto (p := 51) (by decide +kernel) ?_
        refine hs_istore (i := 2) (p := 52) (by decide +kernel) (Nat.le_of_ble_eq_true rfl) ?_
        refine hs_aload (i := 0) (p := 53) (by decide +kernel) rfl ?_
        refine hs_dup1 (p := 54) (by decide +kernel) ?_
        refine hf_get (T := et_TT) (t := 13) (ci := 11) (f := 6) (p := 57) (by decide +kernel) rfl hH k_am m6 ?_
        refine hs_k (x := Int32.ofNat 1) (p := 58) (by decide +kernel) ?_
        refine hs_iaddn (p := 59) (by decide +kernel) ?_
        refine hf_put (T := et_TT) (t := 13) (ci := 11) (f := 6) (p := 62) (ty := .int) (by decide +kernel) rfl rfl rfl rfl rfl hH k_am (hi_nv (by omega) (by omega)) (fun G59 hH x59 e59 => ?_)
        have m4 := (x59.2 am 4 lt_am (fun h => absurd h.2 (by decide))).trans m4
        have m7 := (x59.2 am 7 lt_am (fun h => absurd h.2 (by decide))).trans m7
        have m8 := (x59.2 am 8 lt_am (fun h => absurd h.2 (by decide))).trans m8
        have ht : ∀ i, i < n → et_pl (eg_at G59 tm) i = some (.int (sx (b i))) := fun i hi => (x59.2 tm i lt_tm (fun h => (hi_ne k_tm k_am (by decide)) h.1)).trans (ht i hi)
        have lt_am := Nat.lt_of_lt_of_le lt_am x59.1
        have lt_tm := Nat.lt_of_lt_of_le lt_tm x59.1
        have hX := hX.tr x59 (fun b j hb h => by first | omega | (dsimp only at h ⊢; omega) | (dsimp only at h; omega) | (dsimp only; omega))
        refine hs_goto (p := 6) (by decide +kernel) ?_
        have hlt := hli.mp a11
        show et_go none _ 191 6 [some (.ref am), some (.int (Int32.ofNat hi)), some (.int (Int32.ofNat (((10 * v) + (b e)) - 48)))] [] _ _ _ _
        exact ih (n - (e + 1)) (by omega) hH m4 m7 ht e59 m8 (by omega) (by omega) (by rw [hv, show min (e + 1 - q) 4 = min (e - q) 4 + 1 from by omega, tz_nu_snoc, show q + min (e - q) 4 = e from by omega]) hX rfl
    · rw [if_neg a11]
      show et_go none _ 191 14 _ [.int (Int32.ofNat 0)] _ _ _ _
      refine hs_if1 (c := .eq) (t := 65) (f := 17) (by decide +kernel) (show Int32.ofNat 0 = 0 by decide) ?_
      refine hs_aload (i := 0) (p := 66) (by decide +kernel) rfl ?_
      refine hf_get (T := et_TT) (t := 13) (ci := 11) (f := 6) (p := 69) (by decide +kernel) rfl hH k_am m6 ?_
      refine hs_aload (i := 0) (p := 70) (by decide +kernel) rfl ?_
      refine hf_get (T := et_TT) (t := 13) (ci := 11) (f := 8) (p := 73) (by decide +kernel) rfl hH k_am m8 ?_
      refine hs_br2n (c := .eq) (t := 94) (f := 76) (by decide +kernel) (by omega) (by omega) (fun (c73 : e = q) => ?_) (fun (c73 : ¬ (e = q)) => ?_)
      · refine hs_k (x := (-1)) (p := 95) (by decide +kernel) ?_
        refine hs_goto (p := 99) (by decide +kernel) ?_
        refine hs_iret (by decide +kernel) ?_
        have hne : ¬ e < dst b n q := fun h => a11 (hli.mpr h)
        have hee : e = dst b n q := by omega
        rw [hee] at m6
        exact ⟨_, _, rfl, hH, hX, m8, m6, .inr ⟨(fun hqd => absurd (show dst b n q = tz_end b n q from if_pos hqd) (by have := tz_end_le (b := b) hqd.1; omega)), rfl⟩⟩
      · refine hs_aload (i := 0) (p := 77) (by decide +kernel) rfl ?_
        refine hf_get (T := et_TT) (t := 13) (ci := 11) (f := 6) (p := 80) (by decide +kernel) rfl hH k_am m6 ?_
        refine hs_aload (i := 0) (p := 81) (by decide +kernel) rfl ?_
        refine hf_get (T := et_TT) (t := 13) (ci := 11) (f := 8) (p := 84) (by decide +kernel) rfl hH k_am m8 ?_
        refine hs_isubn (p := 85) (by decide +kernel) (by omega) ?_
        refine hs_k (x := Int32.ofNat 4) (p := 86) (by decide +kernel) ?_
        refine hs_br2n (c := .gt) (t := 94) (f := 89) (by decide +kernel) (by omega) (by omega) (fun (c86 : 4 < (e - q)) => ?_) (fun (c86 : ¬ (4 < (e - q))) => ?_)
        · refine hs_k (x := (-1)) (p := 95) (by decide +kernel) ?_
          refine hs_goto (p := 99) (by decide +kernel) ?_
          refine hs_iret (by decide +kernel) ?_
          have hne : ¬ e < dst b n q := fun h => a11 (hli.mpr h)
          have hee : e = dst b n q := by omega
          rw [hee] at m6
          exact ⟨_, _, rfl, hH, hX, m8, m6, .inr ⟨(fun hqd x hx => by rw [show tz_nm b n q = none from if_pos (.inl (by have := (show dst b n q = tz_end b n q from if_pos hqd); omega))] at hx; cases hx), rfl⟩⟩
        · refine hs_iload (i := 2) (p := 90) (by decide +kernel) rfl ?_
          refine hs_iload (i := 1) (p := 91) (by decide +kernel) rfl ?_
          refine hs_br2n (c := .le) (t := 98) (f := 94) (by decide +kernel) (by omega) (by omega) (fun (c91 : v ≤ hi) => ?_) (fun (c91 : ¬ (v ≤ hi)) => ?_)
          · refine hs_iload (i := 2) (p := 99) (by decide +kernel) rfl ?_
            refine hs_iret (by decide +kernel) ?_
            have hne : ¬ e < dst b n q := fun h => a11 (hli.mpr h)
            have hee : e = dst b n q := by omega
            rw [hee] at m6
            have hqd : q < n ∧ tz_d (b q) = true := Decidable.by_contra (fun h => c73 (by rw [hee]; exact if_neg h))
            have hde : dst b n q = tz_end b n q := if_pos hqd
            have hnm := tz_nm_y (x := 0) hqd.1 hqd.2 (by omega)
            refine ⟨_, _, rfl, hH, hX, m8, m6, .inl ⟨v, hqd, ?_, by omega, rfl⟩⟩
            rw [hnm, hv, show min (e - q) 4 = tz_end b n q - q from by omega]
          · refine hs_k (x := (-1)) (p := 95) (by decide +kernel) ?_
            refine hs_goto (p := 99) (by decide +kernel) ?_
            refine hs_iret (by decide +kernel) ?_
            have hne : ¬ e < dst b n q := fun h => a11 (hli.mpr h)
            have hee : e = dst b n q := by omega
            rw [hee] at m6
            exact ⟨_, _, rfl, hH, hX, m8, m6, .inr ⟨(fun hqd x hx => by have h3 : dst b n q = tz_end b n q := if_pos hqd; rw [tz_nm_y (x := 0) hqd.1 hqd.2 (by omega)] at hx; cases hx; rw [hv, show min (e - q) 4 = tz_end b n q - q from by omega] at c91; exact c91), rfl⟩⟩
theorem fm_num (hH : et_H et_TT K G) (k_am : K am = some 13) (m4 : et_pl (eg_at G am) 4 = some (.ref tm)) (k_tm : K tm = some 34) (m7 : et_pl (eg_at G am) 7 = some (.int (Int32.ofNat n))) (hn : n ≤ 400) (ht : ∀ i, i < n → et_pl (eg_at G tm) i = some (.int (sx (b i)))) (hb : ∀ i, i < n → b i < 256) (m6 : et_pl (eg_at G am) 6 = some (.int (Int32.ofNat p))) (hp : p ≤ n) (hhi : hi ≤ 9999) (hd : 2 ≤ d2) : et_go none d2 191 0 (eg_en (eg_mL 191) [.ref am, .int (Int32.ofNat hi)]) [] G 0 0 (xw_Z (fun c j => (c = am ∧ j = 6) ∨ (c = am ∧ j = 8)) K G (fun G' v => et_pl (eg_at G' am) 8 = some (.int (Int32.ofNat (skp b n p))) ∧ et_pl (eg_at G' am) 6 = some (.int (Int32.ofNat (dst b n (skp b n p)))) ∧ ((∃ x, ((skp b n p) < n ∧ tz_d (b (skp b n p)) = true) ∧ tz_nm b n (skp b n p) = some x ∧ x ≤ hi ∧ v = some (.int (Int32.ofNat x))) ∨ (((skp b n p) < n ∧ tz_d (b (skp b n p)) = true → ∀ x, tz_nm b n (skp b n p) = some x → ¬ x ≤ hi) ∧ v = some (.int (-1)))))) := by
  obtain ⟨d, rfl⟩ : ∃ d, d2 = d + 2 := ⟨d2 - 2, by omega⟩
  rw [show eg_mL 191 = 3 from by decide +kernel]
  show et_go none (d + 2) 191 0 [some (.ref am), some (.int (Int32.ofNat hi)), none] [] G 0 0 _
  have lt_am := (hH.2.2 _ _ k_am).1
  have lt_tm := (hH.2.2 _ _ k_tm).1
  have hX : xf (fun c j => (c = am ∧ j = 6) ∨ (c = am ∧ j = 8)) G G := xf.rf
  refine hs_aload (i := 0) (p := 1) (by decide +kernel) rfl ?_
  refine ht_callv (T := et_TT) (t := 13) (mi := 184) (na := 0) (ci := 11) (lk := 3) (lm := 1) (L0 := eg_en (eg_mL 184) [.ref am]) (by decide +kernel) rfl hH k_am rfl rfl rfl rfl rfl (by rw [show eg_mL 184 = 1 from by decide +kernel]; first | done | rfl) ?_
  refine (fm_bl hH k_am m4 k_tm m7 hn ht hb m6 (by omega) (by omega)).mono (fun u hu => xw_cb hu (fun G1 v1 hH x1 hP1 => ?_))
  have m4 := (x1.2 am 4 lt_am (fun h => Or.elim h (fun h => absurd h.2 (by decide)) (fun h => absurd h.2 (by decide)))).trans m4
  have m7 := (x1.2 am 7 lt_am (fun h => Or.elim h (fun h => absurd h.2 (by decide)) (fun h => absurd h.2 (by decide)))).trans m7
  have ht : ∀ i, i < n → et_pl (eg_at G1 tm) i = some (.int (sx (b i))) := fun i hi => (x1.2 tm i lt_tm (fun h => Or.elim h (fun h => (hi_ne k_tm k_am (by decide)) h.1) (fun h => (hi_ne k_tm k_am (by decide)) h.1))).trans (ht i hi)
  have lt_am := Nat.lt_of_lt_of_le lt_am x1.1
  have lt_tm := Nat.lt_of_lt_of_le lt_tm x1.1
  have hX := hX.tr x1 (fun b j hb h => by first | omega | (dsimp only at h ⊢; omega) | (dsimp only at h; omega) | (dsimp only; omega))
  obtain ⟨rfl, b6_1, b8_1⟩ := hP1
  have hsk := skp_le (b := b) (n := n) (p := p) (by omega)
  show et_go none _ 191 4 _ [] _ _ _ _
  refine hs_k (x := Int32.ofNat 0) (p := 5) (by decide +kernel) ?_
  refine hs_istore (i := 2) (p := 6) (by decide +kernel) (Nat.le_of_ble_eq_true rfl) ?_
  exact fm_numL hH k_am m4 k_tm m7 hn ht hb b6_1 b8_1 hsk.2 (Nat.le_refl _) (dst_le hsk.2).1 (by rw [Nat.sub_self]; rfl) hhi hX
end FSA
