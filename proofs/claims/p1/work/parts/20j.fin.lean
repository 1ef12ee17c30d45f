theorem ea_I0_in (xs : Nat → Int32) {a b : Int} (h1 : a ≤ (ea_t xs 6).toInt) (h2 : (ea_t xs 6).toInt ≤ b) : ea_in xs (ea_I0 a b) := by
  have hb : ∀ x : Int32, ea_lo ≤ x.toInt ∧ x.toInt ≤ ea_hi := fun x => ⟨x.le_toInt, Int.le_of_lt_add_one x.toInt_lt⟩
  intro k p h
  match k, h with
  | 0, h => cases h; exact hb _
  | 1, h => cases h; exact hb _
  | 2, h => cases h; exact hb _
  | 3, h => cases h; exact hb _
  | 4, h => cases h; exact hb _
  | 5, h => cases h; exact hb _
  | 6, h => cases h; exact ⟨h1, h2⟩
  | k + 7, h => cases h
theorem ea_gr0 (xs : Nat → Int32) : ea_gr xs eg_G0 eg_G0 := ⟨rfl, fun _ => ea_cr_obj rfl⟩
theorem ea_fin (xs : Nat → Int32) {n : Nat} {a b : Int} (hn : n ≤ 6) (hc : ea_gg n a b = true) (h1 : a ≤ (ea_t xs 6).toInt) (h2 : (ea_t xs 6).toInt ≤ b) : ∃ (f : Nat) (G' : eg_G) (c1 s1 : Nat), eg_rn f (some (n, xs)) 1700 eg_LK 0 (eg_en 7 [.ref 150]) [] eg_G0 0 0 = some (.inl (some (.int 1)), G', c1, s1) ∧ c1 ≤ 600002 ∧ s1 ≤ 7302232 := by
  unfold ea_gg ea_chk at hc
  split at hc
  · cases hc
  · rename_i os hos
    obtain ⟨o, ho, -, G2, -, g, hg⟩ := ea_rn_ok xs 5000 (some n) (ea_I0 a b) 1700 eg_LK 0 _ _ _ 0 0 os (fun m h => by cases h; exact hn) hos _ _ _ (ea_I0_in xs h1 h2) (ea_lr_en 7 (a := [.ref 150]) (c := [.ref 150]) (ea_sr_nf rfl)) (show ea_sr xs [] [] from rfl) (ea_gr0 xs)
    have h3 := List.all_eq_true.mp hc o ho
    have h4 := hg g (Nat.le_refl _)
    obtain ⟨J, r, G1, c1, s1⟩ := o
    unfold ea_one1 at h3
    rw [Bool.and_eq_true, Bool.and_eq_true] at h3
    obtain ⟨h5, h6, h7⟩ := h3
    refine ⟨g, G2, c1, s1, ?_, of_decide_eq_true h6, of_decide_eq_true h7⟩
    dsimp only at h4 h5
    split at h5
    · rename_i _ x
      have e : x = 1 := of_decide_eq_true h5
      subst e
      exact h4
    · cases h5
/-- the run of the script comes to 1, for every script -/
theorem eg_law_ok (L : Nat) (hL : L ≤ 6) (xs : Nat → Int32) : ∃ (f : Nat) (G' : eg_G) (c1 s1 : Nat), eg_rn f (some (L, xs)) 1700 eg_LK 0 (eg_en 7 [.ref 150]) [] eg_G0 0 0 = some (.inl (some (.int 1)), G', c1, s1) ∧ c1 ≤ 600002 ∧ s1 ≤ 7302232 := by
  have b1 : ea_lo ≤ (ea_t xs 6).toInt := (ea_t xs 6).le_toInt
  have b2 : (ea_t xs 6).toInt ≤ ea_hi := Int.le_of_lt_add_one (ea_t xs 6).toInt_lt
  have hc : L = 0 ∨ L = 1 ∨ L = 2 ∨ L = 3 ∨ L = 4 ∨ L = 5 ∨ L = 6 := by omega
  rcases hc with rfl | rfl | rfl | rfl | rfl | rfl | rfl
  · exact ea_fin xs hL ea_gn0 b1 b2
  · exact ea_fin xs hL ea_gn1 b1 b2
  · exact ea_fin xs hL ea_gn2 b1 b2
  · exact ea_fin xs hL ea_gn3 b1 b2
  · exact ea_fin xs hL ea_gn4 b1 b2
  · exact ea_fin xs hL ea_gn5 b1 b2
  · have hj : (ea_t xs 6).toInt ≤ -1 ∨ 39 ≤ (ea_t xs 6).toInt ∨ (ea_t xs 6).toInt = 0 ∨ (ea_t xs 6).toInt = 1 ∨ (ea_t xs 6).toInt = 2 ∨ (ea_t xs 6).toInt = 3 ∨ (ea_t xs 6).toInt = 4 ∨ (ea_t xs 6).toInt = 5 ∨ (ea_t xs 6).toInt = 6 ∨ (ea_t xs 6).toInt = 7 ∨ (ea_t xs 6).toInt = 8 ∨ (ea_t xs 6).toInt = 9 ∨ (ea_t xs 6).toInt = 10 ∨ (ea_t xs 6).toInt = 11 ∨ (ea_t xs 6).toInt = 12 ∨ (ea_t xs 6).toInt = 13 ∨ (ea_t xs 6).toInt = 14 ∨ (ea_t xs 6).toInt = 15 ∨ (ea_t xs 6).toInt = 16 ∨ (ea_t xs 6).toInt = 17 ∨ (ea_t xs 6).toInt = 18 ∨ (ea_t xs 6).toInt = 19 ∨ (ea_t xs 6).toInt = 20 ∨ (ea_t xs 6).toInt = 21 ∨ (ea_t xs 6).toInt = 22 ∨ (ea_t xs 6).toInt = 23 ∨ (ea_t xs 6).toInt = 24 ∨ (ea_t xs 6).toInt = 25 ∨ (ea_t xs 6).toInt = 26 ∨ (ea_t xs 6).toInt = 27 ∨ (ea_t xs 6).toInt = 28 ∨ (ea_t xs 6).toInt = 29 ∨ (ea_t xs 6).toInt = 30 ∨ (ea_t xs 6).toInt = 31 ∨ (ea_t xs 6).toInt = 32 ∨ (ea_t xs 6).toInt = 33 ∨ (ea_t xs 6).toInt = 34 ∨ (ea_t xs 6).toInt = 35 ∨ (ea_t xs 6).toInt = 36 ∨ (ea_t xs 6).toInt = 37 ∨ (ea_t xs 6).toInt = 38 := by omega
    rcases hj with h | h | h | h | h | h | h | h | h | h | h | h | h | h | h | h | h | h | h | h | h | h | h | h | h | h | h | h | h | h | h | h | h | h | h | h | h | h | h | h | h
    · exact ea_fin xs hL ea_goL b1 h
    · exact ea_fin xs hL ea_goH h b2
    · exact ea_fin xs hL ea_go0 (by rw [h]; exact Int.le_refl _) (by rw [h]; exact Int.le_refl _)
    · exact ea_fin xs hL ea_go1 (by rw [h]; exact Int.le_refl _) (by rw [h]; exact Int.le_refl _)
    · exact ea_fin xs hL ea_go2 (by rw [h]; exact Int.le_refl _) (by rw [h]; exact Int.le_refl _)
    · exact ea_fin xs hL ea_go3 (by rw [h]; exact Int.le_refl _) (by rw [h]; exact Int.le_refl _)
    · exact ea_fin xs hL ea_go4 (by rw [h]; exact Int.le_refl _) (by rw [h]; exact Int.le_refl _)
    · exact ea_fin xs hL ea_go5 (by rw [h]; exact Int.le_refl _) (by rw [h]; exact Int.le_refl _)
    · exact ea_fin xs hL ea_go6 (by rw [h]; exact Int.le_refl _) (by rw [h]; exact Int.le_refl _)
    · exact ea_fin xs hL ea_go7 (by rw [h]; exact Int.le_refl _) (by rw [h]; exact Int.le_refl _)
    · exact ea_fin xs hL ea_go8 (by rw [h]; exact Int.le_refl _) (by rw [h]; exact Int.le_refl _)
    · exact ea_fin xs hL ea_go9 (by rw [h]; exact Int.le_refl _) (by rw [h]; exact Int.le_refl _)
    · exact ea_fin xs hL ea_go10 (by rw [h]; exact Int.le_refl _) (by rw [h]; exact Int.le_refl _)
    · exact ea_fin xs hL ea_go11 (by rw [h]; exact Int.le_refl _) (by rw [h]; exact Int.le_refl _)
    · exact ea_fin xs hL ea_go12 (by rw [h]; exact Int.le_refl _) (by rw [h]; exact Int.le_refl _)
    · exact ea_fin xs hL ea_go13 (by rw [h]; exact Int.le_refl _) (by rw [h]; exact Int.le_refl _)
    · exact ea_fin xs hL ea_go14 (by rw [h]; exact Int.le_refl _) (by rw [h]; exact Int.le_refl _)
    · exact ea_fin xs hL ea_go15 (by rw [h]; exact Int.le_refl _) (by rw [h]; exact Int.le_refl _)
    · exact ea_fin xs hL ea_go16 (by rw [h]; exact Int.le_refl _) (by rw [h]; exact Int.le_refl _)
    · exact ea_fin xs hL ea_go17 (by rw [h]; exact Int.le_refl _) (by rw [h]; exact Int.le_refl _)
    · exact ea_fin xs hL ea_go18 (by rw [h]; exact Int.le_refl _) (by rw [h]; exact Int.le_refl _)
    · exact ea_fin xs hL ea_go19 (by rw [h]; exact Int.le_refl _) (by rw [h]; exact Int.le_refl _)
    · exact ea_fin xs hL ea_go20 (by rw [h]; exact Int.le_refl _) (by rw [h]; exact Int.le_refl _)
    · exact ea_fin xs hL ea_go21 (by rw [h]; exact Int.le_refl _) (by rw [h]; exact Int.le_refl _)
    · exact ea_fin xs hL ea_go22 (by rw [h]; exact Int.le_refl _) (by rw [h]; exact Int.le_refl _)
    · exact ea_fin xs hL ea_go23 (by rw [h]; exact Int.le_refl _) (by rw [h]; exact Int.le_refl _)
    · exact ea_fin xs hL ea_go24 (by rw [h]; exact Int.le_refl _) (by rw [h]; exact Int.le_refl _)
    · exact ea_fin xs hL ea_go25 (by rw [h]; exact Int.le_refl _) (by rw [h]; exact Int.le_refl _)
    · exact ea_fin xs hL ea_go26 (by rw [h]; exact Int.le_refl _) (by rw [h]; exact Int.le_refl _)
    · exact ea_fin xs hL ea_go27 (by rw [h]; exact Int.le_refl _) (by rw [h]; exact Int.le_refl _)
    · exact ea_fin xs hL ea_go28 (by rw [h]; exact Int.le_refl _) (by rw [h]; exact Int.le_refl _)
    · exact ea_fin xs hL ea_go29 (by rw [h]; exact Int.le_refl _) (by rw [h]; exact Int.le_refl _)
    · exact ea_fin xs hL ea_go30 (by rw [h]; exact Int.le_refl _) (by rw [h]; exact Int.le_refl _)
    · exact ea_fin xs hL ea_go31 (by rw [h]; exact Int.le_refl _) (by rw [h]; exact Int.le_refl _)
    · exact ea_fin xs hL ea_go32 (by rw [h]; exact Int.le_refl _) (by rw [h]; exact Int.le_refl _)
    · exact ea_fin xs hL ea_go33 (by rw [h]; exact Int.le_refl _) (by rw [h]; exact Int.le_refl _)
    · exact ea_fin xs hL ea_go34 (by rw [h]; exact Int.le_refl _) (by rw [h]; exact Int.le_refl _)
    · exact ea_fin xs hL ea_go35 (by rw [h]; exact Int.le_refl _) (by rw [h]; exact Int.le_refl _)
    · exact ea_fin xs hL ea_go36 (by rw [h]; exact Int.le_refl _) (by rw [h]; exact Int.le_refl _)
    · exact ea_fin xs hL ea_go37 (by rw [h]; exact Int.le_refl _) (by rw [h]; exact Int.le_refl _)
    · exact ea_fin xs hL ea_go38 (by rw [h]; exact Int.le_refl _) (by rw [h]; exact Int.le_refl _)
