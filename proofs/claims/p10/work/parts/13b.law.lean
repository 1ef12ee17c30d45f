/-! the law's code -/
theorem eg_ll0 : eg_law0.all (fun e => eg_lok e.2.1 e.2.2) = true := by decide +kernel
theorem eg_ll1 : eg_law1.all (fun e => eg_lok e.2.1 e.2.2) = true := by decide +kernel
theorem eg_ll2 : eg_law2.all (fun e => eg_lok e.2.1 e.2.2) = true := by decide +kernel
theorem eg_ll3 : eg_law3.all (fun e => eg_lok e.2.1 e.2.2) = true := by decide +kernel
theorem eg_ll4 : eg_law4.all (fun e => eg_lok e.2.1 e.2.2) = true := by decide +kernel
theorem eg_ll5 : eg_law5.all (fun e => eg_lok e.2.1 e.2.2) = true := by decide +kernel
theorem eg_ll6 : eg_law6.all (fun e => eg_lok e.2.1 e.2.2) = true := by decide +kernel
theorem eg_ll7 : eg_law7.all (fun e => eg_lok e.2.1 e.2.2) = true := by decide +kernel
theorem eg_ll8 : eg_law8.all (fun e => eg_lok e.2.1 e.2.2) = true := by decide +kernel
theorem eg_ll9 : eg_law9.all (fun e => eg_lok e.2.1 e.2.2) = true := by decide +kernel
theorem eg_ll10 : eg_law10.all (fun e => eg_lok e.2.1 e.2.2) = true := by decide +kernel
theorem eg_mlk0 : eg_M0.all (fun q => q.2.all (fun e => eg_lok e.2.1 e.2.2)) = true := by decide +kernel
theorem eg_mlk1 : eg_M1.all (fun q => q.2.all (fun e => eg_lok e.2.1 e.2.2)) = true := by decide +kernel
theorem eg_mlk2 : eg_M2.all (fun q => q.2.all (fun e => eg_lok e.2.1 e.2.2)) = true := by decide +kernel
theorem eg_mlk3 : eg_M3.all (fun q => q.2.all (fun e => eg_lok e.2.1 e.2.2)) = true := by decide +kernel
theorem eg_mlk4 : eg_M4.all (fun q => q.2.all (fun e => eg_lok e.2.1 e.2.2)) = true := by decide +kernel
theorem eg_mlk5 : eg_M5.all (fun q => q.2.all (fun e => eg_lok e.2.1 e.2.2)) = true := by decide +kernel
theorem eg_mlk6 : eg_M6.all (fun q => q.2.all (fun e => eg_lok e.2.1 e.2.2)) = true := by decide +kernel
theorem eg_mlk7 : eg_M7.all (fun q => q.2.all (fun e => eg_lok e.2.1 e.2.2)) = true := by decide +kernel
theorem eg_mlk8 : eg_M8.all (fun q => q.2.all (fun e => eg_lok e.2.1 e.2.2)) = true := by decide +kernel
theorem eg_mlk9 : eg_M9.all (fun q => q.2.all (fun e => eg_lok e.2.1 e.2.2)) = true := by decide +kernel
theorem eg_mlk10 : eg_M10.all (fun q => q.2.all (fun e => eg_lok e.2.1 e.2.2)) = true := by decide +kernel
theorem eg_mlk11 : eg_M11.all (fun q => q.2.all (fun e => eg_lok e.2.1 e.2.2)) = true := by decide +kernel
theorem eg_mlk12 : eg_M12.all (fun q => q.2.all (fun e => eg_lok e.2.1 e.2.2)) = true := by decide +kernel
theorem eg_mlk13 : eg_M13.all (fun q => q.2.all (fun e => eg_lok e.2.1 e.2.2)) = true := by decide +kernel
theorem eg_mlk14 : eg_M14.all (fun q => q.2.all (fun e => eg_lok e.2.1 e.2.2)) = true := by decide +kernel
theorem eg_mlk15 : eg_M15.all (fun q => q.2.all (fun e => eg_lok e.2.1 e.2.2)) = true := by decide +kernel
theorem eg_mlk16 : eg_M16.all (fun q => q.2.all (fun e => eg_lok e.2.1 e.2.2)) = true := by decide +kernel
theorem eg_mlk17 : eg_M17.all (fun q => q.2.all (fun e => eg_lok e.2.1 e.2.2)) = true := by decide +kernel
theorem eg_mlk18 : eg_M18.all (fun q => q.2.all (fun e => eg_lok e.2.1 e.2.2)) = true := by decide +kernel
theorem eg_mlk19 : eg_M19.all (fun q => q.2.all (fun e => eg_lok e.2.1 e.2.2)) = true := by decide +kernel
theorem eg_mlk : ∀ l ∈ eg_MM, l.all (fun q => q.2.all (fun e => eg_lok e.2.1 e.2.2)) = true := List.forall_mem_cons.mpr ⟨eg_mlk0, List.forall_mem_cons.mpr ⟨eg_mlk1, List.forall_mem_cons.mpr ⟨eg_mlk2, List.forall_mem_cons.mpr ⟨eg_mlk3, List.forall_mem_cons.mpr ⟨eg_mlk4, List.forall_mem_cons.mpr ⟨eg_mlk5, List.forall_mem_cons.mpr ⟨eg_mlk6, List.forall_mem_cons.mpr ⟨eg_mlk7, List.forall_mem_cons.mpr ⟨eg_mlk8, List.forall_mem_cons.mpr ⟨eg_mlk9, List.forall_mem_cons.mpr ⟨eg_mlk10, List.forall_mem_cons.mpr ⟨eg_mlk11, List.forall_mem_cons.mpr ⟨eg_mlk12, List.forall_mem_cons.mpr ⟨eg_mlk13, List.forall_mem_cons.mpr ⟨eg_mlk14, List.forall_mem_cons.mpr ⟨eg_mlk15, List.forall_mem_cons.mpr ⟨eg_mlk16, List.forall_mem_cons.mpr ⟨eg_mlk17, List.forall_mem_cons.mpr ⟨eg_mlk18, List.forall_mem_cons.mpr ⟨eg_mlk19, fun _ h => nomatch h⟩⟩⟩⟩⟩⟩⟩⟩⟩⟩⟩⟩⟩⟩⟩⟩⟩⟩⟩⟩
theorem eg_me_lok (k : Nat) : ∀ e ∈ (eg_me k).2, eg_lok e.2.1 e.2.2 = true := by
  intro e he
  unfold eg_me at he
  generalize hl : eg_MM.getD (k / 16) [] = l at he
  have h1 : ∀ q ∈ l, q.2.all (fun e => eg_lok e.2.1 e.2.2) = true := by
    rw [List.getD_eq_getElem?_getD] at hl
    cases h : eg_MM[k / 16]? with
    | none => rw [h] at hl; subst hl; exact fun _ h => nomatch h
    | some l' => rw [h] at hl; subst hl; exact List.all_eq_true.mp (eg_mlk l' (List.mem_of_getElem? h))
  rw [List.getD_eq_getElem?_getD] at he
  cases h : l[k % 16]? with
  | none => rw [h] at he; exact nomatch he
  | some q => rw [h] at he; exact List.all_eq_true.mp (h1 q (List.mem_of_getElem? h)) e he
