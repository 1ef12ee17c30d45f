/-! the throws -/
theorem eg_W10_in : ∀ w ∈ eg_W10, w ∈ lw_tbl := by
  have h : eg_W10.all (fun w => lw_tbl.any (fun z => decide (w = z))) = true := by decide +kernel
  intro w hw
  have h1 := List.all_eq_true.mp h w hw
  obtain ⟨z, hz, h2⟩ := List.any_eq_true.mp h1
  rw [of_decide_eq_true h2]
  exact hz
