theorem ea_go4 : ea_go 4 4 = true := by decide +kernel
theorem ea_go5 : ea_go 5 5 = true := by decide +kernel
theorem ea_go6 : ea_go 6 6 = true := by decide +kernel
