theorem ea_go34 : ea_go 34 34 = true := by decide +kernel
theorem ea_go35 : ea_go 35 35 = true := by decide +kernel
theorem ea_go36 : ea_go 36 36 = true := by decide +kernel
