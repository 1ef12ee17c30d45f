theorem ea_go15 : ea_go 15 15 = true := by decide +kernel
theorem ea_go16 : ea_go 16 16 = true := by decide +kernel
theorem ea_go17 : ea_go 17 17 = true := by decide +kernel
theorem ea_go18 : ea_go 18 18 = true := by decide +kernel
