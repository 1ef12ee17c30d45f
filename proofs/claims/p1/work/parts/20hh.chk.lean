theorem ea_go27 : ea_go 27 27 = true := by decide +kernel
theorem ea_go28 : ea_go 28 28 = true := by decide +kernel
theorem ea_go29 : ea_go 29 29 = true := by decide +kernel
theorem ea_go30 : ea_go 30 30 = true := by decide +kernel
