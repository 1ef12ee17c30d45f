theorem ea_go11 : ea_go 11 11 = true := by decide +kernel
theorem ea_go12 : ea_go 12 12 = true := by decide +kernel
theorem ea_go13 : ea_go 13 13 = true := by decide +kernel
theorem ea_go14 : ea_go 14 14 = true := by decide +kernel
