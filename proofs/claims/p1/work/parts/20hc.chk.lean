theorem ea_go7 : ea_go 7 7 = true := by decide +kernel
theorem ea_go8 : ea_go 8 8 = true := by decide +kernel
theorem ea_go9 : ea_go 9 9 = true := by decide +kernel
theorem ea_go10 : ea_go 10 10 = true := by decide +kernel
