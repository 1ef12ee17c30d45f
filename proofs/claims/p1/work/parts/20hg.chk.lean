theorem ea_go23 : ea_go 23 23 = true := by decide +kernel
theorem ea_go24 : ea_go 24 24 = true := by decide +kernel
theorem ea_go25 : ea_go 25 25 = true := by decide +kernel
theorem ea_go26 : ea_go 26 26 = true := by decide +kernel
