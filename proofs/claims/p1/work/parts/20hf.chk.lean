theorem ea_go19 : ea_go 19 19 = true := by decide +kernel
theorem ea_go20 : ea_go 20 20 = true := by decide +kernel
theorem ea_go21 : ea_go 21 21 = true := by decide +kernel
theorem ea_go22 : ea_go 22 22 = true := by decide +kernel
