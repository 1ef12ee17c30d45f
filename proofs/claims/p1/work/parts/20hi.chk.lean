theorem ea_go31 : ea_go 31 31 = true := by decide +kernel
theorem ea_go32 : ea_go 32 32 = true := by decide +kernel
theorem ea_go33 : ea_go 33 33 = true := by decide +kernel
