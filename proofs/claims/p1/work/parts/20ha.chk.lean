theorem ea_go0 : ea_go 0 0 = true := by decide +kernel
theorem ea_go1 : ea_go 1 1 = true := by decide +kernel
theorem ea_go2 : ea_go 2 2 = true := by decide +kernel
theorem ea_go3 : ea_go 3 3 = true := by decide +kernel
