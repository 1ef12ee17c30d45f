theorem ea_go37 : ea_go 37 37 = true := by decide +kernel
theorem ea_go38 : ea_go 38 38 = true := by decide +kernel
theorem ea_goL : ea_go ea_lo (-1) = true := by decide +kernel
theorem ea_goH : ea_go 39 ea_hi = true := by decide +kernel
