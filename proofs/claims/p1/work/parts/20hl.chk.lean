theorem ea_gn0 : ea_gg 0 ea_lo ea_hi = true := by decide +kernel
theorem ea_gn1 : ea_gg 1 ea_lo ea_hi = true := by decide +kernel
theorem ea_gn2 : ea_gg 2 ea_lo ea_hi = true := by decide +kernel
theorem ea_gn3 : ea_gg 3 ea_lo ea_hi = true := by decide +kernel
theorem ea_gn4 : ea_gg 4 ea_lo ea_hi = true := by decide +kernel
theorem ea_gn5 : ea_gg 5 ea_lo ea_hi = true := by decide +kernel
