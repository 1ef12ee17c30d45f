/-! the law's code, decoded: 3 -/
theorem eg_kl9_0 : ((eg_law9).take 20).all (fun e => decide (decode code e.1 = .ok e.2)) = true := by decide +kernel
theorem eg_kl9_1 : (((eg_law9).drop 20).take 20).all (fun e => decide (decode code e.1 = .ok e.2)) = true := by decide +kernel
theorem eg_kl9_2 : ((((eg_law9).drop 20).drop 20).take 20).all (fun e => decide (decode code e.1 = .ok e.2)) = true := by decide +kernel
theorem eg_kl9_3 : (((((eg_law9).drop 20).drop 20).drop 20).take 20).all (fun e => decide (decode code e.1 = .ok e.2)) = true := by decide +kernel
theorem eg_kl9_4 : (((((eg_law9).drop 20).drop 20).drop 20).drop 20).all (fun e => decide (decode code e.1 = .ok e.2)) = true := by decide +kernel
theorem eg_kl9 : eg_law9.all (fun e => decide (decode code e.1 = .ok e.2)) = true := eg_sp eg_kl9_0 (eg_sp eg_kl9_1 (eg_sp eg_kl9_2 (eg_sp eg_kl9_3 eg_kl9_4)))
theorem eg_kl10_0 : ((eg_law10).take 20).all (fun e => decide (decode code e.1 = .ok e.2)) = true := by decide +kernel
theorem eg_kl10_1 : (((eg_law10).drop 20).take 20).all (fun e => decide (decode code e.1 = .ok e.2)) = true := by decide +kernel
theorem eg_kl10_2 : ((((eg_law10).drop 20).drop 20).take 20).all (fun e => decide (decode code e.1 = .ok e.2)) = true := by decide +kernel
theorem eg_kl10_3 : (((((eg_law10).drop 20).drop 20).drop 20).take 20).all (fun e => decide (decode code e.1 = .ok e.2)) = true := by decide +kernel
theorem eg_kl10_4 : (((((eg_law10).drop 20).drop 20).drop 20).drop 20).all (fun e => decide (decode code e.1 = .ok e.2)) = true := by decide +kernel
theorem eg_kl10 : eg_law10.all (fun e => decide (decode code e.1 = .ok e.2)) = true := eg_sp eg_kl10_0 (eg_sp eg_kl10_1 (eg_sp eg_kl10_2 (eg_sp eg_kl10_3 eg_kl10_4)))
