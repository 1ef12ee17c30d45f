/-! the law's code, decoded: 2 -/
theorem eg_kl6_0 : ((eg_law6).take 20).all (fun e => decide (decode code e.1 = .ok e.2)) = true := by decide +kernel
theorem eg_kl6_1 : (((eg_law6).drop 20).take 20).all (fun e => decide (decode code e.1 = .ok e.2)) = true := by decide +kernel
theorem eg_kl6_2 : ((((eg_law6).drop 20).drop 20).take 20).all (fun e => decide (decode code e.1 = .ok e.2)) = true := by decide +kernel
theorem eg_kl6_3 : (((((eg_law6).drop 20).drop 20).drop 20).take 20).all (fun e => decide (decode code e.1 = .ok e.2)) = true := by decide +kernel
theorem eg_kl6_4 : (((((eg_law6).drop 20).drop 20).drop 20).drop 20).all (fun e => decide (decode code e.1 = .ok e.2)) = true := by decide +kernel
theorem eg_kl6 : eg_law6.all (fun e => decide (decode code e.1 = .ok e.2)) = true := eg_sp eg_kl6_0 (eg_sp eg_kl6_1 (eg_sp eg_kl6_2 (eg_sp eg_kl6_3 eg_kl6_4)))
theorem eg_kl7_0 : ((eg_law7).take 20).all (fun e => decide (decode code e.1 = .ok e.2)) = true := by decide +kernel
theorem eg_kl7_1 : (((eg_law7).drop 20).take 20).all (fun e => decide (decode code e.1 = .ok e.2)) = true := by decide +kernel
theorem eg_kl7_2 : ((((eg_law7).drop 20).drop 20).take 20).all (fun e => decide (decode code e.1 = .ok e.2)) = true := by decide +kernel
theorem eg_kl7_3 : (((((eg_law7).drop 20).drop 20).drop 20).take 20).all (fun e => decide (decode code e.1 = .ok e.2)) = true := by decide +kernel
theorem eg_kl7_4 : (((((eg_law7).drop 20).drop 20).drop 20).drop 20).all (fun e => decide (decode code e.1 = .ok e.2)) = true := by decide +kernel
theorem eg_kl7 : eg_law7.all (fun e => decide (decode code e.1 = .ok e.2)) = true := eg_sp eg_kl7_0 (eg_sp eg_kl7_1 (eg_sp eg_kl7_2 (eg_sp eg_kl7_3 eg_kl7_4)))
theorem eg_kl8_0 : ((eg_law8).take 20).all (fun e => decide (decode code e.1 = .ok e.2)) = true := by decide +kernel
theorem eg_kl8_1 : (((eg_law8).drop 20).take 20).all (fun e => decide (decode code e.1 = .ok e.2)) = true := by decide +kernel
theorem eg_kl8_2 : ((((eg_law8).drop 20).drop 20).take 20).all (fun e => decide (decode code e.1 = .ok e.2)) = true := by decide +kernel
theorem eg_kl8_3 : (((((eg_law8).drop 20).drop 20).drop 20).take 20).all (fun e => decide (decode code e.1 = .ok e.2)) = true := by decide +kernel
theorem eg_kl8_4 : (((((eg_law8).drop 20).drop 20).drop 20).drop 20).all (fun e => decide (decode code e.1 = .ok e.2)) = true := by decide +kernel
theorem eg_kl8 : eg_law8.all (fun e => decide (decode code e.1 = .ok e.2)) = true := eg_sp eg_kl8_0 (eg_sp eg_kl8_1 (eg_sp eg_kl8_2 (eg_sp eg_kl8_3 eg_kl8_4)))
