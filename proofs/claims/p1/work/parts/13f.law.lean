/-! the law's code, decoded: 3 -/
theorem eg_kl12_0 : ((eg_law12).take 20).all (fun e => decide (decode code e.1 = .ok e.2)) = true := by decide +kernel
theorem eg_kl12_1 : (((eg_law12).drop 20).take 20).all (fun e => decide (decode code e.1 = .ok e.2)) = true := by decide +kernel
theorem eg_kl12_2 : ((((eg_law12).drop 20).drop 20).take 20).all (fun e => decide (decode code e.1 = .ok e.2)) = true := by decide +kernel
theorem eg_kl12_3 : (((((eg_law12).drop 20).drop 20).drop 20).take 20).all (fun e => decide (decode code e.1 = .ok e.2)) = true := by decide +kernel
theorem eg_kl12_4 : (((((eg_law12).drop 20).drop 20).drop 20).drop 20).all (fun e => decide (decode code e.1 = .ok e.2)) = true := by decide +kernel
theorem eg_kl12 : eg_law12.all (fun e => decide (decode code e.1 = .ok e.2)) = true := eg_sp eg_kl12_0 (eg_sp eg_kl12_1 (eg_sp eg_kl12_2 (eg_sp eg_kl12_3 eg_kl12_4)))
theorem eg_kl13_0 : ((eg_law13).take 20).all (fun e => decide (decode code e.1 = .ok e.2)) = true := by decide +kernel
theorem eg_kl13_1 : (((eg_law13).drop 20).take 20).all (fun e => decide (decode code e.1 = .ok e.2)) = true := by decide +kernel
theorem eg_kl13_2 : ((((eg_law13).drop 20).drop 20).take 20).all (fun e => decide (decode code e.1 = .ok e.2)) = true := by decide +kernel
theorem eg_kl13_3 : (((((eg_law13).drop 20).drop 20).drop 20).take 20).all (fun e => decide (decode code e.1 = .ok e.2)) = true := by decide +kernel
theorem eg_kl13_4 : (((((eg_law13).drop 20).drop 20).drop 20).drop 20).all (fun e => decide (decode code e.1 = .ok e.2)) = true := by decide +kernel
theorem eg_kl13 : eg_law13.all (fun e => decide (decode code e.1 = .ok e.2)) = true := eg_sp eg_kl13_0 (eg_sp eg_kl13_1 (eg_sp eg_kl13_2 (eg_sp eg_kl13_3 eg_kl13_4)))
theorem eg_kl14_0 : ((eg_law14).take 20).all (fun e => decide (decode code e.1 = .ok e.2)) = true := by decide +kernel
theorem eg_kl14_1 : (((eg_law14).drop 20).take 20).all (fun e => decide (decode code e.1 = .ok e.2)) = true := by decide +kernel
theorem eg_kl14_2 : ((((eg_law14).drop 20).drop 20).take 20).all (fun e => decide (decode code e.1 = .ok e.2)) = true := by decide +kernel
theorem eg_kl14_3 : (((((eg_law14).drop 20).drop 20).drop 20).take 20).all (fun e => decide (decode code e.1 = .ok e.2)) = true := by decide +kernel
theorem eg_kl14_4 : (((((eg_law14).drop 20).drop 20).drop 20).drop 20).all (fun e => decide (decode code e.1 = .ok e.2)) = true := by decide +kernel
theorem eg_kl14 : eg_law14.all (fun e => decide (decode code e.1 = .ok e.2)) = true := eg_sp eg_kl14_0 (eg_sp eg_kl14_1 (eg_sp eg_kl14_2 (eg_sp eg_kl14_3 eg_kl14_4)))
theorem eg_kl15_0 : ((eg_law15).take 20).all (fun e => decide (decode code e.1 = .ok e.2)) = true := by decide +kernel
theorem eg_kl15_1 : (((eg_law15).drop 20).take 20).all (fun e => decide (decode code e.1 = .ok e.2)) = true := by decide +kernel
theorem eg_kl15_2 : ((((eg_law15).drop 20).drop 20).take 20).all (fun e => decide (decode code e.1 = .ok e.2)) = true := by decide +kernel
theorem eg_kl15_3 : (((((eg_law15).drop 20).drop 20).drop 20).take 20).all (fun e => decide (decode code e.1 = .ok e.2)) = true := by decide +kernel
theorem eg_kl15_4 : (((((eg_law15).drop 20).drop 20).drop 20).drop 20).all (fun e => decide (decode code e.1 = .ok e.2)) = true := by decide +kernel
theorem eg_kl15 : eg_law15.all (fun e => decide (decode code e.1 = .ok e.2)) = true := eg_sp eg_kl15_0 (eg_sp eg_kl15_1 (eg_sp eg_kl15_2 (eg_sp eg_kl15_3 eg_kl15_4)))
