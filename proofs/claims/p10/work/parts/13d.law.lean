/-! the law's code, decoded: 1 -/
theorem eg_kl3_0 : ((eg_law3).take 20).all (fun e => decide (decode code e.1 = .ok e.2)) = true := by decide +kernel
theorem eg_kl3_1 : (((eg_law3).drop 20).take 20).all (fun e => decide (decode code e.1 = .ok e.2)) = true := by decide +kernel
theorem eg_kl3_2 : ((((eg_law3).drop 20).drop 20).take 20).all (fun e => decide (decode code e.1 = .ok e.2)) = true := by decide +kernel
theorem eg_kl3_3 : (((((eg_law3).drop 20).drop 20).drop 20).take 20).all (fun e => decide (decode code e.1 = .ok e.2)) = true := by decide +kernel
theorem eg_kl3_4 : (((((eg_law3).drop 20).drop 20).drop 20).drop 20).all (fun e => decide (decode code e.1 = .ok e.2)) = true := by decide +kernel
theorem eg_kl3 : eg_law3.all (fun e => decide (decode code e.1 = .ok e.2)) = true := eg_sp eg_kl3_0 (eg_sp eg_kl3_1 (eg_sp eg_kl3_2 (eg_sp eg_kl3_3 eg_kl3_4)))
theorem eg_kl4_0 : ((eg_law4).take 20).all (fun e => decide (decode code e.1 = .ok e.2)) = true := by decide +kernel
theorem eg_kl4_1 : (((eg_law4).drop 20).take 20).all (fun e => decide (decode code e.1 = .ok e.2)) = true := by decide +kernel
theorem eg_kl4_2 : ((((eg_law4).drop 20).drop 20).take 20).all (fun e => decide (decode code e.1 = .ok e.2)) = true := by decide +kernel
theorem eg_kl4_3 : (((((eg_law4).drop 20).drop 20).drop 20).take 20).all (fun e => decide (decode code e.1 = .ok e.2)) = true := by decide +kernel
theorem eg_kl4_4 : (((((eg_law4).drop 20).drop 20).drop 20).drop 20).all (fun e => decide (decode code e.1 = .ok e.2)) = true := by decide +kernel
theorem eg_kl4 : eg_law4.all (fun e => decide (decode code e.1 = .ok e.2)) = true := eg_sp eg_kl4_0 (eg_sp eg_kl4_1 (eg_sp eg_kl4_2 (eg_sp eg_kl4_3 eg_kl4_4)))
theorem eg_kl5_0 : ((eg_law5).take 20).all (fun e => decide (decode code e.1 = .ok e.2)) = true := by decide +kernel
theorem eg_kl5_1 : (((eg_law5).drop 20).take 20).all (fun e => decide (decode code e.1 = .ok e.2)) = true := by decide +kernel
theorem eg_kl5_2 : ((((eg_law5).drop 20).drop 20).take 20).all (fun e => decide (decode code e.1 = .ok e.2)) = true := by decide +kernel
theorem eg_kl5_3 : (((((eg_law5).drop 20).drop 20).drop 20).take 20).all (fun e => decide (decode code e.1 = .ok e.2)) = true := by decide +kernel
theorem eg_kl5_4 : (((((eg_law5).drop 20).drop 20).drop 20).drop 20).all (fun e => decide (decode code e.1 = .ok e.2)) = true := by decide +kernel
theorem eg_kl5 : eg_law5.all (fun e => decide (decode code e.1 = .ok e.2)) = true := eg_sp eg_kl5_0 (eg_sp eg_kl5_1 (eg_sp eg_kl5_2 (eg_sp eg_kl5_3 eg_kl5_4)))
