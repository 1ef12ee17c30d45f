/-! the law's code, decoded: 0 -/
theorem eg_sp {α : Type} {p : α → Bool} {l : List α} {n : Nat} (h1 : (l.take n).all p = true) (h2 : (l.drop n).all p = true) : l.all p = true := by
  rw [← List.take_append_drop n l, List.all_append, h1, h2]
  rfl
theorem eg_kl0_0 : ((eg_law0).take 20).all (fun e => decide (decode code e.1 = .ok e.2)) = true := by decide +kernel
theorem eg_kl0_1 : (((eg_law0).drop 20).take 20).all (fun e => decide (decode code e.1 = .ok e.2)) = true := by decide +kernel
theorem eg_kl0_2 : ((((eg_law0).drop 20).drop 20).take 20).all (fun e => decide (decode code e.1 = .ok e.2)) = true := by decide +kernel
theorem eg_kl0_3 : (((((eg_law0).drop 20).drop 20).drop 20).take 20).all (fun e => decide (decode code e.1 = .ok e.2)) = true := by decide +kernel
theorem eg_kl0_4 : (((((eg_law0).drop 20).drop 20).drop 20).drop 20).all (fun e => decide (decode code e.1 = .ok e.2)) = true := by decide +kernel
theorem eg_kl0 : eg_law0.all (fun e => decide (decode code e.1 = .ok e.2)) = true := eg_sp eg_kl0_0 (eg_sp eg_kl0_1 (eg_sp eg_kl0_2 (eg_sp eg_kl0_3 eg_kl0_4)))
theorem eg_kl1_0 : ((eg_law1).take 20).all (fun e => decide (decode code e.1 = .ok e.2)) = true := by decide +kernel
theorem eg_kl1_1 : (((eg_law1).drop 20).take 20).all (fun e => decide (decode code e.1 = .ok e.2)) = true := by decide +kernel
theorem eg_kl1_2 : ((((eg_law1).drop 20).drop 20).take 20).all (fun e => decide (decode code e.1 = .ok e.2)) = true := by decide +kernel
theorem eg_kl1_3 : (((((eg_law1).drop 20).drop 20).drop 20).take 20).all (fun e => decide (decode code e.1 = .ok e.2)) = true := by decide +kernel
theorem eg_kl1_4 : (((((eg_law1).drop 20).drop 20).drop 20).drop 20).all (fun e => decide (decode code e.1 = .ok e.2)) = true := by decide +kernel
theorem eg_kl1 : eg_law1.all (fun e => decide (decode code e.1 = .ok e.2)) = true := eg_sp eg_kl1_0 (eg_sp eg_kl1_1 (eg_sp eg_kl1_2 (eg_sp eg_kl1_3 eg_kl1_4)))
theorem eg_kl2_0 : ((eg_law2).take 20).all (fun e => decide (decode code e.1 = .ok e.2)) = true := by decide +kernel
theorem eg_kl2_1 : (((eg_law2).drop 20).take 20).all (fun e => decide (decode code e.1 = .ok e.2)) = true := by decide +kernel
theorem eg_kl2_2 : ((((eg_law2).drop 20).drop 20).take 20).all (fun e => decide (decode code e.1 = .ok e.2)) = true := by decide +kernel
theorem eg_kl2_3 : (((((eg_law2).drop 20).drop 20).drop 20).take 20).all (fun e => decide (decode code e.1 = .ok e.2)) = true := by decide +kernel
theorem eg_kl2_4 : (((((eg_law2).drop 20).drop 20).drop 20).drop 20).all (fun e => decide (decode code e.1 = .ok e.2)) = true := by decide +kernel
theorem eg_kl2 : eg_law2.all (fun e => decide (decode code e.1 = .ok e.2)) = true := eg_sp eg_kl2_0 (eg_sp eg_kl2_1 (eg_sp eg_kl2_2 (eg_sp eg_kl2_3 eg_kl2_4)))
