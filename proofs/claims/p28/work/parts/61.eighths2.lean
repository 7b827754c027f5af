theorem okP_0 : allB (fun e => okP (0 + e)) 500 = true := by decide +kernel
theorem okP_1 : allB (fun e => okP (500 + e)) 500 = true := by decide +kernel
theorem okP_2 : allB (fun e => okP (1000 + e)) 500 = true := by decide +kernel
theorem okP_3 : allB (fun e => okP (1500 + e)) 500 = true := by decide +kernel
theorem okP_4 : allB (fun e => okP (2000 + e)) 500 = true := by decide +kernel
theorem okP_5 : allB (fun e => okP (2500 + e)) 500 = true := by decide +kernel
theorem okP_6 : allB (fun e => okP (3000 + e)) 500 = true := by decide +kernel
theorem okP_7 : allB (fun e => okP (3500 + e)) 500 = true := by decide +kernel
theorem okP_8 : allB (fun e => okP (4000 + e)) 500 = true := by decide +kernel
theorem okP_9 : allB (fun e => okP (4500 + e)) 500 = true := by decide +kernel
theorem okP_10 : allB (fun e => okP (5000 + e)) 500 = true := by decide +kernel
theorem okP_11 : allB (fun e => okP (5500 + e)) 500 = true := by decide +kernel
theorem okP_12 : allB (fun e => okP (6000 + e)) 500 = true := by decide +kernel
theorem okP_13 : allB (fun e => okP (6500 + e)) 500 = true := by decide +kernel
theorem okP_14 : allB (fun e => okP (7000 + e)) 500 = true := by decide +kernel
theorem okP_15 : allB (fun e => okP (7500 + e)) 500 = true := by decide +kernel
theorem okP_l : okP 8000 = true := by decide +kernel
