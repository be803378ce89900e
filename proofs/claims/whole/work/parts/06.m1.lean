theorem ckM_9 : (List.range 10).all (fun i => am_ckM (90 + i)) = true := by decide +kernel
theorem ckM_10 : (List.range 10).all (fun i => am_ckM (100 + i)) = true := by decide +kernel
theorem ckM_11 : (List.range 10).all (fun i => am_ckM (110 + i)) = true := by decide +kernel
theorem ckM_12 : (List.range 10).all (fun i => am_ckM (120 + i)) = true := by decide +kernel
theorem ckM_13 : (List.range 10).all (fun i => am_ckM (130 + i)) = true := by decide +kernel
theorem ckM_14 : (List.range 10).all (fun i => am_ckM (140 + i)) = true := by decide +kernel
