theorem ckM_15 : (List.range 10).all (fun i => am_ckM (150 + i)) = true := by decide +kernel
theorem ckM_16 : (List.range 10).all (fun i => am_ckM (160 + i)) = true := by decide +kernel
theorem ckM_17 : (List.range 10).all (fun i => am_ckM (170 + i)) = true := by decide +kernel
theorem ckM_18 : (List.range 10).all (fun i => am_ckM (180 + i)) = true := by decide +kernel
