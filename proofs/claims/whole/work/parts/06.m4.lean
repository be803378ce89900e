theorem ckM_23 : (List.range 10).all (fun i => am_ckM (230 + i)) = true := by decide +kernel
theorem ckM_24 : (List.range 10).all (fun i => am_ckM (240 + i)) = true := by decide +kernel
theorem ckM_25 : (List.range 4).all (fun i => am_ckM (250 + i)) = true := by decide +kernel
