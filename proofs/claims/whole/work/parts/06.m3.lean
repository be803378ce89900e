theorem ckM_19 : (List.range 10).all (fun i => am_ckM (190 + i)) = true := by decide +kernel
theorem ckM_20 : (List.range 10).all (fun i => am_ckM (200 + i)) = true := by decide +kernel
theorem ckM_21 : (List.range 10).all (fun i => am_ckM (210 + i)) = true := by decide +kernel
theorem ckM_22 : (List.range 10).all (fun i => am_ckM (220 + i)) = true := by decide +kernel
