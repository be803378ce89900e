theorem ckL_8 : (List.range 120).all (fun i => am_ckP 254 (960 + i)) = true := by decide +kernel
theorem ckL_9 : (List.range 120).all (fun i => am_ckP 254 (1080 + i)) = true := by decide +kernel
theorem ckL_10 : (List.range 120).all (fun i => am_ckP 254 (1200 + i)) = true := by decide +kernel
theorem ckL_11 : (List.range 120).all (fun i => am_ckP 254 (1320 + i)) = true := by decide +kernel
