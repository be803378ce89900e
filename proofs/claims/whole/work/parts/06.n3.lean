theorem ckL_12 : (List.range 120).all (fun i => am_ckP 254 (1440 + i)) = true := by decide +kernel
theorem ckL_13 : (List.range 69).all (fun i => am_ckP 254 (1560 + i)) = true := by decide +kernel
