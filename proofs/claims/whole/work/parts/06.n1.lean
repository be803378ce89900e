theorem ckL_4 : (List.range 120).all (fun i => am_ckP 254 (480 + i)) = true := by decide +kernel
theorem ckL_5 : (List.range 120).all (fun i => am_ckP 254 (600 + i)) = true := by decide +kernel
theorem ckL_6 : (List.range 120).all (fun i => am_ckP 254 (720 + i)) = true := by decide +kernel
theorem ckL_7 : (List.range 120).all (fun i => am_ckP 254 (840 + i)) = true := by decide +kernel
