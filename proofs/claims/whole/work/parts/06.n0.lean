def am_ckP (y pc : Nat) : Bool := match am_tree y pc with
  | none => true
  | some (am, len, wa, wb) => am_ck y pc am len wa wb
theorem ckL_0 : (List.range 120).all (fun i => am_ckP 254 (0 + i)) = true := by decide +kernel
theorem ckL_1 : (List.range 120).all (fun i => am_ckP 254 (120 + i)) = true := by decide +kernel
theorem ckL_2 : (List.range 120).all (fun i => am_ckP 254 (240 + i)) = true := by decide +kernel
theorem ckL_3 : (List.range 120).all (fun i => am_ckP 254 (360 + i)) = true := by decide +kernel
