theorem ckM_all (y : Nat) (hy : y < 254) : am_ckM y = true := by
  have h : y / 10 < 26 := by omega
  have e : y = 10 * (y / 10) + y % 10 := by omega
  have hm : y % 10 < 10 := by omega
  rw [e] at hy ⊢
  generalize y / 10 = a at *
  generalize y % 10 = b at *
  match a, h with
  | 0, _ => exact List.all_eq_true.mp ckM_0 b (List.mem_range.mpr (by omega))
  | 1, _ => exact List.all_eq_true.mp ckM_1 b (List.mem_range.mpr (by omega))
  | 2, _ => exact List.all_eq_true.mp ckM_2 b (List.mem_range.mpr (by omega))
  | 3, _ => exact List.all_eq_true.mp ckM_3 b (List.mem_range.mpr (by omega))
  | 4, _ => exact List.all_eq_true.mp ckM_4 b (List.mem_range.mpr (by omega))
  | 5, _ => exact List.all_eq_true.mp ckM_5 b (List.mem_range.mpr (by omega))
  | 6, _ => exact List.all_eq_true.mp ckM_6 b (List.mem_range.mpr (by omega))
  | 7, _ => exact List.all_eq_true.mp ckM_7 b (List.mem_range.mpr (by omega))
  | 8, _ => exact List.all_eq_true.mp ckM_8 b (List.mem_range.mpr (by omega))
  | 9, _ => exact List.all_eq_true.mp ckM_9 b (List.mem_range.mpr (by omega))
  | 10, _ => exact List.all_eq_true.mp ckM_10 b (List.mem_range.mpr (by omega))
  | 11, _ => exact List.all_eq_true.mp ckM_11 b (List.mem_range.mpr (by omega))
  | 12, _ => exact List.all_eq_true.mp ckM_12 b (List.mem_range.mpr (by omega))
  | 13, _ => exact List.all_eq_true.mp ckM_13 b (List.mem_range.mpr (by omega))
  | 14, _ => exact List.all_eq_true.mp ckM_14 b (List.mem_range.mpr (by omega))
  | 15, _ => exact List.all_eq_true.mp ckM_15 b (List.mem_range.mpr (by omega))
  | 16, _ => exact List.all_eq_true.mp ckM_16 b (List.mem_range.mpr (by omega))
  | 17, _ => exact List.all_eq_true.mp ckM_17 b (List.mem_range.mpr (by omega))
  | 18, _ => exact List.all_eq_true.mp ckM_18 b (List.mem_range.mpr (by omega))
  | 19, _ => exact List.all_eq_true.mp ckM_19 b (List.mem_range.mpr (by omega))
  | 20, _ => exact List.all_eq_true.mp ckM_20 b (List.mem_range.mpr (by omega))
  | 21, _ => exact List.all_eq_true.mp ckM_21 b (List.mem_range.mpr (by omega))
  | 22, _ => exact List.all_eq_true.mp ckM_22 b (List.mem_range.mpr (by omega))
  | 23, _ => exact List.all_eq_true.mp ckM_23 b (List.mem_range.mpr (by omega))
  | 24, _ => exact List.all_eq_true.mp ckM_24 b (List.mem_range.mpr (by omega))
  | 25, _ => exact List.all_eq_true.mp ckM_25 b (List.mem_range.mpr (by omega))
  | n + 26, h => exact absurd h (by omega)
theorem ckL_all (pc : Nat) (hp : pc < 1629) : am_ckP 254 pc = true := by
  have h : pc / 120 < 14 := by omega
  have e : pc = 120 * (pc / 120) + pc % 120 := by omega
  have hm : pc % 120 < 120 := by omega
  rw [e] at hp ⊢
  generalize pc / 120 = a at *
  generalize pc % 120 = b at *
  match a, h with
  | 0, _ => exact List.all_eq_true.mp ckL_0 b (List.mem_range.mpr (by omega))
  | 1, _ => exact List.all_eq_true.mp ckL_1 b (List.mem_range.mpr (by omega))
  | 2, _ => exact List.all_eq_true.mp ckL_2 b (List.mem_range.mpr (by omega))
  | 3, _ => exact List.all_eq_true.mp ckL_3 b (List.mem_range.mpr (by omega))
  | 4, _ => exact List.all_eq_true.mp ckL_4 b (List.mem_range.mpr (by omega))
  | 5, _ => exact List.all_eq_true.mp ckL_5 b (List.mem_range.mpr (by omega))
  | 6, _ => exact List.all_eq_true.mp ckL_6 b (List.mem_range.mpr (by omega))
  | 7, _ => exact List.all_eq_true.mp ckL_7 b (List.mem_range.mpr (by omega))
  | 8, _ => exact List.all_eq_true.mp ckL_8 b (List.mem_range.mpr (by omega))
  | 9, _ => exact List.all_eq_true.mp ckL_9 b (List.mem_range.mpr (by omega))
  | 10, _ => exact List.all_eq_true.mp ckL_10 b (List.mem_range.mpr (by omega))
  | 11, _ => exact List.all_eq_true.mp ckL_11 b (List.mem_range.mpr (by omega))
  | 12, _ => exact List.all_eq_true.mp ckL_12 b (List.mem_range.mpr (by omega))
  | 13, _ => exact List.all_eq_true.mp ckL_13 b (List.mem_range.mpr (by omega))
  | n + 14, h => exact absurd h (by omega)
theorem ck_code {y pc len wa wb : Nat} {am : Instr} (h : am_code y pc = some (am, len, wa, wb)) : y < 255 ∧ decode (am_C y) pc = .ok (am_raw pc wa am, len) ∧ am_ckx y len wa wb am = true := by
  unfold am_code at h
  split at h
  · rename_i hh
    have h1 : am_ckP y pc = true := by
      by_cases hy : y < 254
      · exact List.all_eq_true.mp (ckM_all y hy) pc (List.mem_range.mpr hh.2)
      · obtain rfl : y = 254 := by omega
        exact ckL_all pc (by have e : am_len 254 = 1629 := by decide +kernel
                             rw [← e]; exact hh.2)
    unfold am_ckP at h1
    simp only [h] at h1
    unfold am_ck at h1
    rw [Bool.and_eq_true] at h1
    exact ⟨hh.1, of_decide_eq_true h1.1, h1.2⟩
  · cases h
