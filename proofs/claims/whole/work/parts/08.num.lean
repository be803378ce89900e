/-! numbers: normalized Ints against Int32, Int64 -/
theorem nz_b (z : Int) : nz z = z.bmod (2 ^ 32) := by simp [nz, Int32.toInt_ofInt, Int32.size]
theorem nzl_b (z : Int) : nzl z = z.bmod (2 ^ 64) := by simp [nzl, Int64.toInt_ofInt, Int64.size]
theorem nz_i (x : Int32) : nz x.toInt = x.toInt := by simp [nz]
theorem nzl_i (x : Int64) : nzl x.toInt = x.toInt := by simp [nzl]
theorem nz_nz (z : Int) : nz (nz z) = nz z := nz_i _
theorem nzl_nzl (z : Int) : nzl (nzl z) = nzl z := nzl_i _
theorem of_nz (z : Int) : Int32.ofInt (nz z) = Int32.ofInt z := Int32.ofInt_toInt _
theorem of_nzl (z : Int) : Int64.ofInt (nzl z) = Int64.ofInt z := Int64.ofInt_toInt _
theorem nz_rng {z : Int} : nz z = z ↔ -2147483648 ≤ z ∧ z < 2147483648 := by
  rw [nz_b]; constructor
  · intro h
    rw [← h]
    have h1 := @Int.le_bmod z (2 ^ 32) (by decide)
    have h2 := @Int.bmod_lt z (2 ^ 32) (by decide)
    omega
  · rintro ⟨h1, h2⟩
    rw [Int.bmod_eq_of_le] <;> omega
theorem nzl_rng {z : Int} : nzl z = z ↔ -9223372036854775808 ≤ z ∧ z < 9223372036854775808 := by
  rw [nzl_b]; constructor
  · intro h
    rw [← h]
    have h1 := @Int.le_bmod z (2 ^ 64) (by decide)
    have h2 := @Int.bmod_lt z (2 ^ 64) (by decide)
    omega
  · rintro ⟨h1, h2⟩
    rw [Int.bmod_eq_of_le] <;> omega
theorem nz_of {z : Int} (h1 : -2147483648 ≤ z) (h2 : z < 2147483648) : nz z = z := nz_rng.mpr ⟨h1, h2⟩
theorem nzl_of {z : Int} (h1 : -9223372036854775808 ≤ z) (h2 : z < 9223372036854775808) : nzl z = z := nzl_rng.mpr ⟨h1, h2⟩
theorem i_ti {a : Int} (h : nz a = a) : (Int32.ofInt a).toInt = a := h
theorem l_ti {a : Int} (h : nzl a = a) : (Int64.ofInt a).toInt = a := h
theorem i_lt {a b : Int} (ha : nz a = a) (hb : nz b = b) : Int32.ofInt a < Int32.ofInt b ↔ a < b := by rw [Int32.lt_iff_toInt_lt, i_ti ha, i_ti hb]
theorem i_le {a b : Int} (ha : nz a = a) (hb : nz b = b) : Int32.ofInt a ≤ Int32.ofInt b ↔ a ≤ b := by rw [Int32.le_iff_toInt_le, i_ti ha, i_ti hb]
theorem i_eq {a b : Int} (ha : nz a = a) (hb : nz b = b) : Int32.ofInt a = Int32.ofInt b ↔ a = b := by rw [← Int32.toInt_inj, i_ti ha, i_ti hb]
theorem l_lt {a b : Int} (ha : nzl a = a) (hb : nzl b = b) : Int64.ofInt a < Int64.ofInt b ↔ a < b := by rw [Int64.lt_iff_toInt_lt, l_ti ha, l_ti hb]
theorem l_eq {a b : Int} (ha : nzl a = a) (hb : nzl b = b) : Int64.ofInt a = Int64.ofInt b ↔ a = b := by rw [← Int64.toInt_inj, l_ti ha, l_ti hb]
theorem i_0 : Int32.ofInt 0 = 0 := rfl
theorem n_0 : nz 0 = 0 := rfl
theorem nl_0 : nzl 0 = 0 := rfl
theorem i_add (a b : Int) : Int32.ofInt (nz (a + b)) = Int32.ofInt a + Int32.ofInt b := by rw [of_nz, Int32.ofInt_add]
theorem i_sub (a b : Int) : Int32.ofInt (nz (a - b)) = Int32.ofInt a - Int32.ofInt b := by rw [of_nz, Int32.ofInt_sub]
theorem i_mul (a b : Int) : Int32.ofInt (nz (a * b)) = Int32.ofInt a * Int32.ofInt b := by rw [of_nz, Int32.ofInt_mul]
theorem i_neg (a : Int) : Int32.ofInt (nz (-a)) = -Int32.ofInt a := by rw [of_nz, Int32.ofInt_neg]
theorem l_add (a b : Int) : Int64.ofInt (nzl (a + b)) = Int64.ofInt a + Int64.ofInt b := by rw [of_nzl, Int64.ofInt_add]
theorem l_sub (a b : Int) : Int64.ofInt (nzl (a - b)) = Int64.ofInt a - Int64.ofInt b := by rw [of_nzl, Int64.ofInt_sub]
theorem l_mul (a b : Int) : Int64.ofInt (nzl (a * b)) = Int64.ofInt a * Int64.ofInt b := by rw [of_nzl, Int64.ofInt_mul]
theorem l_neg (a : Int) : Int64.ofInt (nzl (-a)) = -Int64.ofInt a := by rw [of_nzl, Int64.ofInt_neg]
theorem i_div {a b : Int} (ha : nz a = a) (hb : nz b = b) : Int32.ofInt (nz (a.tdiv b)) = Int32.ofInt a / Int32.ofInt b := by
  rw [← Int32.toInt_inj, Int32.toInt_div, i_ti ha, i_ti hb, i_ti (nz_nz _), nz_b]
theorem l_div {a b : Int} (ha : nzl a = a) (hb : nzl b = b) : Int64.ofInt (nzl (a.tdiv b)) = Int64.ofInt a / Int64.ofInt b := by
  rw [← Int64.toInt_inj, Int64.toInt_div, l_ti ha, l_ti hb, l_ti (nzl_nzl _), nzl_b]
theorem i_rem {a b : Int} (ha : nz a = a) (hb : nz b = b) : Int32.ofInt (a.tmod b) = Int32.ofInt a - Int32.ofInt a / Int32.ofInt b * Int32.ofInt b := by
  rw [← i_div ha hb, of_nz, ← Int32.ofInt_mul, ← Int32.ofInt_sub]
  congr 1
  have := Int.tmod_add_tdiv_mul a b
  omega
theorem l_rem {a b : Int} (ha : nzl a = a) (hb : nzl b = b) : Int64.ofInt (a.tmod b) = Int64.ofInt a - Int64.ofInt a / Int64.ofInt b * Int64.ofInt b := by
  rw [← l_div ha hb, of_nzl, ← Int64.ofInt_mul, ← Int64.ofInt_sub]
  congr 1
  have := Int.tmod_add_tdiv_mul a b
  omega
theorem tmod_abs (a b : Int) : (a.tmod b).natAbs ≤ a.natAbs := by
  rw [Int.natAbs_tmod]
  exact Nat.mod_le _ _
theorem n_rem {a b : Int} (ha : nz a = a) : nz (a.tmod b) = a.tmod b := by
  rw [nz_rng] at ha ⊢
  have h := tmod_abs a b
  have h2 : 0 ≤ a → 0 ≤ a.tmod b := fun h => Int.tmod_nonneg b h
  have h3 : a ≤ 0 → a.tmod b ≤ 0 := fun h => by
    have q := Int.tmod_nonneg b (show 0 ≤ -a by omega)
    rw [Int.neg_tmod] at q
    omega
  omega
theorem nl_rem {a b : Int} (ha : nzl a = a) : nzl (a.tmod b) = a.tmod b := by
  rw [nzl_rng] at ha ⊢
  have h := tmod_abs a b
  have h2 : 0 ≤ a → 0 ≤ a.tmod b := fun h => Int.tmod_nonneg b h
  have h3 : a ≤ 0 → a.tmod b ≤ 0 := fun h => by
    have q := Int.tmod_nonneg b (show 0 ≤ -a by omega)
    rw [Int.neg_tmod] at q
    omega
  omega
theorem i_cl {i : Int} (h : nz i = i) (h0 : 0 ≤ i) : (Int32.ofInt i).toNatClampNeg = i.toNat := by
  unfold Int32.toNatClampNeg
  rw [i_ti h]
theorem i_in {i : Int} {n : Nat} (h : nz i = i) (h0 : 0 ≤ i) (h1 : i < n) : vp_in (Int32.ofInt i) n := by
  rw [vp_in_iff, i_ti h]
  exact ⟨h0, h1⟩
theorem i_nneg {i : Int} (h : nz i = i) (h0 : 0 ≤ i) : ¬ Int32.ofInt i < 0 := by
  rw [← i_0, i_lt h n_0]; omega
theorem i_il {a : Int} (h : nz a = a) : (Int32.ofInt a).toInt64 = Int64.ofInt a := by
  rw [← Int64.toInt_inj, Int32.toInt_toInt64, i_ti h, l_ti]
  rw [nz_rng] at h; rw [nzl_rng]; omega
theorem n_il {a : Int} (h : nz a = a) : nzl a = a := by rw [nz_rng] at h; rw [nzl_rng]; omega
theorem i_li (a : Int) : (Int64.ofInt a).toInt32 = Int32.ofInt (nz a) := by
  rw [of_nz]
  exact Int64.toInt32_ofInt
theorem i_cmp {a b : Int} (ha : nzl a = a) (hb : nzl b = b) : lg_cmp (Int64.ofInt a) (Int64.ofInt b) = Int32.ofInt (am_cmp a b) := by
  unfold lg_cmp am_cmp
  simp only [gt_iff_lt, l_lt hb ha, l_eq ha hb]
  by_cases h1 : a < b
  · rw [if_neg (by omega), if_neg (by omega), if_pos h1]; rfl
  · by_cases h2 : a = b
    · rw [if_neg (by omega), if_pos h2, if_neg h1, if_pos h2]; rfl
    · rw [if_pos (by omega), if_neg h1, if_neg h2]; rfl
theorem n_cmp (a b : Int) : nz (am_cmp a b) = am_cmp a b := by
  unfold am_cmp
  split
  · rfl
  · split <;> rfl
theorem of_i (x : Int32) : Int32.ofInt x.toInt = x := Int32.ofInt_toInt x
