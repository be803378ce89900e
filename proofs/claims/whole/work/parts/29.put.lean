/-! put, of both sides -/
theorem g_text : ∀ (n : Nat), n < 4 → rf0 2 n = some (58 + 2 * n) ∧ sh0 (58 + 2 * n) = (0, 8, 0) ∧ rf0 (58 + 2 * n) 0 = some (59 + 2 * n) ∧ sh0 (59 + 2 * n) = (1, 80, 0)
  | 0, _ => ⟨rfl, rfl, rfl, rfl⟩ | 1, _ => ⟨rfl, rfl, rfl, rfl⟩ | 2, _ => ⟨rfl, rfl, rfl, rfl⟩ | 3, _ => ⟨rfl, rfl, rfl, rfl⟩
  | n + 4, h => absurd h (by omega)
set_option maxRecDepth 100000 in
theorem wp_put_bad (r i v : Int) (h : ¬ (0 ≤ r ∧ r < 4)) (μ : Nat → Nat → Int) (Φ : Option AV → ST → Prop) : wpM 86 [.inr (.inr (some 0)), .inl r, .inl i, .inl v] (S μ) Φ ↔ Φ (some (.inl (-1))) (S μ) := by
  unfold wpM
  rw [s1_iff [] 60]
  simp [sz_s, sz_0, gx_s, hx_r, hx_c, hx_b, hx_s, hx_i, hx_n, kx_s, kx_n, kx_i, cx_d, up_at, am_ctl, am_step, am_i1, am_i2, am_i2d, am_l1, am_l2, am_l2d, am_ldi, am_ldl, am_lda, am_sti, am_sta, am_stl, am_inc, am_i2l, am_l2i, am_lcmp, am_dup, am_dup2, am_pop1, am_fv, am_getf, am_putf, am_wr, am_ial, am_lal, am_bal, am_aal, am_ias, am_las, am_bas, am_alen, am_inst, am_cast, am_cpm, am_copy, am_tsw, am_pop, am_cat, am_cS, am_cI, am_cV, am_ri, am_rl, am_ra, am_rv, am_b1, am_b2, am_ent, am_en, am_isL, am_st1, am_st2, am_clr, am_cnd, cc_86, ac_86, nL_86, rb_86, np_129, ok_86_129, nL_129, np_56, ok_86_56, nL_56, vd_56_8, np_133, ok_86_133, nL_133, vd_133_11, tg_11_1, tg_8_1, tg_8_0, sh_0, sh_2, rf_0_1, wp_within, h]
set_option maxRecDepth 100000 in
theorem wp_put (n : Nat) (hn : n < 4) (i v : Int) (μ : Nat → Nat → Int) (hs : μ (58 + 2 * n) 1 ≤ 80) (Φ : Option AV → ST → Prop) : wpM 86 [.inr (.inr (some 0)), .inl n, .inl i, .inl v] (S μ) Φ ↔ (if μ (58 + 2 * n) 1 = -1 then Φ (some (.inl (-3))) (S (am_up (am_up μ 0 9 1) 45 1 (nz (μ 45 1 + 1)))) else if 0 ≤ i ∧ i < μ (58 + 2 * n) 1 then Φ (some (.inl (nz (μ (59 + 2 * n) i.toNat + 1000)))) (S (am_up μ (59 + 2 * n) i.toNat (am_i2b v))) else Φ (some (.inl (-3))) (S (am_up (am_up μ 0 9 2) 45 2 (nz (μ 45 2 + 1))))) := by
  obtain ⟨g1, g2, g3, g4⟩ := g_text n hn
  unfold wpM
  rw [s1_iff [] 60]
  simp [sz_s, sz_0, gx_s, hx_r, hx_c, hx_b, hx_s, hx_i, hx_n, kx_s, kx_n, kx_i, cx_d, up_at, am_ctl, am_step, am_i1, am_i2, am_i2d, am_l1, am_l2, am_l2d, am_ldi, am_ldl, am_lda, am_sti, am_sta, am_stl, am_inc, am_i2l, am_l2i, am_lcmp, am_dup, am_dup2, am_pop1, am_fv, am_getf, am_putf, am_wr, am_ial, am_lal, am_bal, am_aal, am_ias, am_las, am_bas, am_alen, am_inst, am_cast, am_cpm, am_copy, am_tsw, am_pop, am_cat, am_cS, am_cI, am_cV, am_ri, am_rl, am_ra, am_rv, am_b1, am_b2, am_ent, am_en, am_isL, am_st1, am_st2, am_clr, am_cnd, cc_86, ac_86, nL_86, rb_86, np_129, ok_86_129, nL_129, np_56, ok_86_56, nL_56, vd_56_8, np_133, ok_86_133, nL_133, vd_133_11, tg_11_1, tg_8_1, tg_8_0, sh_0, sh_2, rf_0_1, wp_within, g1, g2, g3, g4, wp_isThere (58 + 2 * n) (by omega) g2, wp_find 1 (by decide), wp_find 2 (by decide), show 58 + 2 * n < 121 by omega, show 59 + 2 * n < 121 by omega, show (n : Int) < 4 by omega]
  (repeat' split) <;> first | rfl | (exfalso; omega) | exact and_iff_right (by omega) | exact (and_iff_right (by omega)).trans (and_iff_right (by omega)) | exact (and_iff_right (by omega)).trans ((and_iff_right (by omega)).trans (and_iff_right (by omega)))
theorem i2b_rng (v : Int) : -128 ≤ am_i2b v ∧ am_i2b v ≤ 127 := by
  unfold am_i2b
  rw [Int8.toInt_toInt32]
  have h1 := Int8.le_toInt (Int32.ofInt v).toInt8
  have h2 := Int8.toInt_lt (Int32.ofInt v).toInt8
  omega
set_option maxRecDepth 100000 in
theorem wm_put_bad (r i v : Int) (h : ¬ (0 ≤ r ∧ r < 4)) (μ : Nat → Nat → Int) (Φ : Option AV → ST → Prop) : wpM 173 [.inr (.inr (some 101)), .inl r, .inl i, .inl v] (S μ) Φ ↔ Φ (some (.inl (-1))) (S μ) := by
  unfold wpM
  rw [s1_iff [] 60]
  simp [sz_s, sz_0, gx_s, hx_r, hx_c, hx_b, hx_s, hx_i, hx_n, kx_s, kx_n, kx_i, cx_d, up_at, am_ctl, am_step, am_i1, am_i2, am_i2d, am_l1, am_l2, am_l2d, am_ldi, am_ldl, am_lda, am_sti, am_sta, am_stl, am_inc, am_i2l, am_l2i, am_lcmp, am_dup, am_dup2, am_pop1, am_fv, am_getf, am_putf, am_wr, am_ial, am_lal, am_bal, am_aal, am_ias, am_las, am_bas, am_alen, am_inst, am_cast, am_cpm, am_copy, am_tsw, am_pop, am_cat, am_cS, am_cI, am_cV, am_ri, am_rl, am_ra, am_rv, am_b1, am_b2, am_ent, am_en, am_isL, am_st1, am_st2, am_clr, am_cnd, cc_173, ac_173, nL_173, rb_173, np_156, ok_173_156, nL_156, np_164, ok_173_164, nL_164, np_160, ok_173_160, nL_160, vd_160_12, tg_12_5, tg_12_4, sh_101, wm_isText, show ¬ (0 ≤ r ∧ r ≤ 3) by omega]
set_option maxRecDepth 100000 in
theorem wm_put (n : Nat) (hn : n < 4) (i v : Int) (μ : Nat → Nat → Int) (hs : -1 ≤ μ 107 n ∧ μ 107 n ≤ 80) (Φ : Option AV → ST → Prop) : wpM 173 [.inr (.inr (some 101)), .inl n, .inl i, .inl v] (S μ) Φ ↔ (if μ 107 n < 0 then Φ (some (.inl (-3))) (S (am_up (am_up μ 101 7 1) 108 1 (nz (μ 108 1 + 1)))) else if 0 ≤ i ∧ i < μ 107 n then Φ (some (.inl (nz (1000 + μ 106 (80 * n + i.toNat))))) (S (am_up μ 106 (80 * n + i.toNat) (am_i2b v))) else Φ (some (.inl (-3))) (S (am_up (am_up μ 101 7 2) 108 2 (nz (μ 108 2 + 1))))) := by
  have e1 : nzl (μ 107 n - 1) = μ 107 n - 1 := nzl_of (by omega) (by omega)
  by_cases h1 : μ 107 n < 0
  · rw [if_pos h1]
    unfold wpM
    rw [s1_iff [] 60]
    simp [sz_s, sz_0, gx_s, hx_r, hx_c, hx_b, hx_s, hx_i, hx_n, kx_s, kx_n, kx_i, cx_d, up_at, am_ctl, am_step, am_i1, am_i2, am_i2d, am_l1, am_l2, am_l2d, am_ldi, am_ldl, am_lda, am_sti, am_sta, am_stl, am_inc, am_i2l, am_l2i, am_lcmp, am_dup, am_dup2, am_pop1, am_fv, am_getf, am_putf, am_wr, am_ial, am_lal, am_bal, am_aal, am_ias, am_las, am_bas, am_alen, am_inst, am_cast, am_cpm, am_copy, am_tsw, am_pop, am_cat, am_cS, am_cI, am_cV, am_ri, am_rl, am_ra, am_rv, am_b1, am_b2, am_ent, am_en, am_isL, am_st1, am_st2, am_clr, am_cnd, cc_173, ac_173, nL_173, rb_173, np_156, ok_173_156, nL_156, np_164, ok_173_164, nL_164, np_160, ok_173_160, nL_160, vd_160_12, tg_12_5, tg_12_4, sh_101, sh_107, rf_101_5, wm_isText, h1, show (n : Int) ≤ 3 by omega, show (n : Int) < 4 by omega, show n < 4 by omega, wm_met 1 (by decide)]
    exact fun h3 => absurd h3 (by omega)
  · rw [if_neg h1]
    by_cases h2 : 0 ≤ i ∧ i < μ 107 n
    · rw [if_pos h2]
      have e2 : nz (80 * (n : Int)) = 80 * (n : Int) := nz_of (by omega) (by omega)
      have e3 : nz (80 * (n : Int) + i) = 80 * n + i := nz_of (by omega) (by omega)
      unfold wpM
      rw [s1_iff [] 60]
      simp [sz_s, sz_0, gx_s, hx_r, hx_c, hx_b, hx_s, hx_i, hx_n, kx_s, kx_n, kx_i, cx_d, up_at, am_ctl, am_step, am_i1, am_i2, am_i2d, am_l1, am_l2, am_l2d, am_ldi, am_ldl, am_lda, am_sti, am_sta, am_stl, am_inc, am_i2l, am_l2i, am_lcmp, am_dup, am_dup2, am_pop1, am_fv, am_getf, am_putf, am_wr, am_ial, am_lal, am_bal, am_aal, am_ias, am_las, am_bas, am_alen, am_inst, am_cast, am_cpm, am_copy, am_tsw, am_pop, am_cat, am_cS, am_cI, am_cV, am_ri, am_rl, am_ra, am_rv, am_b1, am_b2, am_ent, am_en, am_isL, am_st1, am_st2, am_clr, am_cnd, cc_173, ac_173, nL_173, rb_173, np_156, ok_173_156, nL_156, np_164, ok_173_164, nL_164, np_160, ok_173_160, nL_160, vd_160_12, tg_12_5, tg_12_4, sh_101, sh_106, sh_107, rf_101_4, rf_101_5, wm_isText, wm_in, h1, show 0 ≤ μ 107 n by omega, e1, show (n : Int) ≤ 3 by omega, show (n : Int) < 4 by omega, show n < 4 by omega, show 0 ≤ i ∧ i ≤ μ 107 n - 1 by omega, e2, e3, show (80 * (n : Int) + i).toNat = 80 * n + i.toNat by omega]
      trace_state
      omega
    · rw [if_neg h2]
      unfold wpM
      rw [s1_iff [] 60]
      simp [sz_s, sz_0, gx_s, hx_r, hx_c, hx_b, hx_s, hx_i, hx_n, kx_s, kx_n, kx_i, cx_d, up_at, am_ctl, am_step, am_i1, am_i2, am_i2d, am_l1, am_l2, am_l2d, am_ldi, am_ldl, am_lda, am_sti, am_sta, am_stl, am_inc, am_i2l, am_l2i, am_lcmp, am_dup, am_dup2, am_pop1, am_fv, am_getf, am_putf, am_wr, am_ial, am_lal, am_bal, am_aal, am_ias, am_las, am_bas, am_alen, am_inst, am_cast, am_cpm, am_copy, am_tsw, am_pop, am_cat, am_cS, am_cI, am_cV, am_ri, am_rl, am_ra, am_rv, am_b1, am_b2, am_ent, am_en, am_isL, am_st1, am_st2, am_clr, am_cnd, cc_173, ac_173, nL_173, rb_173, np_156, ok_173_156, nL_156, np_164, ok_173_164, nL_164, np_160, ok_173_160, nL_160, vd_160_12, tg_12_5, tg_12_4, sh_101, sh_107, rf_101_5, wm_isText, wm_in, h1, show 0 ≤ μ 107 n by omega, e1, show (n : Int) ≤ 3 by omega, show (n : Int) < 4 by omega, show n < 4 by omega, show ¬ (0 ≤ i ∧ i ≤ μ 107 n - 1) by omega, wm_met 2 (by decide)]
