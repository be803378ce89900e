/-! helpers of both sides -/
set_option maxRecDepth 100000 in
theorem wp_within (v b : Int) (σ : ST) (Φ : Option AV → ST → Prop) : wpM 129 [.inl v, .inl b] σ Φ ↔ Φ (some (.inl (if 0 ≤ v ∧ v < b then 1 else 0))) σ := by
  unfold wpM
  rw [sx_iff 20]
  simp [sx_s, sx_0, gx_s, hx_r, hx_c, hx_b, hx_s, hx_i, hx_n, kx_s, kx_n, kx_i, cx_d, up_at, am_ctl, am_step, am_i1, am_i2, am_i2d, am_l1, am_l2, am_l2d, am_ldi, am_ldl, am_lda, am_sti, am_sta, am_stl, am_inc, am_i2l, am_l2i, am_lcmp, am_dup, am_dup2, am_pop1, am_fv, am_getf, am_putf, am_wr, am_ial, am_lal, am_bal, am_aal, am_ias, am_las, am_bas, am_alen, am_inst, am_cast, am_cpm, am_copy, am_tsw, am_pop, am_cat, am_cS, am_cI, am_cV, am_ri, am_rl, am_ra, am_rv, am_b1, am_b2, am_ent, am_en, am_isL, am_st1, am_st2, am_clr, am_cnd, cc_129, ac_129, nL_129, rb_129]
  by_cases h1 : v < 0
  · rw [if_pos h1, if_neg (by omega)]
  · rw [if_neg h1]
    by_cases h2 : b ≤ v
    · rw [if_pos h2, if_neg (by omega)]
    · rw [if_neg h2, if_pos (by omega)]
set_option maxRecDepth 100000 in
theorem wp_tell (v : Int) (μ : Nat → Nat → Int) (Φ : Option AV → ST → Prop) : wpM 134 [.inr (.inr (some 0)), .inl v] (S μ) Φ ↔ Φ (some (.inl 1)) (S (am_up μ 0 10 v)) := by
  unfold wpM
  rw [sx_iff 20]
  simp [sx_s, sx_0, gx_s, hx_r, hx_c, hx_b, hx_s, hx_i, hx_n, kx_s, kx_n, kx_i, cx_d, up_at, am_ctl, am_step, am_i1, am_i2, am_i2d, am_l1, am_l2, am_l2d, am_ldi, am_ldl, am_lda, am_sti, am_sta, am_stl, am_inc, am_i2l, am_l2i, am_lcmp, am_dup, am_dup2, am_pop1, am_fv, am_getf, am_putf, am_wr, am_ial, am_lal, am_bal, am_aal, am_ias, am_las, am_bas, am_alen, am_inst, am_cast, am_cpm, am_copy, am_tsw, am_pop, am_cat, am_cS, am_cI, am_cV, am_ri, am_rl, am_ra, am_rv, am_b1, am_b2, am_ent, am_en, am_isL, am_st1, am_st2, am_clr, am_cnd, cc_134, ac_134, nL_134, rb_134, sh_0]
set_option maxRecDepth 100000 in
theorem wp_find (f : Int) (h : 0 ≤ f ∧ f < 6) (μ : Nat → Nat → Int) (Φ : Option AV → ST → Prop) : wpM 133 [.inr (.inr (some 0)), .inl f] (S μ) Φ ↔ Φ (some (.inl (-3))) (S (am_up (am_up μ 0 9 f) 45 f.toNat (nz (μ 45 f.toNat + 1)))) := by
  unfold wpM
  rw [sx_iff 30]
  simp [sx_s, sx_0, gx_s, hx_r, hx_c, hx_b, hx_s, hx_i, hx_n, kx_s, kx_n, kx_i, cx_d, up_at, am_ctl, am_step, am_i1, am_i2, am_i2d, am_l1, am_l2, am_l2d, am_ldi, am_ldl, am_lda, am_sti, am_sta, am_stl, am_inc, am_i2l, am_l2i, am_lcmp, am_dup, am_dup2, am_pop1, am_fv, am_getf, am_putf, am_wr, am_ial, am_lal, am_bal, am_aal, am_ias, am_las, am_bas, am_alen, am_inst, am_cast, am_cpm, am_copy, am_tsw, am_pop, am_cat, am_cS, am_cI, am_cV, am_ri, am_rl, am_ra, am_rv, am_b1, am_b2, am_ent, am_en, am_isL, am_st1, am_st2, am_clr, am_cnd, cc_133, ac_133, nL_133, rb_133, tg_11_8, sh_0, sh_45, rf_0_8, h]
  done
set_option maxRecDepth 100000 in
theorem wp_isThere (k : Nat) (hk : k < 121) (hs : sh0 k = (0, 8, 0)) (μ : Nat → Nat → Int) (Φ : Option AV → ST → Prop) : wpM 56 [.inr (.inr (some k))] (S μ) Φ ↔ Φ (some (.inl (if μ k 1 = -1 then 0 else 1))) (S μ) := by
  unfold wpM
  rw [sx_iff 30]
  simp [sx_s, sx_0, gx_s, hx_r, hx_c, hx_b, hx_s, hx_i, hx_n, kx_s, kx_n, kx_i, cx_d, up_at, am_ctl, am_step, am_i1, am_i2, am_i2d, am_l1, am_l2, am_l2d, am_ldi, am_ldl, am_lda, am_sti, am_sta, am_stl, am_inc, am_i2l, am_l2i, am_lcmp, am_dup, am_dup2, am_pop1, am_fv, am_getf, am_putf, am_wr, am_ial, am_lal, am_bal, am_aal, am_ias, am_las, am_bas, am_alen, am_inst, am_cast, am_cpm, am_copy, am_tsw, am_pop, am_cat, am_cS, am_cI, am_cV, am_ri, am_rl, am_ra, am_rv, am_b1, am_b2, am_ent, am_en, am_isL, am_st1, am_st2, am_clr, am_cnd, cc_56, ac_56, nL_56, rb_56, tg_8_1, hs, hk]
  split <;> rfl
set_option maxRecDepth 100000 in
theorem wp_at (r i : Int) (μ : Nat → Nat → Int) (Φ : Option AV → ST → Prop) : wpM 81 [.inr (.inr (some 0)), .inl r, .inl i] (S μ) Φ ↔ False := by
  unfold wpM
  rw [sx_iff 60]
  simp [sx_s, sx_0, gx_s, hx_r, hx_c, hx_b, hx_s, hx_i, hx_n, kx_s, kx_n, kx_i, cx_d, up_at, am_ctl, am_step, am_i1, am_i2, am_i2d, am_l1, am_l2, am_l2d, am_ldi, am_ldl, am_lda, am_sti, am_sta, am_stl, am_inc, am_i2l, am_l2i, am_lcmp, am_dup, am_dup2, am_pop1, am_fv, am_getf, am_putf, am_wr, am_ial, am_lal, am_bal, am_aal, am_ias, am_las, am_bas, am_alen, am_inst, am_cast, am_cpm, am_copy, am_tsw, am_pop, am_cat, am_cS, am_cI, am_cV, am_ri, am_rl, am_ra, am_rv, am_b1, am_b2, am_ent, am_en, am_isL, am_st1, am_st2, am_clr, am_cnd, cc_81, ac_81, nL_81, rb_81, np_129, ok_81_129, nL_129, np_56, ok_81_56, nL_56, vd_56_8, np_133, ok_81_133, nL_133, vd_133_11, np_134, ok_81_134, nL_134, vd_134_11, tg_11_0, tg_8_1, tg_8_0, sh_0, wp_within]
  by_cases hr : 0 ≤ r ∧ r < 6
  · have : r = 0 ∨ r = 1 ∨ r = 2 ∨ r = 3 ∨ r = 4 ∨ r = 5 := by omega
    rcases this with rfl | rfl | rfl | rfl | rfl | rfl
    · simp [sx_s, sx_0, gx_s, hx_r, hx_c, hx_b, hx_s, hx_i, hx_n, kx_s, kx_n, kx_i, cx_d, up_at, am_ctl, am_step, am_i1, am_i2, am_i2d, am_l1, am_l2, am_l2d, am_ldi, am_ldl, am_lda, am_sti, am_sta, am_stl, am_inc, am_i2l, am_l2i, am_lcmp, am_dup, am_dup2, am_pop1, am_fv, am_getf, am_putf, am_wr, am_ial, am_lal, am_bal, am_aal, am_ias, am_las, am_bas, am_alen, am_inst, am_cast, am_cpm, am_copy, am_tsw, am_pop, am_cat, am_cS, am_cI, am_cV, am_ri, am_rl, am_ra, am_rv, am_b1, am_b2, am_ent, am_en, am_isL, am_st1, am_st2, am_clr, am_cnd, cc_81, ac_81, nL_81, rb_81, np_129, ok_81_129, nL_129, np_56, ok_81_56, nL_56, vd_56_8, np_133, ok_81_133, nL_133, vd_133_11, np_134, ok_81_134, nL_134, vd_134_11, tg_11_0, tg_8_1, tg_8_0, sh_0, sh_1, rf_0_0, rf_1_0, sh_46, sh_47, rf_46_0, wp_within, wp_isThere 46 (by decide) sh_46, wp_find 1 (by decide), wp_find 2 (by decide), wp_tell]
      done
    all_goals sorry
  · sorry
