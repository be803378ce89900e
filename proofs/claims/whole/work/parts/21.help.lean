/-! helpers of both sides: what each small method comes to -/
set_option maxRecDepth 100000 in
theorem wp_within (v b : Int)  (σ : ST) (Φ : Option AV → ST → Prop) : wpM 129 [.inl v, .inl b] (σ) Φ ↔ Φ (some (.inl (if 0 ≤ v ∧ v < b then 1 else 0))) (σ) := by
  unfold wpM
  rw [s1_iff [] 60]
  simp [sz_s, sz_0, gx_s, hx_r, hx_c, hx_b, hx_s, hx_i, hx_n, kx_s, kx_n, kx_i, cx_d, up_at, am_ctl, am_step, am_i1, am_i2, am_i2d, am_l1, am_l2, am_l2d, am_ldi, am_ldl, am_lda, am_sti, am_sta, am_stl, am_inc, am_i2l, am_l2i, am_lcmp, am_dup, am_dup2, am_pop1, am_fv, am_getf, am_putf, am_wr, am_ial, am_lal, am_bal, am_aal, am_ias, am_las, am_bas, am_alen, am_inst, am_cast, am_cpm, am_copy, am_tsw, am_pop, am_cat, am_cS, am_cI, am_cV, am_ri, am_rl, am_ra, am_rv, am_b1, am_b2, am_ent, am_en, am_isL, am_st1, am_st2, am_clr, am_cnd, cc_129, ac_129, nL_129, rb_129]
  all_goals (repeat' split)
  all_goals first | rfl | (exfalso; omega)
set_option maxRecDepth 100000 in
theorem wp_canMove (n : Int)  (σ : ST) (Φ : Option AV → ST → Prop) : wpM 130 [.inl n] (σ) Φ ↔ Φ (some (.inl (if 1 ≤ n ∧ n ≤ 9 then 1 else 0))) (σ) := by
  unfold wpM
  rw [s1_iff [] 60]
  simp [sz_s, sz_0, gx_s, hx_r, hx_c, hx_b, hx_s, hx_i, hx_n, kx_s, kx_n, kx_i, cx_d, up_at, am_ctl, am_step, am_i1, am_i2, am_i2d, am_l1, am_l2, am_l2d, am_ldi, am_ldl, am_lda, am_sti, am_sta, am_stl, am_inc, am_i2l, am_l2i, am_lcmp, am_dup, am_dup2, am_pop1, am_fv, am_getf, am_putf, am_wr, am_ial, am_lal, am_bal, am_aal, am_ias, am_las, am_bas, am_alen, am_inst, am_cast, am_cpm, am_copy, am_tsw, am_pop, am_cat, am_cS, am_cI, am_cV, am_ri, am_rl, am_ra, am_rv, am_b1, am_b2, am_ent, am_en, am_isL, am_st1, am_st2, am_clr, am_cnd, cc_130, ac_130, nL_130, rb_130]
  all_goals (repeat' split)
  all_goals first | rfl | (exfalso; omega)
set_option maxRecDepth 100000 in
theorem wp_isSack (p n : Int)  (σ : ST) (Φ : Option AV → ST → Prop) : wpM 131 [.inl p, .inl n] (σ) Φ ↔ Φ (some (.inl (if (0 ≤ p ∧ p < 3) ∧ 0 ≤ n ∧ n < 100 then 1 else 0))) (σ) := by
  unfold wpM
  rw [s1_iff [] 60]
  simp [sz_s, sz_0, gx_s, hx_r, hx_c, hx_b, hx_s, hx_i, hx_n, kx_s, kx_n, kx_i, cx_d, up_at, am_ctl, am_step, am_i1, am_i2, am_i2d, am_l1, am_l2, am_l2d, am_ldi, am_ldl, am_lda, am_sti, am_sta, am_stl, am_inc, am_i2l, am_l2i, am_lcmp, am_dup, am_dup2, am_pop1, am_fv, am_getf, am_putf, am_wr, am_ial, am_lal, am_bal, am_aal, am_ias, am_las, am_bas, am_alen, am_inst, am_cast, am_cpm, am_copy, am_tsw, am_pop, am_cat, am_cS, am_cI, am_cV, am_ri, am_rl, am_ra, am_rv, am_b1, am_b2, am_ent, am_en, am_isL, am_st1, am_st2, am_clr, am_cnd, cc_131, ac_131, nL_131, rb_131, np_129, ok_131_129, nL_129, wp_within]
  all_goals (repeat' split)
  all_goals first | rfl | (exfalso; omega)
set_option maxRecDepth 100000 in
theorem wp_tell (v : Int)  (μ : Nat → Nat → Int) (Φ : Option AV → ST → Prop) : wpM 134 [.inr (.inr (some 0)), .inl v] (S μ) Φ ↔ Φ (some (.inl 1)) (S (am_up μ 0 10 v)) := by
  unfold wpM
  rw [s1_iff [] 60]
  simp [sz_s, sz_0, gx_s, hx_r, hx_c, hx_b, hx_s, hx_i, hx_n, kx_s, kx_n, kx_i, cx_d, up_at, am_ctl, am_step, am_i1, am_i2, am_i2d, am_l1, am_l2, am_l2d, am_ldi, am_ldl, am_lda, am_sti, am_sta, am_stl, am_inc, am_i2l, am_l2i, am_lcmp, am_dup, am_dup2, am_pop1, am_fv, am_getf, am_putf, am_wr, am_ial, am_lal, am_bal, am_aal, am_ias, am_las, am_bas, am_alen, am_inst, am_cast, am_cpm, am_copy, am_tsw, am_pop, am_cat, am_cS, am_cI, am_cV, am_ri, am_rl, am_ra, am_rv, am_b1, am_b2, am_ent, am_en, am_isL, am_st1, am_st2, am_clr, am_cnd, cc_134, ac_134, nL_134, rb_134, sh_0]
set_option maxRecDepth 100000 in
theorem wp_find (f : Int) (h : 0 ≤ f ∧ f < 6) (μ : Nat → Nat → Int) (Φ : Option AV → ST → Prop) : wpM 133 [.inr (.inr (some 0)), .inl f] (S μ) Φ ↔ Φ (some (.inl (-3))) (S (am_up (am_up μ 0 9 f) 45 f.toNat (nz (μ 45 f.toNat + 1)))) := by
  unfold wpM
  rw [s1_iff [] 60]
  simp [sz_s, sz_0, gx_s, hx_r, hx_c, hx_b, hx_s, hx_i, hx_n, kx_s, kx_n, kx_i, cx_d, up_at, am_ctl, am_step, am_i1, am_i2, am_i2d, am_l1, am_l2, am_l2d, am_ldi, am_ldl, am_lda, am_sti, am_sta, am_stl, am_inc, am_i2l, am_l2i, am_lcmp, am_dup, am_dup2, am_pop1, am_fv, am_getf, am_putf, am_wr, am_ial, am_lal, am_bal, am_aal, am_ias, am_las, am_bas, am_alen, am_inst, am_cast, am_cpm, am_copy, am_tsw, am_pop, am_cat, am_cS, am_cI, am_cV, am_ri, am_rl, am_ra, am_rv, am_b1, am_b2, am_ent, am_en, am_isL, am_st1, am_st2, am_clr, am_cnd, cc_133, ac_133, nL_133, rb_133, tg_11_8, sh_0, sh_45, rf_0_8, h]
set_option maxRecDepth 100000 in
theorem wp_isThere (k : Nat) (hk : k < 121) (hs : sh0 k = (0, 8, 0)) (μ : Nat → Nat → Int) (Φ : Option AV → ST → Prop) : wpM 56 [.inr (.inr (some k))] (S μ) Φ ↔ Φ (some (.inl (if μ k 1 = -1 then 0 else 1))) (S (μ)) := by
  unfold wpM
  rw [s1_iff [] 60]
  simp [sz_s, sz_0, gx_s, hx_r, hx_c, hx_b, hx_s, hx_i, hx_n, kx_s, kx_n, kx_i, cx_d, up_at, am_ctl, am_step, am_i1, am_i2, am_i2d, am_l1, am_l2, am_l2d, am_ldi, am_ldl, am_lda, am_sti, am_sta, am_stl, am_inc, am_i2l, am_l2i, am_lcmp, am_dup, am_dup2, am_pop1, am_fv, am_getf, am_putf, am_wr, am_ial, am_lal, am_bal, am_aal, am_ias, am_las, am_bas, am_alen, am_inst, am_cast, am_cpm, am_copy, am_tsw, am_pop, am_cat, am_cS, am_cI, am_cV, am_ri, am_rl, am_ra, am_rv, am_b1, am_b2, am_ent, am_en, am_isL, am_st1, am_st2, am_clr, am_cnd, cc_56, ac_56, nL_56, rb_56, tg_8_1, hs, hk]
  all_goals (repeat' split)
  all_goals first | rfl | (exfalso; omega)
set_option maxRecDepth 100000 in
theorem wp_hasPlaces (k : Nat) (f n : Int) (hk : k < 121) (hs : sh0 k = (0, 8, 0)) (μ : Nat → Nat → Int) (Φ : Option AV → ST → Prop) : wpM 58 [.inr (.inr (some k)), .inl f, .inl n] (S μ) Φ ↔ Φ (some (.inl (if 0 ≤ f ∧ f ≤ μ k 1 ∧ n ≤ nz (μ k 1 - f) then 1 else 0))) (S (μ)) := by
  unfold wpM
  rw [s1_iff [] 60]
  simp [sz_s, sz_0, gx_s, hx_r, hx_c, hx_b, hx_s, hx_i, hx_n, kx_s, kx_n, kx_i, cx_d, up_at, am_ctl, am_step, am_i1, am_i2, am_i2d, am_l1, am_l2, am_l2d, am_ldi, am_ldl, am_lda, am_sti, am_sta, am_stl, am_inc, am_i2l, am_l2i, am_lcmp, am_dup, am_dup2, am_pop1, am_fv, am_getf, am_putf, am_wr, am_ial, am_lal, am_bal, am_aal, am_ias, am_las, am_bas, am_alen, am_inst, am_cast, am_cpm, am_copy, am_tsw, am_pop, am_cat, am_cS, am_cI, am_cV, am_ri, am_rl, am_ra, am_rv, am_b1, am_b2, am_ent, am_en, am_isL, am_st1, am_st2, am_clr, am_cnd, cc_58, ac_58, nL_58, rb_58, tg_8_1, hs, hk]
  all_goals (repeat' split)
  all_goals first | rfl | (exfalso; omega)
set_option maxRecDepth 100000 in
theorem wp_min (a b : Int)  (σ : ST) (Φ : Option AV → ST → Prop) : wpM 250 [.inl a, .inl b] (σ) Φ ↔ Φ (some (.inl (if a ≤ b then a else b))) (σ) := by
  unfold wpM
  rw [s1_iff [] 60]
  simp [sz_s, sz_0, gx_s, hx_r, hx_c, hx_b, hx_s, hx_i, hx_n, kx_s, kx_n, kx_i, cx_d, up_at, am_ctl, am_step, am_i1, am_i2, am_i2d, am_l1, am_l2, am_l2d, am_ldi, am_ldl, am_lda, am_sti, am_sta, am_stl, am_inc, am_i2l, am_l2i, am_lcmp, am_dup, am_dup2, am_pop1, am_fv, am_getf, am_putf, am_wr, am_ial, am_lal, am_bal, am_aal, am_ias, am_las, am_bas, am_alen, am_inst, am_cast, am_cpm, am_copy, am_tsw, am_pop, am_cat, am_cS, am_cI, am_cV, am_ri, am_rl, am_ra, am_rv, am_b1, am_b2, am_ent, am_en, am_isL, am_st1, am_st2, am_clr, am_cnd, cc_250, ac_250, nL_250, rb_250]
  all_goals (repeat' split)
  all_goals first | rfl | (exfalso; omega)
set_option maxRecDepth 100000 in
theorem wp_max (a b : Int)  (σ : ST) (Φ : Option AV → ST → Prop) : wpM 251 [.inl a, .inl b] (σ) Φ ↔ Φ (some (.inl (if b ≤ a then a else b))) (σ) := by
  unfold wpM
  rw [s1_iff [] 60]
  simp [sz_s, sz_0, gx_s, hx_r, hx_c, hx_b, hx_s, hx_i, hx_n, kx_s, kx_n, kx_i, cx_d, up_at, am_ctl, am_step, am_i1, am_i2, am_i2d, am_l1, am_l2, am_l2d, am_ldi, am_ldl, am_lda, am_sti, am_sta, am_stl, am_inc, am_i2l, am_l2i, am_lcmp, am_dup, am_dup2, am_pop1, am_fv, am_getf, am_putf, am_wr, am_ial, am_lal, am_bal, am_aal, am_ias, am_las, am_bas, am_alen, am_inst, am_cast, am_cpm, am_copy, am_tsw, am_pop, am_cat, am_cS, am_cI, am_cV, am_ri, am_rl, am_ra, am_rv, am_b1, am_b2, am_ent, am_en, am_isL, am_st1, am_st2, am_clr, am_cnd, cc_251, ac_251, nL_251, rb_251]
  all_goals (repeat' split)
  all_goals first | rfl | (exfalso; omega)
set_option maxRecDepth 100000 in
theorem wp_abs (a : Int)  (σ : ST) (Φ : Option AV → ST → Prop) : wpM 252 [.inl a] (σ) Φ ↔ Φ (some (.inl (if a < 0 then nz (-a) else a))) (σ) := by
  unfold wpM
  rw [s1_iff [] 60]
  simp [sz_s, sz_0, gx_s, hx_r, hx_c, hx_b, hx_s, hx_i, hx_n, kx_s, kx_n, kx_i, cx_d, up_at, am_ctl, am_step, am_i1, am_i2, am_i2d, am_l1, am_l2, am_l2d, am_ldi, am_ldl, am_lda, am_sti, am_sta, am_stl, am_inc, am_i2l, am_l2i, am_lcmp, am_dup, am_dup2, am_pop1, am_fv, am_getf, am_putf, am_wr, am_ial, am_lal, am_bal, am_aal, am_ias, am_las, am_bas, am_alen, am_inst, am_cast, am_cpm, am_copy, am_tsw, am_pop, am_cat, am_cS, am_cI, am_cV, am_ri, am_rl, am_ra, am_rv, am_b1, am_b2, am_ent, am_en, am_isL, am_st1, am_st2, am_clr, am_cnd, cc_252, ac_252, nL_252, rb_252]
  all_goals (repeat' split)
  all_goals first | rfl | (exfalso; omega)
set_option maxRecDepth 100000 in
theorem wm_in (v a b : Int)  (σ : ST) (Φ : Option AV → ST → Prop) : wpM 156 [.inr (.inl v), .inr (.inl a), .inr (.inl b)] (σ) Φ ↔ Φ (some (.inl (if a ≤ v ∧ v ≤ b then 1 else 0))) (σ) := by
  unfold wpM
  rw [s1_iff [] 60]
  simp [sz_s, sz_0, gx_s, hx_r, hx_c, hx_b, hx_s, hx_i, hx_n, kx_s, kx_n, kx_i, cx_d, up_at, am_ctl, am_step, am_i1, am_i2, am_i2d, am_l1, am_l2, am_l2d, am_ldi, am_ldl, am_lda, am_sti, am_sta, am_stl, am_inc, am_i2l, am_l2i, am_lcmp, am_dup, am_dup2, am_pop1, am_fv, am_getf, am_putf, am_wr, am_ial, am_lal, am_bal, am_aal, am_ias, am_las, am_bas, am_alen, am_inst, am_cast, am_cpm, am_copy, am_tsw, am_pop, am_cat, am_cS, am_cI, am_cV, am_ri, am_rl, am_ra, am_rv, am_b1, am_b2, am_ent, am_en, am_isL, am_st1, am_st2, am_clr, am_cnd, cc_156, ac_156, nL_156, rb_156, am_cmp]
  all_goals (repeat' split)
  all_goals first | rfl | (exfalso; omega)
set_option maxRecDepth 100000 in
theorem wm_lesser (a b : Int)  (σ : ST) (Φ : Option AV → ST → Prop) : wpM 158 [.inl a, .inl b] (σ) Φ ↔ Φ (some (.inl (if a < b then a else b))) (σ) := by
  unfold wpM
  rw [s1_iff [] 60]
  simp [sz_s, sz_0, gx_s, hx_r, hx_c, hx_b, hx_s, hx_i, hx_n, kx_s, kx_n, kx_i, cx_d, up_at, am_ctl, am_step, am_i1, am_i2, am_i2d, am_l1, am_l2, am_l2d, am_ldi, am_ldl, am_lda, am_sti, am_sta, am_stl, am_inc, am_i2l, am_l2i, am_lcmp, am_dup, am_dup2, am_pop1, am_fv, am_getf, am_putf, am_wr, am_ial, am_lal, am_bal, am_aal, am_ias, am_las, am_bas, am_alen, am_inst, am_cast, am_cpm, am_copy, am_tsw, am_pop, am_cat, am_cS, am_cI, am_cV, am_ri, am_rl, am_ra, am_rv, am_b1, am_b2, am_ent, am_en, am_isL, am_st1, am_st2, am_clr, am_cnd, cc_158, ac_158, nL_158, rb_158]
  all_goals (repeat' split)
  all_goals first | rfl | (exfalso; omega)
set_option maxRecDepth 100000 in
theorem wm_sizeOf (a : Int)  (σ : ST) (Φ : Option AV → ST → Prop) : wpM 159 [.inl a] (σ) Φ ↔ Φ (some (.inl (if a < 0 then nz (-a) else a))) (σ) := by
  unfold wpM
  rw [s1_iff [] 60]
  simp [sz_s, sz_0, gx_s, hx_r, hx_c, hx_b, hx_s, hx_i, hx_n, kx_s, kx_n, kx_i, cx_d, up_at, am_ctl, am_step, am_i1, am_i2, am_i2d, am_l1, am_l2, am_l2d, am_ldi, am_ldl, am_lda, am_sti, am_sta, am_stl, am_inc, am_i2l, am_l2i, am_lcmp, am_dup, am_dup2, am_pop1, am_fv, am_getf, am_putf, am_wr, am_ial, am_lal, am_bal, am_aal, am_ias, am_las, am_bas, am_alen, am_inst, am_cast, am_cpm, am_copy, am_tsw, am_pop, am_cat, am_cS, am_cI, am_cV, am_ri, am_rl, am_ra, am_rv, am_b1, am_b2, am_ent, am_en, am_isL, am_st1, am_st2, am_clr, am_cnd, cc_159, ac_159, nL_159, rb_159]
  all_goals (repeat' split)
  all_goals first | rfl | (exfalso; omega)
set_option maxRecDepth 100000 in
theorem wm_met (f : Int) (h : 0 ≤ f ∧ f < 6) (μ : Nat → Nat → Int) (Φ : Option AV → ST → Prop) : wpM 160 [.inr (.inr (some 101)), .inl f] (S μ) Φ ↔ Φ (some (.inl (-3))) (S (am_up (am_up μ 101 7 f) 108 f.toNat (nz (μ 108 f.toNat + 1)))) := by
  unfold wpM
  rw [s1_iff [] 60]
  simp [sz_s, sz_0, gx_s, hx_r, hx_c, hx_b, hx_s, hx_i, hx_n, kx_s, kx_n, kx_i, cx_d, up_at, am_ctl, am_step, am_i1, am_i2, am_i2d, am_l1, am_l2, am_l2d, am_ldi, am_ldl, am_lda, am_sti, am_sta, am_stl, am_inc, am_i2l, am_l2i, am_lcmp, am_dup, am_dup2, am_pop1, am_fv, am_getf, am_putf, am_wr, am_ial, am_lal, am_bal, am_aal, am_ias, am_las, am_bas, am_alen, am_inst, am_cast, am_cpm, am_copy, am_tsw, am_pop, am_cat, am_cS, am_cI, am_cV, am_ri, am_rl, am_ra, am_rv, am_b1, am_b2, am_ent, am_en, am_isL, am_st1, am_st2, am_clr, am_cnd, cc_160, ac_160, nL_160, rb_160, tg_12_6, sh_101, sh_108, rf_101_6, h]
set_option maxRecDepth 100000 in
theorem wm_tells (v : Int)  (μ : Nat → Nat → Int) (Φ : Option AV → ST → Prop) : wpM 161 [.inr (.inr (some 101)), .inl v] (S μ) Φ ↔ Φ (some (.inl 1)) (S (am_up μ 101 8 v)) := by
  unfold wpM
  rw [s1_iff [] 60]
  simp [sz_s, sz_0, gx_s, hx_r, hx_c, hx_b, hx_s, hx_i, hx_n, kx_s, kx_n, kx_i, cx_d, up_at, am_ctl, am_step, am_i1, am_i2, am_i2d, am_l1, am_l2, am_l2d, am_ldi, am_ldl, am_lda, am_sti, am_sta, am_stl, am_inc, am_i2l, am_l2i, am_lcmp, am_dup, am_dup2, am_pop1, am_fv, am_getf, am_putf, am_wr, am_ial, am_lal, am_bal, am_aal, am_ias, am_las, am_bas, am_alen, am_inst, am_cast, am_cpm, am_copy, am_tsw, am_pop, am_cat, am_cS, am_cI, am_cV, am_ri, am_rl, am_ra, am_rv, am_b1, am_b2, am_ent, am_en, am_isL, am_st1, am_st2, am_clr, am_cnd, cc_161, ac_161, nL_161, rb_161, sh_101]
set_option maxRecDepth 100000 in
theorem wm_isRow (v : Int)  (σ : ST) (Φ : Option AV → ST → Prop) : wpM 163 [.inl v] (σ) Φ ↔ Φ (some (.inl (if 0 ≤ v ∧ v ≤ 5 then 1 else 0))) (σ) := by
  unfold wpM
  rw [s1_iff [] 60]
  simp [sz_s, sz_0, gx_s, hx_r, hx_c, hx_b, hx_s, hx_i, hx_n, kx_s, kx_n, kx_i, cx_d, up_at, am_ctl, am_step, am_i1, am_i2, am_i2d, am_l1, am_l2, am_l2d, am_ldi, am_ldl, am_lda, am_sti, am_sta, am_stl, am_inc, am_i2l, am_l2i, am_lcmp, am_dup, am_dup2, am_pop1, am_fv, am_getf, am_putf, am_wr, am_ial, am_lal, am_bal, am_aal, am_ias, am_las, am_bas, am_alen, am_inst, am_cast, am_cpm, am_copy, am_tsw, am_pop, am_cat, am_cS, am_cI, am_cV, am_ri, am_rl, am_ra, am_rv, am_b1, am_b2, am_ent, am_en, am_isL, am_st1, am_st2, am_clr, am_cnd, cc_163, ac_163, nL_163, rb_163, np_156, ok_163_156, nL_156, wm_in]
  all_goals (repeat' split)
  all_goals first | rfl | (exfalso; omega)
set_option maxRecDepth 100000 in
theorem wm_isText (v : Int)  (σ : ST) (Φ : Option AV → ST → Prop) : wpM 164 [.inl v] (σ) Φ ↔ Φ (some (.inl (if 0 ≤ v ∧ v ≤ 3 then 1 else 0))) (σ) := by
  unfold wpM
  rw [s1_iff [] 60]
  simp [sz_s, sz_0, gx_s, hx_r, hx_c, hx_b, hx_s, hx_i, hx_n, kx_s, kx_n, kx_i, cx_d, up_at, am_ctl, am_step, am_i1, am_i2, am_i2d, am_l1, am_l2, am_l2d, am_ldi, am_ldl, am_lda, am_sti, am_sta, am_stl, am_inc, am_i2l, am_l2i, am_lcmp, am_dup, am_dup2, am_pop1, am_fv, am_getf, am_putf, am_wr, am_ial, am_lal, am_bal, am_aal, am_ias, am_las, am_bas, am_alen, am_inst, am_cast, am_cpm, am_copy, am_tsw, am_pop, am_cat, am_cS, am_cI, am_cV, am_ri, am_rl, am_ra, am_rv, am_b1, am_b2, am_ent, am_en, am_isL, am_st1, am_st2, am_clr, am_cnd, cc_164, ac_164, nL_164, rb_164, np_156, ok_164_156, nL_156, wm_in]
  all_goals (repeat' split)
  all_goals first | rfl | (exfalso; omega)
set_option maxRecDepth 100000 in
theorem wm_isProvince (v : Int)  (σ : ST) (Φ : Option AV → ST → Prop) : wpM 207 [.inl v] (σ) Φ ↔ Φ (some (.inl (if 0 ≤ v ∧ v ≤ 2 then 1 else 0))) (σ) := by
  unfold wpM
  rw [s1_iff [] 60]
  simp [sz_s, sz_0, gx_s, hx_r, hx_c, hx_b, hx_s, hx_i, hx_n, kx_s, kx_n, kx_i, cx_d, up_at, am_ctl, am_step, am_i1, am_i2, am_i2d, am_l1, am_l2, am_l2d, am_ldi, am_ldl, am_lda, am_sti, am_sta, am_stl, am_inc, am_i2l, am_l2i, am_lcmp, am_dup, am_dup2, am_pop1, am_fv, am_getf, am_putf, am_wr, am_ial, am_lal, am_bal, am_aal, am_ias, am_las, am_bas, am_alen, am_inst, am_cast, am_cpm, am_copy, am_tsw, am_pop, am_cat, am_cS, am_cI, am_cV, am_ri, am_rl, am_ra, am_rv, am_b1, am_b2, am_ent, am_en, am_isL, am_st1, am_st2, am_clr, am_cnd, cc_207, ac_207, nL_207, rb_207, np_156, ok_207_156, nL_156, wm_in]
  all_goals (repeat' split)
  all_goals first | rfl | (exfalso; omega)
set_option maxRecDepth 100000 in
theorem wm_bars (r i : Int) (h : 0 ≤ r ∧ r < 6) (μ : Nat → Nat → Int) (Φ : Option AV → ST → Prop) : wpM 166 [.inr (.inr (some 101)), .inl r, .inl i] (S μ) Φ ↔ Φ (some (.inl (if μ 105 r.toNat < 0 then 1 else if 0 ≤ i ∧ i ≤ nzl (μ 105 r.toNat - 1) then 0 else 2))) (S (μ)) := by
  unfold wpM
  rw [s1_iff [] 60]
  simp [sz_s, sz_0, gx_s, hx_r, hx_c, hx_b, hx_s, hx_i, hx_n, kx_s, kx_n, kx_i, cx_d, up_at, am_ctl, am_step, am_i1, am_i2, am_i2d, am_l1, am_l2, am_l2d, am_ldi, am_ldl, am_lda, am_sti, am_sta, am_stl, am_inc, am_i2l, am_l2i, am_lcmp, am_dup, am_dup2, am_pop1, am_fv, am_getf, am_putf, am_wr, am_ial, am_lal, am_bal, am_aal, am_ias, am_las, am_bas, am_alen, am_inst, am_cast, am_cpm, am_copy, am_tsw, am_pop, am_cat, am_cS, am_cI, am_cV, am_ri, am_rl, am_ra, am_rv, am_b1, am_b2, am_ent, am_en, am_isL, am_st1, am_st2, am_clr, am_cnd, cc_166, ac_166, nL_166, rb_166, np_156, ok_166_156, nL_156, tg_12_3, sh_101, sh_105, rf_101_3, wm_in, h]
  all_goals (repeat' split)
  all_goals first | rfl | (exfalso; omega)
set_option maxRecDepth 100000 in
theorem wm_isHouse (h : Int)  (μ : Nat → Nat → Int) (Φ : Option AV → ST → Prop) : wpM 178 [.inr (.inr (some 101)), .inl h] (S μ) Φ ↔ Φ (some (.inl (if 0 ≤ h ∧ h ≤ nz (μ 102 0 - 1) then 1 else 0))) (S (μ)) := by
  unfold wpM
  rw [s1_iff [] 60]
  simp [sz_s, sz_0, gx_s, hx_r, hx_c, hx_b, hx_s, hx_i, hx_n, kx_s, kx_n, kx_i, cx_d, up_at, am_ctl, am_step, am_i1, am_i2, am_i2d, am_l1, am_l2, am_l2d, am_ldi, am_ldl, am_lda, am_sti, am_sta, am_stl, am_inc, am_i2l, am_l2i, am_lcmp, am_dup, am_dup2, am_pop1, am_fv, am_getf, am_putf, am_wr, am_ial, am_lal, am_bal, am_aal, am_ias, am_las, am_bas, am_alen, am_inst, am_cast, am_cpm, am_copy, am_tsw, am_pop, am_cat, am_cS, am_cI, am_cV, am_ri, am_rl, am_ra, am_rv, am_b1, am_b2, am_ent, am_en, am_isL, am_st1, am_st2, am_clr, am_cnd, cc_178, ac_178, nL_178, rb_178, np_156, ok_178_156, nL_156, tg_12_0, sh_101, sh_102, rf_101_0, wm_in]
  all_goals (repeat' split)
  all_goals first | rfl | (exfalso; omega)
set_option maxRecDepth 100000 in
theorem wm_isAsked (p n : Int)  (μ : Nat → Nat → Int) (Φ : Option AV → ST → Prop) : wpM 215 [.inr (.inr (some 101)), .inl p, .inl n] (S μ) Φ ↔ Φ (some (.inl (if (0 ≤ p ∧ p ≤ 2) ∧ 0 ≤ n ∧ n ≤ 99 then 1 else 0))) (S (μ)) := by
  unfold wpM
  rw [s1_iff [] 60]
  simp [sz_s, sz_0, gx_s, hx_r, hx_c, hx_b, hx_s, hx_i, hx_n, kx_s, kx_n, kx_i, cx_d, up_at, am_ctl, am_step, am_i1, am_i2, am_i2d, am_l1, am_l2, am_l2d, am_ldi, am_ldl, am_lda, am_sti, am_sta, am_stl, am_inc, am_i2l, am_l2i, am_lcmp, am_dup, am_dup2, am_pop1, am_fv, am_getf, am_putf, am_wr, am_ial, am_lal, am_bal, am_aal, am_ias, am_las, am_bas, am_alen, am_inst, am_cast, am_cpm, am_copy, am_tsw, am_pop, am_cat, am_cS, am_cI, am_cV, am_ri, am_rl, am_ra, am_rv, am_b1, am_b2, am_ent, am_en, am_isL, am_st1, am_st2, am_clr, am_cnd, cc_215, ac_215, nL_215, rb_215, np_156, ok_215_156, nL_156, np_207, ok_215_207, nL_207, sh_101, wm_in, wm_isProvince]
  all_goals (repeat' split)
  all_goals first | rfl | (exfalso; omega)
