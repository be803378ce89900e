/-! what is told plainly -/
set_option maxRecDepth 100000 in
theorem wp_asked (μ : Nat → Nat → Int) (Φ : Option AV → ST → Prop) : wpM 122 [.inr (.inr (some 0))] (S μ) Φ ↔ Φ (some (.inl (μ 0 10))) (S μ) := by
  unfold wpM
  rw [s1_iff [] 60]
  simp [sz_s, sz_0, gx_s, hx_r, hx_c, hx_b, hx_s, hx_i, hx_n, kx_s, kx_n, kx_i, cx_d, up_at, am_ctl, am_step, am_i1, am_i2, am_i2d, am_l1, am_l2, am_l2d, am_ldi, am_ldl, am_lda, am_sti, am_sta, am_stl, am_inc, am_i2l, am_l2i, am_lcmp, am_dup, am_dup2, am_pop1, am_fv, am_getf, am_putf, am_wr, am_ial, am_lal, am_bal, am_aal, am_ias, am_las, am_bas, am_alen, am_inst, am_cast, am_cpm, am_copy, am_tsw, am_pop, am_cat, am_cS, am_cI, am_cV, am_ri, am_rl, am_ra, am_rv, am_b1, am_b2, am_ent, am_en, am_isL, am_st1, am_st2, am_clr, am_cnd, cc_122, ac_122, nL_122, rb_122, tg_11_10, sh_0]
set_option maxRecDepth 100000 in
theorem wm_asked (μ : Nat → Nat → Int) (Φ : Option AV → ST → Prop) : wpM 239 [.inr (.inr (some 101))] (S μ) Φ ↔ Φ (some (.inl (μ 101 8))) (S μ) := by
  unfold wpM
  rw [s1_iff [] 60]
  simp [sz_s, sz_0, gx_s, hx_r, hx_c, hx_b, hx_s, hx_i, hx_n, kx_s, kx_n, kx_i, cx_d, up_at, am_ctl, am_step, am_i1, am_i2, am_i2d, am_l1, am_l2, am_l2d, am_ldi, am_ldl, am_lda, am_sti, am_sta, am_stl, am_inc, am_i2l, am_l2i, am_lcmp, am_dup, am_dup2, am_pop1, am_fv, am_getf, am_putf, am_wr, am_ial, am_lal, am_bal, am_aal, am_ias, am_las, am_bas, am_alen, am_inst, am_cast, am_cpm, am_copy, am_tsw, am_pop, am_cat, am_cS, am_cI, am_cV, am_ri, am_rl, am_ra, am_rv, am_b1, am_b2, am_ent, am_en, am_isL, am_st1, am_st2, am_clr, am_cnd, cc_239, ac_239, nL_239, rb_239, tg_12_8, sh_101]
theorem eq_asked {B : Int} {μ : Nat → Nat → Int} (h : INV B μ) : EQV B μ 122 239 [] := by
  unfold EQV
  rw [wp_asked]
  refine ⟨_, _, rfl, rfl, ?_⟩
  rw [wm_asked, h.1.2.1]
  exact ⟨rfl, _, rfl, h⟩
set_option maxRecDepth 100000 in
theorem wp_upper (μ : Nat → Nat → Int) (Φ : Option AV → ST → Prop) : wpM 123 [.inr (.inr (some 0))] (S μ) Φ ↔ Φ (some (.inr (.inl (μ 0 11)))) (S μ) := by
  unfold wpM
  rw [s1_iff [] 60]
  simp [sz_s, sz_0, gx_s, hx_r, hx_c, hx_b, hx_s, hx_i, hx_n, kx_s, kx_n, kx_i, cx_d, up_at, am_ctl, am_step, am_i1, am_i2, am_i2d, am_l1, am_l2, am_l2d, am_ldi, am_ldl, am_lda, am_sti, am_sta, am_stl, am_inc, am_i2l, am_l2i, am_lcmp, am_dup, am_dup2, am_pop1, am_fv, am_getf, am_putf, am_wr, am_ial, am_lal, am_bal, am_aal, am_ias, am_las, am_bas, am_alen, am_inst, am_cast, am_cpm, am_copy, am_tsw, am_pop, am_cat, am_cS, am_cI, am_cV, am_ri, am_rl, am_ra, am_rv, am_b1, am_b2, am_ent, am_en, am_isL, am_st1, am_st2, am_clr, am_cnd, cc_123, ac_123, nL_123, rb_123, tg_11_11, sh_0]
set_option maxRecDepth 100000 in
theorem wm_upper (μ : Nat → Nat → Int) (Φ : Option AV → ST → Prop) : wpM 240 [.inr (.inr (some 101))] (S μ) Φ ↔ Φ (some (.inr (.inl (μ 101 9)))) (S μ) := by
  unfold wpM
  rw [s1_iff [] 60]
  simp [sz_s, sz_0, gx_s, hx_r, hx_c, hx_b, hx_s, hx_i, hx_n, kx_s, kx_n, kx_i, cx_d, up_at, am_ctl, am_step, am_i1, am_i2, am_i2d, am_l1, am_l2, am_l2d, am_ldi, am_ldl, am_lda, am_sti, am_sta, am_stl, am_inc, am_i2l, am_l2i, am_lcmp, am_dup, am_dup2, am_pop1, am_fv, am_getf, am_putf, am_wr, am_ial, am_lal, am_bal, am_aal, am_ias, am_las, am_bas, am_alen, am_inst, am_cast, am_cpm, am_copy, am_tsw, am_pop, am_cat, am_cS, am_cI, am_cV, am_ri, am_rl, am_ra, am_rv, am_b1, am_b2, am_ent, am_en, am_isL, am_st1, am_st2, am_clr, am_cnd, cc_240, ac_240, nL_240, rb_240, tg_12_9, sh_101]
theorem eq_upper {B : Int} {μ : Nat → Nat → Int} (h : INV B μ) : EQV B μ 123 240 [] := by
  unfold EQV
  rw [wp_upper]
  refine ⟨_, _, rfl, rfl, ?_⟩
  rw [wm_upper, h.1.2.2.1]
  exact ⟨rfl, _, rfl, h⟩
set_option maxRecDepth 100000 in
theorem wp_lower (μ : Nat → Nat → Int) (Φ : Option AV → ST → Prop) : wpM 124 [.inr (.inr (some 0))] (S μ) Φ ↔ Φ (some (.inr (.inl (μ 0 12)))) (S μ) := by
  unfold wpM
  rw [s1_iff [] 60]
  simp [sz_s, sz_0, gx_s, hx_r, hx_c, hx_b, hx_s, hx_i, hx_n, kx_s, kx_n, kx_i, cx_d, up_at, am_ctl, am_step, am_i1, am_i2, am_i2d, am_l1, am_l2, am_l2d, am_ldi, am_ldl, am_lda, am_sti, am_sta, am_stl, am_inc, am_i2l, am_l2i, am_lcmp, am_dup, am_dup2, am_pop1, am_fv, am_getf, am_putf, am_wr, am_ial, am_lal, am_bal, am_aal, am_ias, am_las, am_bas, am_alen, am_inst, am_cast, am_cpm, am_copy, am_tsw, am_pop, am_cat, am_cS, am_cI, am_cV, am_ri, am_rl, am_ra, am_rv, am_b1, am_b2, am_ent, am_en, am_isL, am_st1, am_st2, am_clr, am_cnd, cc_124, ac_124, nL_124, rb_124, tg_11_12, sh_0]
set_option maxRecDepth 100000 in
theorem wm_lower (μ : Nat → Nat → Int) (Φ : Option AV → ST → Prop) : wpM 241 [.inr (.inr (some 101))] (S μ) Φ ↔ Φ (some (.inr (.inl (μ 101 10)))) (S μ) := by
  unfold wpM
  rw [s1_iff [] 60]
  simp [sz_s, sz_0, gx_s, hx_r, hx_c, hx_b, hx_s, hx_i, hx_n, kx_s, kx_n, kx_i, cx_d, up_at, am_ctl, am_step, am_i1, am_i2, am_i2d, am_l1, am_l2, am_l2d, am_ldi, am_ldl, am_lda, am_sti, am_sta, am_stl, am_inc, am_i2l, am_l2i, am_lcmp, am_dup, am_dup2, am_pop1, am_fv, am_getf, am_putf, am_wr, am_ial, am_lal, am_bal, am_aal, am_ias, am_las, am_bas, am_alen, am_inst, am_cast, am_cpm, am_copy, am_tsw, am_pop, am_cat, am_cS, am_cI, am_cV, am_ri, am_rl, am_ra, am_rv, am_b1, am_b2, am_ent, am_en, am_isL, am_st1, am_st2, am_clr, am_cnd, cc_241, ac_241, nL_241, rb_241, tg_12_10, sh_101]
theorem eq_lower {B : Int} {μ : Nat → Nat → Int} (h : INV B μ) : EQV B μ 124 241 [] := by
  unfold EQV
  rw [wp_lower]
  refine ⟨_, _, rfl, rfl, ?_⟩
  rw [wm_lower, h.1.2.2.2.1]
  exact ⟨rfl, _, rfl, h⟩
set_option maxRecDepth 100000 in
theorem wp_finding (μ : Nat → Nat → Int) (Φ : Option AV → ST → Prop) : wpM 126 [.inr (.inr (some 0))] (S μ) Φ ↔ Φ (some (.inl (μ 0 9))) (S μ) := by
  unfold wpM
  rw [s1_iff [] 60]
  simp [sz_s, sz_0, gx_s, hx_r, hx_c, hx_b, hx_s, hx_i, hx_n, kx_s, kx_n, kx_i, cx_d, up_at, am_ctl, am_step, am_i1, am_i2, am_i2d, am_l1, am_l2, am_l2d, am_ldi, am_ldl, am_lda, am_sti, am_sta, am_stl, am_inc, am_i2l, am_l2i, am_lcmp, am_dup, am_dup2, am_pop1, am_fv, am_getf, am_putf, am_wr, am_ial, am_lal, am_bal, am_aal, am_ias, am_las, am_bas, am_alen, am_inst, am_cast, am_cpm, am_copy, am_tsw, am_pop, am_cat, am_cS, am_cI, am_cV, am_ri, am_rl, am_ra, am_rv, am_b1, am_b2, am_ent, am_en, am_isL, am_st1, am_st2, am_clr, am_cnd, cc_126, ac_126, nL_126, rb_126, tg_11_9, sh_0]
set_option maxRecDepth 100000 in
theorem wm_finding (μ : Nat → Nat → Int) (Φ : Option AV → ST → Prop) : wpM 245 [.inr (.inr (some 101))] (S μ) Φ ↔ Φ (some (.inl (μ 101 7))) (S μ) := by
  unfold wpM
  rw [s1_iff [] 60]
  simp [sz_s, sz_0, gx_s, hx_r, hx_c, hx_b, hx_s, hx_i, hx_n, kx_s, kx_n, kx_i, cx_d, up_at, am_ctl, am_step, am_i1, am_i2, am_i2d, am_l1, am_l2, am_l2d, am_ldi, am_ldl, am_lda, am_sti, am_sta, am_stl, am_inc, am_i2l, am_l2i, am_lcmp, am_dup, am_dup2, am_pop1, am_fv, am_getf, am_putf, am_wr, am_ial, am_lal, am_bal, am_aal, am_ias, am_las, am_bas, am_alen, am_inst, am_cast, am_cpm, am_copy, am_tsw, am_pop, am_cat, am_cS, am_cI, am_cV, am_ri, am_rl, am_ra, am_rv, am_b1, am_b2, am_ent, am_en, am_isL, am_st1, am_st2, am_clr, am_cnd, cc_245, ac_245, nL_245, rb_245, tg_12_7, sh_101]
theorem eq_finding {B : Int} {μ : Nat → Nat → Int} (h : INV B μ) : EQV B μ 126 245 [] := by
  unfold EQV
  rw [wp_finding]
  refine ⟨_, _, rfl, rfl, ?_⟩
  rw [wm_finding, h.1.1]
  exact ⟨rfl, _, rfl, h⟩
set_option maxRecDepth 100000 in
theorem wp_findings (f : Int) (μ : Nat → Nat → Int) (Φ : Option AV → ST → Prop) : wpM 127 [.inr (.inr (some 0)), .inl f] (S μ) Φ ↔ (if 1 ≤ f ∧ f ≤ 5 then Φ (some (.inl (μ 45 f.toNat))) (S μ) else Φ (some (.inl (-1))) (S μ)) := by
  unfold wpM
  rw [s1_iff [] 60]
  simp [sz_s, sz_0, gx_s, hx_r, hx_c, hx_b, hx_s, hx_i, hx_n, kx_s, kx_n, kx_i, cx_d, up_at, am_ctl, am_step, am_i1, am_i2, am_i2d, am_l1, am_l2, am_l2d, am_ldi, am_ldl, am_lda, am_sti, am_sta, am_stl, am_inc, am_i2l, am_l2i, am_lcmp, am_dup, am_dup2, am_pop1, am_fv, am_getf, am_putf, am_wr, am_ial, am_lal, am_bal, am_aal, am_ias, am_las, am_bas, am_alen, am_inst, am_cast, am_cpm, am_copy, am_tsw, am_pop, am_cat, am_cS, am_cI, am_cV, am_ri, am_rl, am_ra, am_rv, am_b1, am_b2, am_ent, am_en, am_isL, am_st1, am_st2, am_clr, am_cnd, cc_127, ac_127, nL_127, rb_127, tg_11_8, sh_0, sh_45, rf_0_8]
  (repeat' split) <;> first | rfl | (exfalso; omega) | exact and_iff_right (by omega) | exact (and_iff_right (by omega)).trans (and_iff_right (by omega)) | exact (and_iff_right (by omega)).trans ((and_iff_right (by omega)).trans (and_iff_right (by omega)))
set_option maxRecDepth 100000 in
theorem wm_findings (f : Int) (μ : Nat → Nat → Int) (Φ : Option AV → ST → Prop) : wpM 246 [.inr (.inr (some 101)), .inl f] (S μ) Φ ↔ (if 1 ≤ f ∧ f ≤ 5 then Φ (some (.inl (μ 108 f.toNat))) (S μ) else Φ (some (.inl (-1))) (S μ)) := by
  unfold wpM
  rw [s1_iff [] 60]
  simp [sz_s, sz_0, gx_s, hx_r, hx_c, hx_b, hx_s, hx_i, hx_n, kx_s, kx_n, kx_i, cx_d, up_at, am_ctl, am_step, am_i1, am_i2, am_i2d, am_l1, am_l2, am_l2d, am_ldi, am_ldl, am_lda, am_sti, am_sta, am_stl, am_inc, am_i2l, am_l2i, am_lcmp, am_dup, am_dup2, am_pop1, am_fv, am_getf, am_putf, am_wr, am_ial, am_lal, am_bal, am_aal, am_ias, am_las, am_bas, am_alen, am_inst, am_cast, am_cpm, am_copy, am_tsw, am_pop, am_cat, am_cS, am_cI, am_cV, am_ri, am_rl, am_ra, am_rv, am_b1, am_b2, am_ent, am_en, am_isL, am_st1, am_st2, am_clr, am_cnd, cc_246, ac_246, nL_246, rb_246, np_156, ok_246_156, nL_156, tg_12_6, sh_101, sh_108, rf_101_6, wm_in]
  (repeat' split) <;> first | rfl | (exfalso; omega) | exact and_iff_right (by omega) | exact (and_iff_right (by omega)).trans (and_iff_right (by omega)) | exact (and_iff_right (by omega)).trans ((and_iff_right (by omega)).trans (and_iff_right (by omega)))
theorem eq_findings {B : Int} {μ : Nat → Nat → Int} (h : INV B μ) (f : Int) : EQV B μ 127 246 [.inl f] := by
  unfold EQV
  rw [wp_findings]
  by_cases hf : 1 ≤ f ∧ f ≤ 5
  · rw [if_pos hf]
    refine ⟨_, _, rfl, rfl, ?_⟩
    rw [wm_findings, if_pos hf, h.1.2.2.2.2 f.toNat (by omega)]
    exact ⟨rfl, _, rfl, h⟩
  · rw [if_neg hf]
    refine ⟨_, _, rfl, rfl, ?_⟩
    rw [wm_findings, if_neg hf]
    exact ⟨rfl, _, rfl, h⟩
