/-! ways, odds, span, sure: equal on both sides -/
set_option maxRecDepth 100000 in
theorem wp_ways_no (p n : Int) (hx : ¬ ((0 ≤ p ∧ p < 3) ∧ 0 ≤ n ∧ n ≤ 99)) (μ : Nat → Nat → Int) (Φ : Option AV → ST → Prop) : wpM 108 [.inr (.inr (some 0)), .inl p, .inl n] (S μ) Φ ↔ Φ (some (.inl (-1))) (S μ) := by
  unfold wpM
  rw [s1_iff [] 200]
  simp (disch := omega) [sz_s, sz_0, gx_s, hx_r, hx_c, hx_b, hx_s, hx_i, hx_n, kx_s, kx_n, kx_i, cx_d, up_at, am_ctl, am_step, am_i1, am_i2, am_i2d, am_l1, am_l2, am_l2d, am_ldi, am_ldl, am_lda, am_sti, am_sta, am_stl, am_inc, am_i2l, am_l2i, am_lcmp, am_dup, am_dup2, am_pop1, am_fv, am_getf, am_putf, am_wr, am_ial, am_lal, am_bal, am_aal, am_ias, am_las, am_bas, am_alen, am_inst, am_cast, am_cpm, am_copy, am_tsw, am_pop, am_cat, am_cS, am_cI, am_cV, am_ri, am_rl, am_ra, am_rv, am_b1, am_b2, am_ent, am_en, am_isL, am_st1, am_st2, am_clr, am_cnd, cc_108, ac_108, nL_108, rb_108, np_131, ok_108_131, nL_131, np_66, ok_108_66, nL_66, vd_66_10, np_71, ok_108_71, nL_71, vd_71_10, np_135, ok_108_135, nL_135, vd_135_11, tg_11_5, tg_11_2, List.getElem?_cons_succ, List.getElem?_cons_zero, nz_of, nzl_of, Int.toNat_add, Int.toNat_mul, tn_l, lt_t, lt_f, le_t, le_f, eq_t, eq_f, ltn_t, ltn_f, len_t, len_f, eqn_t, eqn_f, up_ne, up_up, sh_0, wp_isSack, show ¬ ((0 ≤ p ∧ p < 3) ∧ 0 ≤ n ∧ n < 100) by omega]
set_option maxRecDepth 100000 in
theorem wm_ways_no (p n : Int) (hx : ¬ ((0 ≤ p ∧ p < 3) ∧ 0 ≤ n ∧ n ≤ 99)) (μ : Nat → Nat → Int) (Φ : Option AV → ST → Prop) : wpM 217 [.inr (.inr (some 101)), .inl p, .inl n] (S μ) Φ ↔ Φ (some (.inl (-1))) (S μ) := by
  unfold wpM
  rw [s1_iff [] 200]
  simp (disch := omega) [sz_s, sz_0, gx_s, hx_r, hx_c, hx_b, hx_s, hx_i, hx_n, kx_s, kx_n, kx_i, cx_d, up_at, am_ctl, am_step, am_i1, am_i2, am_i2d, am_l1, am_l2, am_l2d, am_ldi, am_ldl, am_lda, am_sti, am_sta, am_stl, am_inc, am_i2l, am_l2i, am_lcmp, am_dup, am_dup2, am_pop1, am_fv, am_getf, am_putf, am_wr, am_ial, am_lal, am_bal, am_aal, am_ias, am_las, am_bas, am_alen, am_inst, am_cast, am_cpm, am_copy, am_tsw, am_pop, am_cat, am_cS, am_cI, am_cV, am_ri, am_rl, am_ra, am_rv, am_b1, am_b2, am_ent, am_en, am_isL, am_st1, am_st2, am_clr, am_cnd, cc_217, ac_217, nL_217, rb_217, np_213, ok_217_213, nL_213, vd_213_12, np_214, ok_217_214, nL_214, vd_214_12, np_215, ok_217_215, nL_215, vd_215_12, tg_12_17, tg_12_18, List.getElem?_cons_succ, List.getElem?_cons_zero, nz_of, nzl_of, Int.toNat_add, Int.toNat_mul, tn_l, lt_t, lt_f, le_t, le_f, eq_t, eq_f, ltn_t, ltn_f, len_t, len_f, eqn_t, eqn_f, up_ne, up_up, sh_101, wm_isAsked, show ¬ ((0 ≤ p ∧ p ≤ 2) ∧ 0 ≤ n ∧ n ≤ 99) by omega]
set_option maxRecDepth 100000 in
theorem wp_span_no (p n : Int) (hx : ¬ ((0 ≤ p ∧ p < 3) ∧ 0 ≤ n ∧ n ≤ 99)) (μ : Nat → Nat → Int) (Φ : Option AV → ST → Prop) : wpM 107 [.inr (.inr (some 0)), .inl p, .inl n] (S μ) Φ ↔ Φ (some (.inl (-1))) (S μ) := by
  unfold wpM
  rw [s1_iff [] 200]
  simp (disch := omega) [sz_s, sz_0, gx_s, hx_r, hx_c, hx_b, hx_s, hx_i, hx_n, kx_s, kx_n, kx_i, cx_d, up_at, am_ctl, am_step, am_i1, am_i2, am_i2d, am_l1, am_l2, am_l2d, am_ldi, am_ldl, am_lda, am_sti, am_sta, am_stl, am_inc, am_i2l, am_l2i, am_lcmp, am_dup, am_dup2, am_pop1, am_fv, am_getf, am_putf, am_wr, am_ial, am_lal, am_bal, am_aal, am_ias, am_las, am_bas, am_alen, am_inst, am_cast, am_cpm, am_copy, am_tsw, am_pop, am_cat, am_cS, am_cI, am_cV, am_ri, am_rl, am_ra, am_rv, am_b1, am_b2, am_ent, am_en, am_isL, am_st1, am_st2, am_clr, am_cnd, cc_107, ac_107, nL_107, rb_107, np_131, ok_107_131, nL_131, np_66, ok_107_66, nL_66, vd_66_10, np_71, ok_107_71, nL_71, vd_71_10, np_74, ok_107_74, nL_74, vd_74_10, np_75, ok_107_75, nL_75, vd_75_10, np_133, ok_107_133, nL_133, vd_133_11, np_134, ok_107_134, nL_134, vd_134_11, tg_11_5, tg_11_2, List.getElem?_cons_succ, List.getElem?_cons_zero, nz_of, nzl_of, Int.toNat_add, Int.toNat_mul, tn_l, lt_t, lt_f, le_t, le_f, eq_t, eq_f, ltn_t, ltn_f, len_t, len_f, eqn_t, eqn_f, up_ne, up_up, sh_0, wp_isSack, show ¬ ((0 ≤ p ∧ p < 3) ∧ 0 ≤ n ∧ n < 100) by omega]
set_option maxRecDepth 100000 in
theorem wm_span_no (p n : Int) (hx : ¬ ((0 ≤ p ∧ p < 3) ∧ 0 ≤ n ∧ n ≤ 99)) (μ : Nat → Nat → Int) (Φ : Option AV → ST → Prop) : wpM 216 [.inr (.inr (some 101)), .inl p, .inl n] (S μ) Φ ↔ Φ (some (.inl (-1))) (S μ) := by
  unfold wpM
  rw [s1_iff [] 200]
  simp (disch := omega) [sz_s, sz_0, gx_s, hx_r, hx_c, hx_b, hx_s, hx_i, hx_n, kx_s, kx_n, kx_i, cx_d, up_at, am_ctl, am_step, am_i1, am_i2, am_i2d, am_l1, am_l2, am_l2d, am_ldi, am_ldl, am_lda, am_sti, am_sta, am_stl, am_inc, am_i2l, am_l2i, am_lcmp, am_dup, am_dup2, am_pop1, am_fv, am_getf, am_putf, am_wr, am_ial, am_lal, am_bal, am_aal, am_ias, am_las, am_bas, am_alen, am_inst, am_cast, am_cpm, am_copy, am_tsw, am_pop, am_cat, am_cS, am_cI, am_cV, am_ri, am_rl, am_ra, am_rv, am_b1, am_b2, am_ent, am_en, am_isL, am_st1, am_st2, am_clr, am_cnd, cc_216, ac_216, nL_216, rb_216, np_160, ok_216_160, nL_160, vd_160_12, np_213, ok_216_213, nL_213, vd_213_12, np_214, ok_216_214, nL_214, vd_214_12, np_215, ok_216_215, nL_215, vd_215_12, tg_12_17, tg_12_18, tg_12_22, tg_12_20, List.getElem?_cons_succ, List.getElem?_cons_zero, nz_of, nzl_of, Int.toNat_add, Int.toNat_mul, tn_l, lt_t, lt_f, le_t, le_f, eq_t, eq_f, ltn_t, ltn_f, len_t, len_f, eqn_t, eqn_f, up_ne, up_up, sh_101, wm_isAsked, show ¬ ((0 ≤ p ∧ p ≤ 2) ∧ 0 ≤ n ∧ n ≤ 99) by omega]
set_option maxRecDepth 100000 in
theorem wp_sure_no (p n : Int) (hx : ¬ ((0 ≤ p ∧ p < 3) ∧ 0 ≤ n ∧ n ≤ 99)) (μ : Nat → Nat → Int) (Φ : Option AV → ST → Prop) : wpM 110 [.inr (.inr (some 0)), .inl p, .inl n] (S μ) Φ ↔ Φ (some (.inl (-1))) (S μ) := by
  unfold wpM
  rw [s1_iff [] 200]
  simp (disch := omega) [sz_s, sz_0, gx_s, hx_r, hx_c, hx_b, hx_s, hx_i, hx_n, kx_s, kx_n, kx_i, cx_d, up_at, am_ctl, am_step, am_i1, am_i2, am_i2d, am_l1, am_l2, am_l2d, am_ldi, am_ldl, am_lda, am_sti, am_sta, am_stl, am_inc, am_i2l, am_l2i, am_lcmp, am_dup, am_dup2, am_pop1, am_fv, am_getf, am_putf, am_wr, am_ial, am_lal, am_bal, am_aal, am_ias, am_las, am_bas, am_alen, am_inst, am_cast, am_cpm, am_copy, am_tsw, am_pop, am_cat, am_cS, am_cI, am_cV, am_ri, am_rl, am_ra, am_rv, am_b1, am_b2, am_ent, am_en, am_isL, am_st1, am_st2, am_clr, am_cnd, cc_110, ac_110, nL_110, rb_110, np_131, ok_110_131, nL_131, np_66, ok_110_66, nL_66, vd_66_10, np_71, ok_110_71, nL_71, vd_71_10, np_73, ok_110_73, nL_73, vd_73_10, np_133, ok_110_133, nL_133, vd_133_11, tg_11_5, tg_11_2, List.getElem?_cons_succ, List.getElem?_cons_zero, nz_of, nzl_of, Int.toNat_add, Int.toNat_mul, tn_l, lt_t, lt_f, le_t, le_f, eq_t, eq_f, ltn_t, ltn_f, len_t, len_f, eqn_t, eqn_f, up_ne, up_up, sh_0, wp_isSack, show ¬ ((0 ≤ p ∧ p < 3) ∧ 0 ≤ n ∧ n < 100) by omega]
set_option maxRecDepth 100000 in
theorem wm_sure_no (p n : Int) (hx : ¬ ((0 ≤ p ∧ p < 3) ∧ 0 ≤ n ∧ n ≤ 99)) (μ : Nat → Nat → Int) (Φ : Option AV → ST → Prop) : wpM 219 [.inr (.inr (some 101)), .inl p, .inl n] (S μ) Φ ↔ Φ (some (.inl (-1))) (S μ) := by
  unfold wpM
  rw [s1_iff [] 200]
  simp (disch := omega) [sz_s, sz_0, gx_s, hx_r, hx_c, hx_b, hx_s, hx_i, hx_n, kx_s, kx_n, kx_i, cx_d, up_at, am_ctl, am_step, am_i1, am_i2, am_i2d, am_l1, am_l2, am_l2d, am_ldi, am_ldl, am_lda, am_sti, am_sta, am_stl, am_inc, am_i2l, am_l2i, am_lcmp, am_dup, am_dup2, am_pop1, am_fv, am_getf, am_putf, am_wr, am_ial, am_lal, am_bal, am_aal, am_ias, am_las, am_bas, am_alen, am_inst, am_cast, am_cpm, am_copy, am_tsw, am_pop, am_cat, am_cS, am_cI, am_cV, am_ri, am_rl, am_ra, am_rv, am_b1, am_b2, am_ent, am_en, am_isL, am_st1, am_st2, am_clr, am_cnd, cc_219, ac_219, nL_219, rb_219, np_160, ok_219_160, nL_160, vd_160_12, np_213, ok_219_213, nL_213, vd_213_12, np_214, ok_219_214, nL_214, vd_214_12, np_215, ok_219_215, nL_215, vd_215_12, tg_12_17, tg_12_18, tg_12_16, List.getElem?_cons_succ, List.getElem?_cons_zero, nz_of, nzl_of, Int.toNat_add, Int.toNat_mul, tn_l, lt_t, lt_f, le_t, le_f, eq_t, eq_f, ltn_t, ltn_f, len_t, len_f, eqn_t, eqn_f, up_ne, up_up, sh_101, wm_isAsked, show ¬ ((0 ≤ p ∧ p ≤ 2) ∧ 0 ≤ n ∧ n ≤ 99) by omega]
set_option maxRecDepth 100000 in
theorem wp_odds_no {B : Int} {μ : Nat → Nat → Int} (hL : LD B μ 73 0) (x n m : Int) (hx : ¬ ((0 ≤ x ∧ x < (nW (μ 102) : Int)) ∧ (0 ≤ n ∧ n ≤ 99) ∧ 0 ≤ m ∧ m ≤ 9)) (Φ : Option AV → ST → Prop) : wpM 109 [.inr (.inr (some 0)), .inl x, .inl n, .inl m] (S μ) Φ ↔ Φ (some (.inl (-1))) (S μ) := by
  have e0 := ld_n hL
  unfold wpM
  by_cases a : 0 ≤ x ∧ x < (nW (μ 102) : Int)
  · by_cases b : 0 ≤ n ∧ n < 100
    · rw [s1_iff [] 200]
      simp (disch := omega) [sz_s, sz_0, gx_s, hx_r, hx_c, hx_b, hx_s, hx_i, hx_n, kx_s, kx_n, kx_i, cx_d, up_at, am_ctl, am_step, am_i1, am_i2, am_i2d, am_l1, am_l2, am_l2d, am_ldi, am_ldl, am_lda, am_sti, am_sta, am_stl, am_inc, am_i2l, am_l2i, am_lcmp, am_dup, am_dup2, am_pop1, am_fv, am_getf, am_putf, am_wr, am_ial, am_lal, am_bal, am_aal, am_ias, am_las, am_bas, am_alen, am_inst, am_cast, am_cpm, am_copy, am_tsw, am_pop, am_cat, am_cS, am_cI, am_cV, am_ri, am_rl, am_ra, am_rv, am_b1, am_b2, am_ent, am_en, am_isL, am_st1, am_st2, am_clr, am_cnd, cc_109, ac_109, nL_109, rb_109, np_129, ok_109_129, nL_129, np_66, ok_109_66, nL_66, vd_66_10, np_70, ok_109_70, nL_70, vd_70_10, np_71, ok_109_71, nL_71, vd_71_10, np_72, ok_109_72, nL_72, vd_72_10, np_133, ok_109_133, nL_133, vd_133_11, np_135, ok_109_135, nL_135, vd_135_11, tg_11_2, tg_4_7, tg_11_5, tg_4_2, List.getElem?_cons_succ, List.getElem?_cons_zero, nz_of, nzl_of, Int.toNat_add, Int.toNat_mul, tn_l, lt_t, lt_f, le_t, le_f, eq_t, eq_f, ltn_t, ltn_f, len_t, len_f, eqn_t, eqn_f, up_ne, up_up, sh_0, sh_73, rf_0_2, wp_within, e0.1, a, b, show ¬ (0 ≤ m ∧ m < 10) by omega]
    · rw [s1_iff [] 200]
      simp (disch := omega) [sz_s, sz_0, gx_s, hx_r, hx_c, hx_b, hx_s, hx_i, hx_n, kx_s, kx_n, kx_i, cx_d, up_at, am_ctl, am_step, am_i1, am_i2, am_i2d, am_l1, am_l2, am_l2d, am_ldi, am_ldl, am_lda, am_sti, am_sta, am_stl, am_inc, am_i2l, am_l2i, am_lcmp, am_dup, am_dup2, am_pop1, am_fv, am_getf, am_putf, am_wr, am_ial, am_lal, am_bal, am_aal, am_ias, am_las, am_bas, am_alen, am_inst, am_cast, am_cpm, am_copy, am_tsw, am_pop, am_cat, am_cS, am_cI, am_cV, am_ri, am_rl, am_ra, am_rv, am_b1, am_b2, am_ent, am_en, am_isL, am_st1, am_st2, am_clr, am_cnd, cc_109, ac_109, nL_109, rb_109, np_129, ok_109_129, nL_129, np_66, ok_109_66, nL_66, vd_66_10, np_70, ok_109_70, nL_70, vd_70_10, np_71, ok_109_71, nL_71, vd_71_10, np_72, ok_109_72, nL_72, vd_72_10, np_133, ok_109_133, nL_133, vd_133_11, np_135, ok_109_135, nL_135, vd_135_11, tg_11_2, tg_4_7, tg_11_5, tg_4_2, List.getElem?_cons_succ, List.getElem?_cons_zero, nz_of, nzl_of, Int.toNat_add, Int.toNat_mul, tn_l, lt_t, lt_f, le_t, le_f, eq_t, eq_f, ltn_t, ltn_f, len_t, len_f, eqn_t, eqn_f, up_ne, up_up, sh_0, sh_73, rf_0_2, wp_within, e0.1, a, b]
  · rw [s1_iff [] 200]
    simp (disch := omega) [sz_s, sz_0, gx_s, hx_r, hx_c, hx_b, hx_s, hx_i, hx_n, kx_s, kx_n, kx_i, cx_d, up_at, am_ctl, am_step, am_i1, am_i2, am_i2d, am_l1, am_l2, am_l2d, am_ldi, am_ldl, am_lda, am_sti, am_sta, am_stl, am_inc, am_i2l, am_l2i, am_lcmp, am_dup, am_dup2, am_pop1, am_fv, am_getf, am_putf, am_wr, am_ial, am_lal, am_bal, am_aal, am_ias, am_las, am_bas, am_alen, am_inst, am_cast, am_cpm, am_copy, am_tsw, am_pop, am_cat, am_cS, am_cI, am_cV, am_ri, am_rl, am_ra, am_rv, am_b1, am_b2, am_ent, am_en, am_isL, am_st1, am_st2, am_clr, am_cnd, cc_109, ac_109, nL_109, rb_109, np_129, ok_109_129, nL_129, np_66, ok_109_66, nL_66, vd_66_10, np_70, ok_109_70, nL_70, vd_70_10, np_71, ok_109_71, nL_71, vd_71_10, np_72, ok_109_72, nL_72, vd_72_10, np_133, ok_109_133, nL_133, vd_133_11, np_135, ok_109_135, nL_135, vd_135_11, tg_11_2, tg_4_7, tg_11_5, tg_4_2, List.getElem?_cons_succ, List.getElem?_cons_zero, nz_of, nzl_of, Int.toNat_add, Int.toNat_mul, tn_l, lt_t, lt_f, le_t, le_f, eq_t, eq_f, ltn_t, ltn_f, len_t, len_f, eqn_t, eqn_f, up_ne, up_up, sh_0, sh_73, rf_0_2, wp_within, e0.1, a]
set_option maxRecDepth 100000 in
theorem wm_odds_no {μ : Nat → Nat → Int} (hW : WR (μ 102)) (x n m : Int) (hx : ¬ ((0 ≤ x ∧ x < (nW (μ 102) : Int)) ∧ (0 ≤ n ∧ n ≤ 99) ∧ 0 ≤ m ∧ m ≤ 9)) (Φ : Option AV → ST → Prop) : wpM 218 [.inr (.inr (some 101)), .inl x, .inl n, .inl m] (S μ) Φ ↔ Φ (some (.inl (-1))) (S μ) := by
  have H := fun x Φ => wn_isHouse hW x Φ
  unfold wpM
  by_cases a : 0 ≤ x ∧ x < (nW (μ 102) : Int)
  · by_cases b : 0 ≤ n ∧ n ≤ 99
    · rw [s1_iff [] 200]
      simp (disch := omega) [sz_s, sz_0, gx_s, hx_r, hx_c, hx_b, hx_s, hx_i, hx_n, kx_s, kx_n, kx_i, cx_d, up_at, am_ctl, am_step, am_i1, am_i2, am_i2d, am_l1, am_l2, am_l2d, am_ldi, am_ldl, am_lda, am_sti, am_sta, am_stl, am_inc, am_i2l, am_l2i, am_lcmp, am_dup, am_dup2, am_pop1, am_fv, am_getf, am_putf, am_wr, am_ial, am_lal, am_bal, am_aal, am_ias, am_las, am_bas, am_alen, am_inst, am_cast, am_cpm, am_copy, am_tsw, am_pop, am_cat, am_cS, am_cI, am_cV, am_ri, am_rl, am_ra, am_rv, am_b1, am_b2, am_ent, am_en, am_isL, am_st1, am_st2, am_clr, am_cnd, cc_218, ac_218, nL_218, rb_218, np_156, ok_218_156, nL_156, np_160, ok_218_160, nL_160, vd_160_12, np_162, ok_218_162, nL_162, vd_162_12, np_178, ok_218_178, nL_178, vd_178_12, np_213, ok_218_213, nL_213, vd_213_12, np_214, ok_218_214, nL_214, vd_214_12, tg_12_0, tg_12_17, tg_12_18, List.getElem?_cons_succ, List.getElem?_cons_zero, nz_of, nzl_of, Int.toNat_add, Int.toNat_mul, tn_l, lt_t, lt_f, le_t, le_f, eq_t, eq_f, ltn_t, ltn_f, len_t, len_f, eqn_t, eqn_f, up_ne, up_up, sh_101, wm_in, H, a, b, show ¬ (0 ≤ m ∧ m ≤ 9) by omega]
    · rw [s1_iff [] 200]
      simp (disch := omega) [sz_s, sz_0, gx_s, hx_r, hx_c, hx_b, hx_s, hx_i, hx_n, kx_s, kx_n, kx_i, cx_d, up_at, am_ctl, am_step, am_i1, am_i2, am_i2d, am_l1, am_l2, am_l2d, am_ldi, am_ldl, am_lda, am_sti, am_sta, am_stl, am_inc, am_i2l, am_l2i, am_lcmp, am_dup, am_dup2, am_pop1, am_fv, am_getf, am_putf, am_wr, am_ial, am_lal, am_bal, am_aal, am_ias, am_las, am_bas, am_alen, am_inst, am_cast, am_cpm, am_copy, am_tsw, am_pop, am_cat, am_cS, am_cI, am_cV, am_ri, am_rl, am_ra, am_rv, am_b1, am_b2, am_ent, am_en, am_isL, am_st1, am_st2, am_clr, am_cnd, cc_218, ac_218, nL_218, rb_218, np_156, ok_218_156, nL_156, np_160, ok_218_160, nL_160, vd_160_12, np_162, ok_218_162, nL_162, vd_162_12, np_178, ok_218_178, nL_178, vd_178_12, np_213, ok_218_213, nL_213, vd_213_12, np_214, ok_218_214, nL_214, vd_214_12, tg_12_0, tg_12_17, tg_12_18, List.getElem?_cons_succ, List.getElem?_cons_zero, nz_of, nzl_of, Int.toNat_add, Int.toNat_mul, tn_l, lt_t, lt_f, le_t, le_f, eq_t, eq_f, ltn_t, ltn_f, len_t, len_f, eqn_t, eqn_f, up_ne, up_up, sh_101, wm_in, H, a, b]
  · rw [s1_iff [] 200]
    simp (disch := omega) [sz_s, sz_0, gx_s, hx_r, hx_c, hx_b, hx_s, hx_i, hx_n, kx_s, kx_n, kx_i, cx_d, up_at, am_ctl, am_step, am_i1, am_i2, am_i2d, am_l1, am_l2, am_l2d, am_ldi, am_ldl, am_lda, am_sti, am_sta, am_stl, am_inc, am_i2l, am_l2i, am_lcmp, am_dup, am_dup2, am_pop1, am_fv, am_getf, am_putf, am_wr, am_ial, am_lal, am_bal, am_aal, am_ias, am_las, am_bas, am_alen, am_inst, am_cast, am_cpm, am_copy, am_tsw, am_pop, am_cat, am_cS, am_cI, am_cV, am_ri, am_rl, am_ra, am_rv, am_b1, am_b2, am_ent, am_en, am_isL, am_st1, am_st2, am_clr, am_cnd, cc_218, ac_218, nL_218, rb_218, np_156, ok_218_156, nL_156, np_160, ok_218_160, nL_160, vd_160_12, np_162, ok_218_162, nL_162, vd_162_12, np_178, ok_218_178, nL_178, vd_178_12, np_213, ok_218_213, nL_213, vd_213_12, np_214, ok_218_214, nL_214, vd_214_12, tg_12_0, tg_12_17, tg_12_18, List.getElem?_cons_succ, List.getElem?_cons_zero, nz_of, nzl_of, Int.toNat_add, Int.toNat_mul, tn_l, lt_t, lt_f, le_t, le_f, eq_t, eq_f, ltn_t, ltn_f, len_t, len_f, eqn_t, eqn_f, up_ne, up_up, sh_101, wm_in, H, a]
theorem INV_frac2 {B : Int} {μ ν ρ : Nat → Nat → Int} (h : INV B μ) (e : FC μ ν) (u d : Int) (g : FM (am_up (am_up ν 0 11 u) 0 12 d) ρ) : INV B (am_up (am_up ρ 101 9 u) 101 10 d) :=
  INV_fm (INV_frac (INV_fc h e) u d) (FM_up (FM_up g _ _ _) _ _ _)
theorem INV_find2 {B : Int} {μ ν ρ : Nat → Nat → Int} (h : INV B μ) (e : FC μ ν) (f : Nat) (hf : f < 6) (g : FM (xfind ν f) ρ) : INV B (mfind ρ f) :=
  INV_fm (inv_find (INV_fc h e) f hf) (FM_find g f)
theorem up2_w (ν : Nat → Nat → Int) (u d : Int) : (am_up (am_up ν 0 11 u) 0 12 d) 102 = ν 102 := by rw [up_ne _ _ _ (by decide), up_ne _ _ _ (by decide)]
theorem eq_ways {B : Int} {μ : Nat → Nat → Int} (h : INV B μ) (p n : Int) : EQV B μ 108 217 [.inl p, .inl n] := by
  have hL : LD B μ 73 0 := h.2.2.2.1
  have hW := WR_of hL
  unfold EQV
  by_cases hx : (0 ≤ p ∧ p < 3) ∧ 0 ≤ n ∧ n ≤ 99
  · obtain ⟨hp, hn⟩ := hx
    obtain ⟨n, rfl⟩ : ∃ q : Nat, n = q := ⟨n.toNat, by omega⟩
    refine wp_ways hL p n hp (by omega) _ (fun h5 ν i1 => ⟨_, _, rfl, rfl, ?_⟩) (fun h5 ν i1 => ⟨_, _, rfl, rfl, ?_⟩)
    · have ew := FC_w i1
      refine wm_ways (by rw [ew]; exact hW) p n hp (by omega) _ (fun _ ρ r1 => ⟨rfl, _, rfl, INV_fm (INV_fc h i1) r1⟩) (fun h5' => ?_)
      rw [ew] at h5'; omega
    · have ew := (up2_w ν (dW tt_ (gC (μ 102) p) (gS (μ 102) p) n) 1).trans (FC_w i1)
      refine wm_ways (by rw [ew]; exact hW) p n hp (by omega) _ (fun h5' => ?_) (fun _ ρ r1 => ?_)
      · rw [ew] at h5'; omega
      · rw [ew]
        exact ⟨rfl, _, rfl, INV_frac2 h i1 _ _ r1⟩
  · rw [wp_ways_no p n hx]
    refine ⟨_, _, rfl, rfl, ?_⟩
    rw [wm_ways_no p n hx]
    exact ⟨rfl, _, rfl, h⟩
theorem xf_w (ν : Nat → Nat → Int) : (xfind ν 4) 102 = ν 102 := xf_102 ν 4 102 (by decide) (by decide)
theorem eq_sure {B : Int} {μ : Nat → Nat → Int} (h : INV B μ) (p n : Int) : EQV B μ 110 219 [.inl p, .inl n] := by
  have hL : LD B μ 73 0 := h.2.2.2.1
  have hW := WR_of hL
  unfold EQV
  by_cases hx : (0 ≤ p ∧ p < 3) ∧ 0 ≤ n ∧ n ≤ 99
  · obtain ⟨hp, hn⟩ := hx
    obtain ⟨n, rfl⟩ : ∃ q : Nat, n = q := ⟨n.toNat, by omega⟩
    refine wp_sure hL p n hp (by omega) _ (fun h5 ν i1 => ⟨_, _, rfl, rfl, ?_⟩) (fun h5 z ν i1 => ⟨_, _, rfl, rfl, ?_⟩) (fun h5 z ν i1 => ⟨_, _, rfl, rfl, ?_⟩)
    · have ew := FC_w i1
      refine wm_sure (by rw [ew]; exact hW) p n hp (by omega) _ (fun _ ρ r1 => ⟨rfl, _, rfl, INV_fm (INV_fc h i1) r1⟩) (fun h5' => ?_) (fun h5' => ?_)
      · rw [ew] at h5'; omega
      · rw [ew] at h5'; omega
    · have ew := (xf_w ν).trans (FC_w i1)
      refine wm_sure (by rw [ew]; exact hW) p n hp (by omega) _ (fun h5' => ?_) (fun _ _ ρ r1 => ⟨rfl, _, rfl, INV_find2 h i1 4 (by decide) r1⟩) (fun _ z' => ?_)
      · rw [ew] at h5'; omega
      · rw [ew] at z'; exact absurd z z'
    · have ew := FC_w i1
      refine wm_sure (by rw [ew]; exact hW) p n hp (by omega) _ (fun h5' => ?_) (fun _ z' => ?_) (fun _ _ ρ r1 => ?_)
      · rw [ew] at h5'; omega
      · rw [ew] at z'; exact absurd z' z
      · rw [ew]
        exact ⟨rfl, _, rfl, INV_fm (INV_fc h i1) r1⟩
  · rw [wp_sure_no p n hx]
    refine ⟨_, _, rfl, rfl, ?_⟩
    rw [wm_sure_no p n hx]
    exact ⟨rfl, _, rfl, h⟩
theorem eq_span {B : Int} {μ : Nat → Nat → Int} (h : INV B μ) (p n : Int) : EQV B μ 107 216 [.inl p, .inl n] := by
  have hL : LD B μ 73 0 := h.2.2.2.1
  have hW := WR_of hL
  unfold EQV
  by_cases hx : (0 ≤ p ∧ p < 3) ∧ 0 ≤ n ∧ n ≤ 99
  · obtain ⟨hp, hn⟩ := hx
    obtain ⟨n, rfl⟩ : ∃ q : Nat, n = q := ⟨n.toNat, by omega⟩
    refine wp_span hL p n hp (by omega) _ (fun h5 ν i1 => ⟨_, _, rfl, rfl, ?_⟩) (fun h5 z ν i1 => ⟨_, _, rfl, rfl, ?_⟩) (fun h5 z ν ρ lo hi i1 i2 l1 l2 l3 => ⟨_, _, rfl, rfl, ?_⟩)
    · have ew := FC_w i1
      refine wm_span (by rw [ew]; exact hW) p n hp (by omega) _ (fun _ ρ r1 => ⟨rfl, _, rfl, INV_fm (INV_fc h i1) r1⟩) (fun h5' => ?_) (fun h5' => ?_)
      · rw [ew] at h5'; omega
      · rw [ew] at h5'; omega
    · have ew := (xf_w ν).trans (FC_w i1)
      refine wm_span (by rw [ew]; exact hW) p n hp (by omega) _ (fun h5' => ?_) (fun _ _ ρ r1 => ⟨rfl, _, rfl, INV_find2 h i1 4 (by decide) r1⟩) (fun _ z' => ?_)
      · rw [ew] at h5'; omega
      · rw [ew] at z'; exact absurd z z'
    · have ew : ρ 102 = μ 102 := by rw [FC_w i2, up_ne _ _ _ (by decide), FC_w i1]
      refine wm_span (by rw [ew]; exact hW) p n hp (by omega) _ (fun h5' => ?_) (fun _ z' => ?_) (fun _ _ τ lo' hi' r1 m1 m2 m3 => ?_)
      · rw [ew] at h5'; omega
      · rw [ew] at z'; exact absurd z' z
      · rw [ew] at m1 m2 m3
        obtain rfl : lo' = lo := by have := l3 _ m1; have := m3 _ l1; omega
        obtain rfl : hi' = hi := by have := l3 _ m2; have := m3 _ l2; omega
        refine ⟨rfl, _, rfl, ?_⟩
        have a : FC (am_up (am_up ν 0 10 hi') 101 8 hi') (am_up ρ 101 8 hi') := fun k hk => by
          funext i
          simp only [up_at]
          split
          · rfl
          · rw [i2 k hk]; simp only [up_at]
        exact INV_fm (INV_fc (inv_tell (INV_fc h i1) hi') a) (FM_up r1 _ _ _)
  · rw [wp_span_no p n hx]
    refine ⟨_, _, rfl, rfl, ?_⟩
    rw [wm_span_no p n hx]
    exact ⟨rfl, _, rfl, h⟩
theorem eq_odds {B : Int} {μ : Nat → Nat → Int} (h : INV B μ) (x n m : Int) : EQV B μ 109 218 [.inl x, .inl n, .inl m] := by
  have hL : LD B μ 73 0 := h.2.2.2.1
  have hW := WR_of hL
  unfold EQV
  by_cases hx : (0 ≤ x ∧ x < (nW (μ 102) : Int)) ∧ (0 ≤ n ∧ n ≤ 99) ∧ 0 ≤ m ∧ m ≤ 9
  · obtain ⟨hh, hn, hm⟩ := hx
    obtain ⟨n, rfl⟩ : ∃ q : Nat, n = q := ⟨n.toNat, by omega⟩
    obtain ⟨m, rfl⟩ : ∃ q : Nat, m = q := ⟨m.toNat, by omega⟩
    obtain ⟨x, rfl⟩ : ∃ q : Nat, x = q := ⟨x.toNat, by omega⟩
    obtain ⟨p, hp⟩ : ∃ p, p = μ 102 (13 + x) := ⟨_, rfl⟩
    refine wp_odds hL (h := x) (n := n) (m := m) (by omega) (by omega) (by omega) p hp.symm _ rfl _ (fun h5 ν i1 => ⟨_, _, rfl, rfl, ?_⟩) (fun h5 z ν i1 => ⟨_, _, rfl, rfl, ?_⟩) (fun h5 X Y hY hY0 hX ν i1 => ⟨_, _, rfl, rfl, ?_⟩)
    · have ew := FC_w i1
      refine wm_odds (by rw [ew]; exact hW) (h := x) (n := n) (m := m) (by rw [ew]; omega) (by omega) (by omega) p (by rw [ew]; exact hp.symm) _ rfl _ (fun _ ρ r1 => ⟨rfl, _, rfl, INV_fm (INV_fc h i1) r1⟩) (fun h5' => ?_) (fun h5' => ?_)
      · rw [ew] at h5'; omega
      · rw [ew] at h5'; omega
    · have ew := (xf_w ν).trans (FC_w i1)
      refine wm_odds (by rw [ew]; exact hW) (h := x) (n := n) (m := m) (by rw [ew]; omega) (by omega) (by omega) p (by rw [ew]; exact hp.symm) _ rfl _ (fun h5' => ?_) (fun _ _ ρ r1 => ⟨rfl, _, rfl, INV_find2 h i1 4 (by decide) r1⟩) (fun _ X Y z' z2 => ?_)
      · rw [ew] at h5'; omega
      · rw [ew] at z'; omega
    · have ew := (up2_w ν (X / Nat.gcd Y X : Nat) (Y / Nat.gcd Y X : Nat)).trans (FC_w i1)
      refine wm_odds (by rw [ew]; exact hW) (h := x) (n := n) (m := m) (by rw [ew]; omega) (by omega) (by omega) p (by rw [ew]; exact hp.symm) _ rfl _ (fun h5' => ?_) (fun _ z' => ?_) (fun _ X' Y' y1 y2 x1 ρ r1 => ?_)
      · rw [ew] at h5'; omega
      · rw [ew] at z'; omega
      · rw [ew] at y1 x1
        obtain rfl : X' = X := by omega
        obtain rfl : Y' = Y := by omega
        exact ⟨rfl, _, rfl, INV_frac2 h i1 _ _ r1⟩
  · rw [wp_odds_no hL x n m hx]
    refine ⟨_, _, rfl, rfl, ?_⟩
    rw [wm_odds_no hW x n m hx]
    exact ⟨rfl, _, rfl, h⟩
