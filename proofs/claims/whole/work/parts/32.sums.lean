/-! sums over houses: of both sides -/
theorem mn_e (a b : Int) : (if a ≤ b then a else b) = min a b := by rw [Int.min_def]
theorem mn_l (a b : Int) : (if a < b then a else b) = min a b := by rw [Int.min_def]; split <;> split <;> omega
set_option maxRecDepth 100000 in
theorem wm_there (k t : Int) (σ : ST) (Φ : Option AV → ST → Prop) : wpM 183 [.inl k, .inl t] σ Φ ↔ Φ (some (.inl (if (k = 5 ∧ t.tmod 6 = 0) ∨ (¬ k = 5 ∧ (¬ k = 3 ∨ t.tmod 2 = 0)) then 1 else 0))) σ := by
  unfold wpM
  rw [s1_iff [] 90]
  simp (disch := omega) [sz_s, sz_0, gx_s, hx_r, hx_c, hx_b, hx_s, hx_i, hx_n, kx_s, kx_n, kx_i, cx_d, up_at, am_ctl, am_step, am_i1, am_i2, am_i2d, am_l1, am_l2, am_l2d, am_ldi, am_ldl, am_lda, am_sti, am_sta, am_stl, am_inc, am_i2l, am_l2i, am_lcmp, am_dup, am_dup2, am_pop1, am_fv, am_getf, am_putf, am_wr, am_ial, am_lal, am_bal, am_aal, am_ias, am_las, am_bas, am_alen, am_inst, am_cast, am_cpm, am_copy, am_tsw, am_pop, am_cat, am_cS, am_cI, am_cV, am_ri, am_rl, am_ra, am_rv, am_b1, am_b2, am_ent, am_en, am_isL, am_st1, am_st2, am_clr, am_cnd, cc_183, ac_183, nL_183, rb_183, List.getElem?_cons_succ, List.getElem?_cons_zero, nz_of, nzl_of, Int.toNat_add, Int.toNat_mul, tn_l, lt_t, lt_f, le_t, le_f, eq_t, eq_f, ltn_t, ltn_f, len_t, len_f, eqn_t, eqn_f]
  all_goals (repeat' split) <;> first | rfl | (exfalso; omega)
set_option maxRecDepth 100000 in
theorem wm_handed (k m s t : Int) (hk : 0 ≤ k ∧ k ≤ 5) (hm : 0 ≤ m ∧ m ≤ 9) (hs : 0 ≤ s ∧ s ≤ 30) (σ : ST) (Φ : Option AV → ST → Prop) : wpM 184 [.inl k, .inl m, .inl s, .inl t] σ Φ ↔ Φ (some (.inl (hndP k m s t))) σ := by
  unfold wpM
  rcases six hk with rfl | rfl | rfl | rfl | rfl | rfl
  · rw [s1_iff [] 90]
    simp (disch := omega) [sz_s, sz_0, gx_s, hx_r, hx_c, hx_b, hx_s, hx_i, hx_n, kx_s, kx_n, kx_i, cx_d, up_at, am_ctl, am_step, am_i1, am_i2, am_i2d, am_l1, am_l2, am_l2d, am_ldi, am_ldl, am_lda, am_sti, am_sta, am_stl, am_inc, am_i2l, am_l2i, am_lcmp, am_dup, am_dup2, am_pop1, am_fv, am_getf, am_putf, am_wr, am_ial, am_lal, am_bal, am_aal, am_ias, am_las, am_bas, am_alen, am_inst, am_cast, am_cpm, am_copy, am_tsw, am_pop, am_cat, am_cS, am_cI, am_cV, am_ri, am_rl, am_ra, am_rv, am_b1, am_b2, am_ent, am_en, am_isL, am_st1, am_st2, am_clr, am_cnd, cc_184, ac_184, nL_184, rb_184, np_158, ok_184_158, nL_158, np_183, ok_184_183, nL_183, List.getElem?_cons_succ, List.getElem?_cons_zero, nz_of, nzl_of, Int.toNat_add, Int.toNat_mul, tn_l, lt_t, lt_f, le_t, le_f, eq_t, eq_f, ltn_t, ltn_f, len_t, len_f, eqn_t, eqn_f, wm_lesser, wm_there, mn_l]
    all_goals (repeat' split) <;> first | exact an_iff (by simp [hndP, ownP]; try omega) | (refine an_iff ?_; simp [hndP, ownP, *]; omega) | (exfalso; omega)
  · rw [s1_iff [] 90]
    simp (disch := omega) [sz_s, sz_0, gx_s, hx_r, hx_c, hx_b, hx_s, hx_i, hx_n, kx_s, kx_n, kx_i, cx_d, up_at, am_ctl, am_step, am_i1, am_i2, am_i2d, am_l1, am_l2, am_l2d, am_ldi, am_ldl, am_lda, am_sti, am_sta, am_stl, am_inc, am_i2l, am_l2i, am_lcmp, am_dup, am_dup2, am_pop1, am_fv, am_getf, am_putf, am_wr, am_ial, am_lal, am_bal, am_aal, am_ias, am_las, am_bas, am_alen, am_inst, am_cast, am_cpm, am_copy, am_tsw, am_pop, am_cat, am_cS, am_cI, am_cV, am_ri, am_rl, am_ra, am_rv, am_b1, am_b2, am_ent, am_en, am_isL, am_st1, am_st2, am_clr, am_cnd, cc_184, ac_184, nL_184, rb_184, np_158, ok_184_158, nL_158, np_183, ok_184_183, nL_183, List.getElem?_cons_succ, List.getElem?_cons_zero, nz_of, nzl_of, Int.toNat_add, Int.toNat_mul, tn_l, lt_t, lt_f, le_t, le_f, eq_t, eq_f, ltn_t, ltn_f, len_t, len_f, eqn_t, eqn_f, wm_lesser, wm_there, mn_l]
    all_goals (repeat' split) <;> first | exact an_iff (by simp [hndP, ownP]; try omega) | (refine an_iff ?_; simp [hndP, ownP, *]; omega) | (exfalso; omega)
  · rw [s1_iff [] 90]
    simp (disch := omega) [sz_s, sz_0, gx_s, hx_r, hx_c, hx_b, hx_s, hx_i, hx_n, kx_s, kx_n, kx_i, cx_d, up_at, am_ctl, am_step, am_i1, am_i2, am_i2d, am_l1, am_l2, am_l2d, am_ldi, am_ldl, am_lda, am_sti, am_sta, am_stl, am_inc, am_i2l, am_l2i, am_lcmp, am_dup, am_dup2, am_pop1, am_fv, am_getf, am_putf, am_wr, am_ial, am_lal, am_bal, am_aal, am_ias, am_las, am_bas, am_alen, am_inst, am_cast, am_cpm, am_copy, am_tsw, am_pop, am_cat, am_cS, am_cI, am_cV, am_ri, am_rl, am_ra, am_rv, am_b1, am_b2, am_ent, am_en, am_isL, am_st1, am_st2, am_clr, am_cnd, cc_184, ac_184, nL_184, rb_184, np_158, ok_184_158, nL_158, np_183, ok_184_183, nL_183, List.getElem?_cons_succ, List.getElem?_cons_zero, nz_of, nzl_of, Int.toNat_add, Int.toNat_mul, tn_l, lt_t, lt_f, le_t, le_f, eq_t, eq_f, ltn_t, ltn_f, len_t, len_f, eqn_t, eqn_f, wm_lesser, wm_there, mn_l]
    all_goals (repeat' split) <;> first | exact an_iff (by simp [hndP, ownP]; try omega) | (refine an_iff ?_; simp [hndP, ownP, *]; omega) | (exfalso; omega)
  · rw [s1_iff [] 90]
    simp (disch := omega) [sz_s, sz_0, gx_s, hx_r, hx_c, hx_b, hx_s, hx_i, hx_n, kx_s, kx_n, kx_i, cx_d, up_at, am_ctl, am_step, am_i1, am_i2, am_i2d, am_l1, am_l2, am_l2d, am_ldi, am_ldl, am_lda, am_sti, am_sta, am_stl, am_inc, am_i2l, am_l2i, am_lcmp, am_dup, am_dup2, am_pop1, am_fv, am_getf, am_putf, am_wr, am_ial, am_lal, am_bal, am_aal, am_ias, am_las, am_bas, am_alen, am_inst, am_cast, am_cpm, am_copy, am_tsw, am_pop, am_cat, am_cS, am_cI, am_cV, am_ri, am_rl, am_ra, am_rv, am_b1, am_b2, am_ent, am_en, am_isL, am_st1, am_st2, am_clr, am_cnd, cc_184, ac_184, nL_184, rb_184, np_158, ok_184_158, nL_158, np_183, ok_184_183, nL_183, List.getElem?_cons_succ, List.getElem?_cons_zero, nz_of, nzl_of, Int.toNat_add, Int.toNat_mul, tn_l, lt_t, lt_f, le_t, le_f, eq_t, eq_f, ltn_t, ltn_f, len_t, len_f, eqn_t, eqn_f, wm_lesser, wm_there, mn_l]
    all_goals (repeat' split) <;> first | exact an_iff (by simp [hndP, ownP]; try omega) | (refine an_iff ?_; simp [hndP, ownP, *]; omega) | (exfalso; omega)
  · rw [s1_iff [] 90]
    simp (disch := omega) [sz_s, sz_0, gx_s, hx_r, hx_c, hx_b, hx_s, hx_i, hx_n, kx_s, kx_n, kx_i, cx_d, up_at, am_ctl, am_step, am_i1, am_i2, am_i2d, am_l1, am_l2, am_l2d, am_ldi, am_ldl, am_lda, am_sti, am_sta, am_stl, am_inc, am_i2l, am_l2i, am_lcmp, am_dup, am_dup2, am_pop1, am_fv, am_getf, am_putf, am_wr, am_ial, am_lal, am_bal, am_aal, am_ias, am_las, am_bas, am_alen, am_inst, am_cast, am_cpm, am_copy, am_tsw, am_pop, am_cat, am_cS, am_cI, am_cV, am_ri, am_rl, am_ra, am_rv, am_b1, am_b2, am_ent, am_en, am_isL, am_st1, am_st2, am_clr, am_cnd, cc_184, ac_184, nL_184, rb_184, np_158, ok_184_158, nL_158, np_183, ok_184_183, nL_183, List.getElem?_cons_succ, List.getElem?_cons_zero, nz_of, nzl_of, Int.toNat_add, Int.toNat_mul, tn_l, lt_t, lt_f, le_t, le_f, eq_t, eq_f, ltn_t, ltn_f, len_t, len_f, eqn_t, eqn_f, wm_lesser, wm_there, mn_l]
    all_goals (repeat' split) <;> first | exact an_iff (by simp [hndP, ownP]; try omega) | (refine an_iff ?_; simp [hndP, ownP, *]; omega) | (exfalso; omega)
  · rw [s1_iff [] 90]
    simp (disch := omega) [sz_s, sz_0, gx_s, hx_r, hx_c, hx_b, hx_s, hx_i, hx_n, kx_s, kx_n, kx_i, cx_d, up_at, am_ctl, am_step, am_i1, am_i2, am_i2d, am_l1, am_l2, am_l2d, am_ldi, am_ldl, am_lda, am_sti, am_sta, am_stl, am_inc, am_i2l, am_l2i, am_lcmp, am_dup, am_dup2, am_pop1, am_fv, am_getf, am_putf, am_wr, am_ial, am_lal, am_bal, am_aal, am_ias, am_las, am_bas, am_alen, am_inst, am_cast, am_cpm, am_copy, am_tsw, am_pop, am_cat, am_cS, am_cI, am_cV, am_ri, am_rl, am_ra, am_rv, am_b1, am_b2, am_ent, am_en, am_isL, am_st1, am_st2, am_clr, am_cnd, cc_184, ac_184, nL_184, rb_184, np_158, ok_184_158, nL_158, np_183, ok_184_183, nL_183, List.getElem?_cons_succ, List.getElem?_cons_zero, nz_of, nzl_of, Int.toNat_add, Int.toNat_mul, tn_l, lt_t, lt_f, le_t, le_f, eq_t, eq_f, ltn_t, ltn_f, len_t, len_f, eqn_t, eqn_f, wm_lesser, wm_there, mn_l]
    all_goals (repeat' split) <;> first | exact an_iff (by simp [hndP, ownP]; try omega) | (refine an_iff ?_; simp [hndP, ownP, *]; omega) | (exfalso; omega)
set_option maxRecDepth 100000 in
theorem wm_counted (k m s t l : Int) (hk : 0 ≤ k ∧ k ≤ 5) (hm : 0 ≤ m ∧ m ≤ 9) (hs : 0 ≤ s ∧ s ≤ 30) (hl : 0 ≤ l) (σ : ST) (Φ : Option AV → ST → Prop) : wpM 185 [.inl k, .inl m, .inl s, .inl t, .inl l] σ Φ ↔ Φ (some (.inl (cntP k m s t l))) σ := by
  unfold wpM
  have r := @ownP_rng k m s t hm.1 hs.1
  rw [s1_iff [] 90]
  simp (disch := omega) [sz_s, sz_0, gx_s, hx_r, hx_c, hx_b, hx_s, hx_i, hx_n, kx_s, kx_n, kx_i, cx_d, up_at, am_ctl, am_step, am_i1, am_i2, am_i2d, am_l1, am_l2, am_l2d, am_ldi, am_ldl, am_lda, am_sti, am_sta, am_stl, am_inc, am_i2l, am_l2i, am_lcmp, am_dup, am_dup2, am_pop1, am_fv, am_getf, am_putf, am_wr, am_ial, am_lal, am_bal, am_aal, am_ias, am_las, am_bas, am_alen, am_inst, am_cast, am_cpm, am_copy, am_tsw, am_pop, am_cat, am_cS, am_cI, am_cV, am_ri, am_rl, am_ra, am_rv, am_b1, am_b2, am_ent, am_en, am_isL, am_st1, am_st2, am_clr, am_cnd, cc_185, ac_185, nL_185, rb_185, np_184, ok_185_184, nL_184, List.getElem?_cons_succ, List.getElem?_cons_zero, nz_of, nzl_of, Int.toNat_add, Int.toNat_mul, tn_l, lt_t, lt_f, le_t, le_f, eq_t, eq_f, ltn_t, ltn_f, len_t, len_f, eqn_t, eqn_f, wm_handed k m s t hk hm hs, hndP, cntP]
  all_goals (repeat' split) <;> first | rfl | (exfalso; omega) | exact an_iff (by omega) | (refine an_iff ?_; rw [nz_of (by omega) (by omega)]; omega)
set_option maxRecDepth 100000 in
theorem wm_countedOf {B : Int} {μ : Nat → Nat → Int} (hL : LD B μ 73 0) {h : Nat} (hh : h < nW (μ 102)) (l : Int) (hl : 0 ≤ l) (Φ : Option AV → ST → Prop) : wpM 186 [.inr (.inr (some 101)), .inl h, .inl l] (S μ) Φ ↔ Φ (some (.inl (cntW (μ 102) h l))) (S μ) := by
  obtain ⟨-, k, p, m, s, h8⟩ := ld_h hL hh
  unfold wpM cntW
  rw [s1_iff [] 90]
  simp (disch := omega) [sz_s, sz_0, gx_s, hx_r, hx_c, hx_b, hx_s, hx_i, hx_n, kx_s, kx_n, kx_i, cx_d, up_at, am_ctl, am_step, am_i1, am_i2, am_i2d, am_l1, am_l2, am_l2d, am_ldi, am_ldl, am_lda, am_sti, am_sta, am_stl, am_inc, am_i2l, am_l2i, am_lcmp, am_dup, am_dup2, am_pop1, am_fv, am_getf, am_putf, am_wr, am_ial, am_lal, am_bal, am_aal, am_ias, am_las, am_bas, am_alen, am_inst, am_cast, am_cpm, am_copy, am_tsw, am_pop, am_cat, am_cS, am_cI, am_cV, am_ri, am_rl, am_ra, am_rv, am_b1, am_b2, am_ent, am_en, am_isL, am_st1, am_st2, am_clr, am_cnd, cc_186, ac_186, nL_186, rb_186, np_185, ok_186_185, nL_185, tg_12_0, List.getElem?_cons_succ, List.getElem?_cons_zero, nz_of, nzl_of, Int.toNat_add, Int.toNat_mul, tn_l, lt_t, lt_f, le_t, le_f, eq_t, eq_f, ltn_t, ltn_f, len_t, len_f, eqn_t, eqn_f, sh_101, sh_102, rf_101_0, wm_counted (μ 102 (5 + h)) (μ 102 (21 + h)) (μ 102 (29 + h)) (μ 102 2) l k m s hl]
set_option maxRecDepth 100000 in
theorem wp_countedIn {B : Int} {μ : Nat → Nat → Int} (hL : LD B μ 73 0) (p l : Int) (Φ : Option AV → ST → Prop) : wpM 27 [.inr (.inr (some 73)), .inl p, .inl l] (S μ) Φ ↔ Φ (some (.inl (inW (μ 102) p l))) (S μ) := by
  have e0 := ld_n hL
  have r0 : ∀ i, i < nW (μ 102) → 0 ≤ (fun h => if μ 102 (13 + h) = p then cntW (μ 102) h l else 0) i ∧ (fun h => if μ 102 (13 + h) = p then cntW (μ 102) h l else 0) i ≤ 31 := by
    intro i hi
    obtain ⟨⟨-, -, -, -⟩, kk, pp, mm, ss, h8⟩ := ld_h hL hi
    have := ld_c hL hi l; dsimp only; split <;> omega
  have step : ∀ j, j < nW (μ 102) → ((fun j : Nat => wpS 27 5 [some (.inr (.inr (some 73))), some (.inl p), some (.inl l), some (.inl (sumZ (fun h => if μ 102 (13 + h) = p then cntW (μ 102) h l else 0) j)), some (.inl j)] [] (S μ) Φ) j ↔ (fun j : Nat => wpS 27 5 [some (.inr (.inr (some 73))), some (.inl p), some (.inl l), some (.inl (sumZ (fun h => if μ 102 (13 + h) = p then cntW (μ 102) h l else 0) j)), some (.inl j)] [] (S μ) Φ) (j + 1)) := by
    intro j hj
    obtain ⟨⟨e1, e2, e3, e4⟩, kk, pp, mm, ss, h8⟩ := ld_h hL hj
    have r1 := sumZ_rng (n := j) (fun i hi => r0 i (by omega))
    have r2 := r0 j hj
    have e9 : sumZ (fun h => if μ 102 (13 + h) = p then cntW (μ 102) h l else 0) (j + 1) = sumZ (fun h => if μ 102 (13 + h) = p then cntW (μ 102) h l else 0) j + (fun h => if μ 102 (13 + h) = p then cntW (μ 102) h l else 0) j := rfl
    
    show _ ↔ wpS 27 5 [some (.inr (.inr (some 73))), some (.inl p), some (.inl l), some (.inl (sumZ (fun h => if μ 102 (13 + h) = p then cntW (μ 102) h l else 0) (j + 1))), some (.inl ((j + 1 : Nat) : Int))] [] (S μ) Φ
    rw [e9]
    dsimp only at r2 ⊢
    by_cases hc : μ 102 (13 + j) = p
    · rw [if_pos hc] at r2 ⊢
      rw [s1_iff [5] 90]
      simp (disch := omega) [sz_s, sz_0, gx_s, hx_r, hx_c, hx_b, hx_s, hx_i, hx_n, kx_s, kx_n, kx_i, cx_d, up_at, am_ctl, am_step, am_i1, am_i2, am_i2d, am_l1, am_l2, am_l2d, am_ldi, am_ldl, am_lda, am_sti, am_sta, am_stl, am_inc, am_i2l, am_l2i, am_lcmp, am_dup, am_dup2, am_pop1, am_fv, am_getf, am_putf, am_wr, am_ial, am_lal, am_bal, am_aal, am_ias, am_las, am_bas, am_alen, am_inst, am_cast, am_cpm, am_copy, am_tsw, am_pop, am_cat, am_cS, am_cI, am_cV, am_ri, am_rl, am_ra, am_rv, am_b1, am_b2, am_ent, am_en, am_isL, am_st1, am_st2, am_clr, am_cnd, cc_27, ac_27, nL_27, rb_27, np_25, ok_27_25, nL_25, vd_25_4, tg_4_7, tg_4_2, List.getElem?_cons_succ, List.getElem?_cons_zero, nz_of, nzl_of, Int.toNat_add, Int.toNat_mul, tn_l, lt_t, lt_f, le_t, le_f, eq_t, eq_f, ltn_t, ltn_f, len_t, len_f, eqn_t, eqn_f, sh_73, sh_74, sh_75, sh_76, sh_77, sh_78, rf_73_1, rf_73_2, rf_73_3, rf_73_4, rf_73_5, e0.1, e2, wp_counted hL hj, hc, hj, Nat.not_le.mpr hj]
    · rw [if_neg hc] at r2 ⊢
      rw [s1_iff [5] 90]
      simp (disch := omega) [sz_s, sz_0, gx_s, hx_r, hx_c, hx_b, hx_s, hx_i, hx_n, kx_s, kx_n, kx_i, cx_d, up_at, am_ctl, am_step, am_i1, am_i2, am_i2d, am_l1, am_l2, am_l2d, am_ldi, am_ldl, am_lda, am_sti, am_sta, am_stl, am_inc, am_i2l, am_l2i, am_lcmp, am_dup, am_dup2, am_pop1, am_fv, am_getf, am_putf, am_wr, am_ial, am_lal, am_bal, am_aal, am_ias, am_las, am_bas, am_alen, am_inst, am_cast, am_cpm, am_copy, am_tsw, am_pop, am_cat, am_cS, am_cI, am_cV, am_ri, am_rl, am_ra, am_rv, am_b1, am_b2, am_ent, am_en, am_isL, am_st1, am_st2, am_clr, am_cnd, cc_27, ac_27, nL_27, rb_27, np_25, ok_27_25, nL_25, vd_25_4, tg_4_7, tg_4_2, List.getElem?_cons_succ, List.getElem?_cons_zero, nz_of, nzl_of, Int.toNat_add, Int.toNat_mul, tn_l, lt_t, lt_f, le_t, le_f, eq_t, eq_f, ltn_t, ltn_f, len_t, len_f, eqn_t, eqn_f, sh_73, sh_74, sh_75, sh_76, sh_77, sh_78, rf_73_1, rf_73_2, rf_73_3, rf_73_4, rf_73_5, e0.1, e2, wp_counted hL hj, hc, hj, Nat.not_le.mpr hj]
  unfold wpM
  rw [s1_iff [5] 90]
  simp (disch := omega) [sz_s, sz_0, gx_s, hx_r, hx_c, hx_b, hx_s, hx_i, hx_n, kx_s, kx_n, kx_i, cx_d, up_at, am_ctl, am_step, am_i1, am_i2, am_i2d, am_l1, am_l2, am_l2d, am_ldi, am_ldl, am_lda, am_sti, am_sta, am_stl, am_inc, am_i2l, am_l2i, am_lcmp, am_dup, am_dup2, am_pop1, am_fv, am_getf, am_putf, am_wr, am_ial, am_lal, am_bal, am_aal, am_ias, am_las, am_bas, am_alen, am_inst, am_cast, am_cpm, am_copy, am_tsw, am_pop, am_cat, am_cS, am_cI, am_cV, am_ri, am_rl, am_ra, am_rv, am_b1, am_b2, am_ent, am_en, am_isL, am_st1, am_st2, am_clr, am_cnd, cc_27, ac_27, nL_27, rb_27, np_25, ok_27_25, nL_25, vd_25_4, tg_4_7, tg_4_2, List.getElem?_cons_succ, List.getElem?_cons_zero, nz_of, nzl_of, Int.toNat_add, Int.toNat_mul, tn_l, lt_t, lt_f, le_t, le_f, eq_t, eq_f, ltn_t, ltn_f, len_t, len_f, eqn_t, eqn_f, sh_73]
  refine (up_iff (fun j : Nat => wpS 27 5 [some (.inr (.inr (some 73))), some (.inl p), some (.inl l), some (.inl (sumZ (fun h => if μ 102 (13 + h) = p then cntW (μ 102) h l else 0) j)), some (.inl j)] [] (S μ) Φ) (nW (μ 102)) step).trans ?_
  rw [s1_iff [5] 90]
  simp (disch := omega) [sz_s, sz_0, gx_s, hx_r, hx_c, hx_b, hx_s, hx_i, hx_n, kx_s, kx_n, kx_i, cx_d, up_at, am_ctl, am_step, am_i1, am_i2, am_i2d, am_l1, am_l2, am_l2d, am_ldi, am_ldl, am_lda, am_sti, am_sta, am_stl, am_inc, am_i2l, am_l2i, am_lcmp, am_dup, am_dup2, am_pop1, am_fv, am_getf, am_putf, am_wr, am_ial, am_lal, am_bal, am_aal, am_ias, am_las, am_bas, am_alen, am_inst, am_cast, am_cpm, am_copy, am_tsw, am_pop, am_cat, am_cS, am_cI, am_cV, am_ri, am_rl, am_ra, am_rv, am_b1, am_b2, am_ent, am_en, am_isL, am_st1, am_st2, am_clr, am_cnd, cc_27, ac_27, nL_27, rb_27, np_25, ok_27_25, nL_25, vd_25_4, tg_4_7, tg_4_2, List.getElem?_cons_succ, List.getElem?_cons_zero, nz_of, nzl_of, Int.toNat_add, Int.toNat_mul, tn_l, lt_t, lt_f, le_t, le_f, eq_t, eq_f, ltn_t, ltn_f, len_t, len_f, eqn_t, eqn_f, sh_73, sh_74, sh_75, sh_76, sh_77, sh_78, rf_73_1, rf_73_2, rf_73_3, rf_73_4, rf_73_5, e0.1]
  rfl
set_option maxRecDepth 100000 in
theorem wp_mouthsIn {B : Int} {μ : Nat → Nat → Int} (hL : LD B μ 73 0) (p : Int) (Φ : Option AV → ST → Prop) : wpM 29 [.inr (.inr (some 73)), .inl p] (S μ) Φ ↔ Φ (some (.inl (minW (μ 102) p))) (S μ) := by
  have e0 := ld_n hL
  have r0 : ∀ i, i < nW (μ 102) → 0 ≤ (fun h => if μ 102 (13 + h) = p then μ 102 (21 + h) else 0) i ∧ (fun h => if μ 102 (13 + h) = p then μ 102 (21 + h) else 0) i ≤ 31 := by
    intro i hi
    obtain ⟨⟨-, -, -, -⟩, kk, pp, mm, ss, h8⟩ := ld_h hL hi
    dsimp only; split <;> omega
  have step : ∀ j, j < nW (μ 102) → ((fun j : Nat => wpS 29 4 [some (.inr (.inr (some 73))), some (.inl p), some (.inl (sumZ (fun h => if μ 102 (13 + h) = p then μ 102 (21 + h) else 0) j)), some (.inl j)] [] (S μ) Φ) j ↔ (fun j : Nat => wpS 29 4 [some (.inr (.inr (some 73))), some (.inl p), some (.inl (sumZ (fun h => if μ 102 (13 + h) = p then μ 102 (21 + h) else 0) j)), some (.inl j)] [] (S μ) Φ) (j + 1)) := by
    intro j hj
    obtain ⟨⟨e1, e2, e3, e4⟩, kk, pp, mm, ss, h8⟩ := ld_h hL hj
    have r1 := sumZ_rng (n := j) (fun i hi => r0 i (by omega))
    have r2 := r0 j hj
    have e9 : sumZ (fun h => if μ 102 (13 + h) = p then μ 102 (21 + h) else 0) (j + 1) = sumZ (fun h => if μ 102 (13 + h) = p then μ 102 (21 + h) else 0) j + (fun h => if μ 102 (13 + h) = p then μ 102 (21 + h) else 0) j := rfl
    
    show _ ↔ wpS 29 4 [some (.inr (.inr (some 73))), some (.inl p), some (.inl (sumZ (fun h => if μ 102 (13 + h) = p then μ 102 (21 + h) else 0) (j + 1))), some (.inl ((j + 1 : Nat) : Int))] [] (S μ) Φ
    rw [e9]
    dsimp only at r2 ⊢
    by_cases hc : μ 102 (13 + j) = p
    · rw [if_pos hc] at r2 ⊢
      rw [s1_iff [4] 90]
      simp (disch := omega) [sz_s, sz_0, gx_s, hx_r, hx_c, hx_b, hx_s, hx_i, hx_n, kx_s, kx_n, kx_i, cx_d, up_at, am_ctl, am_step, am_i1, am_i2, am_i2d, am_l1, am_l2, am_l2d, am_ldi, am_ldl, am_lda, am_sti, am_sta, am_stl, am_inc, am_i2l, am_l2i, am_lcmp, am_dup, am_dup2, am_pop1, am_fv, am_getf, am_putf, am_wr, am_ial, am_lal, am_bal, am_aal, am_ias, am_las, am_bas, am_alen, am_inst, am_cast, am_cpm, am_copy, am_tsw, am_pop, am_cat, am_cS, am_cI, am_cV, am_ri, am_rl, am_ra, am_rv, am_b1, am_b2, am_ent, am_en, am_isL, am_st1, am_st2, am_clr, am_cnd, cc_29, ac_29, nL_29, rb_29, tg_4_7, tg_4_2, tg_4_3, List.getElem?_cons_succ, List.getElem?_cons_zero, nz_of, nzl_of, Int.toNat_add, Int.toNat_mul, tn_l, lt_t, lt_f, le_t, le_f, eq_t, eq_f, ltn_t, ltn_f, len_t, len_f, eqn_t, eqn_f, sh_73, sh_74, sh_75, sh_76, sh_77, sh_78, rf_73_1, rf_73_2, rf_73_3, rf_73_4, rf_73_5, e0.1, e2, e3, hc, hj, Nat.not_le.mpr hj]
    · rw [if_neg hc] at r2 ⊢
      rw [s1_iff [4] 90]
      simp (disch := omega) [sz_s, sz_0, gx_s, hx_r, hx_c, hx_b, hx_s, hx_i, hx_n, kx_s, kx_n, kx_i, cx_d, up_at, am_ctl, am_step, am_i1, am_i2, am_i2d, am_l1, am_l2, am_l2d, am_ldi, am_ldl, am_lda, am_sti, am_sta, am_stl, am_inc, am_i2l, am_l2i, am_lcmp, am_dup, am_dup2, am_pop1, am_fv, am_getf, am_putf, am_wr, am_ial, am_lal, am_bal, am_aal, am_ias, am_las, am_bas, am_alen, am_inst, am_cast, am_cpm, am_copy, am_tsw, am_pop, am_cat, am_cS, am_cI, am_cV, am_ri, am_rl, am_ra, am_rv, am_b1, am_b2, am_ent, am_en, am_isL, am_st1, am_st2, am_clr, am_cnd, cc_29, ac_29, nL_29, rb_29, tg_4_7, tg_4_2, tg_4_3, List.getElem?_cons_succ, List.getElem?_cons_zero, nz_of, nzl_of, Int.toNat_add, Int.toNat_mul, tn_l, lt_t, lt_f, le_t, le_f, eq_t, eq_f, ltn_t, ltn_f, len_t, len_f, eqn_t, eqn_f, sh_73, sh_74, sh_75, sh_76, sh_77, sh_78, rf_73_1, rf_73_2, rf_73_3, rf_73_4, rf_73_5, e0.1, e2, e3, hc, hj, Nat.not_le.mpr hj]
  unfold wpM
  rw [s1_iff [4] 90]
  simp (disch := omega) [sz_s, sz_0, gx_s, hx_r, hx_c, hx_b, hx_s, hx_i, hx_n, kx_s, kx_n, kx_i, cx_d, up_at, am_ctl, am_step, am_i1, am_i2, am_i2d, am_l1, am_l2, am_l2d, am_ldi, am_ldl, am_lda, am_sti, am_sta, am_stl, am_inc, am_i2l, am_l2i, am_lcmp, am_dup, am_dup2, am_pop1, am_fv, am_getf, am_putf, am_wr, am_ial, am_lal, am_bal, am_aal, am_ias, am_las, am_bas, am_alen, am_inst, am_cast, am_cpm, am_copy, am_tsw, am_pop, am_cat, am_cS, am_cI, am_cV, am_ri, am_rl, am_ra, am_rv, am_b1, am_b2, am_ent, am_en, am_isL, am_st1, am_st2, am_clr, am_cnd, cc_29, ac_29, nL_29, rb_29, tg_4_7, tg_4_2, tg_4_3, List.getElem?_cons_succ, List.getElem?_cons_zero, nz_of, nzl_of, Int.toNat_add, Int.toNat_mul, tn_l, lt_t, lt_f, le_t, le_f, eq_t, eq_f, ltn_t, ltn_f, len_t, len_f, eqn_t, eqn_f, sh_73]
  refine (up_iff (fun j : Nat => wpS 29 4 [some (.inr (.inr (some 73))), some (.inl p), some (.inl (sumZ (fun h => if μ 102 (13 + h) = p then μ 102 (21 + h) else 0) j)), some (.inl j)] [] (S μ) Φ) (nW (μ 102)) step).trans ?_
  rw [s1_iff [4] 90]
  simp (disch := omega) [sz_s, sz_0, gx_s, hx_r, hx_c, hx_b, hx_s, hx_i, hx_n, kx_s, kx_n, kx_i, cx_d, up_at, am_ctl, am_step, am_i1, am_i2, am_i2d, am_l1, am_l2, am_l2d, am_ldi, am_ldl, am_lda, am_sti, am_sta, am_stl, am_inc, am_i2l, am_l2i, am_lcmp, am_dup, am_dup2, am_pop1, am_fv, am_getf, am_putf, am_wr, am_ial, am_lal, am_bal, am_aal, am_ias, am_las, am_bas, am_alen, am_inst, am_cast, am_cpm, am_copy, am_tsw, am_pop, am_cat, am_cS, am_cI, am_cV, am_ri, am_rl, am_ra, am_rv, am_b1, am_b2, am_ent, am_en, am_isL, am_st1, am_st2, am_clr, am_cnd, cc_29, ac_29, nL_29, rb_29, tg_4_7, tg_4_2, tg_4_3, List.getElem?_cons_succ, List.getElem?_cons_zero, nz_of, nzl_of, Int.toNat_add, Int.toNat_mul, tn_l, lt_t, lt_f, le_t, le_f, eq_t, eq_f, ltn_t, ltn_f, len_t, len_f, eqn_t, eqn_f, sh_73, sh_74, sh_75, sh_76, sh_77, sh_78, rf_73_1, rf_73_2, rf_73_3, rf_73_4, rf_73_5, e0.1]
  rfl
set_option maxRecDepth 100000 in
theorem wp_mouthsOfAll {B : Int} {μ : Nat → Nat → Int} (hL : LD B μ 73 0)  (Φ : Option AV → ST → Prop) : wpM 30 [.inr (.inr (some 73))] (S μ) Φ ↔ Φ (some (.inl (mouW (μ 102)))) (S μ) := by
  have e0 := ld_n hL
  have r0 : ∀ i, i < nW (μ 102) → 0 ≤ (fun h => μ 102 (21 + h)) i ∧ (fun h => μ 102 (21 + h)) i ≤ 31 := by
    intro i hi
    obtain ⟨⟨-, -, -, -⟩, kk, pp, mm, ss, h8⟩ := ld_h hL hi
    dsimp only; omega
  have step : ∀ j, j < nW (μ 102) → ((fun j : Nat => wpS 30 4 [some (.inr (.inr (some 73))), some (.inl (sumZ (fun h => μ 102 (21 + h)) j)), some (.inl j)] [] (S μ) Φ) j ↔ (fun j : Nat => wpS 30 4 [some (.inr (.inr (some 73))), some (.inl (sumZ (fun h => μ 102 (21 + h)) j)), some (.inl j)] [] (S μ) Φ) (j + 1)) := by
    intro j hj
    obtain ⟨⟨e1, e2, e3, e4⟩, kk, pp, mm, ss, h8⟩ := ld_h hL hj
    have r1 := sumZ_rng (n := j) (fun i hi => r0 i (by omega))
    have r2 := r0 j hj
    have e9 : sumZ (fun h => μ 102 (21 + h)) (j + 1) = sumZ (fun h => μ 102 (21 + h)) j + (fun h => μ 102 (21 + h)) j := rfl
    
    show _ ↔ wpS 30 4 [some (.inr (.inr (some 73))), some (.inl (sumZ (fun h => μ 102 (21 + h)) (j + 1))), some (.inl ((j + 1 : Nat) : Int))] [] (S μ) Φ
    rw [e9]
    dsimp only at r2 ⊢
    rw [s1_iff [4] 90]
    simp (disch := omega) [sz_s, sz_0, gx_s, hx_r, hx_c, hx_b, hx_s, hx_i, hx_n, kx_s, kx_n, kx_i, cx_d, up_at, am_ctl, am_step, am_i1, am_i2, am_i2d, am_l1, am_l2, am_l2d, am_ldi, am_ldl, am_lda, am_sti, am_sta, am_stl, am_inc, am_i2l, am_l2i, am_lcmp, am_dup, am_dup2, am_pop1, am_fv, am_getf, am_putf, am_wr, am_ial, am_lal, am_bal, am_aal, am_ias, am_las, am_bas, am_alen, am_inst, am_cast, am_cpm, am_copy, am_tsw, am_pop, am_cat, am_cS, am_cI, am_cV, am_ri, am_rl, am_ra, am_rv, am_b1, am_b2, am_ent, am_en, am_isL, am_st1, am_st2, am_clr, am_cnd, cc_30, ac_30, nL_30, rb_30, tg_4_7, tg_4_3, List.getElem?_cons_succ, List.getElem?_cons_zero, nz_of, nzl_of, Int.toNat_add, Int.toNat_mul, tn_l, lt_t, lt_f, le_t, le_f, eq_t, eq_f, ltn_t, ltn_f, len_t, len_f, eqn_t, eqn_f, sh_73, sh_74, sh_75, sh_76, sh_77, sh_78, rf_73_1, rf_73_2, rf_73_3, rf_73_4, rf_73_5, e0.1, e3, hj, Nat.not_le.mpr hj]
  unfold wpM
  rw [s1_iff [4] 90]
  simp (disch := omega) [sz_s, sz_0, gx_s, hx_r, hx_c, hx_b, hx_s, hx_i, hx_n, kx_s, kx_n, kx_i, cx_d, up_at, am_ctl, am_step, am_i1, am_i2, am_i2d, am_l1, am_l2, am_l2d, am_ldi, am_ldl, am_lda, am_sti, am_sta, am_stl, am_inc, am_i2l, am_l2i, am_lcmp, am_dup, am_dup2, am_pop1, am_fv, am_getf, am_putf, am_wr, am_ial, am_lal, am_bal, am_aal, am_ias, am_las, am_bas, am_alen, am_inst, am_cast, am_cpm, am_copy, am_tsw, am_pop, am_cat, am_cS, am_cI, am_cV, am_ri, am_rl, am_ra, am_rv, am_b1, am_b2, am_ent, am_en, am_isL, am_st1, am_st2, am_clr, am_cnd, cc_30, ac_30, nL_30, rb_30, tg_4_7, tg_4_3, List.getElem?_cons_succ, List.getElem?_cons_zero, nz_of, nzl_of, Int.toNat_add, Int.toNat_mul, tn_l, lt_t, lt_f, le_t, le_f, eq_t, eq_f, ltn_t, ltn_f, len_t, len_f, eqn_t, eqn_f, sh_73]
  refine (up_iff (fun j : Nat => wpS 30 4 [some (.inr (.inr (some 73))), some (.inl (sumZ (fun h => μ 102 (21 + h)) j)), some (.inl j)] [] (S μ) Φ) (nW (μ 102)) step).trans ?_
  rw [s1_iff [4] 90]
  simp (disch := omega) [sz_s, sz_0, gx_s, hx_r, hx_c, hx_b, hx_s, hx_i, hx_n, kx_s, kx_n, kx_i, cx_d, up_at, am_ctl, am_step, am_i1, am_i2, am_i2d, am_l1, am_l2, am_l2d, am_ldi, am_ldl, am_lda, am_sti, am_sta, am_stl, am_inc, am_i2l, am_l2i, am_lcmp, am_dup, am_dup2, am_pop1, am_fv, am_getf, am_putf, am_wr, am_ial, am_lal, am_bal, am_aal, am_ias, am_las, am_bas, am_alen, am_inst, am_cast, am_cpm, am_copy, am_tsw, am_pop, am_cat, am_cS, am_cI, am_cV, am_ri, am_rl, am_ra, am_rv, am_b1, am_b2, am_ent, am_en, am_isL, am_st1, am_st2, am_clr, am_cnd, cc_30, ac_30, nL_30, rb_30, tg_4_7, tg_4_3, List.getElem?_cons_succ, List.getElem?_cons_zero, nz_of, nzl_of, Int.toNat_add, Int.toNat_mul, tn_l, lt_t, lt_f, le_t, le_f, eq_t, eq_f, ltn_t, ltn_f, len_t, len_f, eqn_t, eqn_f, sh_73, sh_74, sh_75, sh_76, sh_77, sh_78, rf_73_1, rf_73_2, rf_73_3, rf_73_4, rf_73_5, e0.1]
  rfl
set_option maxRecDepth 100000 in
theorem wp_spoonsOfAll {B : Int} {μ : Nat → Nat → Int} (hL : LD B μ 73 0)  (Φ : Option AV → ST → Prop) : wpM 31 [.inr (.inr (some 73))] (S μ) Φ ↔ Φ (some (.inl (spoW (μ 102)))) (S μ) := by
  have e0 := ld_n hL
  have r0 : ∀ i, i < nW (μ 102) → 0 ≤ (fun h => μ 102 (29 + h)) i ∧ (fun h => μ 102 (29 + h)) i ≤ 31 := by
    intro i hi
    obtain ⟨⟨-, -, -, -⟩, kk, pp, mm, ss, h8⟩ := ld_h hL hi
    dsimp only; omega
  have step : ∀ j, j < nW (μ 102) → ((fun j : Nat => wpS 31 4 [some (.inr (.inr (some 73))), some (.inl (sumZ (fun h => μ 102 (29 + h)) j)), some (.inl j)] [] (S μ) Φ) j ↔ (fun j : Nat => wpS 31 4 [some (.inr (.inr (some 73))), some (.inl (sumZ (fun h => μ 102 (29 + h)) j)), some (.inl j)] [] (S μ) Φ) (j + 1)) := by
    intro j hj
    obtain ⟨⟨e1, e2, e3, e4⟩, kk, pp, mm, ss, h8⟩ := ld_h hL hj
    have r1 := sumZ_rng (n := j) (fun i hi => r0 i (by omega))
    have r2 := r0 j hj
    have e9 : sumZ (fun h => μ 102 (29 + h)) (j + 1) = sumZ (fun h => μ 102 (29 + h)) j + (fun h => μ 102 (29 + h)) j := rfl
    
    show _ ↔ wpS 31 4 [some (.inr (.inr (some 73))), some (.inl (sumZ (fun h => μ 102 (29 + h)) (j + 1))), some (.inl ((j + 1 : Nat) : Int))] [] (S μ) Φ
    rw [e9]
    dsimp only at r2 ⊢
    rw [s1_iff [4] 90]
    simp (disch := omega) [sz_s, sz_0, gx_s, hx_r, hx_c, hx_b, hx_s, hx_i, hx_n, kx_s, kx_n, kx_i, cx_d, up_at, am_ctl, am_step, am_i1, am_i2, am_i2d, am_l1, am_l2, am_l2d, am_ldi, am_ldl, am_lda, am_sti, am_sta, am_stl, am_inc, am_i2l, am_l2i, am_lcmp, am_dup, am_dup2, am_pop1, am_fv, am_getf, am_putf, am_wr, am_ial, am_lal, am_bal, am_aal, am_ias, am_las, am_bas, am_alen, am_inst, am_cast, am_cpm, am_copy, am_tsw, am_pop, am_cat, am_cS, am_cI, am_cV, am_ri, am_rl, am_ra, am_rv, am_b1, am_b2, am_ent, am_en, am_isL, am_st1, am_st2, am_clr, am_cnd, cc_31, ac_31, nL_31, rb_31, tg_4_7, tg_4_4, List.getElem?_cons_succ, List.getElem?_cons_zero, nz_of, nzl_of, Int.toNat_add, Int.toNat_mul, tn_l, lt_t, lt_f, le_t, le_f, eq_t, eq_f, ltn_t, ltn_f, len_t, len_f, eqn_t, eqn_f, sh_73, sh_74, sh_75, sh_76, sh_77, sh_78, rf_73_1, rf_73_2, rf_73_3, rf_73_4, rf_73_5, e0.1, e4, hj, Nat.not_le.mpr hj]
  unfold wpM
  rw [s1_iff [4] 90]
  simp (disch := omega) [sz_s, sz_0, gx_s, hx_r, hx_c, hx_b, hx_s, hx_i, hx_n, kx_s, kx_n, kx_i, cx_d, up_at, am_ctl, am_step, am_i1, am_i2, am_i2d, am_l1, am_l2, am_l2d, am_ldi, am_ldl, am_lda, am_sti, am_sta, am_stl, am_inc, am_i2l, am_l2i, am_lcmp, am_dup, am_dup2, am_pop1, am_fv, am_getf, am_putf, am_wr, am_ial, am_lal, am_bal, am_aal, am_ias, am_las, am_bas, am_alen, am_inst, am_cast, am_cpm, am_copy, am_tsw, am_pop, am_cat, am_cS, am_cI, am_cV, am_ri, am_rl, am_ra, am_rv, am_b1, am_b2, am_ent, am_en, am_isL, am_st1, am_st2, am_clr, am_cnd, cc_31, ac_31, nL_31, rb_31, tg_4_7, tg_4_4, List.getElem?_cons_succ, List.getElem?_cons_zero, nz_of, nzl_of, Int.toNat_add, Int.toNat_mul, tn_l, lt_t, lt_f, le_t, le_f, eq_t, eq_f, ltn_t, ltn_f, len_t, len_f, eqn_t, eqn_f, sh_73]
  refine (up_iff (fun j : Nat => wpS 31 4 [some (.inr (.inr (some 73))), some (.inl (sumZ (fun h => μ 102 (29 + h)) j)), some (.inl j)] [] (S μ) Φ) (nW (μ 102)) step).trans ?_
  rw [s1_iff [4] 90]
  simp (disch := omega) [sz_s, sz_0, gx_s, hx_r, hx_c, hx_b, hx_s, hx_i, hx_n, kx_s, kx_n, kx_i, cx_d, up_at, am_ctl, am_step, am_i1, am_i2, am_i2d, am_l1, am_l2, am_l2d, am_ldi, am_ldl, am_lda, am_sti, am_sta, am_stl, am_inc, am_i2l, am_l2i, am_lcmp, am_dup, am_dup2, am_pop1, am_fv, am_getf, am_putf, am_wr, am_ial, am_lal, am_bal, am_aal, am_ias, am_las, am_bas, am_alen, am_inst, am_cast, am_cpm, am_copy, am_tsw, am_pop, am_cat, am_cS, am_cI, am_cV, am_ri, am_rl, am_ra, am_rv, am_b1, am_b2, am_ent, am_en, am_isL, am_st1, am_st2, am_clr, am_cnd, cc_31, ac_31, nL_31, rb_31, tg_4_7, tg_4_4, List.getElem?_cons_succ, List.getElem?_cons_zero, nz_of, nzl_of, Int.toNat_add, Int.toNat_mul, tn_l, lt_t, lt_f, le_t, le_f, eq_t, eq_f, ltn_t, ltn_f, len_t, len_f, eqn_t, eqn_f, sh_73, sh_74, sh_75, sh_76, sh_77, sh_78, rf_73_1, rf_73_2, rf_73_3, rf_73_4, rf_73_5, e0.1]
  rfl
set_option maxRecDepth 100000 in
theorem wm_allCounted {B : Int} {μ : Nat → Nat → Int} (hL : LD B μ 73 0) (l : Int) (hl : 0 ≤ l) (Φ : Option AV → ST → Prop) : wpM 187 [.inr (.inr (some 101)), .inl l] (S μ) Φ ↔ Φ (some (.inl (allW (μ 102) l))) (S μ) := by
  have e0 := ld_n hL
  have r0 : ∀ i, i < nW (μ 102) → 0 ≤ (fun h => cntW (μ 102) h l) i ∧ (fun h => cntW (μ 102) h l) i ≤ 31 := by
    intro i hi
    obtain ⟨⟨-, -, -, -⟩, kk, pp, mm, ss, h8⟩ := ld_h hL hi
    have := ld_c hL hi l; dsimp only; omega
  have step : ∀ j, j < nW (μ 102) → ((fun j : Nat => wpS 187 4 [some (.inr (.inr (some 101))), some (.inl l), some (.inl (sumZ (fun h => cntW (μ 102) h l) j)), some (.inl j)] [] (S μ) Φ) j ↔ (fun j : Nat => wpS 187 4 [some (.inr (.inr (some 101))), some (.inl l), some (.inl (sumZ (fun h => cntW (μ 102) h l) j)), some (.inl j)] [] (S μ) Φ) (j + 1)) := by
    intro j hj
    obtain ⟨⟨e1, e2, e3, e4⟩, kk, pp, mm, ss, h8⟩ := ld_h hL hj
    have r1 := sumZ_rng (n := j) (fun i hi => r0 i (by omega))
    have r2 := r0 j hj
    have e9 : sumZ (fun h => cntW (μ 102) h l) (j + 1) = sumZ (fun h => cntW (μ 102) h l) j + (fun h => cntW (μ 102) h l) j := rfl
    
    show _ ↔ wpS 187 4 [some (.inr (.inr (some 101))), some (.inl l), some (.inl (sumZ (fun h => cntW (μ 102) h l) (j + 1))), some (.inl ((j + 1 : Nat) : Int))] [] (S μ) Φ
    rw [e9]
    dsimp only at r2 ⊢
    rw [s1_iff [4] 90]
    simp (disch := omega) [sz_s, sz_0, gx_s, hx_r, hx_c, hx_b, hx_s, hx_i, hx_n, kx_s, kx_n, kx_i, cx_d, up_at, am_ctl, am_step, am_i1, am_i2, am_i2d, am_l1, am_l2, am_l2d, am_ldi, am_ldl, am_lda, am_sti, am_sta, am_stl, am_inc, am_i2l, am_l2i, am_lcmp, am_dup, am_dup2, am_pop1, am_fv, am_getf, am_putf, am_wr, am_ial, am_lal, am_bal, am_aal, am_ias, am_las, am_bas, am_alen, am_inst, am_cast, am_cpm, am_copy, am_tsw, am_pop, am_cat, am_cS, am_cI, am_cV, am_ri, am_rl, am_ra, am_rv, am_b1, am_b2, am_ent, am_en, am_isL, am_st1, am_st2, am_clr, am_cnd, cc_187, ac_187, nL_187, rb_187, np_186, ok_187_186, nL_186, vd_186_12, tg_12_0, List.getElem?_cons_succ, List.getElem?_cons_zero, nz_of, nzl_of, Int.toNat_add, Int.toNat_mul, tn_l, lt_t, lt_f, le_t, le_f, eq_t, eq_f, ltn_t, ltn_f, len_t, len_f, eqn_t, eqn_f, sh_101, sh_102, rf_101_0, e0.2.1, wm_countedOf hL hj l hl, hj, Nat.not_le.mpr hj]
  unfold wpM
  rw [s1_iff [4] 90]
  simp (disch := omega) [sz_s, sz_0, gx_s, hx_r, hx_c, hx_b, hx_s, hx_i, hx_n, kx_s, kx_n, kx_i, cx_d, up_at, am_ctl, am_step, am_i1, am_i2, am_i2d, am_l1, am_l2, am_l2d, am_ldi, am_ldl, am_lda, am_sti, am_sta, am_stl, am_inc, am_i2l, am_l2i, am_lcmp, am_dup, am_dup2, am_pop1, am_fv, am_getf, am_putf, am_wr, am_ial, am_lal, am_bal, am_aal, am_ias, am_las, am_bas, am_alen, am_inst, am_cast, am_cpm, am_copy, am_tsw, am_pop, am_cat, am_cS, am_cI, am_cV, am_ri, am_rl, am_ra, am_rv, am_b1, am_b2, am_ent, am_en, am_isL, am_st1, am_st2, am_clr, am_cnd, cc_187, ac_187, nL_187, rb_187, np_186, ok_187_186, nL_186, vd_186_12, tg_12_0, List.getElem?_cons_succ, List.getElem?_cons_zero, nz_of, nzl_of, Int.toNat_add, Int.toNat_mul, tn_l, lt_t, lt_f, le_t, le_f, eq_t, eq_f, ltn_t, ltn_f, len_t, len_f, eqn_t, eqn_f, sh_101]
  refine (up_iff (fun j : Nat => wpS 187 4 [some (.inr (.inr (some 101))), some (.inl l), some (.inl (sumZ (fun h => cntW (μ 102) h l) j)), some (.inl j)] [] (S μ) Φ) (nW (μ 102)) step).trans ?_
  rw [s1_iff [4] 90]
  simp (disch := omega) [sz_s, sz_0, gx_s, hx_r, hx_c, hx_b, hx_s, hx_i, hx_n, kx_s, kx_n, kx_i, cx_d, up_at, am_ctl, am_step, am_i1, am_i2, am_i2d, am_l1, am_l2, am_l2d, am_ldi, am_ldl, am_lda, am_sti, am_sta, am_stl, am_inc, am_i2l, am_l2i, am_lcmp, am_dup, am_dup2, am_pop1, am_fv, am_getf, am_putf, am_wr, am_ial, am_lal, am_bal, am_aal, am_ias, am_las, am_bas, am_alen, am_inst, am_cast, am_cpm, am_copy, am_tsw, am_pop, am_cat, am_cS, am_cI, am_cV, am_ri, am_rl, am_ra, am_rv, am_b1, am_b2, am_ent, am_en, am_isL, am_st1, am_st2, am_clr, am_cnd, cc_187, ac_187, nL_187, rb_187, np_186, ok_187_186, nL_186, vd_186_12, tg_12_0, List.getElem?_cons_succ, List.getElem?_cons_zero, nz_of, nzl_of, Int.toNat_add, Int.toNat_mul, tn_l, lt_t, lt_f, le_t, le_f, eq_t, eq_f, ltn_t, ltn_f, len_t, len_f, eqn_t, eqn_f, sh_101, sh_102, rf_101_0, e0.2.1]
  rfl
set_option maxRecDepth 100000 in
theorem wm_mouths {B : Int} {μ : Nat → Nat → Int} (hL : LD B μ 73 0)  (Φ : Option AV → ST → Prop) : wpM 188 [.inr (.inr (some 101)), .inl 21] (S μ) Φ ↔ Φ (some (.inl (mouW (μ 102)))) (S μ) := by
  have e0 := ld_n hL
  have r0 : ∀ i, i < nW (μ 102) → 0 ≤ (fun h => μ 102 (21 + h)) i ∧ (fun h => μ 102 (21 + h)) i ≤ 31 := by
    intro i hi
    obtain ⟨⟨-, -, -, -⟩, kk, pp, mm, ss, h8⟩ := ld_h hL hi
    dsimp only; omega
  have step : ∀ j, j < nW (μ 102) → ((fun j : Nat => wpS 188 4 [some (.inr (.inr (some 101))), some (.inl 21), some (.inl (sumZ (fun h => μ 102 (21 + h)) j)), some (.inl j)] [] (S μ) Φ) j ↔ (fun j : Nat => wpS 188 4 [some (.inr (.inr (some 101))), some (.inl 21), some (.inl (sumZ (fun h => μ 102 (21 + h)) j)), some (.inl j)] [] (S μ) Φ) (j + 1)) := by
    intro j hj
    obtain ⟨⟨e1, e2, e3, e4⟩, kk, pp, mm, ss, h8⟩ := ld_h hL hj
    have r1 := sumZ_rng (n := j) (fun i hi => r0 i (by omega))
    have r2 := r0 j hj
    have e9 : sumZ (fun h => μ 102 (21 + h)) (j + 1) = sumZ (fun h => μ 102 (21 + h)) j + (fun h => μ 102 (21 + h)) j := rfl
    
    show _ ↔ wpS 188 4 [some (.inr (.inr (some 101))), some (.inl 21), some (.inl (sumZ (fun h => μ 102 (21 + h)) (j + 1))), some (.inl ((j + 1 : Nat) : Int))] [] (S μ) Φ
    rw [e9]
    dsimp only at r2 ⊢
    rw [s1_iff [4] 90]
    simp (disch := omega) [sz_s, sz_0, gx_s, hx_r, hx_c, hx_b, hx_s, hx_i, hx_n, kx_s, kx_n, kx_i, cx_d, up_at, am_ctl, am_step, am_i1, am_i2, am_i2d, am_l1, am_l2, am_l2d, am_ldi, am_ldl, am_lda, am_sti, am_sta, am_stl, am_inc, am_i2l, am_l2i, am_lcmp, am_dup, am_dup2, am_pop1, am_fv, am_getf, am_putf, am_wr, am_ial, am_lal, am_bal, am_aal, am_ias, am_las, am_bas, am_alen, am_inst, am_cast, am_cpm, am_copy, am_tsw, am_pop, am_cat, am_cS, am_cI, am_cV, am_ri, am_rl, am_ra, am_rv, am_b1, am_b2, am_ent, am_en, am_isL, am_st1, am_st2, am_clr, am_cnd, cc_188, ac_188, nL_188, rb_188, tg_12_0, List.getElem?_cons_succ, List.getElem?_cons_zero, nz_of, nzl_of, Int.toNat_add, Int.toNat_mul, tn_l, lt_t, lt_f, le_t, le_f, eq_t, eq_f, ltn_t, ltn_f, len_t, len_f, eqn_t, eqn_f, sh_101, sh_102, rf_101_0, e0.2.1, hj, Nat.not_le.mpr hj]
  unfold wpM
  rw [s1_iff [4] 90]
  simp (disch := omega) [sz_s, sz_0, gx_s, hx_r, hx_c, hx_b, hx_s, hx_i, hx_n, kx_s, kx_n, kx_i, cx_d, up_at, am_ctl, am_step, am_i1, am_i2, am_i2d, am_l1, am_l2, am_l2d, am_ldi, am_ldl, am_lda, am_sti, am_sta, am_stl, am_inc, am_i2l, am_l2i, am_lcmp, am_dup, am_dup2, am_pop1, am_fv, am_getf, am_putf, am_wr, am_ial, am_lal, am_bal, am_aal, am_ias, am_las, am_bas, am_alen, am_inst, am_cast, am_cpm, am_copy, am_tsw, am_pop, am_cat, am_cS, am_cI, am_cV, am_ri, am_rl, am_ra, am_rv, am_b1, am_b2, am_ent, am_en, am_isL, am_st1, am_st2, am_clr, am_cnd, cc_188, ac_188, nL_188, rb_188, tg_12_0, List.getElem?_cons_succ, List.getElem?_cons_zero, nz_of, nzl_of, Int.toNat_add, Int.toNat_mul, tn_l, lt_t, lt_f, le_t, le_f, eq_t, eq_f, ltn_t, ltn_f, len_t, len_f, eqn_t, eqn_f, sh_101]
  refine (up_iff (fun j : Nat => wpS 188 4 [some (.inr (.inr (some 101))), some (.inl 21), some (.inl (sumZ (fun h => μ 102 (21 + h)) j)), some (.inl j)] [] (S μ) Φ) (nW (μ 102)) step).trans ?_
  rw [s1_iff [4] 90]
  simp (disch := omega) [sz_s, sz_0, gx_s, hx_r, hx_c, hx_b, hx_s, hx_i, hx_n, kx_s, kx_n, kx_i, cx_d, up_at, am_ctl, am_step, am_i1, am_i2, am_i2d, am_l1, am_l2, am_l2d, am_ldi, am_ldl, am_lda, am_sti, am_sta, am_stl, am_inc, am_i2l, am_l2i, am_lcmp, am_dup, am_dup2, am_pop1, am_fv, am_getf, am_putf, am_wr, am_ial, am_lal, am_bal, am_aal, am_ias, am_las, am_bas, am_alen, am_inst, am_cast, am_cpm, am_copy, am_tsw, am_pop, am_cat, am_cS, am_cI, am_cV, am_ri, am_rl, am_ra, am_rv, am_b1, am_b2, am_ent, am_en, am_isL, am_st1, am_st2, am_clr, am_cnd, cc_188, ac_188, nL_188, rb_188, tg_12_0, List.getElem?_cons_succ, List.getElem?_cons_zero, nz_of, nzl_of, Int.toNat_add, Int.toNat_mul, tn_l, lt_t, lt_f, le_t, le_f, eq_t, eq_f, ltn_t, ltn_f, len_t, len_f, eqn_t, eqn_f, sh_101, sh_102, rf_101_0, e0.2.1]
  rfl
set_option maxRecDepth 100000 in
theorem wm_spoons {B : Int} {μ : Nat → Nat → Int} (hL : LD B μ 73 0)  (Φ : Option AV → ST → Prop) : wpM 188 [.inr (.inr (some 101)), .inl 29] (S μ) Φ ↔ Φ (some (.inl (spoW (μ 102)))) (S μ) := by
  have e0 := ld_n hL
  have r0 : ∀ i, i < nW (μ 102) → 0 ≤ (fun h => μ 102 (29 + h)) i ∧ (fun h => μ 102 (29 + h)) i ≤ 31 := by
    intro i hi
    obtain ⟨⟨-, -, -, -⟩, kk, pp, mm, ss, h8⟩ := ld_h hL hi
    dsimp only; omega
  have step : ∀ j, j < nW (μ 102) → ((fun j : Nat => wpS 188 4 [some (.inr (.inr (some 101))), some (.inl 29), some (.inl (sumZ (fun h => μ 102 (29 + h)) j)), some (.inl j)] [] (S μ) Φ) j ↔ (fun j : Nat => wpS 188 4 [some (.inr (.inr (some 101))), some (.inl 29), some (.inl (sumZ (fun h => μ 102 (29 + h)) j)), some (.inl j)] [] (S μ) Φ) (j + 1)) := by
    intro j hj
    obtain ⟨⟨e1, e2, e3, e4⟩, kk, pp, mm, ss, h8⟩ := ld_h hL hj
    have r1 := sumZ_rng (n := j) (fun i hi => r0 i (by omega))
    have r2 := r0 j hj
    have e9 : sumZ (fun h => μ 102 (29 + h)) (j + 1) = sumZ (fun h => μ 102 (29 + h)) j + (fun h => μ 102 (29 + h)) j := rfl
    
    show _ ↔ wpS 188 4 [some (.inr (.inr (some 101))), some (.inl 29), some (.inl (sumZ (fun h => μ 102 (29 + h)) (j + 1))), some (.inl ((j + 1 : Nat) : Int))] [] (S μ) Φ
    rw [e9]
    dsimp only at r2 ⊢
    rw [s1_iff [4] 90]
    simp (disch := omega) [sz_s, sz_0, gx_s, hx_r, hx_c, hx_b, hx_s, hx_i, hx_n, kx_s, kx_n, kx_i, cx_d, up_at, am_ctl, am_step, am_i1, am_i2, am_i2d, am_l1, am_l2, am_l2d, am_ldi, am_ldl, am_lda, am_sti, am_sta, am_stl, am_inc, am_i2l, am_l2i, am_lcmp, am_dup, am_dup2, am_pop1, am_fv, am_getf, am_putf, am_wr, am_ial, am_lal, am_bal, am_aal, am_ias, am_las, am_bas, am_alen, am_inst, am_cast, am_cpm, am_copy, am_tsw, am_pop, am_cat, am_cS, am_cI, am_cV, am_ri, am_rl, am_ra, am_rv, am_b1, am_b2, am_ent, am_en, am_isL, am_st1, am_st2, am_clr, am_cnd, cc_188, ac_188, nL_188, rb_188, tg_12_0, List.getElem?_cons_succ, List.getElem?_cons_zero, nz_of, nzl_of, Int.toNat_add, Int.toNat_mul, tn_l, lt_t, lt_f, le_t, le_f, eq_t, eq_f, ltn_t, ltn_f, len_t, len_f, eqn_t, eqn_f, sh_101, sh_102, rf_101_0, e0.2.1, hj, Nat.not_le.mpr hj]
  unfold wpM
  rw [s1_iff [4] 90]
  simp (disch := omega) [sz_s, sz_0, gx_s, hx_r, hx_c, hx_b, hx_s, hx_i, hx_n, kx_s, kx_n, kx_i, cx_d, up_at, am_ctl, am_step, am_i1, am_i2, am_i2d, am_l1, am_l2, am_l2d, am_ldi, am_ldl, am_lda, am_sti, am_sta, am_stl, am_inc, am_i2l, am_l2i, am_lcmp, am_dup, am_dup2, am_pop1, am_fv, am_getf, am_putf, am_wr, am_ial, am_lal, am_bal, am_aal, am_ias, am_las, am_bas, am_alen, am_inst, am_cast, am_cpm, am_copy, am_tsw, am_pop, am_cat, am_cS, am_cI, am_cV, am_ri, am_rl, am_ra, am_rv, am_b1, am_b2, am_ent, am_en, am_isL, am_st1, am_st2, am_clr, am_cnd, cc_188, ac_188, nL_188, rb_188, tg_12_0, List.getElem?_cons_succ, List.getElem?_cons_zero, nz_of, nzl_of, Int.toNat_add, Int.toNat_mul, tn_l, lt_t, lt_f, le_t, le_f, eq_t, eq_f, ltn_t, ltn_f, len_t, len_f, eqn_t, eqn_f, sh_101]
  refine (up_iff (fun j : Nat => wpS 188 4 [some (.inr (.inr (some 101))), some (.inl 29), some (.inl (sumZ (fun h => μ 102 (29 + h)) j)), some (.inl j)] [] (S μ) Φ) (nW (μ 102)) step).trans ?_
  rw [s1_iff [4] 90]
  simp (disch := omega) [sz_s, sz_0, gx_s, hx_r, hx_c, hx_b, hx_s, hx_i, hx_n, kx_s, kx_n, kx_i, cx_d, up_at, am_ctl, am_step, am_i1, am_i2, am_i2d, am_l1, am_l2, am_l2d, am_ldi, am_ldl, am_lda, am_sti, am_sta, am_stl, am_inc, am_i2l, am_l2i, am_lcmp, am_dup, am_dup2, am_pop1, am_fv, am_getf, am_putf, am_wr, am_ial, am_lal, am_bal, am_aal, am_ias, am_las, am_bas, am_alen, am_inst, am_cast, am_cpm, am_copy, am_tsw, am_pop, am_cat, am_cS, am_cI, am_cV, am_ri, am_rl, am_ra, am_rv, am_b1, am_b2, am_ent, am_en, am_isL, am_st1, am_st2, am_clr, am_cnd, cc_188, ac_188, nL_188, rb_188, tg_12_0, List.getElem?_cons_succ, List.getElem?_cons_zero, nz_of, nzl_of, Int.toNat_add, Int.toNat_mul, tn_l, lt_t, lt_f, le_t, le_f, eq_t, eq_f, ltn_t, ltn_f, len_t, len_f, eqn_t, eqn_f, sh_101, sh_102, rf_101_0, e0.2.1]
  rfl
set_option maxRecDepth 100000 in
theorem wm_sackOf {B : Int} {μ : Nat → Nat → Int} (hL : LD B μ 73 0) (p : Int) (Φ : Option AV → ST → Prop) : wpM 201 [.inr (.inr (some 101)), .inl p] (S μ) Φ ↔ Φ (some (.inl (inW (μ 102) p (μ 102 1)))) (S μ) := by
  have e0 := ld_n hL
  have r0 : ∀ i, i < nW (μ 102) → 0 ≤ (fun h => if μ 102 (13 + h) = p then cntW (μ 102) h (μ 102 1) else 0) i ∧ (fun h => if μ 102 (13 + h) = p then cntW (μ 102) h (μ 102 1) else 0) i ≤ 31 := by
    intro i hi
    obtain ⟨⟨-, -, -, -⟩, kk, pp, mm, ss, h8⟩ := ld_h hL hi
    have := ld_c hL hi (μ 102 1); dsimp only; split <;> omega
  have step : ∀ j, j < nW (μ 102) → ((fun j : Nat => wpS 201 4 [some (.inr (.inr (some 101))), some (.inl p), some (.inl (sumZ (fun h => if μ 102 (13 + h) = p then cntW (μ 102) h (μ 102 1) else 0) j)), some (.inl j)] [] (S μ) Φ) j ↔ (fun j : Nat => wpS 201 4 [some (.inr (.inr (some 101))), some (.inl p), some (.inl (sumZ (fun h => if μ 102 (13 + h) = p then cntW (μ 102) h (μ 102 1) else 0) j)), some (.inl j)] [] (S μ) Φ) (j + 1)) := by
    intro j hj
    obtain ⟨⟨e1, e2, e3, e4⟩, kk, pp, mm, ss, h8⟩ := ld_h hL hj
    have r1 := sumZ_rng (n := j) (fun i hi => r0 i (by omega))
    have r2 := r0 j hj
    have e9 : sumZ (fun h => if μ 102 (13 + h) = p then cntW (μ 102) h (μ 102 1) else 0) (j + 1) = sumZ (fun h => if μ 102 (13 + h) = p then cntW (μ 102) h (μ 102 1) else 0) j + (fun h => if μ 102 (13 + h) = p then cntW (μ 102) h (μ 102 1) else 0) j := rfl
    
    show _ ↔ wpS 201 4 [some (.inr (.inr (some 101))), some (.inl p), some (.inl (sumZ (fun h => if μ 102 (13 + h) = p then cntW (μ 102) h (μ 102 1) else 0) (j + 1))), some (.inl ((j + 1 : Nat) : Int))] [] (S μ) Φ
    rw [e9]
    dsimp only at r2 ⊢
    by_cases hc : μ 102 (13 + j) = p
    · rw [if_pos hc] at r2 ⊢
      rw [s1_iff [4] 90]
      simp (disch := omega) [sz_s, sz_0, gx_s, hx_r, hx_c, hx_b, hx_s, hx_i, hx_n, kx_s, kx_n, kx_i, cx_d, up_at, am_ctl, am_step, am_i1, am_i2, am_i2d, am_l1, am_l2, am_l2d, am_ldi, am_ldl, am_lda, am_sti, am_sta, am_stl, am_inc, am_i2l, am_l2i, am_lcmp, am_dup, am_dup2, am_pop1, am_fv, am_getf, am_putf, am_wr, am_ial, am_lal, am_bal, am_aal, am_ias, am_las, am_bas, am_alen, am_inst, am_cast, am_cpm, am_copy, am_tsw, am_pop, am_cat, am_cS, am_cI, am_cV, am_ri, am_rl, am_ra, am_rv, am_b1, am_b2, am_ent, am_en, am_isL, am_st1, am_st2, am_clr, am_cnd, cc_201, ac_201, nL_201, rb_201, np_186, ok_201_186, nL_186, vd_186_12, tg_12_0, List.getElem?_cons_succ, List.getElem?_cons_zero, nz_of, nzl_of, Int.toNat_add, Int.toNat_mul, tn_l, lt_t, lt_f, le_t, le_f, eq_t, eq_f, ltn_t, ltn_f, len_t, len_f, eqn_t, eqn_f, sh_101, sh_102, rf_101_0, e0.2.1, wm_countedOf hL hj _ (ld_0 hL).2.2.2.2.2.2.1.1, hc, hj, Nat.not_le.mpr hj]
    · rw [if_neg hc] at r2 ⊢
      rw [s1_iff [4] 90]
      simp (disch := omega) [sz_s, sz_0, gx_s, hx_r, hx_c, hx_b, hx_s, hx_i, hx_n, kx_s, kx_n, kx_i, cx_d, up_at, am_ctl, am_step, am_i1, am_i2, am_i2d, am_l1, am_l2, am_l2d, am_ldi, am_ldl, am_lda, am_sti, am_sta, am_stl, am_inc, am_i2l, am_l2i, am_lcmp, am_dup, am_dup2, am_pop1, am_fv, am_getf, am_putf, am_wr, am_ial, am_lal, am_bal, am_aal, am_ias, am_las, am_bas, am_alen, am_inst, am_cast, am_cpm, am_copy, am_tsw, am_pop, am_cat, am_cS, am_cI, am_cV, am_ri, am_rl, am_ra, am_rv, am_b1, am_b2, am_ent, am_en, am_isL, am_st1, am_st2, am_clr, am_cnd, cc_201, ac_201, nL_201, rb_201, np_186, ok_201_186, nL_186, vd_186_12, tg_12_0, List.getElem?_cons_succ, List.getElem?_cons_zero, nz_of, nzl_of, Int.toNat_add, Int.toNat_mul, tn_l, lt_t, lt_f, le_t, le_f, eq_t, eq_f, ltn_t, ltn_f, len_t, len_f, eqn_t, eqn_f, sh_101, sh_102, rf_101_0, e0.2.1, wm_countedOf hL hj _ (ld_0 hL).2.2.2.2.2.2.1.1, hc, hj, Nat.not_le.mpr hj]
  unfold wpM
  rw [s1_iff [4] 90]
  simp (disch := omega) [sz_s, sz_0, gx_s, hx_r, hx_c, hx_b, hx_s, hx_i, hx_n, kx_s, kx_n, kx_i, cx_d, up_at, am_ctl, am_step, am_i1, am_i2, am_i2d, am_l1, am_l2, am_l2d, am_ldi, am_ldl, am_lda, am_sti, am_sta, am_stl, am_inc, am_i2l, am_l2i, am_lcmp, am_dup, am_dup2, am_pop1, am_fv, am_getf, am_putf, am_wr, am_ial, am_lal, am_bal, am_aal, am_ias, am_las, am_bas, am_alen, am_inst, am_cast, am_cpm, am_copy, am_tsw, am_pop, am_cat, am_cS, am_cI, am_cV, am_ri, am_rl, am_ra, am_rv, am_b1, am_b2, am_ent, am_en, am_isL, am_st1, am_st2, am_clr, am_cnd, cc_201, ac_201, nL_201, rb_201, np_186, ok_201_186, nL_186, vd_186_12, tg_12_0, List.getElem?_cons_succ, List.getElem?_cons_zero, nz_of, nzl_of, Int.toNat_add, Int.toNat_mul, tn_l, lt_t, lt_f, le_t, le_f, eq_t, eq_f, ltn_t, ltn_f, len_t, len_f, eqn_t, eqn_f, sh_101]
  refine (up_iff (fun j : Nat => wpS 201 4 [some (.inr (.inr (some 101))), some (.inl p), some (.inl (sumZ (fun h => if μ 102 (13 + h) = p then cntW (μ 102) h (μ 102 1) else 0) j)), some (.inl j)] [] (S μ) Φ) (nW (μ 102)) step).trans ?_
  rw [s1_iff [4] 90]
  simp (disch := omega) [sz_s, sz_0, gx_s, hx_r, hx_c, hx_b, hx_s, hx_i, hx_n, kx_s, kx_n, kx_i, cx_d, up_at, am_ctl, am_step, am_i1, am_i2, am_i2d, am_l1, am_l2, am_l2d, am_ldi, am_ldl, am_lda, am_sti, am_sta, am_stl, am_inc, am_i2l, am_l2i, am_lcmp, am_dup, am_dup2, am_pop1, am_fv, am_getf, am_putf, am_wr, am_ial, am_lal, am_bal, am_aal, am_ias, am_las, am_bas, am_alen, am_inst, am_cast, am_cpm, am_copy, am_tsw, am_pop, am_cat, am_cS, am_cI, am_cV, am_ri, am_rl, am_ra, am_rv, am_b1, am_b2, am_ent, am_en, am_isL, am_st1, am_st2, am_clr, am_cnd, cc_201, ac_201, nL_201, rb_201, np_186, ok_201_186, nL_186, vd_186_12, tg_12_0, List.getElem?_cons_succ, List.getElem?_cons_zero, nz_of, nzl_of, Int.toNat_add, Int.toNat_mul, tn_l, lt_t, lt_f, le_t, le_f, eq_t, eq_f, ltn_t, ltn_f, len_t, len_f, eqn_t, eqn_f, sh_101, sh_102, rf_101_0, e0.2.1]
  rfl
set_option maxRecDepth 100000 in
theorem wp_debt {B : Int} {μ : Nat → Nat → Int} (hL : LD B μ 73 0) (a b : Nat) (ha : a < 8) (hb : b < 8) (Φ : Option AV → ST → Prop) : wpM 18 [.inr (.inr (some 73)), .inl a, .inl b] (S μ) Φ ↔ Φ (some (.inl (μ 102 (37 + (8 * a + b))))) (S μ) := by
  have e1 := (ld_d hL (j := 8 * a + b) (by omega)).1
  unfold wpM
  rw [s1_iff [] 90]
  simp (disch := omega) [sz_s, sz_0, gx_s, hx_r, hx_c, hx_b, hx_s, hx_i, hx_n, kx_s, kx_n, kx_i, cx_d, up_at, am_ctl, am_step, am_i1, am_i2, am_i2d, am_l1, am_l2, am_l2d, am_ldi, am_ldl, am_lda, am_sti, am_sta, am_stl, am_inc, am_i2l, am_l2i, am_lcmp, am_dup, am_dup2, am_pop1, am_fv, am_getf, am_putf, am_wr, am_ial, am_lal, am_bal, am_aal, am_ias, am_las, am_bas, am_alen, am_inst, am_cast, am_cpm, am_copy, am_tsw, am_pop, am_cat, am_cS, am_cI, am_cV, am_ri, am_rl, am_ra, am_rv, am_b1, am_b2, am_ent, am_en, am_isL, am_st1, am_st2, am_clr, am_cnd, cc_18, ac_18, nL_18, rb_18, tg_4_5, List.getElem?_cons_succ, List.getElem?_cons_zero, nz_of, nzl_of, Int.toNat_add, Int.toNat_mul, tn_l, lt_t, lt_f, le_t, le_f, eq_t, eq_f, ltn_t, ltn_f, len_t, len_f, eqn_t, eqn_f, sh_73, sh_78, rf_73_5, Nat.mul_comm a 8, e1]
set_option maxRecDepth 100000 in
theorem wp_owedBy {B : Int} {μ : Nat → Nat → Int} (hL : LD B μ 73 0) (hB : B ≤ 1000000) (h : Nat) (hh : h < 8) (Φ : Option AV → ST → Prop) : wpM 20 [.inr (.inr (some 73)), .inl h] (S μ) Φ ↔ Φ (some (.inl (oweW (μ 102) h))) (S μ) := by
  have e0 := ld_n hL
  have r0 : ∀ i, i < nW (μ 102) → 0 ≤ (fun a => μ 102 (37 + (8 * a + h))) i ∧ (fun a => μ 102 (37 + (8 * a + h))) i ≤ 1000000 := by
    intro i hi
    obtain ⟨⟨-, -, -, -⟩, kk, pp, mm, ss, h8⟩ := ld_h hL hi
    have di := ld_d hL (j := 8 * i + h) (by omega); dsimp only; omega
  have step : ∀ j, j < nW (μ 102) → ((fun j : Nat => wpS 20 4 [some (.inr (.inr (some 73))), some (.inl h), some (.inl (sumZ (fun a => μ 102 (37 + (8 * a + h))) j)), some (.inl j)] [] (S μ) Φ) j ↔ (fun j : Nat => wpS 20 4 [some (.inr (.inr (some 73))), some (.inl h), some (.inl (sumZ (fun a => μ 102 (37 + (8 * a + h))) j)), some (.inl j)] [] (S μ) Φ) (j + 1)) := by
    intro j hj
    obtain ⟨⟨e1, e2, e3, e4⟩, kk, pp, mm, ss, h8⟩ := ld_h hL hj
    have r1 := sumZ_rng (n := j) (fun i hi => r0 i (by omega))
    have r2 := r0 j hj
    have e9 : sumZ (fun a => μ 102 (37 + (8 * a + h))) (j + 1) = sumZ (fun a => μ 102 (37 + (8 * a + h))) j + (fun a => μ 102 (37 + (8 * a + h))) j := rfl
    have dj := ld_d hL (j := 8 * j + h) (by omega)
    show _ ↔ wpS 20 4 [some (.inr (.inr (some 73))), some (.inl h), some (.inl (sumZ (fun a => μ 102 (37 + (8 * a + h))) (j + 1))), some (.inl ((j + 1 : Nat) : Int))] [] (S μ) Φ
    rw [e9]
    dsimp only at r2 ⊢
    rw [s1_iff [4] 90]
    simp (disch := omega) [sz_s, sz_0, gx_s, hx_r, hx_c, hx_b, hx_s, hx_i, hx_n, kx_s, kx_n, kx_i, cx_d, up_at, am_ctl, am_step, am_i1, am_i2, am_i2d, am_l1, am_l2, am_l2d, am_ldi, am_ldl, am_lda, am_sti, am_sta, am_stl, am_inc, am_i2l, am_l2i, am_lcmp, am_dup, am_dup2, am_pop1, am_fv, am_getf, am_putf, am_wr, am_ial, am_lal, am_bal, am_aal, am_ias, am_las, am_bas, am_alen, am_inst, am_cast, am_cpm, am_copy, am_tsw, am_pop, am_cat, am_cS, am_cI, am_cV, am_ri, am_rl, am_ra, am_rv, am_b1, am_b2, am_ent, am_en, am_isL, am_st1, am_st2, am_clr, am_cnd, cc_20, ac_20, nL_20, rb_20, np_18, ok_20_18, nL_18, vd_18_4, tg_4_7, List.getElem?_cons_succ, List.getElem?_cons_zero, nz_of, nzl_of, Int.toNat_add, Int.toNat_mul, tn_l, lt_t, lt_f, le_t, le_f, eq_t, eq_f, ltn_t, ltn_f, len_t, len_f, eqn_t, eqn_f, sh_73, sh_74, sh_75, sh_76, sh_77, sh_78, rf_73_1, rf_73_2, rf_73_3, rf_73_4, rf_73_5, e0.1, wp_debt hL j h (by omega) (by omega), hj, Nat.not_le.mpr hj]
  unfold wpM
  rw [s1_iff [4] 90]
  simp (disch := omega) [sz_s, sz_0, gx_s, hx_r, hx_c, hx_b, hx_s, hx_i, hx_n, kx_s, kx_n, kx_i, cx_d, up_at, am_ctl, am_step, am_i1, am_i2, am_i2d, am_l1, am_l2, am_l2d, am_ldi, am_ldl, am_lda, am_sti, am_sta, am_stl, am_inc, am_i2l, am_l2i, am_lcmp, am_dup, am_dup2, am_pop1, am_fv, am_getf, am_putf, am_wr, am_ial, am_lal, am_bal, am_aal, am_ias, am_las, am_bas, am_alen, am_inst, am_cast, am_cpm, am_copy, am_tsw, am_pop, am_cat, am_cS, am_cI, am_cV, am_ri, am_rl, am_ra, am_rv, am_b1, am_b2, am_ent, am_en, am_isL, am_st1, am_st2, am_clr, am_cnd, cc_20, ac_20, nL_20, rb_20, np_18, ok_20_18, nL_18, vd_18_4, tg_4_7, List.getElem?_cons_succ, List.getElem?_cons_zero, nz_of, nzl_of, Int.toNat_add, Int.toNat_mul, tn_l, lt_t, lt_f, le_t, le_f, eq_t, eq_f, ltn_t, ltn_f, len_t, len_f, eqn_t, eqn_f, sh_73]
  refine (up_iff (fun j : Nat => wpS 20 4 [some (.inr (.inr (some 73))), some (.inl h), some (.inl (sumZ (fun a => μ 102 (37 + (8 * a + h))) j)), some (.inl j)] [] (S μ) Φ) (nW (μ 102)) step).trans ?_
  rw [s1_iff [4] 90]
  simp (disch := omega) [sz_s, sz_0, gx_s, hx_r, hx_c, hx_b, hx_s, hx_i, hx_n, kx_s, kx_n, kx_i, cx_d, up_at, am_ctl, am_step, am_i1, am_i2, am_i2d, am_l1, am_l2, am_l2d, am_ldi, am_ldl, am_lda, am_sti, am_sta, am_stl, am_inc, am_i2l, am_l2i, am_lcmp, am_dup, am_dup2, am_pop1, am_fv, am_getf, am_putf, am_wr, am_ial, am_lal, am_bal, am_aal, am_ias, am_las, am_bas, am_alen, am_inst, am_cast, am_cpm, am_copy, am_tsw, am_pop, am_cat, am_cS, am_cI, am_cV, am_ri, am_rl, am_ra, am_rv, am_b1, am_b2, am_ent, am_en, am_isL, am_st1, am_st2, am_clr, am_cnd, cc_20, ac_20, nL_20, rb_20, np_18, ok_20_18, nL_18, vd_18_4, tg_4_7, List.getElem?_cons_succ, List.getElem?_cons_zero, nz_of, nzl_of, Int.toNat_add, Int.toNat_mul, tn_l, lt_t, lt_f, le_t, le_f, eq_t, eq_f, ltn_t, ltn_f, len_t, len_f, eqn_t, eqn_f, sh_73, sh_74, sh_75, sh_76, sh_77, sh_78, rf_73_1, rf_73_2, rf_73_3, rf_73_4, rf_73_5, e0.1]
  rfl
set_option maxRecDepth 100000 in
theorem wp_owedTo {B : Int} {μ : Nat → Nat → Int} (hL : LD B μ 73 0) (hB : B ≤ 1000000) (h : Nat) (hh : h < 8) (Φ : Option AV → ST → Prop) : wpM 21 [.inr (.inr (some 73)), .inl h] (S μ) Φ ↔ Φ (some (.inl (owdW (μ 102) h))) (S μ) := by
  have e0 := ld_n hL
  have r0 : ∀ i, i < nW (μ 102) → 0 ≤ (fun b => μ 102 (37 + (8 * h + b))) i ∧ (fun b => μ 102 (37 + (8 * h + b))) i ≤ 1000000 := by
    intro i hi
    obtain ⟨⟨-, -, -, -⟩, kk, pp, mm, ss, h8⟩ := ld_h hL hi
    have di := ld_d hL (j := 8 * h + i) (by omega); dsimp only; omega
  have step : ∀ j, j < nW (μ 102) → ((fun j : Nat => wpS 21 4 [some (.inr (.inr (some 73))), some (.inl h), some (.inl (sumZ (fun b => μ 102 (37 + (8 * h + b))) j)), some (.inl j)] [] (S μ) Φ) j ↔ (fun j : Nat => wpS 21 4 [some (.inr (.inr (some 73))), some (.inl h), some (.inl (sumZ (fun b => μ 102 (37 + (8 * h + b))) j)), some (.inl j)] [] (S μ) Φ) (j + 1)) := by
    intro j hj
    obtain ⟨⟨e1, e2, e3, e4⟩, kk, pp, mm, ss, h8⟩ := ld_h hL hj
    have r1 := sumZ_rng (n := j) (fun i hi => r0 i (by omega))
    have r2 := r0 j hj
    have e9 : sumZ (fun b => μ 102 (37 + (8 * h + b))) (j + 1) = sumZ (fun b => μ 102 (37 + (8 * h + b))) j + (fun b => μ 102 (37 + (8 * h + b))) j := rfl
    have dj := ld_d hL (j := 8 * h + j) (by omega)
    show _ ↔ wpS 21 4 [some (.inr (.inr (some 73))), some (.inl h), some (.inl (sumZ (fun b => μ 102 (37 + (8 * h + b))) (j + 1))), some (.inl ((j + 1 : Nat) : Int))] [] (S μ) Φ
    rw [e9]
    dsimp only at r2 ⊢
    rw [s1_iff [4] 90]
    simp (disch := omega) [sz_s, sz_0, gx_s, hx_r, hx_c, hx_b, hx_s, hx_i, hx_n, kx_s, kx_n, kx_i, cx_d, up_at, am_ctl, am_step, am_i1, am_i2, am_i2d, am_l1, am_l2, am_l2d, am_ldi, am_ldl, am_lda, am_sti, am_sta, am_stl, am_inc, am_i2l, am_l2i, am_lcmp, am_dup, am_dup2, am_pop1, am_fv, am_getf, am_putf, am_wr, am_ial, am_lal, am_bal, am_aal, am_ias, am_las, am_bas, am_alen, am_inst, am_cast, am_cpm, am_copy, am_tsw, am_pop, am_cat, am_cS, am_cI, am_cV, am_ri, am_rl, am_ra, am_rv, am_b1, am_b2, am_ent, am_en, am_isL, am_st1, am_st2, am_clr, am_cnd, cc_21, ac_21, nL_21, rb_21, np_18, ok_21_18, nL_18, vd_18_4, tg_4_7, List.getElem?_cons_succ, List.getElem?_cons_zero, nz_of, nzl_of, Int.toNat_add, Int.toNat_mul, tn_l, lt_t, lt_f, le_t, le_f, eq_t, eq_f, ltn_t, ltn_f, len_t, len_f, eqn_t, eqn_f, sh_73, sh_74, sh_75, sh_76, sh_77, sh_78, rf_73_1, rf_73_2, rf_73_3, rf_73_4, rf_73_5, e0.1, wp_debt hL h j (by omega) (by omega), hj, Nat.not_le.mpr hj]
  unfold wpM
  rw [s1_iff [4] 90]
  simp (disch := omega) [sz_s, sz_0, gx_s, hx_r, hx_c, hx_b, hx_s, hx_i, hx_n, kx_s, kx_n, kx_i, cx_d, up_at, am_ctl, am_step, am_i1, am_i2, am_i2d, am_l1, am_l2, am_l2d, am_ldi, am_ldl, am_lda, am_sti, am_sta, am_stl, am_inc, am_i2l, am_l2i, am_lcmp, am_dup, am_dup2, am_pop1, am_fv, am_getf, am_putf, am_wr, am_ial, am_lal, am_bal, am_aal, am_ias, am_las, am_bas, am_alen, am_inst, am_cast, am_cpm, am_copy, am_tsw, am_pop, am_cat, am_cS, am_cI, am_cV, am_ri, am_rl, am_ra, am_rv, am_b1, am_b2, am_ent, am_en, am_isL, am_st1, am_st2, am_clr, am_cnd, cc_21, ac_21, nL_21, rb_21, np_18, ok_21_18, nL_18, vd_18_4, tg_4_7, List.getElem?_cons_succ, List.getElem?_cons_zero, nz_of, nzl_of, Int.toNat_add, Int.toNat_mul, tn_l, lt_t, lt_f, le_t, le_f, eq_t, eq_f, ltn_t, ltn_f, len_t, len_f, eqn_t, eqn_f, sh_73]
  refine (up_iff (fun j : Nat => wpS 21 4 [some (.inr (.inr (some 73))), some (.inl h), some (.inl (sumZ (fun b => μ 102 (37 + (8 * h + b))) j)), some (.inl j)] [] (S μ) Φ) (nW (μ 102)) step).trans ?_
  rw [s1_iff [4] 90]
  simp (disch := omega) [sz_s, sz_0, gx_s, hx_r, hx_c, hx_b, hx_s, hx_i, hx_n, kx_s, kx_n, kx_i, cx_d, up_at, am_ctl, am_step, am_i1, am_i2, am_i2d, am_l1, am_l2, am_l2d, am_ldi, am_ldl, am_lda, am_sti, am_sta, am_stl, am_inc, am_i2l, am_l2i, am_lcmp, am_dup, am_dup2, am_pop1, am_fv, am_getf, am_putf, am_wr, am_ial, am_lal, am_bal, am_aal, am_ias, am_las, am_bas, am_alen, am_inst, am_cast, am_cpm, am_copy, am_tsw, am_pop, am_cat, am_cS, am_cI, am_cV, am_ri, am_rl, am_ra, am_rv, am_b1, am_b2, am_ent, am_en, am_isL, am_st1, am_st2, am_clr, am_cnd, cc_21, ac_21, nL_21, rb_21, np_18, ok_21_18, nL_18, vd_18_4, tg_4_7, List.getElem?_cons_succ, List.getElem?_cons_zero, nz_of, nzl_of, Int.toNat_add, Int.toNat_mul, tn_l, lt_t, lt_f, le_t, le_f, eq_t, eq_f, ltn_t, ltn_f, len_t, len_f, eqn_t, eqn_f, sh_73, sh_74, sh_75, sh_76, sh_77, sh_78, rf_73_1, rf_73_2, rf_73_3, rf_73_4, rf_73_5, e0.1]
  rfl
set_option maxRecDepth 100000 in
theorem wm_owes {B : Int} {μ : Nat → Nat → Int} (hL : LD B μ 73 0) (hB : B ≤ 1000000) (h : Nat) (hh : h < 8) (Φ : Option AV → ST → Prop) : wpM 179 [.inr (.inr (some 101)), .inl h] (S μ) Φ ↔ Φ (some (.inl (oweW (μ 102) h))) (S μ) := by
  have e0 := ld_n hL
  have r0 : ∀ i, i < nW (μ 102) → 0 ≤ (fun a => μ 102 (37 + (8 * a + h))) i ∧ (fun a => μ 102 (37 + (8 * a + h))) i ≤ 1000000 := by
    intro i hi
    obtain ⟨⟨-, -, -, -⟩, kk, pp, mm, ss, h8⟩ := ld_h hL hi
    have di := ld_d hL (j := 8 * i + h) (by omega); dsimp only; omega
  have step : ∀ j, j < nW (μ 102) → ((fun j : Nat => wpS 179 4 [some (.inr (.inr (some 101))), some (.inl h), some (.inl (sumZ (fun a => μ 102 (37 + (8 * a + h))) j)), some (.inl j)] [] (S μ) Φ) j ↔ (fun j : Nat => wpS 179 4 [some (.inr (.inr (some 101))), some (.inl h), some (.inl (sumZ (fun a => μ 102 (37 + (8 * a + h))) j)), some (.inl j)] [] (S μ) Φ) (j + 1)) := by
    intro j hj
    obtain ⟨⟨e1, e2, e3, e4⟩, kk, pp, mm, ss, h8⟩ := ld_h hL hj
    have r1 := sumZ_rng (n := j) (fun i hi => r0 i (by omega))
    have r2 := r0 j hj
    have e9 : sumZ (fun a => μ 102 (37 + (8 * a + h))) (j + 1) = sumZ (fun a => μ 102 (37 + (8 * a + h))) j + (fun a => μ 102 (37 + (8 * a + h))) j := rfl
    have dj := ld_d hL (j := 8 * j + h) (by omega)
    show _ ↔ wpS 179 4 [some (.inr (.inr (some 101))), some (.inl h), some (.inl (sumZ (fun a => μ 102 (37 + (8 * a + h))) (j + 1))), some (.inl ((j + 1 : Nat) : Int))] [] (S μ) Φ
    rw [e9]
    dsimp only at r2 ⊢
    rw [s1_iff [4] 90]
    simp (disch := omega) [sz_s, sz_0, gx_s, hx_r, hx_c, hx_b, hx_s, hx_i, hx_n, kx_s, kx_n, kx_i, cx_d, up_at, am_ctl, am_step, am_i1, am_i2, am_i2d, am_l1, am_l2, am_l2d, am_ldi, am_ldl, am_lda, am_sti, am_sta, am_stl, am_inc, am_i2l, am_l2i, am_lcmp, am_dup, am_dup2, am_pop1, am_fv, am_getf, am_putf, am_wr, am_ial, am_lal, am_bal, am_aal, am_ias, am_las, am_bas, am_alen, am_inst, am_cast, am_cpm, am_copy, am_tsw, am_pop, am_cat, am_cS, am_cI, am_cV, am_ri, am_rl, am_ra, am_rv, am_b1, am_b2, am_ent, am_en, am_isL, am_st1, am_st2, am_clr, am_cnd, cc_179, ac_179, nL_179, rb_179, tg_12_0, List.getElem?_cons_succ, List.getElem?_cons_zero, nz_of, nzl_of, Int.toNat_add, Int.toNat_mul, tn_l, lt_t, lt_f, le_t, le_f, eq_t, eq_f, ltn_t, ltn_f, len_t, len_f, eqn_t, eqn_f, sh_101, sh_102, rf_101_0, e0.2.1, Nat.add_assoc, hj, Nat.not_le.mpr hj]
  unfold wpM
  rw [s1_iff [4] 90]
  simp (disch := omega) [sz_s, sz_0, gx_s, hx_r, hx_c, hx_b, hx_s, hx_i, hx_n, kx_s, kx_n, kx_i, cx_d, up_at, am_ctl, am_step, am_i1, am_i2, am_i2d, am_l1, am_l2, am_l2d, am_ldi, am_ldl, am_lda, am_sti, am_sta, am_stl, am_inc, am_i2l, am_l2i, am_lcmp, am_dup, am_dup2, am_pop1, am_fv, am_getf, am_putf, am_wr, am_ial, am_lal, am_bal, am_aal, am_ias, am_las, am_bas, am_alen, am_inst, am_cast, am_cpm, am_copy, am_tsw, am_pop, am_cat, am_cS, am_cI, am_cV, am_ri, am_rl, am_ra, am_rv, am_b1, am_b2, am_ent, am_en, am_isL, am_st1, am_st2, am_clr, am_cnd, cc_179, ac_179, nL_179, rb_179, tg_12_0, List.getElem?_cons_succ, List.getElem?_cons_zero, nz_of, nzl_of, Int.toNat_add, Int.toNat_mul, tn_l, lt_t, lt_f, le_t, le_f, eq_t, eq_f, ltn_t, ltn_f, len_t, len_f, eqn_t, eqn_f, sh_101]
  refine (up_iff (fun j : Nat => wpS 179 4 [some (.inr (.inr (some 101))), some (.inl h), some (.inl (sumZ (fun a => μ 102 (37 + (8 * a + h))) j)), some (.inl j)] [] (S μ) Φ) (nW (μ 102)) step).trans ?_
  rw [s1_iff [4] 90]
  simp (disch := omega) [sz_s, sz_0, gx_s, hx_r, hx_c, hx_b, hx_s, hx_i, hx_n, kx_s, kx_n, kx_i, cx_d, up_at, am_ctl, am_step, am_i1, am_i2, am_i2d, am_l1, am_l2, am_l2d, am_ldi, am_ldl, am_lda, am_sti, am_sta, am_stl, am_inc, am_i2l, am_l2i, am_lcmp, am_dup, am_dup2, am_pop1, am_fv, am_getf, am_putf, am_wr, am_ial, am_lal, am_bal, am_aal, am_ias, am_las, am_bas, am_alen, am_inst, am_cast, am_cpm, am_copy, am_tsw, am_pop, am_cat, am_cS, am_cI, am_cV, am_ri, am_rl, am_ra, am_rv, am_b1, am_b2, am_ent, am_en, am_isL, am_st1, am_st2, am_clr, am_cnd, cc_179, ac_179, nL_179, rb_179, tg_12_0, List.getElem?_cons_succ, List.getElem?_cons_zero, nz_of, nzl_of, Int.toNat_add, Int.toNat_mul, tn_l, lt_t, lt_f, le_t, le_f, eq_t, eq_f, ltn_t, ltn_f, len_t, len_f, eqn_t, eqn_f, sh_101, sh_102, rf_101_0, e0.2.1, Nat.add_assoc]
  rfl
set_option maxRecDepth 100000 in
theorem wm_isOwed {B : Int} {μ : Nat → Nat → Int} (hL : LD B μ 73 0) (hB : B ≤ 1000000) (h : Nat) (hh : h < 8) (Φ : Option AV → ST → Prop) : wpM 180 [.inr (.inr (some 101)), .inl h] (S μ) Φ ↔ Φ (some (.inl (owdW (μ 102) h))) (S μ) := by
  have e0 := ld_n hL
  have r0 : ∀ i, i < nW (μ 102) → 0 ≤ (fun b => μ 102 (37 + (8 * h + b))) i ∧ (fun b => μ 102 (37 + (8 * h + b))) i ≤ 1000000 := by
    intro i hi
    obtain ⟨⟨-, -, -, -⟩, kk, pp, mm, ss, h8⟩ := ld_h hL hi
    have di := ld_d hL (j := 8 * h + i) (by omega); dsimp only; omega
  have step : ∀ j, j < nW (μ 102) → ((fun j : Nat => wpS 180 4 [some (.inr (.inr (some 101))), some (.inl h), some (.inl (sumZ (fun b => μ 102 (37 + (8 * h + b))) j)), some (.inl j)] [] (S μ) Φ) j ↔ (fun j : Nat => wpS 180 4 [some (.inr (.inr (some 101))), some (.inl h), some (.inl (sumZ (fun b => μ 102 (37 + (8 * h + b))) j)), some (.inl j)] [] (S μ) Φ) (j + 1)) := by
    intro j hj
    obtain ⟨⟨e1, e2, e3, e4⟩, kk, pp, mm, ss, h8⟩ := ld_h hL hj
    have r1 := sumZ_rng (n := j) (fun i hi => r0 i (by omega))
    have r2 := r0 j hj
    have e9 : sumZ (fun b => μ 102 (37 + (8 * h + b))) (j + 1) = sumZ (fun b => μ 102 (37 + (8 * h + b))) j + (fun b => μ 102 (37 + (8 * h + b))) j := rfl
    have dj := ld_d hL (j := 8 * h + j) (by omega)
    show _ ↔ wpS 180 4 [some (.inr (.inr (some 101))), some (.inl h), some (.inl (sumZ (fun b => μ 102 (37 + (8 * h + b))) (j + 1))), some (.inl ((j + 1 : Nat) : Int))] [] (S μ) Φ
    rw [e9]
    dsimp only at r2 ⊢
    rw [s1_iff [4] 90]
    simp (disch := omega) [sz_s, sz_0, gx_s, hx_r, hx_c, hx_b, hx_s, hx_i, hx_n, kx_s, kx_n, kx_i, cx_d, up_at, am_ctl, am_step, am_i1, am_i2, am_i2d, am_l1, am_l2, am_l2d, am_ldi, am_ldl, am_lda, am_sti, am_sta, am_stl, am_inc, am_i2l, am_l2i, am_lcmp, am_dup, am_dup2, am_pop1, am_fv, am_getf, am_putf, am_wr, am_ial, am_lal, am_bal, am_aal, am_ias, am_las, am_bas, am_alen, am_inst, am_cast, am_cpm, am_copy, am_tsw, am_pop, am_cat, am_cS, am_cI, am_cV, am_ri, am_rl, am_ra, am_rv, am_b1, am_b2, am_ent, am_en, am_isL, am_st1, am_st2, am_clr, am_cnd, cc_180, ac_180, nL_180, rb_180, tg_12_0, List.getElem?_cons_succ, List.getElem?_cons_zero, nz_of, nzl_of, Int.toNat_add, Int.toNat_mul, tn_l, lt_t, lt_f, le_t, le_f, eq_t, eq_f, ltn_t, ltn_f, len_t, len_f, eqn_t, eqn_f, sh_101, sh_102, rf_101_0, e0.2.1, Nat.add_assoc, hj, Nat.not_le.mpr hj]
  unfold wpM
  rw [s1_iff [4] 90]
  simp (disch := omega) [sz_s, sz_0, gx_s, hx_r, hx_c, hx_b, hx_s, hx_i, hx_n, kx_s, kx_n, kx_i, cx_d, up_at, am_ctl, am_step, am_i1, am_i2, am_i2d, am_l1, am_l2, am_l2d, am_ldi, am_ldl, am_lda, am_sti, am_sta, am_stl, am_inc, am_i2l, am_l2i, am_lcmp, am_dup, am_dup2, am_pop1, am_fv, am_getf, am_putf, am_wr, am_ial, am_lal, am_bal, am_aal, am_ias, am_las, am_bas, am_alen, am_inst, am_cast, am_cpm, am_copy, am_tsw, am_pop, am_cat, am_cS, am_cI, am_cV, am_ri, am_rl, am_ra, am_rv, am_b1, am_b2, am_ent, am_en, am_isL, am_st1, am_st2, am_clr, am_cnd, cc_180, ac_180, nL_180, rb_180, tg_12_0, List.getElem?_cons_succ, List.getElem?_cons_zero, nz_of, nzl_of, Int.toNat_add, Int.toNat_mul, tn_l, lt_t, lt_f, le_t, le_f, eq_t, eq_f, ltn_t, ltn_f, len_t, len_f, eqn_t, eqn_f, sh_101]
  refine (up_iff (fun j : Nat => wpS 180 4 [some (.inr (.inr (some 101))), some (.inl h), some (.inl (sumZ (fun b => μ 102 (37 + (8 * h + b))) j)), some (.inl j)] [] (S μ) Φ) (nW (μ 102)) step).trans ?_
  rw [s1_iff [4] 90]
  simp (disch := omega) [sz_s, sz_0, gx_s, hx_r, hx_c, hx_b, hx_s, hx_i, hx_n, kx_s, kx_n, kx_i, cx_d, up_at, am_ctl, am_step, am_i1, am_i2, am_i2d, am_l1, am_l2, am_l2d, am_ldi, am_ldl, am_lda, am_sti, am_sta, am_stl, am_inc, am_i2l, am_l2i, am_lcmp, am_dup, am_dup2, am_pop1, am_fv, am_getf, am_putf, am_wr, am_ial, am_lal, am_bal, am_aal, am_ias, am_las, am_bas, am_alen, am_inst, am_cast, am_cpm, am_copy, am_tsw, am_pop, am_cat, am_cS, am_cI, am_cV, am_ri, am_rl, am_ra, am_rv, am_b1, am_b2, am_ent, am_en, am_isL, am_st1, am_st2, am_clr, am_cnd, cc_180, ac_180, nL_180, rb_180, tg_12_0, List.getElem?_cons_succ, List.getElem?_cons_zero, nz_of, nzl_of, Int.toNat_add, Int.toNat_mul, tn_l, lt_t, lt_f, le_t, le_f, eq_t, eq_f, ltn_t, ltn_f, len_t, len_f, eqn_t, eqn_f, sh_101, sh_102, rf_101_0, e0.2.1, Nat.add_assoc]
  rfl
