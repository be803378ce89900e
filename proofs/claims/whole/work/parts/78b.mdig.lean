/-! the reference's digest: rows, kept lands -/
set_option maxHeartbeats 8000000 in
set_option maxRecDepth 100000 in
theorem md_6 {B : Int} {μ : Nat → Nat → Int} (h : INV B μ) {n : Nat} (hn : nW (μ 102) = n) (Φ : Option AV → ST → Prop) (z : Int) (l3 : Option AV) (k : (∀ l3, wpS 248 296 [some (.inr (.inr (some 101))), some (.inl n), some (.inl 0), l3] [] (S (am_up μ 101 26 (itL (fun t h => shL (fun i => μ 104 (60 * t + i)) (μ 105 t) h) 6 z))) Φ)) : wpS 248 237 [some (.inr (.inr (some 101))), some (.inl n), some (.inl 0), l3] [] (S (am_up μ 101 26 z)) Φ := by
  have hL : LD B μ 73 0 := h.2.2.2.1
  have hK : I_k B μ := h.2.2.2.2.1
  have e0 := ld_n hL
  have l0 := ld_0 hL
  have MX := fun h v Φ => wm_mix μ h v Φ
  have n0 : μ 102 0 = n := by rw [e0.2.1, hn]
  have outer := up_to (fun (t : Nat) (l3 : Option AV) => wpS 248 237 [some (.inr (.inr (some 101))), some (.inl n), some (.inl t), l3] [] (S (am_up μ 101 26 (itL (fun t h => shL (fun i => μ 104 (60 * t + i)) (μ 105 t) h) t z))) Φ) (fun _ _ => True) 6 (fun t l3 ht _ hs' => by
    try dsimp only at hs' ⊢
    obtain ⟨b1, b2, b3⟩ := h.2.1 t ht
    obtain ⟨m, hm⟩ : ∃ m, (μ 105 t).toNat = m := ⟨_, rfl⟩
    have q := hs' (some (.inl (m : Nat))) trivial
    rw [itL_s] at q
    generalize itL (fun t h => shL (fun i => μ 104 (60 * t + i)) (μ 105 t) h) t z = y at *
    unfold shL at q
    rw [hm] at q
    generalize hsz : μ 105 t = sz at *
    have step : ∀ i, i < m → ((fun i : Nat => wpS 248 256 [some (.inr (.inr (some 101))), some (.inl n), some (.inl t), some (.inl i)] [] (S (am_up μ 101 26 (itL (fun i h => mxL h (μ 104 (60 * t + i))) i (mxL y sz)))) Φ) i ↔ (fun i : Nat => wpS 248 256 [some (.inr (.inr (some 101))), some (.inl n), some (.inl t), some (.inl i)] [] (S (am_up μ 101 26 (itL (fun i h => mxL h (μ 104 (60 * t + i))) i (mxL y sz)))) Φ) (i + 1)) := by
      intro i hi
      have z1 : (60 * (t : Int) + (i : Int)).toNat = 60 * t + i := by omega
      dsimp only
      rw [itL_s]
      generalize itL (fun i h => mxL h (μ 104 (60 * t + i))) i (mxL y sz) = x at *
      rw [s1_iff [256] 200]
      simp (disch := omega) [sz_s, sz_0, gx_s, hx_r, hx_c, hx_b, hx_s, hx_i, hx_n, kx_s, kx_n, kx_i, cx_d, up_at, am_ctl, am_step, am_i1, am_i2, am_i2d, am_l1, am_l2, am_l2d, am_ldi, am_ldl, am_lda, am_sti, am_sta, am_stl, am_inc, am_i2l, am_l2i, am_lcmp, am_dup, am_dup2, am_pop1, am_fv, am_getf, am_putf, am_wr, am_ial, am_lal, am_bal, am_aal, am_ias, am_las, am_bas, am_alen, am_inst, am_cast, am_cpm, am_copy, am_tsw, am_pop, am_cat, am_cS, am_cI, am_cV, am_ri, am_rl, am_ra, am_rv, am_b1, am_b2, am_ent, am_en, am_isL, am_st1, am_st2, am_clr, am_cnd, cc_248, ac_248, nL_248, rb_248, ac_248_0, ac_248_1, ac_248_2, np_181, ok_248_181, nL_181, vd_181_12, np_244, ok_248_244, nL_244, vd_244_12, np_247, ok_248_247, nL_247, vd_247_12, tg_12_0, tg_12_1, tg_12_3, tg_12_2, tg_12_5, tg_12_4, tg_12_26, List.getElem?_cons_succ, List.getElem?_cons_zero, nz_of, nzl_of, Int.toNat_add, Int.toNat_mul, tn_l, lt_t, lt_f, le_t, le_f, eq_t, eq_f, ltn_t, ltn_f, len_t, len_f, eqn_t, eqn_f, up_ne, up_up, sh_101, sh_104, sh_105, rf_101_2, rf_101_3, hsz, z1, MX]
    have s0 := up_iff _ m step
    rw [itL_0] at s0
    rw [s1_iff [237, 256] 200]
    simp (disch := omega) [sz_s, sz_0, gx_s, hx_r, hx_c, hx_b, hx_s, hx_i, hx_n, kx_s, kx_n, kx_i, cx_d, up_at, am_ctl, am_step, am_i1, am_i2, am_i2d, am_l1, am_l2, am_l2d, am_ldi, am_ldl, am_lda, am_sti, am_sta, am_stl, am_inc, am_i2l, am_l2i, am_lcmp, am_dup, am_dup2, am_pop1, am_fv, am_getf, am_putf, am_wr, am_ial, am_lal, am_bal, am_aal, am_ias, am_las, am_bas, am_alen, am_inst, am_cast, am_cpm, am_copy, am_tsw, am_pop, am_cat, am_cS, am_cI, am_cV, am_ri, am_rl, am_ra, am_rv, am_b1, am_b2, am_ent, am_en, am_isL, am_st1, am_st2, am_clr, am_cnd, cc_248, ac_248, nL_248, rb_248, ac_248_0, ac_248_1, ac_248_2, np_181, ok_248_181, nL_181, vd_181_12, np_244, ok_248_244, nL_244, vd_244_12, np_247, ok_248_247, nL_247, vd_247_12, tg_12_0, tg_12_1, tg_12_3, tg_12_2, tg_12_5, tg_12_4, tg_12_26, List.getElem?_cons_succ, List.getElem?_cons_zero, nz_of, nzl_of, Int.toNat_add, Int.toNat_mul, tn_l, lt_t, lt_f, le_t, le_f, eq_t, eq_f, ltn_t, ltn_f, len_t, len_f, eqn_t, eqn_f, up_ne, up_up, sh_101, sh_105, rf_101_3, hsz, MX]
    refine s0.mpr ?_
    generalize itL (fun i h => mxL h (μ 104 (60 * t + i))) m (mxL y sz) = x at *
    rw [s1_iff [237, 256] 200]
    simp (disch := omega) [sz_s, sz_0, gx_s, hx_r, hx_c, hx_b, hx_s, hx_i, hx_n, kx_s, kx_n, kx_i, cx_d, up_at, am_ctl, am_step, am_i1, am_i2, am_i2d, am_l1, am_l2, am_l2d, am_ldi, am_ldl, am_lda, am_sti, am_sta, am_stl, am_inc, am_i2l, am_l2i, am_lcmp, am_dup, am_dup2, am_pop1, am_fv, am_getf, am_putf, am_wr, am_ial, am_lal, am_bal, am_aal, am_ias, am_las, am_bas, am_alen, am_inst, am_cast, am_cpm, am_copy, am_tsw, am_pop, am_cat, am_cS, am_cI, am_cV, am_ri, am_rl, am_ra, am_rv, am_b1, am_b2, am_ent, am_en, am_isL, am_st1, am_st2, am_clr, am_cnd, cc_248, ac_248, nL_248, rb_248, ac_248_0, ac_248_1, ac_248_2, np_181, ok_248_181, nL_181, vd_181_12, np_244, ok_248_244, nL_244, vd_244_12, np_247, ok_248_247, nL_247, vd_247_12, tg_12_0, tg_12_1, tg_12_3, tg_12_2, tg_12_5, tg_12_4, tg_12_26, List.getElem?_cons_succ, List.getElem?_cons_zero, nz_of, nzl_of, Int.toNat_add, Int.toNat_mul, tn_l, lt_t, lt_f, le_t, le_f, eq_t, eq_f, ltn_t, ltn_f, len_t, len_f, eqn_t, eqn_f, up_ne, up_up, sh_101, sh_105, rf_101_3, hsz]
    simpa using q) (fun l3 _ => by
    try dsimp only
    have q := k l3
    generalize itL (fun t h => shL (fun i => μ 104 (60 * t + i)) (μ 105 t) h) 6 z = y at *
    rw [s1_iff [237, 296] 200]
    simp (disch := omega) [sz_s, sz_0, gx_s, hx_r, hx_c, hx_b, hx_s, hx_i, hx_n, kx_s, kx_n, kx_i, cx_d, up_at, am_ctl, am_step, am_i1, am_i2, am_i2d, am_l1, am_l2, am_l2d, am_ldi, am_ldl, am_lda, am_sti, am_sta, am_stl, am_inc, am_i2l, am_l2i, am_lcmp, am_dup, am_dup2, am_pop1, am_fv, am_getf, am_putf, am_wr, am_ial, am_lal, am_bal, am_aal, am_ias, am_las, am_bas, am_alen, am_inst, am_cast, am_cpm, am_copy, am_tsw, am_pop, am_cat, am_cS, am_cI, am_cV, am_ri, am_rl, am_ra, am_rv, am_b1, am_b2, am_ent, am_en, am_isL, am_st1, am_st2, am_clr, am_cnd, cc_248, ac_248, nL_248, rb_248, ac_248_0, ac_248_1, ac_248_2, np_181, ok_248_181, nL_181, vd_181_12, np_244, ok_248_244, nL_244, vd_244_12, np_247, ok_248_247, nL_247, vd_247_12, tg_12_0, tg_12_1, tg_12_3, tg_12_2, tg_12_5, tg_12_4, tg_12_26, List.getElem?_cons_succ, List.getElem?_cons_zero, nz_of, nzl_of, Int.toNat_add, Int.toNat_mul, tn_l, lt_t, lt_f, le_t, le_f, eq_t, eq_f, ltn_t, ltn_f, len_t, len_f, eqn_t, eqn_f, up_ne, up_up, sh_101]
    simpa using q) l3 trivial
  rw [itL_0] at outer
  simpa using outer
set_option maxHeartbeats 8000000 in
set_option maxRecDepth 100000 in
theorem md_5 {B : Int} {μ : Nat → Nat → Int} (h : INV B μ) {n : Nat} (hn : nW (μ 102) = n) (Φ : Option AV → ST → Prop) (z : Int) (l3 : Option AV) (k : (wpS 248 237 [some (.inr (.inr (some 101))), some (.inl n), some (.inl 0), l3] [] (S (am_up μ 101 26 (itL (fun k h => mxL h (kpV μ k)) 3 z))) Φ)) : wpS 248 190 [some (.inr (.inr (some 101))), some (.inl n), some (.inl 0), l3] [] (S (am_up μ 101 26 z)) Φ := by
  have hL : LD B μ 73 0 := h.2.2.2.1
  have hK : I_k B μ := h.2.2.2.2.1
  have e0 := ld_n hL
  have l0 := ld_0 hL
  have MX := fun h v Φ => wm_mix μ h v Φ
  have n0 : μ 102 0 = n := by rw [e0.2.1, hn]
  have step : ∀ t, t < 3 → ((fun t : Nat => wpS 248 190 [some (.inr (.inr (some 101))), some (.inl n), some (.inl t), l3] [] (S (am_up μ 101 26 (itL (fun k h => mxL h (kpV μ k)) t z))) Φ) t ↔ (fun t : Nat => wpS 248 190 [some (.inr (.inr (some 101))), some (.inl n), some (.inl t), l3] [] (S (am_up μ 101 26 (itL (fun k h => mxL h (kpV μ k)) t z))) Φ) (t + 1)) := by
    intro t ht
    obtain ⟨q1, q2, q3⟩ := hK t ht
    have z1 : (200 * ((t : Int) + 1) + 2).toNat = 200 * (t + 1) + 2 := by omega
    dsimp only
    rw [itL_s]
    generalize itL (fun k h => mxL h (kpV μ k)) t z = x at *
    unfold kpV
    rcases q1 with y | y
    · rw [if_neg (by omega)]
      rw [s1_iff [190] 200]
      simp (disch := omega) [sz_s, sz_0, gx_s, hx_r, hx_c, hx_b, hx_s, hx_i, hx_n, kx_s, kx_n, kx_i, cx_d, up_at, am_ctl, am_step, am_i1, am_i2, am_i2d, am_l1, am_l2, am_l2d, am_ldi, am_ldl, am_lda, am_sti, am_sta, am_stl, am_inc, am_i2l, am_l2i, am_lcmp, am_dup, am_dup2, am_pop1, am_fv, am_getf, am_putf, am_wr, am_ial, am_lal, am_bal, am_aal, am_ias, am_las, am_bas, am_alen, am_inst, am_cast, am_cpm, am_copy, am_tsw, am_pop, am_cat, am_cS, am_cI, am_cV, am_ri, am_rl, am_ra, am_rv, am_b1, am_b2, am_ent, am_en, am_isL, am_st1, am_st2, am_clr, am_cnd, cc_248, ac_248, nL_248, rb_248, ac_248_0, ac_248_1, ac_248_2, np_181, ok_248_181, nL_181, vd_181_12, np_244, ok_248_244, nL_244, vd_244_12, np_247, ok_248_247, nL_247, vd_247_12, tg_12_0, tg_12_1, tg_12_3, tg_12_2, tg_12_5, tg_12_4, tg_12_26, List.getElem?_cons_succ, List.getElem?_cons_zero, nz_of, nzl_of, Int.toNat_add, Int.toNat_mul, tn_l, lt_t, lt_f, le_t, le_f, eq_t, eq_f, ltn_t, ltn_f, len_t, len_f, eqn_t, eqn_f, up_ne, up_up, sh_101, sh_103, rf_101_1, y, MX]
    · rw [if_pos y]
      rw [s1_iff [190] 200]
      simp (disch := omega) [sz_s, sz_0, gx_s, hx_r, hx_c, hx_b, hx_s, hx_i, hx_n, kx_s, kx_n, kx_i, cx_d, up_at, am_ctl, am_step, am_i1, am_i2, am_i2d, am_l1, am_l2, am_l2d, am_ldi, am_ldl, am_lda, am_sti, am_sta, am_stl, am_inc, am_i2l, am_l2i, am_lcmp, am_dup, am_dup2, am_pop1, am_fv, am_getf, am_putf, am_wr, am_ial, am_lal, am_bal, am_aal, am_ias, am_las, am_bas, am_alen, am_inst, am_cast, am_cpm, am_copy, am_tsw, am_pop, am_cat, am_cS, am_cI, am_cV, am_ri, am_rl, am_ra, am_rv, am_b1, am_b2, am_ent, am_en, am_isL, am_st1, am_st2, am_clr, am_cnd, cc_248, ac_248, nL_248, rb_248, ac_248_0, ac_248_1, ac_248_2, np_181, ok_248_181, nL_181, vd_181_12, np_244, ok_248_244, nL_244, vd_244_12, np_247, ok_248_247, nL_247, vd_247_12, tg_12_0, tg_12_1, tg_12_3, tg_12_2, tg_12_5, tg_12_4, tg_12_26, List.getElem?_cons_succ, List.getElem?_cons_zero, nz_of, nzl_of, Int.toNat_add, Int.toNat_mul, tn_l, lt_t, lt_f, le_t, le_f, eq_t, eq_f, ltn_t, ltn_f, len_t, len_f, eqn_t, eqn_f, up_ne, up_up, sh_101, sh_102, sh_103, rf_101_0, rf_101_1, y, z1, MX]
  have s0 := up_iff _ 3 step
  rw [itL_0] at s0
  refine s0.mpr ?_
  generalize itL (fun k h => mxL h (kpV μ k)) 3 z = y at *
  rw [s1_iff [190, 237] 200]
  simp (disch := omega) [sz_s, sz_0, gx_s, hx_r, hx_c, hx_b, hx_s, hx_i, hx_n, kx_s, kx_n, kx_i, cx_d, up_at, am_ctl, am_step, am_i1, am_i2, am_i2d, am_l1, am_l2, am_l2d, am_ldi, am_ldl, am_lda, am_sti, am_sta, am_stl, am_inc, am_i2l, am_l2i, am_lcmp, am_dup, am_dup2, am_pop1, am_fv, am_getf, am_putf, am_wr, am_ial, am_lal, am_bal, am_aal, am_ias, am_las, am_bas, am_alen, am_inst, am_cast, am_cpm, am_copy, am_tsw, am_pop, am_cat, am_cS, am_cI, am_cV, am_ri, am_rl, am_ra, am_rv, am_b1, am_b2, am_ent, am_en, am_isL, am_st1, am_st2, am_clr, am_cnd, cc_248, ac_248, nL_248, rb_248, ac_248_0, ac_248_1, ac_248_2, np_181, ok_248_181, nL_181, vd_181_12, np_244, ok_248_244, nL_244, vd_244_12, np_247, ok_248_247, nL_247, vd_247_12, tg_12_0, tg_12_1, tg_12_3, tg_12_2, tg_12_5, tg_12_4, tg_12_26, List.getElem?_cons_succ, List.getElem?_cons_zero, nz_of, nzl_of, Int.toNat_add, Int.toNat_mul, tn_l, lt_t, lt_f, le_t, le_f, eq_t, eq_f, ltn_t, ltn_f, len_t, len_f, eqn_t, eqn_f, up_ne, up_up, sh_101]
  simpa using k
