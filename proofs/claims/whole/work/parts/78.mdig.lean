/-! the reference's digest -/
theorem INV_h {B : Int} {μ : Nat → Nat → Int} (h : INV B μ) (v : Int) : INV B (am_up μ 101 26 v) := by
  refine INV_ans h (fun k i hk => by rw [up_at, if_neg (by omega)]) (by simp [up_at]) (by simp [up_at]) (fun i => by simp [up_at]) (fun i => by simp [up_at]) ?_ ?_ ?_
  · simpa [up_at] using h.1.2.1
  · simpa [up_at] using h.1.2.2.1
  · simpa [up_at] using h.1.2.2.2.1
theorem cnC_h (μ : Nat → Nat → Int) (v : Int) (k : Int) : cnC (am_up μ 101 26 v) k = cnC μ k := by
  unfold cnC
  rw [up_ne _ _ _ (show ¬ 102 = 101 by decide), up_ne _ _ _ (show ¬ 105 = 101 by decide), up_ne _ _ _ (show ¬ 107 = 101 by decide)]
  simp [up_at]
set_option maxRecDepth 100000 in
theorem wm_mix (μ : Nat → Nat → Int) (h v : Int) (Φ : Option AV → ST → Prop) : wpM 247 [.inr (.inr (some 101)), .inr (.inl v)] (S (am_up μ 101 26 h)) Φ ↔ Φ none (S (am_up μ 101 26 (mxL h v))) := by
  unfold wpM mxL
  rw [s1_iff [] 200]
  simp (disch := omega) [sz_s, sz_0, gx_s, hx_r, hx_c, hx_b, hx_s, hx_i, hx_n, kx_s, kx_n, kx_i, cx_d, up_at, am_ctl, am_step, am_i1, am_i2, am_i2d, am_l1, am_l2, am_l2d, am_ldi, am_ldl, am_lda, am_sti, am_sta, am_stl, am_inc, am_i2l, am_l2i, am_lcmp, am_dup, am_dup2, am_pop1, am_fv, am_getf, am_putf, am_wr, am_ial, am_lal, am_bal, am_aal, am_ias, am_las, am_bas, am_alen, am_inst, am_cast, am_cpm, am_copy, am_tsw, am_pop, am_cat, am_cS, am_cI, am_cV, am_ri, am_rl, am_ra, am_rv, am_b1, am_b2, am_ent, am_en, am_isL, am_st1, am_st2, am_clr, am_cnd, cc_247, ac_247, nL_247, rb_247, tg_12_26, List.getElem?_cons_succ, List.getElem?_cons_zero, nz_of, nzl_of, Int.toNat_add, Int.toNat_mul, tn_l, lt_t, lt_f, le_t, le_f, eq_t, eq_f, ltn_t, ltn_f, len_t, len_f, eqn_t, eqn_f, up_ne, up_up, sh_101]
set_option maxHeartbeats 8000000 in
set_option maxRecDepth 100000 in
theorem md_7 {B : Int} {μ : Nat → Nat → Int} (h : INV B μ) {n : Nat} (hn : nW (μ 102) = n) (Φ : Option AV → ST → Prop) (z : Int) (l3 : Option AV) (k : Φ (some (.inr (.inl (itL (fun t h => shL (fun i => μ 106 (80 * t + i)) (μ 107 t) h) 4 z)))) (S (am_up μ 101 26 (itL (fun t h => shL (fun i => μ 106 (80 * t + i)) (μ 107 t) h) 4 z)))) : wpS 248 296 [some (.inr (.inr (some 101))), some (.inl n), some (.inl 0), l3] [] (S (am_up μ 101 26 z)) Φ := by
  have hL : LD B μ 73 0 := h.2.2.2.1
  have hK : I_k B μ := h.2.2.2.2.1
  have e0 := ld_n hL
  have l0 := ld_0 hL
  have MX := fun h v Φ => wm_mix μ h v Φ
  have n0 : μ 102 0 = n := by rw [e0.2.1, hn]
  have outer := up_to (fun (t : Nat) (l3 : Option AV) => wpS 248 296 [some (.inr (.inr (some 101))), some (.inl n), some (.inl t), l3] [] (S (am_up μ 101 26 (itL (fun t h => shL (fun i => μ 106 (80 * t + i)) (μ 107 t) h) t z))) Φ) (fun _ _ => True) 4 (fun t l3 ht _ hs' => by
    try dsimp only at hs' ⊢
    obtain ⟨b1, b2, b3⟩ := h.2.2.1 t ht
    obtain ⟨m, hm⟩ : ∃ m, (μ 107 t).toNat = m := ⟨_, rfl⟩
    have q := hs' (some (.inl (m : Nat))) trivial
    rw [itL_s] at q
    generalize itL (fun t h => shL (fun i => μ 106 (80 * t + i)) (μ 107 t) h) t z = y at *
    unfold shL at q
    rw [hm] at q
    generalize hsz : μ 107 t = sz at *
    have step : ∀ i, i < m → ((fun i : Nat => wpS 248 314 [some (.inr (.inr (some 101))), some (.inl n), some (.inl t), some (.inl i)] [] (S (am_up μ 101 26 (itL (fun i h => mxL h (μ 106 (80 * t + i))) i (mxL y sz)))) Φ) i ↔ (fun i : Nat => wpS 248 314 [some (.inr (.inr (some 101))), some (.inl n), some (.inl t), some (.inl i)] [] (S (am_up μ 101 26 (itL (fun i h => mxL h (μ 106 (80 * t + i))) i (mxL y sz)))) Φ) (i + 1)) := by
      intro i hi
      have z1 : (80 * (t : Int) + (i : Int)).toNat = 80 * t + i := by omega
      dsimp only
      rw [itL_s]
      generalize itL (fun i h => mxL h (μ 106 (80 * t + i))) i (mxL y sz) = x at *
      rw [s1_iff [314] 200]
      simp (disch := omega) [sz_s, sz_0, gx_s, hx_r, hx_c, hx_b, hx_s, hx_i, hx_n, kx_s, kx_n, kx_i, cx_d, up_at, am_ctl, am_step, am_i1, am_i2, am_i2d, am_l1, am_l2, am_l2d, am_ldi, am_ldl, am_lda, am_sti, am_sta, am_stl, am_inc, am_i2l, am_l2i, am_lcmp, am_dup, am_dup2, am_pop1, am_fv, am_getf, am_putf, am_wr, am_ial, am_lal, am_bal, am_aal, am_ias, am_las, am_bas, am_alen, am_inst, am_cast, am_cpm, am_copy, am_tsw, am_pop, am_cat, am_cS, am_cI, am_cV, am_ri, am_rl, am_ra, am_rv, am_b1, am_b2, am_ent, am_en, am_isL, am_st1, am_st2, am_clr, am_cnd, cc_248, ac_248, nL_248, rb_248, ac_248_0, ac_248_1, ac_248_2, np_181, ok_248_181, nL_181, vd_181_12, np_244, ok_248_244, nL_244, vd_244_12, np_247, ok_248_247, nL_247, vd_247_12, tg_12_0, tg_12_1, tg_12_3, tg_12_2, tg_12_5, tg_12_4, tg_12_26, List.getElem?_cons_succ, List.getElem?_cons_zero, nz_of, nzl_of, Int.toNat_add, Int.toNat_mul, tn_l, lt_t, lt_f, le_t, le_f, eq_t, eq_f, ltn_t, ltn_f, len_t, len_f, eqn_t, eqn_f, up_ne, up_up, sh_101, sh_106, sh_107, rf_101_4, rf_101_5, hsz, z1, MX]
    have s0 := up_iff _ m step
    rw [itL_0] at s0
    rw [s1_iff [296, 314] 200]
    simp (disch := omega) [sz_s, sz_0, gx_s, hx_r, hx_c, hx_b, hx_s, hx_i, hx_n, kx_s, kx_n, kx_i, cx_d, up_at, am_ctl, am_step, am_i1, am_i2, am_i2d, am_l1, am_l2, am_l2d, am_ldi, am_ldl, am_lda, am_sti, am_sta, am_stl, am_inc, am_i2l, am_l2i, am_lcmp, am_dup, am_dup2, am_pop1, am_fv, am_getf, am_putf, am_wr, am_ial, am_lal, am_bal, am_aal, am_ias, am_las, am_bas, am_alen, am_inst, am_cast, am_cpm, am_copy, am_tsw, am_pop, am_cat, am_cS, am_cI, am_cV, am_ri, am_rl, am_ra, am_rv, am_b1, am_b2, am_ent, am_en, am_isL, am_st1, am_st2, am_clr, am_cnd, cc_248, ac_248, nL_248, rb_248, ac_248_0, ac_248_1, ac_248_2, np_181, ok_248_181, nL_181, vd_181_12, np_244, ok_248_244, nL_244, vd_244_12, np_247, ok_248_247, nL_247, vd_247_12, tg_12_0, tg_12_1, tg_12_3, tg_12_2, tg_12_5, tg_12_4, tg_12_26, List.getElem?_cons_succ, List.getElem?_cons_zero, nz_of, nzl_of, Int.toNat_add, Int.toNat_mul, tn_l, lt_t, lt_f, le_t, le_f, eq_t, eq_f, ltn_t, ltn_f, len_t, len_f, eqn_t, eqn_f, up_ne, up_up, sh_101, sh_107, rf_101_5, hsz, MX]
    refine s0.mpr ?_
    generalize itL (fun i h => mxL h (μ 106 (80 * t + i))) m (mxL y sz) = x at *
    rw [s1_iff [296, 314] 200]
    simp (disch := omega) [sz_s, sz_0, gx_s, hx_r, hx_c, hx_b, hx_s, hx_i, hx_n, kx_s, kx_n, kx_i, cx_d, up_at, am_ctl, am_step, am_i1, am_i2, am_i2d, am_l1, am_l2, am_l2d, am_ldi, am_ldl, am_lda, am_sti, am_sta, am_stl, am_inc, am_i2l, am_l2i, am_lcmp, am_dup, am_dup2, am_pop1, am_fv, am_getf, am_putf, am_wr, am_ial, am_lal, am_bal, am_aal, am_ias, am_las, am_bas, am_alen, am_inst, am_cast, am_cpm, am_copy, am_tsw, am_pop, am_cat, am_cS, am_cI, am_cV, am_ri, am_rl, am_ra, am_rv, am_b1, am_b2, am_ent, am_en, am_isL, am_st1, am_st2, am_clr, am_cnd, cc_248, ac_248, nL_248, rb_248, ac_248_0, ac_248_1, ac_248_2, np_181, ok_248_181, nL_181, vd_181_12, np_244, ok_248_244, nL_244, vd_244_12, np_247, ok_248_247, nL_247, vd_247_12, tg_12_0, tg_12_1, tg_12_3, tg_12_2, tg_12_5, tg_12_4, tg_12_26, List.getElem?_cons_succ, List.getElem?_cons_zero, nz_of, nzl_of, Int.toNat_add, Int.toNat_mul, tn_l, lt_t, lt_f, le_t, le_f, eq_t, eq_f, ltn_t, ltn_f, len_t, len_f, eqn_t, eqn_f, up_ne, up_up, sh_101, sh_107, rf_101_5, hsz]
    simpa using q) (fun l3 _ => by
    try dsimp only
    generalize itL (fun t h => shL (fun i => μ 106 (80 * t + i)) (μ 107 t) h) 4 z = y at *
    rw [s1_iff [296] 200]
    simp (disch := omega) [sz_s, sz_0, gx_s, hx_r, hx_c, hx_b, hx_s, hx_i, hx_n, kx_s, kx_n, kx_i, cx_d, up_at, am_ctl, am_step, am_i1, am_i2, am_i2d, am_l1, am_l2, am_l2d, am_ldi, am_ldl, am_lda, am_sti, am_sta, am_stl, am_inc, am_i2l, am_l2i, am_lcmp, am_dup, am_dup2, am_pop1, am_fv, am_getf, am_putf, am_wr, am_ial, am_lal, am_bal, am_aal, am_ias, am_las, am_bas, am_alen, am_inst, am_cast, am_cpm, am_copy, am_tsw, am_pop, am_cat, am_cS, am_cI, am_cV, am_ri, am_rl, am_ra, am_rv, am_b1, am_b2, am_ent, am_en, am_isL, am_st1, am_st2, am_clr, am_cnd, cc_248, ac_248, nL_248, rb_248, ac_248_0, ac_248_1, ac_248_2, np_181, ok_248_181, nL_181, vd_181_12, np_244, ok_248_244, nL_244, vd_244_12, np_247, ok_248_247, nL_247, vd_247_12, tg_12_0, tg_12_1, tg_12_3, tg_12_2, tg_12_5, tg_12_4, tg_12_26, List.getElem?_cons_succ, List.getElem?_cons_zero, nz_of, nzl_of, Int.toNat_add, Int.toNat_mul, tn_l, lt_t, lt_f, le_t, le_f, eq_t, eq_f, ltn_t, ltn_f, len_t, len_f, eqn_t, eqn_f, up_ne, up_up, sh_101]
    exact k) l3 trivial
  rw [itL_0] at outer
  simpa using outer
