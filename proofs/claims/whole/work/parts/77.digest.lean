/-! the digest, of both sides -/
theorem g_kept : ∀ k : Nat, k < 3 → rf0 3 k = some (80 + 7 * k) ∧ sh0 (80 + 7 * k) = sh0 73
  | 0, _ => ⟨rfl, rfl⟩ | 1, _ => ⟨rfl, rfl⟩ | 2, _ => ⟨rfl, rfl⟩
  | n + 3, h => absurd h (by omega)
def kpV (μ : Nat → Nat → Int) (k : Nat) : Int := if μ 103 k = 1 then μ 102 (200 * (k + 1) + 2) else -1
def dgA (μ : Nat → Nat → Int) : Int := lnL (μ 102) (itL (fun k h => mxL h (cnC μ k)) 9 17)
def dgB (μ : Nat → Nat → Int) : Int := itL (fun k h => mxL h (kpV μ k)) 3 (dgA μ)
def dgC (μ : Nat → Nat → Int) : Int := itL (fun r h => shL (fun i => μ 104 (60 * r + i)) (μ 105 r) h) 6 (dgB μ)
def dgD (μ : Nat → Nat → Int) : Int := itL (fun t h => shL (fun i => μ 106 (80 * t + i)) (μ 107 t) h) 4 (dgC μ)
set_option maxHeartbeats 4000000 in
set_option maxRecDepth 100000 in
theorem wp_digest {B : Int} {μ : Nat → Nat → Int} (h : INV B μ) (hB : B ≤ 1000000) (Φ : Option AV → ST → Prop) (k : Φ (some (.inr (.inl (dgD μ)))) (S μ)) : wpM 128 [.inr (.inr (some 0))] (S μ) Φ := by
  have hL : LD B μ 73 0 := h.2.2.2.1
  have hK : I_k B μ := h.2.2.2.2.1
  have s4 : ∀ t, t < 4 → ((fun t : Nat => wpS 128 113 [some (.inr (.inr (some 0))), some (.inr (.inl (itL (fun t h => shL (fun i => μ 106 (80 * t + i)) (μ 107 t) h) t (dgC μ)))), none, some (.inl t)] [] (S μ) Φ) t ↔ (fun t : Nat => wpS 128 113 [some (.inr (.inr (some 0))), some (.inr (.inl (itL (fun t h => shL (fun i => μ 106 (80 * t + i)) (μ 107 t) h) t (dgC μ)))), none, some (.inl t)] [] (S μ) Φ) (t + 1)) := by
    intro t ht
    obtain ⟨g1, g2, g3, g4⟩ := g_text t ht
    obtain ⟨b1, b2, b3⟩ := h.2.2.1 t ht
    dsimp only
    rw [itL_s]
    generalize itL (fun t h => shL (fun i => μ 106 (80 * t + i)) (μ 107 t) h) t (dgC μ) = z at *
    have A := fun Φ => wp_sheetAdd (58 + 2 * t) 80 (fun i => μ 106 (80 * t + i)) (μ 107 t) z (by omega) g2 (by rw [g3]; congr 1; omega) (by rw [← g4]; congr 1; omega) b2 b1 (by decide) (fun i hi => by rw [show 58 + 2 * t + 1 = 59 + 2 * t by omega]; exact (b3 i hi).1) Φ
    rw [s1_iff [113] 200]
    simp (disch := omega) [sz_s, sz_0, gx_s, hx_r, hx_c, hx_b, hx_s, hx_i, hx_n, kx_s, kx_n, kx_i, cx_d, up_at, am_ctl, am_step, am_i1, am_i2, am_i2d, am_l1, am_l2, am_l2d, am_ldi, am_ldl, am_lda, am_sti, am_sta, am_stl, am_inc, am_i2l, am_l2i, am_lcmp, am_dup, am_dup2, am_pop1, am_fv, am_getf, am_putf, am_wr, am_ial, am_lal, am_bal, am_aal, am_ias, am_las, am_bas, am_alen, am_inst, am_cast, am_cpm, am_copy, am_tsw, am_pop, am_cat, am_cS, am_cI, am_cV, am_ri, am_rl, am_ra, am_rv, am_b1, am_b2, am_ent, am_en, am_isL, am_st1, am_st2, am_clr, am_cnd, cc_128, ac_128, nL_128, rb_128, np_36, ok_128_36, nL_36, vd_36_4, np_60, ok_128_60, nL_60, vd_60_8, np_125, ok_128_125, nL_125, vd_125_11, tg_11_2, tg_11_3, tg_4_12, tg_4_9, tg_11_0, tg_11_1, List.getElem?_cons_succ, List.getElem?_cons_zero, nz_of, nzl_of, Int.toNat_add, Int.toNat_mul, tn_l, lt_t, lt_f, le_t, le_f, eq_t, eq_f, ltn_t, ltn_f, len_t, len_f, eqn_t, eqn_f, up_ne, up_up, sh_0, sh_2, rf_0_1, g1, g2, A, ht]
  have s3 : ∀ t, t < 6 → ((fun t : Nat => wpS 128 88 [some (.inr (.inr (some 0))), some (.inr (.inl (itL (fun r h => shL (fun i => μ 104 (60 * r + i)) (μ 105 r) h) t (dgB μ)))), none, some (.inl t)] [] (S μ) Φ) t ↔ (fun t : Nat => wpS 128 88 [some (.inr (.inr (some 0))), some (.inr (.inl (itL (fun r h => shL (fun i => μ 104 (60 * r + i)) (μ 105 r) h) t (dgB μ)))), none, some (.inl t)] [] (S μ) Φ) (t + 1)) := by
    intro t ht
    obtain ⟨g1, g2, g3, g4⟩ := g_row t ht
    obtain ⟨b1, b2, b3⟩ := h.2.1 t ht
    dsimp only
    rw [itL_s]
    generalize itL (fun r h => shL (fun i => μ 104 (60 * r + i)) (μ 105 r) h) t (dgB μ) = z at *
    have A := fun Φ => wp_sheetAdd (46 + 2 * t) 60 (fun i => μ 104 (60 * t + i)) (μ 105 t) z (by omega) g2 (by rw [g3]; congr 1; omega) (by rw [← g4]; congr 1; omega) b2 b1 (by decide) (fun i hi => by rw [show 46 + 2 * t + 1 = 47 + 2 * t by omega]; exact (b3 i hi).1) Φ
    rw [s1_iff [88] 200]
    simp (disch := omega) [sz_s, sz_0, gx_s, hx_r, hx_c, hx_b, hx_s, hx_i, hx_n, kx_s, kx_n, kx_i, cx_d, up_at, am_ctl, am_step, am_i1, am_i2, am_i2d, am_l1, am_l2, am_l2d, am_ldi, am_ldl, am_lda, am_sti, am_sta, am_stl, am_inc, am_i2l, am_l2i, am_lcmp, am_dup, am_dup2, am_pop1, am_fv, am_getf, am_putf, am_wr, am_ial, am_lal, am_bal, am_aal, am_ias, am_las, am_bas, am_alen, am_inst, am_cast, am_cpm, am_copy, am_tsw, am_pop, am_cat, am_cS, am_cI, am_cV, am_ri, am_rl, am_ra, am_rv, am_b1, am_b2, am_ent, am_en, am_isL, am_st1, am_st2, am_clr, am_cnd, cc_128, ac_128, nL_128, rb_128, np_36, ok_128_36, nL_36, vd_36_4, np_60, ok_128_60, nL_60, vd_60_8, np_125, ok_128_125, nL_125, vd_125_11, tg_11_2, tg_11_3, tg_4_12, tg_4_9, tg_11_0, tg_11_1, List.getElem?_cons_succ, List.getElem?_cons_zero, nz_of, nzl_of, Int.toNat_add, Int.toNat_mul, tn_l, lt_t, lt_f, le_t, le_f, eq_t, eq_f, ltn_t, ltn_f, len_t, len_f, eqn_t, eqn_f, up_ne, up_up, sh_0, sh_1, rf_0_0, g1, g2, A, ht]
  have s2 : ∀ t, t < 3 → ((fun t : Nat => wpS 128 42 [some (.inr (.inr (some 0))), some (.inr (.inl (itL (fun k h => mxL h (kpV μ k)) t (dgA μ)))), none, some (.inl t)] [] (S μ) Φ) t ↔ (fun t : Nat => wpS 128 42 [some (.inr (.inr (some 0))), some (.inr (.inl (itL (fun k h => mxL h (kpV μ k)) t (dgA μ)))), none, some (.inl t)] [] (S μ) Φ) (t + 1)) := by
    intro t ht
    obtain ⟨g1, g2⟩ := g_kept t ht
    rw [sh_73] at g2
    obtain ⟨q1, q2, q3⟩ := hK t ht
    dsimp only
    rw [itL_s]
    generalize itL (fun k h => mxL h (kpV μ k)) t (dgA μ) = z at *
    unfold kpV
    rcases q1 with y | y
    · rw [y] at q2
      rw [if_neg (by omega)]
      rw [s1_iff [42] 200]
      simp (disch := omega) [sz_s, sz_0, gx_s, hx_r, hx_c, hx_b, hx_s, hx_i, hx_n, kx_s, kx_n, kx_i, cx_d, up_at, am_ctl, am_step, am_i1, am_i2, am_i2d, am_l1, am_l2, am_l2d, am_ldi, am_ldl, am_lda, am_sti, am_sta, am_stl, am_inc, am_i2l, am_l2i, am_lcmp, am_dup, am_dup2, am_pop1, am_fv, am_getf, am_putf, am_wr, am_ial, am_lal, am_bal, am_aal, am_ias, am_las, am_bas, am_alen, am_inst, am_cast, am_cpm, am_copy, am_tsw, am_pop, am_cat, am_cS, am_cI, am_cV, am_ri, am_rl, am_ra, am_rv, am_b1, am_b2, am_ent, am_en, am_isL, am_st1, am_st2, am_clr, am_cnd, cc_128, ac_128, nL_128, rb_128, np_36, ok_128_36, nL_36, vd_36_4, np_60, ok_128_60, nL_60, vd_60_8, np_125, ok_128_125, nL_125, vd_125_11, tg_11_2, tg_11_3, tg_4_12, tg_4_9, tg_11_0, tg_11_1, List.getElem?_cons_succ, List.getElem?_cons_zero, nz_of, nzl_of, Int.toNat_add, Int.toNat_mul, tn_l, lt_t, lt_f, le_t, le_f, eq_t, eq_f, ltn_t, ltn_f, len_t, len_f, eqn_t, eqn_f, up_ne, up_up, sh_0, sh_3, rf_0_3, g1, g2, q2, ht, mxL]
    · have L2 := q3 y
      have f9 : μ (80 + 7 * t) 9 = μ 102 (200 * (t + 1) + 2) := L2.2.2.2.2.2.1
      rw [y] at q2
      rw [if_pos y]
      rw [s1_iff [42] 200]
      simp (disch := omega) [sz_s, sz_0, gx_s, hx_r, hx_c, hx_b, hx_s, hx_i, hx_n, kx_s, kx_n, kx_i, cx_d, up_at, am_ctl, am_step, am_i1, am_i2, am_i2d, am_l1, am_l2, am_l2d, am_ldi, am_ldl, am_lda, am_sti, am_sta, am_stl, am_inc, am_i2l, am_l2i, am_lcmp, am_dup, am_dup2, am_pop1, am_fv, am_getf, am_putf, am_wr, am_ial, am_lal, am_bal, am_aal, am_ias, am_las, am_bas, am_alen, am_inst, am_cast, am_cpm, am_copy, am_tsw, am_pop, am_cat, am_cS, am_cI, am_cV, am_ri, am_rl, am_ra, am_rv, am_b1, am_b2, am_ent, am_en, am_isL, am_st1, am_st2, am_clr, am_cnd, cc_128, ac_128, nL_128, rb_128, np_36, ok_128_36, nL_36, vd_36_4, np_60, ok_128_60, nL_60, vd_60_8, np_125, ok_128_125, nL_125, vd_125_11, tg_11_2, tg_11_3, tg_4_12, tg_4_9, tg_11_0, tg_11_1, List.getElem?_cons_succ, List.getElem?_cons_zero, nz_of, nzl_of, Int.toNat_add, Int.toNat_mul, tn_l, lt_t, lt_f, le_t, le_f, eq_t, eq_f, ltn_t, ltn_f, len_t, len_f, eqn_t, eqn_f, up_ne, up_up, sh_0, sh_3, rf_0_3, g1, g2, q2, f9, ht, mxL]
  have s1 : ∀ t, t < 9 → ((fun t : Nat => wpS 128 6 [some (.inr (.inr (some 0))), some (.inr (.inl (itL (fun k h => mxL h (cnC μ k)) t 17))), none, some (.inl t)] [] (S μ) Φ) t ↔ (fun t : Nat => wpS 128 6 [some (.inr (.inr (some 0))), some (.inr (.inl (itL (fun k h => mxL h (cnC μ k)) t 17))), none, some (.inl t)] [] (S μ) Φ) (t + 1)) := by
    intro t ht
    have C := fun Φ => wp_count h (t : Int) Φ
    dsimp only
    rw [itL_s]
    generalize itL (fun k h => mxL h (cnC μ k)) t 17 = z at *
    rw [s1_iff [6] 200]
    simp (disch := omega) [sz_s, sz_0, gx_s, hx_r, hx_c, hx_b, hx_s, hx_i, hx_n, kx_s, kx_n, kx_i, cx_d, up_at, am_ctl, am_step, am_i1, am_i2, am_i2d, am_l1, am_l2, am_l2d, am_ldi, am_ldl, am_lda, am_sti, am_sta, am_stl, am_inc, am_i2l, am_l2i, am_lcmp, am_dup, am_dup2, am_pop1, am_fv, am_getf, am_putf, am_wr, am_ial, am_lal, am_bal, am_aal, am_ias, am_las, am_bas, am_alen, am_inst, am_cast, am_cpm, am_copy, am_tsw, am_pop, am_cat, am_cS, am_cI, am_cV, am_ri, am_rl, am_ra, am_rv, am_b1, am_b2, am_ent, am_en, am_isL, am_st1, am_st2, am_clr, am_cnd, cc_128, ac_128, nL_128, rb_128, np_36, ok_128_36, nL_36, vd_36_4, np_60, ok_128_60, nL_60, vd_60_8, np_125, ok_128_125, nL_125, vd_125_11, tg_11_2, tg_11_3, tg_4_12, tg_4_9, tg_11_0, tg_11_1, List.getElem?_cons_succ, List.getElem?_cons_zero, nz_of, nzl_of, Int.toNat_add, Int.toNat_mul, tn_l, lt_t, lt_f, le_t, le_f, eq_t, eq_f, ltn_t, ltn_f, len_t, len_f, eqn_t, eqn_f, up_ne, up_up, sh_0, C, ht, mxL]
  have t4 := up_iff _ 4 s4
  have t3 := up_iff _ 6 s3
  have t2 := up_iff _ 3 s2
  have t1 := up_iff _ 9 s1
  clear s1 s2 s3 s4
  rw [itL_0] at t1 t2 t3 t4
  have d4 : itL (fun t h => shL (fun i => μ 106 (80 * t + i)) (μ 107 t) h) 4 (dgC μ) = dgD μ := rfl
  have d3 : itL (fun r h => shL (fun i => μ 104 (60 * r + i)) (μ 105 r) h) 6 (dgB μ) = dgC μ := rfl
  have d2 : itL (fun k h => mxL h (kpV μ k)) 3 (dgA μ) = dgB μ := rfl
  have d1 : lnL (μ 102) (itL (fun k h => mxL h (cnC μ k)) 9 17) = dgA μ := rfl
  rw [d4] at t4
  rw [d3] at t3
  rw [d2] at t2
  have k4 := t4.mpr (by
    clear t1 t2 t3 t4
    generalize dgD μ = z at *
    rw [s1_iff [113] 200]
    simp (disch := omega) [sz_s, sz_0, gx_s, hx_r, hx_c, hx_b, hx_s, hx_i, hx_n, kx_s, kx_n, kx_i, cx_d, up_at, am_ctl, am_step, am_i1, am_i2, am_i2d, am_l1, am_l2, am_l2d, am_ldi, am_ldl, am_lda, am_sti, am_sta, am_stl, am_inc, am_i2l, am_l2i, am_lcmp, am_dup, am_dup2, am_pop1, am_fv, am_getf, am_putf, am_wr, am_ial, am_lal, am_bal, am_aal, am_ias, am_las, am_bas, am_alen, am_inst, am_cast, am_cpm, am_copy, am_tsw, am_pop, am_cat, am_cS, am_cI, am_cV, am_ri, am_rl, am_ra, am_rv, am_b1, am_b2, am_ent, am_en, am_isL, am_st1, am_st2, am_clr, am_cnd, cc_128, ac_128, nL_128, rb_128, np_36, ok_128_36, nL_36, vd_36_4, np_60, ok_128_60, nL_60, vd_60_8, np_125, ok_128_125, nL_125, vd_125_11, tg_11_2, tg_11_3, tg_4_12, tg_4_9, tg_11_0, tg_11_1, List.getElem?_cons_succ, List.getElem?_cons_zero, nz_of, nzl_of, Int.toNat_add, Int.toNat_mul, tn_l, lt_t, lt_f, le_t, le_f, eq_t, eq_f, ltn_t, ltn_f, len_t, len_f, eqn_t, eqn_f, up_ne, up_up]
    exact k)
  have k3 := t3.mpr (by
    clear t1 t2 t3 t4
    generalize dgC μ = z at *
    rw [s1_iff [88, 113] 200]
    simp (disch := omega) [sz_s, sz_0, gx_s, hx_r, hx_c, hx_b, hx_s, hx_i, hx_n, kx_s, kx_n, kx_i, cx_d, up_at, am_ctl, am_step, am_i1, am_i2, am_i2d, am_l1, am_l2, am_l2d, am_ldi, am_ldl, am_lda, am_sti, am_sta, am_stl, am_inc, am_i2l, am_l2i, am_lcmp, am_dup, am_dup2, am_pop1, am_fv, am_getf, am_putf, am_wr, am_ial, am_lal, am_bal, am_aal, am_ias, am_las, am_bas, am_alen, am_inst, am_cast, am_cpm, am_copy, am_tsw, am_pop, am_cat, am_cS, am_cI, am_cV, am_ri, am_rl, am_ra, am_rv, am_b1, am_b2, am_ent, am_en, am_isL, am_st1, am_st2, am_clr, am_cnd, cc_128, ac_128, nL_128, rb_128, np_36, ok_128_36, nL_36, vd_36_4, np_60, ok_128_60, nL_60, vd_60_8, np_125, ok_128_125, nL_125, vd_125_11, tg_11_2, tg_11_3, tg_4_12, tg_4_9, tg_11_0, tg_11_1, List.getElem?_cons_succ, List.getElem?_cons_zero, nz_of, nzl_of, Int.toNat_add, Int.toNat_mul, tn_l, lt_t, lt_f, le_t, le_f, eq_t, eq_f, ltn_t, ltn_f, len_t, len_f, eqn_t, eqn_f, up_ne, up_up]
    simpa using k4)
  have k2 := t2.mpr (by
    clear t1 t2 t3 t4
    generalize dgB μ = z at *
    rw [s1_iff [42, 88] 200]
    simp (disch := omega) [sz_s, sz_0, gx_s, hx_r, hx_c, hx_b, hx_s, hx_i, hx_n, kx_s, kx_n, kx_i, cx_d, up_at, am_ctl, am_step, am_i1, am_i2, am_i2d, am_l1, am_l2, am_l2d, am_ldi, am_ldl, am_lda, am_sti, am_sta, am_stl, am_inc, am_i2l, am_l2i, am_lcmp, am_dup, am_dup2, am_pop1, am_fv, am_getf, am_putf, am_wr, am_ial, am_lal, am_bal, am_aal, am_ias, am_las, am_bas, am_alen, am_inst, am_cast, am_cpm, am_copy, am_tsw, am_pop, am_cat, am_cS, am_cI, am_cV, am_ri, am_rl, am_ra, am_rv, am_b1, am_b2, am_ent, am_en, am_isL, am_st1, am_st2, am_clr, am_cnd, cc_128, ac_128, nL_128, rb_128, np_36, ok_128_36, nL_36, vd_36_4, np_60, ok_128_60, nL_60, vd_60_8, np_125, ok_128_125, nL_125, vd_125_11, tg_11_2, tg_11_3, tg_4_12, tg_4_9, tg_11_0, tg_11_1, List.getElem?_cons_succ, List.getElem?_cons_zero, nz_of, nzl_of, Int.toNat_add, Int.toNat_mul, tn_l, lt_t, lt_f, le_t, le_f, eq_t, eq_f, ltn_t, ltn_f, len_t, len_f, eqn_t, eqn_f, up_ne, up_up]
    simpa using k3)
  have k1 := t1.mpr (by
    have LA := fun h Φ k => wp_landAdd hL hB h Φ k
    rw [← d1] at k2
    clear t1 t2 t3 t4
    generalize itL (fun k h => mxL h (cnC μ k)) 9 17 = z at *
    rw [s1_iff [6, 42] 200]
    simp (disch := omega) [sz_s, sz_0, gx_s, hx_r, hx_c, hx_b, hx_s, hx_i, hx_n, kx_s, kx_n, kx_i, cx_d, up_at, am_ctl, am_step, am_i1, am_i2, am_i2d, am_l1, am_l2, am_l2d, am_ldi, am_ldl, am_lda, am_sti, am_sta, am_stl, am_inc, am_i2l, am_l2i, am_lcmp, am_dup, am_dup2, am_pop1, am_fv, am_getf, am_putf, am_wr, am_ial, am_lal, am_bal, am_aal, am_ias, am_las, am_bas, am_alen, am_inst, am_cast, am_cpm, am_copy, am_tsw, am_pop, am_cat, am_cS, am_cI, am_cV, am_ri, am_rl, am_ra, am_rv, am_b1, am_b2, am_ent, am_en, am_isL, am_st1, am_st2, am_clr, am_cnd, cc_128, ac_128, nL_128, rb_128, np_36, ok_128_36, nL_36, vd_36_4, np_60, ok_128_60, nL_60, vd_60_8, np_125, ok_128_125, nL_125, vd_125_11, tg_11_2, tg_11_3, tg_4_12, tg_4_9, tg_11_0, tg_11_1, List.getElem?_cons_succ, List.getElem?_cons_zero, nz_of, nzl_of, Int.toNat_add, Int.toNat_mul, tn_l, lt_t, lt_f, le_t, le_f, eq_t, eq_f, ltn_t, ltn_f, len_t, len_f, eqn_t, eqn_f, up_ne, up_up, sh_0, sh_73, rf_0_2]
    refine LA _ _ ?_
    generalize lnL (μ 102) z = y at *
    simp (disch := omega) [sz_s, sz_0, gx_s, hx_r, hx_c, hx_b, hx_s, hx_i, hx_n, kx_s, kx_n, kx_i, cx_d, up_at, am_ctl, am_step, am_i1, am_i2, am_i2d, am_l1, am_l2, am_l2d, am_ldi, am_ldl, am_lda, am_sti, am_sta, am_stl, am_inc, am_i2l, am_l2i, am_lcmp, am_dup, am_dup2, am_pop1, am_fv, am_getf, am_putf, am_wr, am_ial, am_lal, am_bal, am_aal, am_ias, am_las, am_bas, am_alen, am_inst, am_cast, am_cpm, am_copy, am_tsw, am_pop, am_cat, am_cS, am_cI, am_cV, am_ri, am_rl, am_ra, am_rv, am_b1, am_b2, am_ent, am_en, am_isL, am_st1, am_st2, am_clr, am_cnd, cc_128, ac_128, nL_128, rb_128, np_36, ok_128_36, nL_36, vd_36_4, np_60, ok_128_60, nL_60, vd_60_8, np_125, ok_128_125, nL_125, vd_125_11, tg_11_2, tg_11_3, tg_4_12, tg_4_9, tg_11_0, tg_11_1, List.getElem?_cons_succ, List.getElem?_cons_zero, nz_of, nzl_of, Int.toNat_add, Int.toNat_mul, tn_l, lt_t, lt_f, le_t, le_f, eq_t, eq_f, ltn_t, ltn_f, len_t, len_f, eqn_t, eqn_f, up_ne, up_up]
    simpa using k2)
  unfold wpM
  rw [s1_iff [6] 200]
  simp (disch := omega) [sz_s, sz_0, gx_s, hx_r, hx_c, hx_b, hx_s, hx_i, hx_n, kx_s, kx_n, kx_i, cx_d, up_at, am_ctl, am_step, am_i1, am_i2, am_i2d, am_l1, am_l2, am_l2d, am_ldi, am_ldl, am_lda, am_sti, am_sta, am_stl, am_inc, am_i2l, am_l2i, am_lcmp, am_dup, am_dup2, am_pop1, am_fv, am_getf, am_putf, am_wr, am_ial, am_lal, am_bal, am_aal, am_ias, am_las, am_bas, am_alen, am_inst, am_cast, am_cpm, am_copy, am_tsw, am_pop, am_cat, am_cS, am_cI, am_cV, am_ri, am_rl, am_ra, am_rv, am_b1, am_b2, am_ent, am_en, am_isL, am_st1, am_st2, am_clr, am_cnd, cc_128, ac_128, nL_128, rb_128, np_36, ok_128_36, nL_36, vd_36_4, np_60, ok_128_60, nL_60, vd_60_8, np_125, ok_128_125, nL_125, vd_125_11, tg_11_2, tg_11_3, tg_4_12, tg_4_9, tg_11_0, tg_11_1, List.getElem?_cons_succ, List.getElem?_cons_zero, nz_of, nzl_of, Int.toNat_add, Int.toNat_mul, tn_l, lt_t, lt_f, le_t, le_f, eq_t, eq_f, ltn_t, ltn_f, len_t, len_f, eqn_t, eqn_f, up_ne, up_up]
  simpa using k1
