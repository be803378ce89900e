/-! the reference's digest -/
theorem INV_h {B : Int} {μ : Nat → Nat → Int} (h : INV B μ) (v : Int) : INV B (am_up μ 101 26 v) := by
  refine INV_ans h (fun k i hk => by rw [up_at, if_neg (by omega)]) (by simp [up_at]) (by simp [up_at]) (fun i => by simp [up_at]) (fun i => by simp [up_at]) ?_ ?_ ?_
  · simpa [up_at] using h.1.2.1
  · simpa [up_at] using h.1.2.2.1
  · simpa [up_at] using h.1.2.2.2.1
theorem cnC_h (μ : Nat → Nat → Int) (v : Int) (k : Int) : cnC (am_up μ 101 26 v) k = cnC μ k := by
  unfold cnC
  rw [up_ne _ _ _ (show ¬ 102 = 101 by decide), up_ne _ _ _ (show ¬ 105 = 101 by decide), up_ne _ _ _ (show ¬ 107 = 101 by decide)]
  simp [up_at]
set_option maxRecDepth 100000 in
theorem wm_mix (μ : Nat → Nat → Int) (h v : Int) (Φ : Option AV → ST → Prop) : wpM 247 [.inr (.inr (some 101)), .inr (.inl v)] (S (am_up μ 101 26 h)) Φ ↔ Φ none (S (am_up μ 101 26 (mxL h v))) := by
  unfold wpM mxL
  rw [s1_iff [] 200]
  simp (disch := omega) [sz_s, sz_0, gx_s, hx_r, hx_c, hx_b, hx_s, hx_i, hx_n, kx_s, kx_n, kx_i, cx_d, up_at, am_ctl, am_step, am_i1, am_i2, am_i2d, am_l1, am_l2, am_l2d, am_ldi, am_ldl, am_lda, am_sti, am_sta, am_stl, am_inc, am_i2l, am_l2i, am_lcmp, am_dup, am_dup2, am_pop1, am_fv, am_getf, am_putf, am_wr, am_ial, am_lal, am_bal, am_aal, am_ias, am_las, am_bas, am_alen, am_inst, am_cast, am_cpm, am_copy, am_tsw, am_pop, am_cat, am_cS, am_cI, am_cV, am_ri, am_rl, am_ra, am_rv, am_b1, am_b2, am_ent, am_en, am_isL, am_st1, am_st2, am_clr, am_cnd, cc_247, ac_247, nL_247, rb_247, tg_12_26, List.getElem?_cons_succ, List.getElem?_cons_zero, nz_of, nzl_of, Int.toNat_add, Int.toNat_mul, tn_l, lt_t, lt_f, le_t, le_f, eq_t, eq_f, ltn_t, ltn_f, len_t, len_f, eqn_t, eqn_f, up_ne, up_up, sh_101]
set_option maxHeartbeats 8000000 in
set_option maxRecDepth 100000 in
theorem wm_digest {B : Int} {μ : Nat → Nat → Int} (h : INV B μ) (hB : B ≤ 1000000) (Φ : Option AV → ST → Prop) (k : Φ (some (.inr (.inl (dgD μ)))) (S (am_up μ 101 26 (dgD μ)))) : wpM 248 [.inr (.inr (some 101))] (S μ) Φ := by
  have hL : LD B μ 73 0 := h.2.2.2.1
  have hK : I_k B μ := h.2.2.2.2.1
  have e0 := ld_n hL
  have l0 := ld_0 hL
  have MX := fun h v Φ => wm_mix μ h v Φ
  obtain ⟨n, hn⟩ : ∃ n, nW (μ 102) = n := ⟨_, rfl⟩
  have n0 : μ 102 0 = n := by rw [e0.2.1, hn]
  -- texts
  have c7 : ∀ (z : Int) (l3 : Option AV), Φ (some (.inr (.inl (itL (fun t h => shL (fun i => μ 106 (80 * t + i)) (μ 107 t) h) 4 z)))) (S (am_up μ 101 26 (itL (fun t h => shL (fun i => μ 106 (80 * t + i)) (μ 107 t) h) 4 z))) → wpS 248 296 [some (.inr (.inr (some 101))), some (.inl n), some (.inl 0), l3] [] (S (am_up μ 101 26 z)) Φ := fun z l3 k => by
    have outer := up_to (fun (t : Nat) (l3 : Option AV) => wpS 248 296 [some (.inr (.inr (some 101))), some (.inl n), some (.inl t), l3] [] (S (am_up μ 101 26 (itL (fun t h => shL (fun i => μ 106 (80 * t + i)) (μ 107 t) h) t z))) Φ) (fun _ _ => True) 4 (fun t l3 ht _ hs' => by
      try dsimp only at hs' ⊢
      obtain ⟨b1, b2, b3⟩ := h.2.2.1 t ht
      obtain ⟨m, hm⟩ : ∃ m, (μ 107 t).toNat = m := ⟨_, rfl⟩
      have q := hs' (some (.inl (m : Nat))) trivial
      rw [itL_s] at q
      generalize itL (fun t h => shL (fun i => μ 106 (80 * t + i)) (μ 107 t) h) t z = y at *
      unfold shL at q
      rw [hm] at q
      generalize hsz : μ 107 t = sz at *
      have step : ∀ i, i < m → ((fun i : Nat => wpS 248 314 [some (.inr (.inr (some 101))), some (.inl n), some (.inl t), some (.inl i)] [] (S (am_up μ 101 26 (itL (fun i h => mxL h (μ 106 (80 * t + i))) i (mxL y sz)))) Φ) i ↔ (fun i : Nat => wpS 248 314 [some (.inr (.inr (some 101))), some (.inl n), some (.inl t), some (.inl i)] [] (S (am_up μ 101 26 (itL (fun i h => mxL h (μ 106 (80 * t + i))) i (mxL y sz)))) Φ) (i + 1)) := by
        intro i hi
        have z1 : (80 * (t : Int) + (i : Int)).toNat = 80 * t + i := by omega
        dsimp only
        rw [itL_s]
        generalize itL (fun i h => mxL h (μ 106 (80 * t + i))) i (mxL y sz) = x at *
        rw [s1_iff [314] 200]
        simp (disch := omega) [sz_s, sz_0, gx_s, hx_r, hx_c, hx_b, hx_s, hx_i, hx_n, kx_s, kx_n, kx_i, cx_d, up_at, am_ctl, am_step, am_i1, am_i2, am_i2d, am_l1, am_l2, am_l2d, am_ldi, am_ldl, am_lda, am_sti, am_sta, am_stl, am_inc, am_i2l, am_l2i, am_lcmp, am_dup, am_dup2, am_pop1, am_fv, am_getf, am_putf, am_wr, am_ial, am_lal, am_bal, am_aal, am_ias, am_las, am_bas, am_alen, am_inst, am_cast, am_cpm, am_copy, am_tsw, am_pop, am_cat, am_cS, am_cI, am_cV, am_ri, am_rl, am_ra, am_rv, am_b1, am_b2, am_ent, am_en, am_isL, am_st1, am_st2, am_clr, am_cnd, cc_248, ac_248, nL_248, rb_248, ac_248_0, ac_248_1, ac_248_2, np_181, ok_248_181, nL_181, vd_181_12, np_244, ok_248_244, nL_244, vd_244_12, np_247, ok_248_247, nL_247, vd_247_12, tg_12_0, tg_12_1, tg_12_3, tg_12_2, tg_12_5, tg_12_4, tg_12_26, List.getElem?_cons_succ, List.getElem?_cons_zero, nz_of, nzl_of, Int.toNat_add, Int.toNat_mul, tn_l, lt_t, lt_f, le_t, le_f, eq_t, eq_f, ltn_t, ltn_f, len_t, len_f, eqn_t, eqn_f, up_ne, up_up, sh_101, sh_106, sh_107, rf_101_4, rf_101_5, hsz, z1, MX]
      have s0 := up_iff _ m step
      rw [itL_0] at s0
      rw [s1_iff [296, 314] 200]
      simp (disch := omega) [sz_s, sz_0, gx_s, hx_r, hx_c, hx_b, hx_s, hx_i, hx_n, kx_s, kx_n, kx_i, cx_d, up_at, am_ctl, am_step, am_i1, am_i2, am_i2d, am_l1, am_l2, am_l2d, am_ldi, am_ldl, am_lda, am_sti, am_sta, am_stl, am_inc, am_i2l, am_l2i, am_lcmp, am_dup, am_dup2, am_pop1, am_fv, am_getf, am_putf, am_wr, am_ial, am_lal, am_bal, am_aal, am_ias, am_las, am_bas, am_alen, am_inst, am_cast, am_cpm, am_copy, am_tsw, am_pop, am_cat, am_cS, am_cI, am_cV, am_ri, am_rl, am_ra, am_rv, am_b1, am_b2, am_ent, am_en, am_isL, am_st1, am_st2, am_clr, am_cnd, cc_248, ac_248, nL_248, rb_248, ac_248_0, ac_248_1, ac_248_2, np_181, ok_248_181, nL_181, vd_181_12, np_244, ok_248_244, nL_244, vd_244_12, np_247, ok_248_247, nL_247, vd_247_12, tg_12_0, tg_12_1, tg_12_3, tg_12_2, tg_12_5, tg_12_4, tg_12_26, List.getElem?_cons_succ, List.getElem?_cons_zero, nz_of, nzl_of, Int.toNat_add, Int.toNat_mul, tn_l, lt_t, lt_f, le_t, le_f, eq_t, eq_f, ltn_t, ltn_f, len_t, len_f, eqn_t, eqn_f, up_ne, up_up, sh_101, sh_107, rf_101_5, hsz, MX]
      refine s0.mpr ?_
      generalize itL (fun i h => mxL h (μ 106 (80 * t + i))) m (mxL y sz) = x at *
      rw [s1_iff [296, 314] 200]
      simp (disch := omega) [sz_s, sz_0, gx_s, hx_r, hx_c, hx_b, hx_s, hx_i, hx_n, kx_s, kx_n, kx_i, cx_d, up_at, am_ctl, am_step, am_i1, am_i2, am_i2d, am_l1, am_l2, am_l2d, am_ldi, am_ldl, am_lda, am_sti, am_sta, am_stl, am_inc, am_i2l, am_l2i, am_lcmp, am_dup, am_dup2, am_pop1, am_fv, am_getf, am_putf, am_wr, am_ial, am_lal, am_bal, am_aal, am_ias, am_las, am_bas, am_alen, am_inst, am_cast, am_cpm, am_copy, am_tsw, am_pop, am_cat, am_cS, am_cI, am_cV, am_ri, am_rl, am_ra, am_rv, am_b1, am_b2, am_ent, am_en, am_isL, am_st1, am_st2, am_clr, am_cnd, cc_248, ac_248, nL_248, rb_248, ac_248_0, ac_248_1, ac_248_2, np_181, ok_248_181, nL_181, vd_181_12, np_244, ok_248_244, nL_244, vd_244_12, np_247, ok_248_247, nL_247, vd_247_12, tg_12_0, tg_12_1, tg_12_3, tg_12_2, tg_12_5, tg_12_4, tg_12_26, List.getElem?_cons_succ, List.getElem?_cons_zero, nz_of, nzl_of, Int.toNat_add, Int.toNat_mul, tn_l, lt_t, lt_f, le_t, le_f, eq_t, eq_f, ltn_t, ltn_f, len_t, len_f, eqn_t, eqn_f, up_ne, up_up, sh_101, sh_107, rf_101_5, hsz]
      simpa using q) (fun l3 _ => by
      try dsimp only
      generalize itL (fun t h => shL (fun i => μ 106 (80 * t + i)) (μ 107 t) h) 4 z = y at *
      rw [s1_iff [296] 200]
      simp (disch := omega) [sz_s, sz_0, gx_s, hx_r, hx_c, hx_b, hx_s, hx_i, hx_n, kx_s, kx_n, kx_i, cx_d, up_at, am_ctl, am_step, am_i1, am_i2, am_i2d, am_l1, am_l2, am_l2d, am_ldi, am_ldl, am_lda, am_sti, am_sta, am_stl, am_inc, am_i2l, am_l2i, am_lcmp, am_dup, am_dup2, am_pop1, am_fv, am_getf, am_putf, am_wr, am_ial, am_lal, am_bal, am_aal, am_ias, am_las, am_bas, am_alen, am_inst, am_cast, am_cpm, am_copy, am_tsw, am_pop, am_cat, am_cS, am_cI, am_cV, am_ri, am_rl, am_ra, am_rv, am_b1, am_b2, am_ent, am_en, am_isL, am_st1, am_st2, am_clr, am_cnd, cc_248, ac_248, nL_248, rb_248, ac_248_0, ac_248_1, ac_248_2, np_181, ok_248_181, nL_181, vd_181_12, np_244, ok_248_244, nL_244, vd_244_12, np_247, ok_248_247, nL_247, vd_247_12, tg_12_0, tg_12_1, tg_12_3, tg_12_2, tg_12_5, tg_12_4, tg_12_26, List.getElem?_cons_succ, List.getElem?_cons_zero, nz_of, nzl_of, Int.toNat_add, Int.toNat_mul, tn_l, lt_t, lt_f, le_t, le_f, eq_t, eq_f, ltn_t, ltn_f, len_t, len_f, eqn_t, eqn_f, up_ne, up_up, sh_101]
      exact k) l3 trivial
    rw [itL_0] at outer
    simpa using outer
  -- rows
  have c6 : ∀ (z : Int) (l3 : Option AV), (∀ l3, wpS 248 296 [some (.inr (.inr (some 101))), some (.inl n), some (.inl 0), l3] [] (S (am_up μ 101 26 (itL (fun t h => shL (fun i => μ 104 (60 * t + i)) (μ 105 t) h) 6 z))) Φ) → wpS 248 237 [some (.inr (.inr (some 101))), some (.inl n), some (.inl 0), l3] [] (S (am_up μ 101 26 z)) Φ := fun z l3 k => by
    have outer := up_to (fun (t : Nat) (l3 : Option AV) => wpS 248 237 [some (.inr (.inr (some 101))), some (.inl n), some (.inl t), l3] [] (S (am_up μ 101 26 (itL (fun t h => shL (fun i => μ 104 (60 * t + i)) (μ 105 t) h) t z))) Φ) (fun _ _ => True) 6 (fun t l3 ht _ hs' => by
      try dsimp only at hs' ⊢
      obtain ⟨b1, b2, b3⟩ := h.2.1 t ht
      obtain ⟨m, hm⟩ : ∃ m, (μ 105 t).toNat = m := ⟨_, rfl⟩
      have q := hs' (some (.inl (m : Nat))) trivial
      rw [itL_s] at q
      generalize itL (fun t h => shL (fun i => μ 104 (60 * t + i)) (μ 105 t) h) t z = y at *
      unfold shL at q
      rw [hm] at q
      generalize hsz : μ 105 t = sz at *
      have step : ∀ i, i < m → ((fun i : Nat => wpS 248 256 [some (.inr (.inr (some 101))), some (.inl n), some (.inl t), some (.inl i)] [] (S (am_up μ 101 26 (itL (fun i h => mxL h (μ 104 (60 * t + i))) i (mxL y sz)))) Φ) i ↔ (fun i : Nat => wpS 248 256 [some (.inr (.inr (some 101))), some (.inl n), some (.inl t), some (.inl i)] [] (S (am_up μ 101 26 (itL (fun i h => mxL h (μ 104 (60 * t + i))) i (mxL y sz)))) Φ) (i + 1)) := by
        intro i hi
        have z1 : (60 * (t : Int) + (i : Int)).toNat = 60 * t + i := by omega
        dsimp only
        rw [itL_s]
        generalize itL (fun i h => mxL h (μ 104 (60 * t + i))) i (mxL y sz) = x at *
        rw [s1_iff [256] 200]
        simp (disch := omega) [sz_s, sz_0, gx_s, hx_r, hx_c, hx_b, hx_s, hx_i, hx_n, kx_s, kx_n, kx_i, cx_d, up_at, am_ctl, am_step, am_i1, am_i2, am_i2d, am_l1, am_l2, am_l2d, am_ldi, am_ldl, am_lda, am_sti, am_sta, am_stl, am_inc, am_i2l, am_l2i, am_lcmp, am_dup, am_dup2, am_pop1, am_fv, am_getf, am_putf, am_wr, am_ial, am_lal, am_bal, am_aal, am_ias, am_las, am_bas, am_alen, am_inst, am_cast, am_cpm, am_copy, am_tsw, am_pop, am_cat, am_cS, am_cI, am_cV, am_ri, am_rl, am_ra, am_rv, am_b1, am_b2, am_ent, am_en, am_isL, am_st1, am_st2, am_clr, am_cnd, cc_248, ac_248, nL_248, rb_248, ac_248_0, ac_248_1, ac_248_2, np_181, ok_248_181, nL_181, vd_181_12, np_244, ok_248_244, nL_244, vd_244_12, np_247, ok_248_247, nL_247, vd_247_12, tg_12_0, tg_12_1, tg_12_3, tg_12_2, tg_12_5, tg_12_4, tg_12_26, List.getElem?_cons_succ, List.getElem?_cons_zero, nz_of, nzl_of, Int.toNat_add, Int.toNat_mul, tn_l, lt_t, lt_f, le_t, le_f, eq_t, eq_f, ltn_t, ltn_f, len_t, len_f, eqn_t, eqn_f, up_ne, up_up, sh_101, sh_104, sh_105, rf_101_2, rf_101_3, hsz, z1, MX]
      have s0 := up_iff _ m step
      rw [itL_0] at s0
      rw [s1_iff [237, 256] 200]
      simp (disch := omega) [sz_s, sz_0, gx_s, hx_r, hx_c, hx_b, hx_s, hx_i, hx_n, kx_s, kx_n, kx_i, cx_d, up_at, am_ctl, am_step, am_i1, am_i2, am_i2d, am_l1, am_l2, am_l2d, am_ldi, am_ldl, am_lda, am_sti, am_sta, am_stl, am_inc, am_i2l, am_l2i, am_lcmp, am_dup, am_dup2, am_pop1, am_fv, am_getf, am_putf, am_wr, am_ial, am_lal, am_bal, am_aal, am_ias, am_las, am_bas, am_alen, am_inst, am_cast, am_cpm, am_copy, am_tsw, am_pop, am_cat, am_cS, am_cI, am_cV, am_ri, am_rl, am_ra, am_rv, am_b1, am_b2, am_ent, am_en, am_isL, am_st1, am_st2, am_clr, am_cnd, cc_248, ac_248, nL_248, rb_248, ac_248_0, ac_248_1, ac_248_2, np_181, ok_248_181, nL_181, vd_181_12, np_244, ok_248_244, nL_244, vd_244_12, np_247, ok_248_247, nL_247, vd_247_12, tg_12_0, tg_12_1, tg_12_3, tg_12_2, tg_12_5, tg_12_4, tg_12_26, List.getElem?_cons_succ, List.getElem?_cons_zero, nz_of, nzl_of, Int.toNat_add, Int.toNat_mul, tn_l, lt_t, lt_f, le_t, le_f, eq_t, eq_f, ltn_t, ltn_f, len_t, len_f, eqn_t, eqn_f, up_ne, up_up, sh_101, sh_105, rf_101_3, hsz, MX]
      refine s0.mpr ?_
      generalize itL (fun i h => mxL h (μ 104 (60 * t + i))) m (mxL y sz) = x at *
      rw [s1_iff [237, 256] 200]
      simp (disch := omega) [sz_s, sz_0, gx_s, hx_r, hx_c, hx_b, hx_s, hx_i, hx_n, kx_s, kx_n, kx_i, cx_d, up_at, am_ctl, am_step, am_i1, am_i2, am_i2d, am_l1, am_l2, am_l2d, am_ldi, am_ldl, am_lda, am_sti, am_sta, am_stl, am_inc, am_i2l, am_l2i, am_lcmp, am_dup, am_dup2, am_pop1, am_fv, am_getf, am_putf, am_wr, am_ial, am_lal, am_bal, am_aal, am_ias, am_las, am_bas, am_alen, am_inst, am_cast, am_cpm, am_copy, am_tsw, am_pop, am_cat, am_cS, am_cI, am_cV, am_ri, am_rl, am_ra, am_rv, am_b1, am_b2, am_ent, am_en, am_isL, am_st1, am_st2, am_clr, am_cnd, cc_248, ac_248, nL_248, rb_248, ac_248_0, ac_248_1, ac_248_2, np_181, ok_248_181, nL_181, vd_181_12, np_244, ok_248_244, nL_244, vd_244_12, np_247, ok_248_247, nL_247, vd_247_12, tg_12_0, tg_12_1, tg_12_3, tg_12_2, tg_12_5, tg_12_4, tg_12_26, List.getElem?_cons_succ, List.getElem?_cons_zero, nz_of, nzl_of, Int.toNat_add, Int.toNat_mul, tn_l, lt_t, lt_f, le_t, le_f, eq_t, eq_f, ltn_t, ltn_f, len_t, len_f, eqn_t, eqn_f, up_ne, up_up, sh_101, sh_105, rf_101_3, hsz]
      simpa using q) (fun l3 _ => by
      try dsimp only
      have q := k l3
      generalize itL (fun t h => shL (fun i => μ 104 (60 * t + i)) (μ 105 t) h) 6 z = y at *
      rw [s1_iff [237, 296] 200]
      simp (disch := omega) [sz_s, sz_0, gx_s, hx_r, hx_c, hx_b, hx_s, hx_i, hx_n, kx_s, kx_n, kx_i, cx_d, up_at, am_ctl, am_step, am_i1, am_i2, am_i2d, am_l1, am_l2, am_l2d, am_ldi, am_ldl, am_lda, am_sti, am_sta, am_stl, am_inc, am_i2l, am_l2i, am_lcmp, am_dup, am_dup2, am_pop1, am_fv, am_getf, am_putf, am_wr, am_ial, am_lal, am_bal, am_aal, am_ias, am_las, am_bas, am_alen, am_inst, am_cast, am_cpm, am_copy, am_tsw, am_pop, am_cat, am_cS, am_cI, am_cV, am_ri, am_rl, am_ra, am_rv, am_b1, am_b2, am_ent, am_en, am_isL, am_st1, am_st2, am_clr, am_cnd, cc_248, ac_248, nL_248, rb_248, ac_248_0, ac_248_1, ac_248_2, np_181, ok_248_181, nL_181, vd_181_12, np_244, ok_248_244, nL_244, vd_244_12, np_247, ok_248_247, nL_247, vd_247_12, tg_12_0, tg_12_1, tg_12_3, tg_12_2, tg_12_5, tg_12_4, tg_12_26, List.getElem?_cons_succ, List.getElem?_cons_zero, nz_of, nzl_of, Int.toNat_add, Int.toNat_mul, tn_l, lt_t, lt_f, le_t, le_f, eq_t, eq_f, ltn_t, ltn_f, len_t, len_f, eqn_t, eqn_f, up_ne, up_up, sh_101]
      simpa using q) l3 trivial
    rw [itL_0] at outer
    simpa using outer
  -- kept
  have c5 : ∀ (z : Int) (l3 : Option AV), (wpS 248 237 [some (.inr (.inr (some 101))), some (.inl n), some (.inl 0), l3] [] (S (am_up μ 101 26 (itL (fun k h => mxL h (kpV μ k)) 3 z))) Φ) → wpS 248 190 [some (.inr (.inr (some 101))), some (.inl n), some (.inl 0), l3] [] (S (am_up μ 101 26 z)) Φ := fun z l3 k => by
    have step : ∀ t, t < 3 → ((fun t : Nat => wpS 248 190 [some (.inr (.inr (some 101))), some (.inl n), some (.inl t), l3] [] (S (am_up μ 101 26 (itL (fun k h => mxL h (kpV μ k)) t z))) Φ) t ↔ (fun t : Nat => wpS 248 190 [some (.inr (.inr (some 101))), some (.inl n), some (.inl t), l3] [] (S (am_up μ 101 26 (itL (fun k h => mxL h (kpV μ k)) t z))) Φ) (t + 1)) := by
      intro t ht
      obtain ⟨q1, q2, q3⟩ := hK t ht
      have z1 : (200 * ((t : Int) + 1) + 2).toNat = 200 * (t + 1) + 2 := by omega
      dsimp only
      rw [itL_s]
      generalize itL (fun k h => mxL h (kpV μ k)) t z = x at *
      unfold kpV
      rcases q1 with y | y
      · rw [if_neg (by omega)]
        rw [s1_iff [190] 200]
        simp (disch := omega) [sz_s, sz_0, gx_s, hx_r, hx_c, hx_b, hx_s, hx_i, hx_n, kx_s, kx_n, kx_i, cx_d, up_at, am_ctl, am_step, am_i1, am_i2, am_i2d, am_l1, am_l2, am_l2d, am_ldi, am_ldl, am_lda, am_sti, am_sta, am_stl, am_inc, am_i2l, am_l2i, am_lcmp, am_dup, am_dup2, am_pop1, am_fv, am_getf, am_putf, am_wr, am_ial, am_lal, am_bal, am_aal, am_ias, am_las, am_bas, am_alen, am_inst, am_cast, am_cpm, am_copy, am_tsw, am_pop, am_cat, am_cS, am_cI, am_cV, am_ri, am_rl, am_ra, am_rv, am_b1, am_b2, am_ent, am_en, am_isL, am_st1, am_st2, am_clr, am_cnd, cc_248, ac_248, nL_248, rb_248, ac_248_0, ac_248_1, ac_248_2, np_181, ok_248_181, nL_181, vd_181_12, np_244, ok_248_244, nL_244, vd_244_12, np_247, ok_248_247, nL_247, vd_247_12, tg_12_0, tg_12_1, tg_12_3, tg_12_2, tg_12_5, tg_12_4, tg_12_26, List.getElem?_cons_succ, List.getElem?_cons_zero, nz_of, nzl_of, Int.toNat_add, Int.toNat_mul, tn_l, lt_t, lt_f, le_t, le_f, eq_t, eq_f, ltn_t, ltn_f, len_t, len_f, eqn_t, eqn_f, up_ne, up_up, sh_101, sh_103, rf_101_1, y, MX]
      · rw [if_pos y]
        rw [s1_iff [190] 200]
        simp (disch := omega) [sz_s, sz_0, gx_s, hx_r, hx_c, hx_b, hx_s, hx_i, hx_n, kx_s, kx_n, kx_i, cx_d, up_at, am_ctl, am_step, am_i1, am_i2, am_i2d, am_l1, am_l2, am_l2d, am_ldi, am_ldl, am_lda, am_sti, am_sta, am_stl, am_inc, am_i2l, am_l2i, am_lcmp, am_dup, am_dup2, am_pop1, am_fv, am_getf, am_putf, am_wr, am_ial, am_lal, am_bal, am_aal, am_ias, am_las, am_bas, am_alen, am_inst, am_cast, am_cpm, am_copy, am_tsw, am_pop, am_cat, am_cS, am_cI, am_cV, am_ri, am_rl, am_ra, am_rv, am_b1, am_b2, am_ent, am_en, am_isL, am_st1, am_st2, am_clr, am_cnd, cc_248, ac_248, nL_248, rb_248, ac_248_0, ac_248_1, ac_248_2, np_181, ok_248_181, nL_181, vd_181_12, np_244, ok_248_244, nL_244, vd_244_12, np_247, ok_248_247, nL_247, vd_247_12, tg_12_0, tg_12_1, tg_12_3, tg_12_2, tg_12_5, tg_12_4, tg_12_26, List.getElem?_cons_succ, List.getElem?_cons_zero, nz_of, nzl_of, Int.toNat_add, Int.toNat_mul, tn_l, lt_t, lt_f, le_t, le_f, eq_t, eq_f, ltn_t, ltn_f, len_t, len_f, eqn_t, eqn_f, up_ne, up_up, sh_101, sh_102, sh_103, rf_101_0, rf_101_1, y, z1, MX]
    have s0 := up_iff _ 3 step
    rw [itL_0] at s0
    refine s0.mpr ?_
    generalize itL (fun k h => mxL h (kpV μ k)) 3 z = y at *
    rw [s1_iff [190, 237] 200]
    simp (disch := omega) [sz_s, sz_0, gx_s, hx_r, hx_c, hx_b, hx_s, hx_i, hx_n, kx_s, kx_n, kx_i, cx_d, up_at, am_ctl, am_step, am_i1, am_i2, am_i2d, am_l1, am_l2, am_l2d, am_ldi, am_ldl, am_lda, am_sti, am_sta, am_stl, am_inc, am_i2l, am_l2i, am_lcmp, am_dup, am_dup2, am_pop1, am_fv, am_getf, am_putf, am_wr, am_ial, am_lal, am_bal, am_aal, am_ias, am_las, am_bas, am_alen, am_inst, am_cast, am_cpm, am_copy, am_tsw, am_pop, am_cat, am_cS, am_cI, am_cV, am_ri, am_rl, am_ra, am_rv, am_b1, am_b2, am_ent, am_en, am_isL, am_st1, am_st2, am_clr, am_cnd, cc_248, ac_248, nL_248, rb_248, ac_248_0, ac_248_1, ac_248_2, np_181, ok_248_181, nL_181, vd_181_12, np_244, ok_248_244, nL_244, vd_244_12, np_247, ok_248_247, nL_247, vd_247_12, tg_12_0, tg_12_1, tg_12_3, tg_12_2, tg_12_5, tg_12_4, tg_12_26, List.getElem?_cons_succ, List.getElem?_cons_zero, nz_of, nzl_of, Int.toNat_add, Int.toNat_mul, tn_l, lt_t, lt_f, le_t, le_f, eq_t, eq_f, ltn_t, ltn_f, len_t, len_f, eqn_t, eqn_f, up_ne, up_up, sh_101]
    simpa using k
  -- the log
  have c4 : ∀ (z : Int) (l3 : Option AV), (wpS 248 190 [some (.inr (.inr (some 101))), some (.inl n), some (.inl 0), l3] [] (S (am_up μ 101 26 (itL (fun k h => mxL h (μ 102 (101 + k))) (3 * (μ 102 2).toNat) z))) Φ) → wpS 248 156 [some (.inr (.inr (some 101))), some (.inl n), some (.inl 0), l3] [] (S (am_up μ 101 26 z)) Φ := fun z l3 k => by
    obtain ⟨m, hm⟩ : ∃ n : Nat, μ 102 2 = n := ⟨(μ 102 2).toNat, by omega⟩
    rw [hm, Int.toNat_natCast] at k
    have step : ∀ t, t < 3 * m → ((fun t : Nat => wpS 248 156 [some (.inr (.inr (some 101))), some (.inl n), some (.inl t), l3] [] (S (am_up μ 101 26 (itL (fun k h => mxL h (μ 102 (101 + k))) t z))) Φ) t ↔ (fun t : Nat => wpS 248 156 [some (.inr (.inr (some 101))), some (.inl n), some (.inl t), l3] [] (S (am_up μ 101 26 (itL (fun k h => mxL h (μ 102 (101 + k))) t z))) Φ) (t + 1)) := by
      intro t ht
      dsimp only
      rw [itL_s]
      generalize itL (fun k h => mxL h (μ 102 (101 + k))) t z = x at *
      rw [s1_iff [156] 200]
      simp (disch := omega) [sz_s, sz_0, gx_s, hx_r, hx_c, hx_b, hx_s, hx_i, hx_n, kx_s, kx_n, kx_i, cx_d, up_at, am_ctl, am_step, am_i1, am_i2, am_i2d, am_l1, am_l2, am_l2d, am_ldi, am_ldl, am_lda, am_sti, am_sta, am_stl, am_inc, am_i2l, am_l2i, am_lcmp, am_dup, am_dup2, am_pop1, am_fv, am_getf, am_putf, am_wr, am_ial, am_lal, am_bal, am_aal, am_ias, am_las, am_bas, am_alen, am_inst, am_cast, am_cpm, am_copy, am_tsw, am_pop, am_cat, am_cS, am_cI, am_cV, am_ri, am_rl, am_ra, am_rv, am_b1, am_b2, am_ent, am_en, am_isL, am_st1, am_st2, am_clr, am_cnd, cc_248, ac_248, nL_248, rb_248, ac_248_0, ac_248_1, ac_248_2, np_181, ok_248_181, nL_181, vd_181_12, np_244, ok_248_244, nL_244, vd_244_12, np_247, ok_248_247, nL_247, vd_247_12, tg_12_0, tg_12_1, tg_12_3, tg_12_2, tg_12_5, tg_12_4, tg_12_26, List.getElem?_cons_succ, List.getElem?_cons_zero, nz_of, nzl_of, Int.toNat_add, Int.toNat_mul, tn_l, lt_t, lt_f, le_t, le_f, eq_t, eq_f, ltn_t, ltn_f, len_t, len_f, eqn_t, eqn_f, up_ne, up_up, sh_101, sh_102, rf_101_0, hm, MX]
    have s0 := up_iff _ (3 * m) step
    rw [itL_0] at s0
    refine s0.mpr ?_
    generalize itL (fun k h => mxL h (μ 102 (101 + k))) (3 * m) z = y at *
    rw [s1_iff [156, 190] 200]
    simp (disch := omega) [sz_s, sz_0, gx_s, hx_r, hx_c, hx_b, hx_s, hx_i, hx_n, kx_s, kx_n, kx_i, cx_d, up_at, am_ctl, am_step, am_i1, am_i2, am_i2d, am_l1, am_l2, am_l2d, am_ldi, am_ldl, am_lda, am_sti, am_sta, am_stl, am_inc, am_i2l, am_l2i, am_lcmp, am_dup, am_dup2, am_pop1, am_fv, am_getf, am_putf, am_wr, am_ial, am_lal, am_bal, am_aal, am_ias, am_las, am_bas, am_alen, am_inst, am_cast, am_cpm, am_copy, am_tsw, am_pop, am_cat, am_cS, am_cI, am_cV, am_ri, am_rl, am_ra, am_rv, am_b1, am_b2, am_ent, am_en, am_isL, am_st1, am_st2, am_clr, am_cnd, cc_248, ac_248, nL_248, rb_248, ac_248_0, ac_248_1, ac_248_2, np_181, ok_248_181, nL_181, vd_181_12, np_244, ok_248_244, nL_244, vd_244_12, np_247, ok_248_247, nL_247, vd_247_12, tg_12_0, tg_12_1, tg_12_3, tg_12_2, tg_12_5, tg_12_4, tg_12_26, List.getElem?_cons_succ, List.getElem?_cons_zero, nz_of, nzl_of, Int.toNat_add, Int.toNat_mul, tn_l, lt_t, lt_f, le_t, le_f, eq_t, eq_f, ltn_t, ltn_f, len_t, len_f, eqn_t, eqn_f, up_ne, up_up, sh_101, sh_102, rf_101_0, hm]
    simpa using k
  -- debts
  have c3 : ∀ (z : Int) (l3 : Option AV), (∀ l3, wpS 248 156 [some (.inr (.inr (some 101))), some (.inl n), some (.inl 0), l3] [] (S (am_up μ 101 26 (itL (fun a h => itL (fun b h => mxL h (μ 102 (37 + (8 * a + b)))) n h) n z))) Φ) → wpS 248 111 [some (.inr (.inr (some 101))), some (.inl n), some (.inl 0), l3] [] (S (am_up μ 101 26 z)) Φ := fun z l3 k => by
    have outer := up_to (fun (t : Nat) (l3 : Option AV) => wpS 248 111 [some (.inr (.inr (some 101))), some (.inl n), some (.inl t), l3] [] (S (am_up μ 101 26 (itL (fun a h => itL (fun b h => mxL h (μ 102 (37 + (8 * a + b)))) n h) t z))) Φ) (fun _ _ => True) n (fun t l3 ht _ hs' => by
      try dsimp only at hs' ⊢
      have q := hs' (some (.inl (n : Nat))) trivial
      rw [itL_s] at q
      generalize itL (fun a h => itL (fun b h => mxL h (μ 102 (37 + (8 * a + b)))) n h) t z = y at *
      have step : ∀ i, i < n → ((fun i : Nat => wpS 248 118 [some (.inr (.inr (some 101))), some (.inl n), some (.inl t), some (.inl i)] [] (S (am_up μ 101 26 (itL (fun b h => mxL h (μ 102 (37 + (8 * t + b)))) i y))) Φ) i ↔ (fun i : Nat => wpS 248 118 [some (.inr (.inr (some 101))), some (.inl n), some (.inl t), some (.inl i)] [] (S (am_up μ 101 26 (itL (fun b h => mxL h (μ 102 (37 + (8 * t + b)))) i y))) Φ) (i + 1)) := by
        intro i hi
        have z1 : (37 + 8 * (t : Int) + (i : Int)).toNat = 37 + (8 * t + i) := by omega
        dsimp only
        rw [itL_s]
        generalize itL (fun b h => mxL h (μ 102 (37 + (8 * t + b)))) i y = x at *
        rw [s1_iff [118] 200]
        simp (disch := omega) [sz_s, sz_0, gx_s, hx_r, hx_c, hx_b, hx_s, hx_i, hx_n, kx_s, kx_n, kx_i, cx_d, up_at, am_ctl, am_step, am_i1, am_i2, am_i2d, am_l1, am_l2, am_l2d, am_ldi, am_ldl, am_lda, am_sti, am_sta, am_stl, am_inc, am_i2l, am_l2i, am_lcmp, am_dup, am_dup2, am_pop1, am_fv, am_getf, am_putf, am_wr, am_ial, am_lal, am_bal, am_aal, am_ias, am_las, am_bas, am_alen, am_inst, am_cast, am_cpm, am_copy, am_tsw, am_pop, am_cat, am_cS, am_cI, am_cV, am_ri, am_rl, am_ra, am_rv, am_b1, am_b2, am_ent, am_en, am_isL, am_st1, am_st2, am_clr, am_cnd, cc_248, ac_248, nL_248, rb_248, ac_248_0, ac_248_1, ac_248_2, np_181, ok_248_181, nL_181, vd_181_12, np_244, ok_248_244, nL_244, vd_244_12, np_247, ok_248_247, nL_247, vd_247_12, tg_12_0, tg_12_1, tg_12_3, tg_12_2, tg_12_5, tg_12_4, tg_12_26, List.getElem?_cons_succ, List.getElem?_cons_zero, nz_of, nzl_of, Int.toNat_add, Int.toNat_mul, tn_l, lt_t, lt_f, le_t, le_f, eq_t, eq_f, ltn_t, ltn_f, len_t, len_f, eqn_t, eqn_f, up_ne, up_up, sh_101, sh_102, rf_101_0, z1, MX]
      have s0 := up_iff _ n step
      rw [itL_0] at s0
      rw [s1_iff [111, 118] 200]
      simp (disch := omega) [sz_s, sz_0, gx_s, hx_r, hx_c, hx_b, hx_s, hx_i, hx_n, kx_s, kx_n, kx_i, cx_d, up_at, am_ctl, am_step, am_i1, am_i2, am_i2d, am_l1, am_l2, am_l2d, am_ldi, am_ldl, am_lda, am_sti, am_sta, am_stl, am_inc, am_i2l, am_l2i, am_lcmp, am_dup, am_dup2, am_pop1, am_fv, am_getf, am_putf, am_wr, am_ial, am_lal, am_bal, am_aal, am_ias, am_las, am_bas, am_alen, am_inst, am_cast, am_cpm, am_copy, am_tsw, am_pop, am_cat, am_cS, am_cI, am_cV, am_ri, am_rl, am_ra, am_rv, am_b1, am_b2, am_ent, am_en, am_isL, am_st1, am_st2, am_clr, am_cnd, cc_248, ac_248, nL_248, rb_248, ac_248_0, ac_248_1, ac_248_2, np_181, ok_248_181, nL_181, vd_181_12, np_244, ok_248_244, nL_244, vd_244_12, np_247, ok_248_247, nL_247, vd_247_12, tg_12_0, tg_12_1, tg_12_3, tg_12_2, tg_12_5, tg_12_4, tg_12_26, List.getElem?_cons_succ, List.getElem?_cons_zero, nz_of, nzl_of, Int.toNat_add, Int.toNat_mul, tn_l, lt_t, lt_f, le_t, le_f, eq_t, eq_f, ltn_t, ltn_f, len_t, len_f, eqn_t, eqn_f, up_ne, up_up, sh_101, ht]
      refine s0.mpr ?_
      generalize itL (fun b h => mxL h (μ 102 (37 + (8 * t + b)))) n y = x at *
      rw [s1_iff [111, 118] 200]
      simp (disch := omega) [sz_s, sz_0, gx_s, hx_r, hx_c, hx_b, hx_s, hx_i, hx_n, kx_s, kx_n, kx_i, cx_d, up_at, am_ctl, am_step, am_i1, am_i2, am_i2d, am_l1, am_l2, am_l2d, am_ldi, am_ldl, am_lda, am_sti, am_sta, am_stl, am_inc, am_i2l, am_l2i, am_lcmp, am_dup, am_dup2, am_pop1, am_fv, am_getf, am_putf, am_wr, am_ial, am_lal, am_bal, am_aal, am_ias, am_las, am_bas, am_alen, am_inst, am_cast, am_cpm, am_copy, am_tsw, am_pop, am_cat, am_cS, am_cI, am_cV, am_ri, am_rl, am_ra, am_rv, am_b1, am_b2, am_ent, am_en, am_isL, am_st1, am_st2, am_clr, am_cnd, cc_248, ac_248, nL_248, rb_248, ac_248_0, ac_248_1, ac_248_2, np_181, ok_248_181, nL_181, vd_181_12, np_244, ok_248_244, nL_244, vd_244_12, np_247, ok_248_247, nL_247, vd_247_12, tg_12_0, tg_12_1, tg_12_3, tg_12_2, tg_12_5, tg_12_4, tg_12_26, List.getElem?_cons_succ, List.getElem?_cons_zero, nz_of, nzl_of, Int.toNat_add, Int.toNat_mul, tn_l, lt_t, lt_f, le_t, le_f, eq_t, eq_f, ltn_t, ltn_f, len_t, len_f, eqn_t, eqn_f, up_ne, up_up, sh_101]
      simpa using q) (fun l3 _ => by
      try dsimp only
      have q := k l3
      generalize itL (fun a h => itL (fun b h => mxL h (μ 102 (37 + (8 * a + b)))) n h) n z = y at *
      rw [s1_iff [111, 156] 200]
      simp (disch := omega) [sz_s, sz_0, gx_s, hx_r, hx_c, hx_b, hx_s, hx_i, hx_n, kx_s, kx_n, kx_i, cx_d, up_at, am_ctl, am_step, am_i1, am_i2, am_i2d, am_l1, am_l2, am_l2d, am_ldi, am_ldl, am_lda, am_sti, am_sta, am_stl, am_inc, am_i2l, am_l2i, am_lcmp, am_dup, am_dup2, am_pop1, am_fv, am_getf, am_putf, am_wr, am_ial, am_lal, am_bal, am_aal, am_ias, am_las, am_bas, am_alen, am_inst, am_cast, am_cpm, am_copy, am_tsw, am_pop, am_cat, am_cS, am_cI, am_cV, am_ri, am_rl, am_ra, am_rv, am_b1, am_b2, am_ent, am_en, am_isL, am_st1, am_st2, am_clr, am_cnd, cc_248, ac_248, nL_248, rb_248, ac_248_0, ac_248_1, ac_248_2, np_181, ok_248_181, nL_181, vd_181_12, np_244, ok_248_244, nL_244, vd_244_12, np_247, ok_248_247, nL_247, vd_247_12, tg_12_0, tg_12_1, tg_12_3, tg_12_2, tg_12_5, tg_12_4, tg_12_26, List.getElem?_cons_succ, List.getElem?_cons_zero, nz_of, nzl_of, Int.toNat_add, Int.toNat_mul, tn_l, lt_t, lt_f, le_t, le_f, eq_t, eq_f, ltn_t, ltn_f, len_t, len_f, eqn_t, eqn_f, up_ne, up_up, sh_101]
      simpa using q) l3 trivial
    rw [itL_0] at outer
    simpa using outer
  -- figures
  have c2 : ∀ (z : Int) (l3 : Option AV), (∀ l3, wpS 248 111 [some (.inr (.inr (some 101))), some (.inl n), some (.inl 0), l3] [] (S (am_up μ 101 26 (itL (fun a h => itL (fun k h => mxL h (figW (μ 102) a k)) 6 h) n z))) Φ) → wpS 248 73 [some (.inr (.inr (some 101))), some (.inl n), some (.inl 0), l3] [] (S (am_up μ 101 26 z)) Φ := fun z l3 k => by
    have outer := up_to (fun (t : Nat) (l3 : Option AV) => wpS 248 73 [some (.inr (.inr (some 101))), some (.inl n), some (.inl t), l3] [] (S (am_up μ 101 26 (itL (fun a h => itL (fun k h => mxL h (figW (μ 102) a k)) 6 h) t z))) Φ) (fun _ _ => True) n (fun t l3 ht _ hs' => by
      try dsimp only at hs' ⊢
      have q := hs' (some (.inl 6)) trivial
      rw [itL_s] at q
      generalize itL (fun a h => itL (fun k h => mxL h (figW (μ 102) a k)) 6 h) t z = y at *
      have step : ∀ i, i < 6 → ((fun i : Nat => wpS 248 80 [some (.inr (.inr (some 101))), some (.inl n), some (.inl t), some (.inl i)] [] (S (am_up μ 101 26 (itL (fun k h => mxL h (figW (μ 102) t k)) i y))) Φ) i ↔ (fun i : Nat => wpS 248 80 [some (.inr (.inr (some 101))), some (.inl n), some (.inl t), some (.inl i)] [] (S (am_up μ 101 26 (itL (fun k h => mxL h (figW (μ 102) t k)) i y))) Φ) (i + 1)) := by
        intro i hi
        dsimp only
        rw [itL_s]
        generalize itL (fun k h => mxL h (figW (μ 102) t k)) i y = x at *
        have T := fun Φ => wm_toldOf (LD_up hL 101 26 x (by decide) (by decide)) hB (h := t) (by rw [up_ne _ _ _ (by decide), hn]; exact ht) (i : Int) (by omega) Φ
        rw [up_ne _ _ _ (show ¬ 102 = 101 by decide)] at T
        rw [s1_iff [80] 200]
        simp (disch := omega) [sz_s, sz_0, gx_s, hx_r, hx_c, hx_b, hx_s, hx_i, hx_n, kx_s, kx_n, kx_i, cx_d, up_at, am_ctl, am_step, am_i1, am_i2, am_i2d, am_l1, am_l2, am_l2d, am_ldi, am_ldl, am_lda, am_sti, am_sta, am_stl, am_inc, am_i2l, am_l2i, am_lcmp, am_dup, am_dup2, am_pop1, am_fv, am_getf, am_putf, am_wr, am_ial, am_lal, am_bal, am_aal, am_ias, am_las, am_bas, am_alen, am_inst, am_cast, am_cpm, am_copy, am_tsw, am_pop, am_cat, am_cS, am_cI, am_cV, am_ri, am_rl, am_ra, am_rv, am_b1, am_b2, am_ent, am_en, am_isL, am_st1, am_st2, am_clr, am_cnd, cc_248, ac_248, nL_248, rb_248, ac_248_0, ac_248_1, ac_248_2, np_181, ok_248_181, nL_181, vd_181_12, np_244, ok_248_244, nL_244, vd_244_12, np_247, ok_248_247, nL_247, vd_247_12, tg_12_0, tg_12_1, tg_12_3, tg_12_2, tg_12_5, tg_12_4, tg_12_26, List.getElem?_cons_succ, List.getElem?_cons_zero, nz_of, nzl_of, Int.toNat_add, Int.toNat_mul, tn_l, lt_t, lt_f, le_t, le_f, eq_t, eq_f, ltn_t, ltn_f, len_t, len_f, eqn_t, eqn_f, up_ne, up_up, sh_101, T, hi, MX]
      have s0 := up_iff _ 6 step
      rw [itL_0] at s0
      rw [s1_iff [73, 80] 200]
      simp (disch := omega) [sz_s, sz_0, gx_s, hx_r, hx_c, hx_b, hx_s, hx_i, hx_n, kx_s, kx_n, kx_i, cx_d, up_at, am_ctl, am_step, am_i1, am_i2, am_i2d, am_l1, am_l2, am_l2d, am_ldi, am_ldl, am_lda, am_sti, am_sta, am_stl, am_inc, am_i2l, am_l2i, am_lcmp, am_dup, am_dup2, am_pop1, am_fv, am_getf, am_putf, am_wr, am_ial, am_lal, am_bal, am_aal, am_ias, am_las, am_bas, am_alen, am_inst, am_cast, am_cpm, am_copy, am_tsw, am_pop, am_cat, am_cS, am_cI, am_cV, am_ri, am_rl, am_ra, am_rv, am_b1, am_b2, am_ent, am_en, am_isL, am_st1, am_st2, am_clr, am_cnd, cc_248, ac_248, nL_248, rb_248, ac_248_0, ac_248_1, ac_248_2, np_181, ok_248_181, nL_181, vd_181_12, np_244, ok_248_244, nL_244, vd_244_12, np_247, ok_248_247, nL_247, vd_247_12, tg_12_0, tg_12_1, tg_12_3, tg_12_2, tg_12_5, tg_12_4, tg_12_26, List.getElem?_cons_succ, List.getElem?_cons_zero, nz_of, nzl_of, Int.toNat_add, Int.toNat_mul, tn_l, lt_t, lt_f, le_t, le_f, eq_t, eq_f, ltn_t, ltn_f, len_t, len_f, eqn_t, eqn_f, up_ne, up_up, sh_101, ht]
      refine s0.mpr ?_
      generalize itL (fun k h => mxL h (figW (μ 102) t k)) 6 y = x at *
      rw [s1_iff [73, 80] 200]
      simp (disch := omega) [sz_s, sz_0, gx_s, hx_r, hx_c, hx_b, hx_s, hx_i, hx_n, kx_s, kx_n, kx_i, cx_d, up_at, am_ctl, am_step, am_i1, am_i2, am_i2d, am_l1, am_l2, am_l2d, am_ldi, am_ldl, am_lda, am_sti, am_sta, am_stl, am_inc, am_i2l, am_l2i, am_lcmp, am_dup, am_dup2, am_pop1, am_fv, am_getf, am_putf, am_wr, am_ial, am_lal, am_bal, am_aal, am_ias, am_las, am_bas, am_alen, am_inst, am_cast, am_cpm, am_copy, am_tsw, am_pop, am_cat, am_cS, am_cI, am_cV, am_ri, am_rl, am_ra, am_rv, am_b1, am_b2, am_ent, am_en, am_isL, am_st1, am_st2, am_clr, am_cnd, cc_248, ac_248, nL_248, rb_248, ac_248_0, ac_248_1, ac_248_2, np_181, ok_248_181, nL_181, vd_181_12, np_244, ok_248_244, nL_244, vd_244_12, np_247, ok_248_247, nL_247, vd_247_12, tg_12_0, tg_12_1, tg_12_3, tg_12_2, tg_12_5, tg_12_4, tg_12_26, List.getElem?_cons_succ, List.getElem?_cons_zero, nz_of, nzl_of, Int.toNat_add, Int.toNat_mul, tn_l, lt_t, lt_f, le_t, le_f, eq_t, eq_f, ltn_t, ltn_f, len_t, len_f, eqn_t, eqn_f, up_ne, up_up, sh_101]
      simpa using q) (fun l3 _ => by
      try dsimp only
      have q := k l3
      generalize itL (fun a h => itL (fun k h => mxL h (figW (μ 102) a k)) 6 h) n z = y at *
      rw [s1_iff [73, 111] 200]
      simp (disch := omega) [sz_s, sz_0, gx_s, hx_r, hx_c, hx_b, hx_s, hx_i, hx_n, kx_s, kx_n, kx_i, cx_d, up_at, am_ctl, am_step, am_i1, am_i2, am_i2d, am_l1, am_l2, am_l2d, am_ldi, am_ldl, am_lda, am_sti, am_sta, am_stl, am_inc, am_i2l, am_l2i, am_lcmp, am_dup, am_dup2, am_pop1, am_fv, am_getf, am_putf, am_wr, am_ial, am_lal, am_bal, am_aal, am_ias, am_las, am_bas, am_alen, am_inst, am_cast, am_cpm, am_copy, am_tsw, am_pop, am_cat, am_cS, am_cI, am_cV, am_ri, am_rl, am_ra, am_rv, am_b1, am_b2, am_ent, am_en, am_isL, am_st1, am_st2, am_clr, am_cnd, cc_248, ac_248, nL_248, rb_248, ac_248_0, ac_248_1, ac_248_2, np_181, ok_248_181, nL_181, vd_181_12, np_244, ok_248_244, nL_244, vd_244_12, np_247, ok_248_247, nL_247, vd_247_12, tg_12_0, tg_12_1, tg_12_3, tg_12_2, tg_12_5, tg_12_4, tg_12_26, List.getElem?_cons_succ, List.getElem?_cons_zero, nz_of, nzl_of, Int.toNat_add, Int.toNat_mul, tn_l, lt_t, lt_f, le_t, le_f, eq_t, eq_f, ltn_t, ltn_f, len_t, len_f, eqn_t, eqn_f, up_ne, up_up, sh_101]
      simpa using q) l3 trivial
    rw [itL_0] at outer
    simpa using outer
  -- counts
  have s1 : ∀ t, t < 9 → ((fun t : Nat => wpS 248 9 [some (.inr (.inr (some 101))), some (.inl t), none, none] [] (S (am_up μ 101 26 (itL (fun k h => mxL h (cnC μ k)) t 17))) Φ) t ↔ (fun t : Nat => wpS 248 9 [some (.inr (.inr (some 101))), some (.inl t), none, none] [] (S (am_up μ 101 26 (itL (fun k h => mxL h (cnC μ k)) t 17))) Φ) (t + 1)) := by
    intro t ht
    dsimp only
    rw [itL_s]
    generalize itL (fun k h => mxL h (cnC μ k)) t 17 = x at *
    have C := fun Φ => wm_count (INV_h h x) (t : Int) Φ
    rw [cnC_h] at C
    rw [s1_iff [9] 200]
    simp (disch := omega) [sz_s, sz_0, gx_s, hx_r, hx_c, hx_b, hx_s, hx_i, hx_n, kx_s, kx_n, kx_i, cx_d, up_at, am_ctl, am_step, am_i1, am_i2, am_i2d, am_l1, am_l2, am_l2d, am_ldi, am_ldl, am_lda, am_sti, am_sta, am_stl, am_inc, am_i2l, am_l2i, am_lcmp, am_dup, am_dup2, am_pop1, am_fv, am_getf, am_putf, am_wr, am_ial, am_lal, am_bal, am_aal, am_ias, am_las, am_bas, am_alen, am_inst, am_cast, am_cpm, am_copy, am_tsw, am_pop, am_cat, am_cS, am_cI, am_cV, am_ri, am_rl, am_ra, am_rv, am_b1, am_b2, am_ent, am_en, am_isL, am_st1, am_st2, am_clr, am_cnd, cc_248, ac_248, nL_248, rb_248, ac_248_0, ac_248_1, ac_248_2, np_181, ok_248_181, nL_181, vd_181_12, np_244, ok_248_244, nL_244, vd_244_12, np_247, ok_248_247, nL_247, vd_247_12, tg_12_0, tg_12_1, tg_12_3, tg_12_2, tg_12_5, tg_12_4, tg_12_26, List.getElem?_cons_succ, List.getElem?_cons_zero, nz_of, nzl_of, Int.toNat_add, Int.toNat_mul, tn_l, lt_t, lt_f, le_t, le_f, eq_t, eq_f, ltn_t, ltn_f, len_t, len_f, eqn_t, eqn_f, up_ne, up_up, sh_101, C, ht, MX]
  have t1 := up_iff _ 9 s1
  rw [itL_0] at t1
  clear s1
  unfold dgD dgC dgB dgA lnL at k
  rw [hn] at k
  generalize itL (fun k h => mxL h (cnC μ k)) 9 17 = y at *
  have k2 := c2 _ none (fun l3 => c3 _ l3 (fun l3 => c4 _ l3 (c5 _ l3 (c6 _ l3 (fun l3 => c7 _ l3 k)))))
  clear c2 c3 c4 c5 c6 c7
  have k1 := t1.mpr (by
    rw [s1_iff [9, 73] 200]
    simp (disch := omega) [sz_s, sz_0, gx_s, hx_r, hx_c, hx_b, hx_s, hx_i, hx_n, kx_s, kx_n, kx_i, cx_d, up_at, am_ctl, am_step, am_i1, am_i2, am_i2d, am_l1, am_l2, am_l2d, am_ldi, am_ldl, am_lda, am_sti, am_sta, am_stl, am_inc, am_i2l, am_l2i, am_lcmp, am_dup, am_dup2, am_pop1, am_fv, am_getf, am_putf, am_wr, am_ial, am_lal, am_bal, am_aal, am_ias, am_las, am_bas, am_alen, am_inst, am_cast, am_cpm, am_copy, am_tsw, am_pop, am_cat, am_cS, am_cI, am_cV, am_ri, am_rl, am_ra, am_rv, am_b1, am_b2, am_ent, am_en, am_isL, am_st1, am_st2, am_clr, am_cnd, cc_248, ac_248, nL_248, rb_248, ac_248_0, ac_248_1, ac_248_2, np_181, ok_248_181, nL_181, vd_181_12, np_244, ok_248_244, nL_244, vd_244_12, np_247, ok_248_247, nL_247, vd_247_12, tg_12_0, tg_12_1, tg_12_3, tg_12_2, tg_12_5, tg_12_4, tg_12_26, List.getElem?_cons_succ, List.getElem?_cons_zero, nz_of, nzl_of, Int.toNat_add, Int.toNat_mul, tn_l, lt_t, lt_f, le_t, le_f, eq_t, eq_f, ltn_t, ltn_f, len_t, len_f, eqn_t, eqn_f, up_ne, up_up, sh_101, sh_102, rf_101_0, n0, MX]
    simpa using k2)
  unfold wpM
  rw [s1_iff [9] 200]
  simp (disch := omega) [sz_s, sz_0, gx_s, hx_r, hx_c, hx_b, hx_s, hx_i, hx_n, kx_s, kx_n, kx_i, cx_d, up_at, am_ctl, am_step, am_i1, am_i2, am_i2d, am_l1, am_l2, am_l2d, am_ldi, am_ldl, am_lda, am_sti, am_sta, am_stl, am_inc, am_i2l, am_l2i, am_lcmp, am_dup, am_dup2, am_pop1, am_fv, am_getf, am_putf, am_wr, am_ial, am_lal, am_bal, am_aal, am_ias, am_las, am_bas, am_alen, am_inst, am_cast, am_cpm, am_copy, am_tsw, am_pop, am_cat, am_cS, am_cI, am_cV, am_ri, am_rl, am_ra, am_rv, am_b1, am_b2, am_ent, am_en, am_isL, am_st1, am_st2, am_clr, am_cnd, cc_248, ac_248, nL_248, rb_248, ac_248_0, ac_248_1, ac_248_2, np_181, ok_248_181, nL_181, vd_181_12, np_244, ok_248_244, nL_244, vd_244_12, np_247, ok_248_247, nL_247, vd_247_12, tg_12_0, tg_12_1, tg_12_3, tg_12_2, tg_12_5, tg_12_4, tg_12_26, List.getElem?_cons_succ, List.getElem?_cons_zero, nz_of, nzl_of, Int.toNat_add, Int.toNat_mul, tn_l, lt_t, lt_f, le_t, le_f, eq_t, eq_f, ltn_t, ltn_f, len_t, len_f, eqn_t, eqn_f, up_ne, up_up, sh_101]
  simpa using k1
theorem eq_digest {B : Int} {μ : Nat → Nat → Int} (h : INV B μ) (hB : B ≤ 1000000) : EQV B μ 128 248 [] := by
  unfold EQV
  refine wp_digest h hB _ ⟨_, _, rfl, rfl, ?_⟩
  exact wm_digest h hB _ ⟨rfl, _, rfl, INV_h h _⟩
