/-! the digest: equal on both sides -/
set_option maxHeartbeats 8000000 in
set_option maxRecDepth 100000 in
theorem wm_digest {B : Int} {μ : Nat → Nat → Int} (h : INV B μ) (hB : B ≤ 1000000) (Φ : Option AV → ST → Prop) (k : Φ (some (.inr (.inl (dgD μ)))) (S (am_up μ 101 26 (dgD μ)))) : wpM 248 [.inr (.inr (some 101))] (S μ) Φ := by
  have hL : LD B μ 73 0 := h.2.2.2.1
  have e0 := ld_n hL
  have MX := fun h v Φ => wm_mix μ h v Φ
  obtain ⟨n, hn⟩ : ∃ n, nW (μ 102) = n := ⟨_, rfl⟩
  have n0 : μ 102 0 = n := by rw [e0.2.1, hn]
  -- counts
  have s1 : ∀ t, t < 9 → ((fun t : Nat => wpS 248 9 [some (.inr (.inr (some 101))), some (.inl t), none, none] [] (S (am_up μ 101 26 (itL (fun k h => mxL h (cnC μ k)) t 17))) Φ) t ↔ (fun t : Nat => wpS 248 9 [some (.inr (.inr (some 101))), some (.inl t), none, none] [] (S (am_up μ 101 26 (itL (fun k h => mxL h (cnC μ k)) t 17))) Φ) (t + 1)) := by
    intro t ht
    dsimp only
    rw [itL_s]
    generalize itL (fun k h => mxL h (cnC μ k)) t 17 = x at *
    have C := fun Φ => wm_count (INV_h h x) (t : Int) Φ
    rw [cnC_h] at C
    rw [s1_iff [9] 200]
    simp (disch := omega) [sz_s, sz_0, gx_s, hx_r, hx_c, hx_b, hx_s, hx_i, hx_n, kx_s, kx_n, kx_i, cx_d, up_at, am_ctl, am_step, am_i1, am_i2, am_i2d, am_l1, am_l2, am_l2d, am_ldi, am_ldl, am_lda, am_sti, am_sta, am_stl, am_inc, am_i2l, am_l2i, am_lcmp, am_dup, am_dup2, am_pop1, am_fv, am_getf, am_putf, am_wr, am_ial, am_lal, am_bal, am_aal, am_ias, am_las, am_bas, am_alen, am_inst, am_cast, am_cpm, am_copy, am_tsw, am_pop, am_cat, am_cS, am_cI, am_cV, am_ri, am_rl, am_ra, am_rv, am_b1, am_b2, am_ent, am_en, am_isL, am_st1, am_st2, am_clr, am_cnd, cc_248, ac_248, nL_248, rb_248, ac_248_0, ac_248_1, ac_248_2, np_181, ok_248_181, nL_181, vd_181_12, np_244, ok_248_244, nL_244, vd_244_12, np_247, ok_248_247, nL_247, vd_247_12, tg_12_0, tg_12_1, tg_12_3, tg_12_2, tg_12_5, tg_12_4, tg_12_26, List.getElem?_cons_succ, List.getElem?_cons_zero, nz_of, nzl_of, Int.toNat_add, Int.toNat_mul, tn_l, lt_t, lt_f, le_t, le_f, eq_t, eq_f, ltn_t, ltn_f, len_t, len_f, eqn_t, eqn_f, up_ne, up_up, sh_101, C, ht, MX]
  have t1 := up_iff _ 9 s1
  rw [itL_0] at t1
  clear s1
  unfold dgD dgC dgB dgA lnL at k
  rw [hn] at k
  generalize itL (fun k h => mxL h (cnC μ k)) 9 17 = y at *
  have k2 := md_2 h hB hn Φ _ none (fun l3 => md_3 h hn Φ _ l3 (fun l3 => md_4 h hn Φ _ l3 (md_5 h hn Φ _ l3 (md_6 h hn Φ _ l3 (fun l3 => md_7 h hn Φ _ l3 k)))))
  have k1 := t1.mpr (by
    rw [s1_iff [9, 73] 200]
    simp (disch := omega) [sz_s, sz_0, gx_s, hx_r, hx_c, hx_b, hx_s, hx_i, hx_n, kx_s, kx_n, kx_i, cx_d, up_at, am_ctl, am_step, am_i1, am_i2, am_i2d, am_l1, am_l2, am_l2d, am_ldi, am_ldl, am_lda, am_sti, am_sta, am_stl, am_inc, am_i2l, am_l2i, am_lcmp, am_dup, am_dup2, am_pop1, am_fv, am_getf, am_putf, am_wr, am_ial, am_lal, am_bal, am_aal, am_ias, am_las, am_bas, am_alen, am_inst, am_cast, am_cpm, am_copy, am_tsw, am_pop, am_cat, am_cS, am_cI, am_cV, am_ri, am_rl, am_ra, am_rv, am_b1, am_b2, am_ent, am_en, am_isL, am_st1, am_st2, am_clr, am_cnd, cc_248, ac_248, nL_248, rb_248, ac_248_0, ac_248_1, ac_248_2, np_181, ok_248_181, nL_181, vd_181_12, np_244, ok_248_244, nL_244, vd_244_12, np_247, ok_248_247, nL_247, vd_247_12, tg_12_0, tg_12_1, tg_12_3, tg_12_2, tg_12_5, tg_12_4, tg_12_26, List.getElem?_cons_succ, List.getElem?_cons_zero, nz_of, nzl_of, Int.toNat_add, Int.toNat_mul, tn_l, lt_t, lt_f, le_t, le_f, eq_t, eq_f, ltn_t, ltn_f, len_t, len_f, eqn_t, eqn_f, up_ne, up_up, sh_101, sh_102, rf_101_0, n0, MX]
    simpa using k2)
  unfold wpM
  rw [s1_iff [9] 200]
  simp (disch := omega) [sz_s, sz_0, gx_s, hx_r, hx_c, hx_b, hx_s, hx_i, hx_n, kx_s, kx_n, kx_i, cx_d, up_at, am_ctl, am_step, am_i1, am_i2, am_i2d, am_l1, am_l2, am_l2d, am_ldi, am_ldl, am_lda, am_sti, am_sta, am_stl, am_inc, am_i2l, am_l2i, am_lcmp, am_dup, am_dup2, am_pop1, am_fv, am_getf, am_putf, am_wr, am_ial, am_lal, am_bal, am_aal, am_ias, am_las, am_bas, am_alen, am_inst, am_cast, am_cpm, am_copy, am_tsw, am_pop, am_cat, am_cS, am_cI, am_cV, am_ri, am_rl, am_ra, am_rv, am_b1, am_b2, am_ent, am_en, am_isL, am_st1, am_st2, am_clr, am_cnd, cc_248, ac_248, nL_248, rb_248, ac_248_0, ac_248_1, ac_248_2, np_181, ok_248_181, nL_181, vd_181_12, np_244, ok_248_244, nL_244, vd_244_12, np_247, ok_248_247, nL_247, vd_247_12, tg_12_0, tg_12_1, tg_12_3, tg_12_2, tg_12_5, tg_12_4, tg_12_26, List.getElem?_cons_succ, List.getElem?_cons_zero, nz_of, nzl_of, Int.toNat_add, Int.toNat_mul, tn_l, lt_t, lt_f, le_t, le_f, eq_t, eq_f, ltn_t, ltn_f, len_t, len_f, eqn_t, eqn_f, up_ne, up_up, sh_101]
  simpa using k1
theorem eq_digest {B : Int} {μ : Nat → Nat → Int} (h : INV B μ) (hB : B ≤ 1000000) : EQV B μ 128 248 [] := by
  unfold EQV
  refine wp_digest h hB _ ⟨_, _, rfl, rfl, ?_⟩
  exact wm_digest h hB _ ⟨rfl, _, rfl, INV_h h _⟩
