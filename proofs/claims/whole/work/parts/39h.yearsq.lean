/-! years: equal on both sides -/
set_option maxRecDepth 100000 in
theorem wp_years {B : Int} {μ : Nat → Nat → Int} (h : INV B μ) (hB : B ≤ 900000) (n seed : Int) (Φ : Option AV → ST → Prop) (k1 : ¬ ((1 ≤ n ∧ n ≤ 40) ∧ 1 ≤ seed ∧ seed ≤ 2147483646) → Φ (some (.inl (-1))) (S μ)) (k2 : ((1 ≤ n ∧ n ≤ 40) ∧ 1 ≤ seed ∧ seed ≤ 2147483646) → μ 102 0 < 2 → Φ (some (.inl (-4))) (S μ)) (k3 : ((1 ≤ n ∧ n ≤ 40) ∧ 1 ≤ seed ∧ seed ≤ 2147483646) → 2 ≤ μ 102 0 → Φ (some (.inl (dJ μ seed (nW (μ 102)) n.toNat))) (S (mix (yJ μ seed (nW (μ 102)) n.toNat) μ))) : wpM 121 [.inr (.inr (some 0)), .inl n, .inl seed] (S μ) Φ := by
  have hL : LD B μ 73 0 := h.2.2.2.1
  have e0 := (ld_n hL).1
  have e1 := (ld_n hL).2.1
  have e8 := (ld_n hL).2.2
  unfold wpM
  by_cases v : (1 ≤ n ∧ n ≤ 40) ∧ 1 ≤ seed ∧ seed ≤ 2147483646
  · by_cases c : μ 102 0 < 2
    · rw [s1_iff [50] 200]
      simp (disch := omega) [sz_s, sz_0, gx_s, hx_r, hx_c, hx_b, hx_s, hx_i, hx_n, kx_s, kx_n, kx_i, cx_d, up_at, am_ctl, am_step, am_i1, am_i2, am_i2d, am_l1, am_l2, am_l2d, am_ldi, am_ldl, am_lda, am_sti, am_sta, am_stl, am_inc, am_i2l, am_l2i, am_lcmp, am_dup, am_dup2, am_pop1, am_fv, am_getf, am_putf, am_wr, am_ial, am_lal, am_bal, am_aal, am_ias, am_las, am_bas, am_alen, am_inst, am_cast, am_cpm, am_copy, am_tsw, am_pop, am_cat, am_cS, am_cI, am_cV, am_ri, am_rl, am_ra, am_rv, am_b1, am_b2, am_ent, am_en, am_isL, am_st1, am_st2, am_clr, am_cnd, cc_121, ac_121, nL_121, rb_121, np_148, ok_121_148, nL_148, vd_148_11, tg_11_2, tg_4_7, List.getElem?_cons_succ, List.getElem?_cons_zero, nz_of, nzl_of, Int.toNat_add, Int.toNat_mul, tn_l, lt_t, lt_f, le_t, le_f, eq_t, eq_f, ltn_t, ltn_f, len_t, len_f, eqn_t, eqn_f, up_ne, up_up, sh_0, rf_0_2, sh_73, e0, am_cmp]
      exact k2 v c
    · have k3 := k3 v (by omega)
      obtain ⟨m, rfl⟩ : ∃ m : Nat, n = m := ⟨n.toNat, by omega⟩
      rw [Int.toNat_natCast] at k3
      generalize hN : nW (μ 102) = N at *
      have h2 : 2 ≤ N := by omega
      have key := up_to (fun (j : Nat) (s : Option AV) => wpS 121 50 [some (.inr (.inr (some 0))), some (.inl m), some (.inl seed), some (.inl (dJ μ seed N j)), some (.inr (.inl (ltJ seed j))), none, some (.inl j), s] [] (S (mix (yJ μ seed N j) μ)) Φ) (fun _ _ => True) m (fun j s hj _ hs' => by
        try dsimp only at hs' ⊢
        obtain ⟨i1, i2, i3, i4⟩ := yJ_inv h v.2 h2 (by omega) j
        have hr := hJ_rng v.2 h2 j
        have sr := sJ_rng v.2 j
        have lr := ltJ_rng v.2 j
        have lr1 := ltJ_rng v.2 (j + 1)
        have t1 : (48271 * ltJ seed j).tmod 2147483647 = ltJ seed (j + 1) := rfl
        have t2 : ((ltJ seed (j + 1)).tdiv 64).tmod 4 = sJ seed j := rfl
        have hC := CR_mix μ (CR_of i1 (by omega))
        have e73 : mix (yJ μ seed N j) μ 73 7 = N := by
          rw [mix_lo _ _ _ (by decide), (ld_0 (show LD _ _ 73 0 from i1.2.2.2.1)).1]; exact i2
        have e73' : yJ μ seed N j 73 7 = N := by rw [(ld_0 (show LD _ _ 73 0 from i1.2.2.2.1)).1]; exact i2
        have P := wp_happens hC sr (hJ seed N j) N e73 hr.2 h2
        have d0 : 0 ≤ (ltJ seed (j + 1)).tdiv 64 := Int.tdiv_nonneg (by omega) (by decide)
        have d1 : (ltJ seed (j + 1)).tdiv 64 ≤ ltJ seed (j + 1) := Int.tdiv_le_self _ (by omega)
        rw [cJ_mix, xJ_mix] at P
        have N0 : ¬ ((N : Int) = 0) := by omega
        by_cases cc : cJ (yJ μ seed N j) (sJ seed j) (hJ seed N j) (nxJ N (hJ seed N j)) = true
        · simp only [if_pos cc] at P
          have q := hs' (some (.inl (hJ seed N j))) trivial
          rw [dJ, if_pos cc, yJ, if_pos cc, mJ_mil] at q
          rw [s1_iff [50] 200]
          simp (disch := omega) [sz_s, sz_0, gx_s, hx_r, hx_c, hx_b, hx_s, hx_i, hx_n, kx_s, kx_n, kx_i, cx_d, up_at, am_ctl, am_step, am_i1, am_i2, am_i2d, am_l1, am_l2, am_l2d, am_ldi, am_ldl, am_lda, am_sti, am_sta, am_stl, am_inc, am_i2l, am_l2i, am_lcmp, am_dup, am_dup2, am_pop1, am_fv, am_getf, am_putf, am_wr, am_ial, am_lal, am_bal, am_aal, am_ias, am_las, am_bas, am_alen, am_inst, am_cast, am_cpm, am_copy, am_tsw, am_pop, am_cat, am_cS, am_cI, am_cV, am_ri, am_rl, am_ra, am_rv, am_b1, am_b2, am_ent, am_en, am_isL, am_st1, am_st2, am_clr, am_cnd, cc_121, ac_121, nL_121, rb_121, np_148, ok_121_148, nL_148, vd_148_11, tg_11_2, tg_4_7, List.getElem?_cons_succ, List.getElem?_cons_zero, nz_of, nzl_of, Int.toNat_add, Int.toNat_mul, tn_l, lt_t, lt_f, le_t, le_f, eq_t, eq_f, ltn_t, ltn_f, len_t, len_f, eqn_t, eqn_f, up_ne, up_up, sh_0, rf_0_2, sh_73, e73, e73', t1, t2, hr.1, N0, P]
          simpa using q
        · simp only [if_neg cc] at P
          have q := hs' (some (.inl (hJ seed N j))) trivial
          rw [dJ, if_neg cc, yJ, if_neg cc] at q
          rw [s1_iff [50] 200]
          simp (disch := omega) [sz_s, sz_0, gx_s, hx_r, hx_c, hx_b, hx_s, hx_i, hx_n, kx_s, kx_n, kx_i, cx_d, up_at, am_ctl, am_step, am_i1, am_i2, am_i2d, am_l1, am_l2, am_l2d, am_ldi, am_ldl, am_lda, am_sti, am_sta, am_stl, am_inc, am_i2l, am_l2i, am_lcmp, am_dup, am_dup2, am_pop1, am_fv, am_getf, am_putf, am_wr, am_ial, am_lal, am_bal, am_aal, am_ias, am_las, am_bas, am_alen, am_inst, am_cast, am_cpm, am_copy, am_tsw, am_pop, am_cat, am_cS, am_cI, am_cV, am_ri, am_rl, am_ra, am_rv, am_b1, am_b2, am_ent, am_en, am_isL, am_st1, am_st2, am_clr, am_cnd, cc_121, ac_121, nL_121, rb_121, np_148, ok_121_148, nL_148, vd_148_11, tg_11_2, tg_4_7, List.getElem?_cons_succ, List.getElem?_cons_zero, nz_of, nzl_of, Int.toNat_add, Int.toNat_mul, tn_l, lt_t, lt_f, le_t, le_f, eq_t, eq_f, ltn_t, ltn_f, len_t, len_f, eqn_t, eqn_f, up_ne, up_up, sh_0, rf_0_2, sh_73, e73, e73', t1, t2, hr.1, N0, P]
          simpa using q) (fun s _ => by
        try dsimp only
        rw [s1_iff [50] 200]
        simp (disch := omega) [sz_s, sz_0, gx_s, hx_r, hx_c, hx_b, hx_s, hx_i, hx_n, kx_s, kx_n, kx_i, cx_d, up_at, am_ctl, am_step, am_i1, am_i2, am_i2d, am_l1, am_l2, am_l2d, am_ldi, am_ldl, am_lda, am_sti, am_sta, am_stl, am_inc, am_i2l, am_l2i, am_lcmp, am_dup, am_dup2, am_pop1, am_fv, am_getf, am_putf, am_wr, am_ial, am_lal, am_bal, am_aal, am_ias, am_las, am_bas, am_alen, am_inst, am_cast, am_cpm, am_copy, am_tsw, am_pop, am_cat, am_cS, am_cI, am_cV, am_ri, am_rl, am_ra, am_rv, am_b1, am_b2, am_ent, am_en, am_isL, am_st1, am_st2, am_clr, am_cnd, cc_121, ac_121, nL_121, rb_121, np_148, ok_121_148, nL_148, vd_148_11, tg_11_2, tg_4_7, List.getElem?_cons_succ, List.getElem?_cons_zero, nz_of, nzl_of, Int.toNat_add, Int.toNat_mul, tn_l, lt_t, lt_f, le_t, le_f, eq_t, eq_f, ltn_t, ltn_f, len_t, len_f, eqn_t, eqn_f, up_ne, up_up, sh_0, rf_0_2, sh_73]
        exact k3) none trivial
      try dsimp only at key
      rw [yJ, mix_same] at key
      rw [s1_iff [50] 200]
      simp (disch := omega) [sz_s, sz_0, gx_s, hx_r, hx_c, hx_b, hx_s, hx_i, hx_n, kx_s, kx_n, kx_i, cx_d, up_at, am_ctl, am_step, am_i1, am_i2, am_i2d, am_l1, am_l2, am_l2d, am_ldi, am_ldl, am_lda, am_sti, am_sta, am_stl, am_inc, am_i2l, am_l2i, am_lcmp, am_dup, am_dup2, am_pop1, am_fv, am_getf, am_putf, am_wr, am_ial, am_lal, am_bal, am_aal, am_ias, am_las, am_bas, am_alen, am_inst, am_cast, am_cpm, am_copy, am_tsw, am_pop, am_cat, am_cS, am_cI, am_cV, am_ri, am_rl, am_ra, am_rv, am_b1, am_b2, am_ent, am_en, am_isL, am_st1, am_st2, am_clr, am_cnd, cc_121, ac_121, nL_121, rb_121, np_148, ok_121_148, nL_148, vd_148_11, tg_11_2, tg_4_7, List.getElem?_cons_succ, List.getElem?_cons_zero, nz_of, nzl_of, Int.toNat_add, Int.toNat_mul, tn_l, lt_t, lt_f, le_t, le_f, eq_t, eq_f, ltn_t, ltn_f, len_t, len_f, eqn_t, eqn_f, up_ne, up_up, sh_0, rf_0_2, sh_73, e0, am_cmp]
      exact key
  · by_cases a1 : n < 1
    · rw [s1_iff [50] 200]
      simp (disch := omega) [sz_s, sz_0, gx_s, hx_r, hx_c, hx_b, hx_s, hx_i, hx_n, kx_s, kx_n, kx_i, cx_d, up_at, am_ctl, am_step, am_i1, am_i2, am_i2d, am_l1, am_l2, am_l2d, am_ldi, am_ldl, am_lda, am_sti, am_sta, am_stl, am_inc, am_i2l, am_l2i, am_lcmp, am_dup, am_dup2, am_pop1, am_fv, am_getf, am_putf, am_wr, am_ial, am_lal, am_bal, am_aal, am_ias, am_las, am_bas, am_alen, am_inst, am_cast, am_cpm, am_copy, am_tsw, am_pop, am_cat, am_cS, am_cI, am_cV, am_ri, am_rl, am_ra, am_rv, am_b1, am_b2, am_ent, am_en, am_isL, am_st1, am_st2, am_clr, am_cnd, cc_121, ac_121, nL_121, rb_121, np_148, ok_121_148, nL_148, vd_148_11, tg_11_2, tg_4_7, List.getElem?_cons_succ, List.getElem?_cons_zero, nz_of, nzl_of, Int.toNat_add, Int.toNat_mul, tn_l, lt_t, lt_f, le_t, le_f, eq_t, eq_f, ltn_t, ltn_f, len_t, len_f, eqn_t, eqn_f, up_ne, up_up, sh_0, rf_0_2, sh_73, e0, am_cmp]
      exact k1 v
    · by_cases a2 : 40 < n
      · rw [s1_iff [50] 200]
        simp (disch := omega) [sz_s, sz_0, gx_s, hx_r, hx_c, hx_b, hx_s, hx_i, hx_n, kx_s, kx_n, kx_i, cx_d, up_at, am_ctl, am_step, am_i1, am_i2, am_i2d, am_l1, am_l2, am_l2d, am_ldi, am_ldl, am_lda, am_sti, am_sta, am_stl, am_inc, am_i2l, am_l2i, am_lcmp, am_dup, am_dup2, am_pop1, am_fv, am_getf, am_putf, am_wr, am_ial, am_lal, am_bal, am_aal, am_ias, am_las, am_bas, am_alen, am_inst, am_cast, am_cpm, am_copy, am_tsw, am_pop, am_cat, am_cS, am_cI, am_cV, am_ri, am_rl, am_ra, am_rv, am_b1, am_b2, am_ent, am_en, am_isL, am_st1, am_st2, am_clr, am_cnd, cc_121, ac_121, nL_121, rb_121, np_148, ok_121_148, nL_148, vd_148_11, tg_11_2, tg_4_7, List.getElem?_cons_succ, List.getElem?_cons_zero, nz_of, nzl_of, Int.toNat_add, Int.toNat_mul, tn_l, lt_t, lt_f, le_t, le_f, eq_t, eq_f, ltn_t, ltn_f, len_t, len_f, eqn_t, eqn_f, up_ne, up_up, sh_0, rf_0_2, sh_73, e0, am_cmp]
        exact k1 v
      · by_cases a3 : seed < 1
        · rw [s1_iff [50] 200]
          simp (disch := omega) [sz_s, sz_0, gx_s, hx_r, hx_c, hx_b, hx_s, hx_i, hx_n, kx_s, kx_n, kx_i, cx_d, up_at, am_ctl, am_step, am_i1, am_i2, am_i2d, am_l1, am_l2, am_l2d, am_ldi, am_ldl, am_lda, am_sti, am_sta, am_stl, am_inc, am_i2l, am_l2i, am_lcmp, am_dup, am_dup2, am_pop1, am_fv, am_getf, am_putf, am_wr, am_ial, am_lal, am_bal, am_aal, am_ias, am_las, am_bas, am_alen, am_inst, am_cast, am_cpm, am_copy, am_tsw, am_pop, am_cat, am_cS, am_cI, am_cV, am_ri, am_rl, am_ra, am_rv, am_b1, am_b2, am_ent, am_en, am_isL, am_st1, am_st2, am_clr, am_cnd, cc_121, ac_121, nL_121, rb_121, np_148, ok_121_148, nL_148, vd_148_11, tg_11_2, tg_4_7, List.getElem?_cons_succ, List.getElem?_cons_zero, nz_of, nzl_of, Int.toNat_add, Int.toNat_mul, tn_l, lt_t, lt_f, le_t, le_f, eq_t, eq_f, ltn_t, ltn_f, len_t, len_f, eqn_t, eqn_f, up_ne, up_up, sh_0, rf_0_2, sh_73, e0, am_cmp]
          exact k1 v
        · rw [s1_iff [50] 200]
          simp (disch := omega) [sz_s, sz_0, gx_s, hx_r, hx_c, hx_b, hx_s, hx_i, hx_n, kx_s, kx_n, kx_i, cx_d, up_at, am_ctl, am_step, am_i1, am_i2, am_i2d, am_l1, am_l2, am_l2d, am_ldi, am_ldl, am_lda, am_sti, am_sta, am_stl, am_inc, am_i2l, am_l2i, am_lcmp, am_dup, am_dup2, am_pop1, am_fv, am_getf, am_putf, am_wr, am_ial, am_lal, am_bal, am_aal, am_ias, am_las, am_bas, am_alen, am_inst, am_cast, am_cpm, am_copy, am_tsw, am_pop, am_cat, am_cS, am_cI, am_cV, am_ri, am_rl, am_ra, am_rv, am_b1, am_b2, am_ent, am_en, am_isL, am_st1, am_st2, am_clr, am_cnd, cc_121, ac_121, nL_121, rb_121, np_148, ok_121_148, nL_148, vd_148_11, tg_11_2, tg_4_7, List.getElem?_cons_succ, List.getElem?_cons_zero, nz_of, nzl_of, Int.toNat_add, Int.toNat_mul, tn_l, lt_t, lt_f, le_t, le_f, eq_t, eq_f, ltn_t, ltn_f, len_t, len_f, eqn_t, eqn_f, up_ne, up_up, sh_0, rf_0_2, sh_73, e0, am_cmp]
          exact k1 v
