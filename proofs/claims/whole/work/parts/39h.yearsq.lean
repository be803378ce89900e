/-! years: equal on both sides -/
set_option maxRecDepth 100000 in
theorem wp_years {B : Int} {μ : Nat → Nat → Int} (h : INV B μ) (hB : B ≤ 900000) (n seed : Int) (Φ : Option AV → ST → Prop) (k1 : ¬ ((1 ≤ n ∧ n ≤ 40) ∧ 1 ≤ seed ∧ seed ≤ 2147483646) → Φ (some (.inl (-1))) (S μ)) (k2 : ((1 ≤ n ∧ n ≤ 40) ∧ 1 ≤ seed ∧ seed ≤ 2147483646) → μ 102 0 < 2 → Φ (some (.inl (-4))) (S μ)) (k3 : ((1 ≤ n ∧ n ≤ 40) ∧ 1 ≤ seed ∧ seed ≤ 2147483646) → 2 ≤ μ 102 0 → Φ (some (.inl (dJ μ seed (nW (μ 102)) n.toNat))) (S (mix (yJ μ seed (nW (μ 102)) n.toNat) μ))) : wpM 121 [.inr (.inr (some 0)), .inl n, .inl seed] (S μ) Φ := by
  have hL : LD B μ 73 0 := h.2.2.2.1
  have e0 := (ld_n hL).1
  have e1 := (ld_n hL).2.1
  have e8 := (ld_n hL).2.2
  unfold wpM
  by_cases v : (1 ≤ n ∧ n ≤ 40) ∧ 1 ≤ seed ∧ seed ≤ 2147483646
  · by_cases c : μ 102 0 < 2
    · rw [s1_iff [50] 200]
      simp (disch := omega) [sz_s, sz_0, gx_s, hx_r, hx_c, hx_b, hx_s, hx_i, hx_n, kx_s, kx_n, kx_i, cx_d, up_at, am_ctl, am_step, am_i1, am_i2, am_i2d, am_l1, am_l2, am_l2d, am_ldi, am_ldl, am_lda, am_sti, am_sta, am_stl, am_inc, am_i2l, am_l2i, am_lcmp, am_dup, am_dup2, am_pop1, am_fv, am_getf, am_putf, am_wr, am_ial, am_lal, am_bal, am_aal, am_ias, am_las, am_bas, am_alen, am_inst, am_cast, am_cpm, am_copy, am_tsw, am_pop, am_cat, am_cS, am_cI, am_cV, am_ri, am_rl, am_ra, am_rv, am_b1, am_b2, am_ent, am_en, am_isL, am_st1, am_st2, am_clr, am_cnd, cc_121, ac_121, nL_121, rb_121, np_148, ok_121_148, nL_148, vd_148_11, tg_11_2, tg_4_7, List.getElem?_cons_succ, List.getElem?_cons_zero, nz_of, nzl_of, Int.toNat_add, Int.toNat_mul, tn_l, lt_t, lt_f, le_t, le_f, eq_t, eq_f, ltn_t, ltn_f, len_t, len_f, eqn_t, eqn_f, up_ne, up_up, sh_0, rf_0_2, sh_73, e0, am_cmp]
      exact k2 v c
    · have k3 := k3 v (by omega)
      obtain ⟨m, rfl⟩ : ∃ m : Nat, n = m := ⟨n.toNat, by omega⟩
      rw [Int.toNat_natCast] at k3
      generalize hN : nW (μ 102) = N at *
      have h2 : 2 ≤ N := by omega
      have key := up_to (fun (j : Nat) (s : Option AV) => wpS 121 50 [some (.inr (.inr (some 0))), some (.inl m), some (.inl seed), some (.inl (dJ μ seed N j)), some (.inr (.inl (ltJ seed j))), none, some (.inl j), s] [] (S (mix (yJ μ seed N j) μ)) Φ) (fun _ _ => True) m (fun j s hj _ hs' => by
        try dsimp only at hs' ⊢
        obtain ⟨i1, i2, i3, i4⟩ := yJ_inv h v.2 h2 (by omega) j
        have hr := hJ_rng v.2 h2 j
        have sr := sJ_rng v.2 j
        have lr := ltJ_rng v.2 j
        have lr1 := ltJ_rng v.2 (j + 1)
        have t1 : (48271 * ltJ seed j).tmod 2147483647 = ltJ seed (j + 1) := rfl
        have t2 : ((ltJ seed (j + 1)).tdiv 64).tmod 4 = sJ seed j := rfl
        have hC := CR_mix μ (CR_of i1 (by omega))
        have e73 : mix (yJ μ seed N j) μ 73 7 = N := by
          rw [mix_lo _ _ _ (by decide), (ld_0 (show LD _ _ 73 0 from i1.2.2.2.1)).1]; exact i2
        have e73' : yJ μ seed N j 73 7 = N := by rw [(ld_0 (show LD _ _ 73 0 from i1.2.2.2.1)).1]; exact i2
        have P := wp_happens hC sr (hJ seed N j) N e73 hr.2 h2
        have d0 : 0 ≤ (ltJ seed (j + 1)).tdiv 64 := Int.tdiv_nonneg (by omega) (by decide)
        have d1 : (ltJ seed (j + 1)).tdiv 64 ≤ ltJ seed (j + 1) := Int.tdiv_le_self _ (by omega)
        rw [cJ_mix, xJ_mix] at P
        have N0 : ¬ ((N : Int) = 0) := by omega
        by_cases cc : cJ (yJ μ seed N j) (sJ seed j) (hJ seed N j) (nxJ N (hJ seed N j)) = true
        · simp only [if_pos cc] at P
          have q := hs' (some (.inl (hJ seed N j))) trivial
          rw [dJ, if_pos cc, yJ, if_pos cc, mJ_mil] at q
          rw [s1_iff [50] 200]
          simp (disch := omega) [sz_s, sz_0, gx_s, hx_r, hx_c, hx_b, hx_s, hx_i, hx_n, kx_s, kx_n, kx_i, cx_d, up_at, am_ctl, am_step, am_i1, am_i2, am_i2d, am_l1, am_l2, am_l2d, am_ldi, am_ldl, am_lda, am_sti, am_sta, am_stl, am_inc, am_i2l, am_l2i, am_lcmp, am_dup, am_dup2, am_pop1, am_fv, am_getf, am_putf, am_wr, am_ial, am_lal, am_bal, am_aal, am_ias, am_las, am_bas, am_alen, am_inst, am_cast, am_cpm, am_copy, am_tsw, am_pop, am_cat, am_cS, am_cI, am_cV, am_ri, am_rl, am_ra, am_rv, am_b1, am_b2, am_ent, am_en, am_isL, am_st1, am_st2, am_clr, am_cnd, cc_121, ac_121, nL_121, rb_121, np_148, ok_121_148, nL_148, vd_148_11, tg_11_2, tg_4_7, List.getElem?_cons_succ, List.getElem?_cons_zero, nz_of, nzl_of, Int.toNat_add, Int.toNat_mul, tn_l, lt_t, lt_f, le_t, le_f, eq_t, eq_f, ltn_t, ltn_f, len_t, len_f, eqn_t, eqn_f, up_ne, up_up, sh_0, rf_0_2, sh_73, e73, e73', t1, t2, hr.1, N0, P]
          simpa using q
        · simp only [if_neg cc] at P
          have q := hs' (some (.inl (hJ seed N j))) trivial
          rw [dJ, if_neg cc, yJ, if_neg cc] at q
          rw [s1_iff [50] 200]
          simp (disch := omega) [sz_s, sz_0, gx_s, hx_r, hx_c, hx_b, hx_s, hx_i, hx_n, kx_s, kx_n, kx_i, cx_d, up_at, am_ctl, am_step, am_i1, am_i2, am_i2d, am_l1, am_l2, am_l2d, am_ldi, am_ldl, am_lda, am_sti, am_sta, am_stl, am_inc, am_i2l, am_l2i, am_lcmp, am_dup, am_dup2, am_pop1, am_fv, am_getf, am_putf, am_wr, am_ial, am_lal, am_bal, am_aal, am_ias, am_las, am_bas, am_alen, am_inst, am_cast, am_cpm, am_copy, am_tsw, am_pop, am_cat, am_cS, am_cI, am_cV, am_ri, am_rl, am_ra, am_rv, am_b1, am_b2, am_ent, am_en, am_isL, am_st1, am_st2, am_clr, am_cnd, cc_121, ac_121, nL_121, rb_121, np_148, ok_121_148, nL_148, vd_148_11, tg_11_2, tg_4_7, List.getElem?_cons_succ, List.getElem?_cons_zero, nz_of, nzl_of, Int.toNat_add, Int.toNat_mul, tn_l, lt_t, lt_f, le_t, le_f, eq_t, eq_f, ltn_t, ltn_f, len_t, len_f, eqn_t, eqn_f, up_ne, up_up, sh_0, rf_0_2, sh_73, e73, e73', t1, t2, hr.1, N0, P]
          simpa using q) (fun s _ => by
        try dsimp only
        rw [s1_iff [50] 200]
        simp (disch := omega) [sz_s, sz_0, gx_s, hx_r, hx_c, hx_b, hx_s, hx_i, hx_n, kx_s, kx_n, kx_i, cx_d, up_at, am_ctl, am_step, am_i1, am_i2, am_i2d, am_l1, am_l2, am_l2d, am_ldi, am_ldl, am_lda, am_sti, am_sta, am_stl, am_inc, am_i2l, am_l2i, am_lcmp, am_dup, am_dup2, am_pop1, am_fv, am_getf, am_putf, am_wr, am_ial, am_lal, am_bal, am_aal, am_ias, am_las, am_bas, am_alen, am_inst, am_cast, am_cpm, am_copy, am_tsw, am_pop, am_cat, am_cS, am_cI, am_cV, am_ri, am_rl, am_ra, am_rv, am_b1, am_b2, am_ent, am_en, am_isL, am_st1, am_st2, am_clr, am_cnd, cc_121, ac_121, nL_121, rb_121, np_148, ok_121_148, nL_148, vd_148_11, tg_11_2, tg_4_7, List.getElem?_cons_succ, List.getElem?_cons_zero, nz_of, nzl_of, Int.toNat_add, Int.toNat_mul, tn_l, lt_t, lt_f, le_t, le_f, eq_t, eq_f, ltn_t, ltn_f, len_t, len_f, eqn_t, eqn_f, up_ne, up_up, sh_0, rf_0_2, sh_73]
        exact k3) none trivial
      try dsimp only at key
      rw [yJ, mix_same] at key
      rw [s1_iff [50] 200]
      simp (disch := omega) [sz_s, sz_0, gx_s, hx_r, hx_c, hx_b, hx_s, hx_i, hx_n, kx_s, kx_n, kx_i, cx_d, up_at, am_ctl, am_step, am_i1, am_i2, am_i2d, am_l1, am_l2, am_l2d, am_ldi, am_ldl, am_lda, am_sti, am_sta, am_stl, am_inc, am_i2l, am_l2i, am_lcmp, am_dup, am_dup2, am_pop1, am_fv, am_getf, am_putf, am_wr, am_ial, am_lal, am_bal, am_aal, am_ias, am_las, am_bas, am_alen, am_inst, am_cast, am_cpm, am_copy, am_tsw, am_pop, am_cat, am_cS, am_cI, am_cV, am_ri, am_rl, am_ra, am_rv, am_b1, am_b2, am_ent, am_en, am_isL, am_st1, am_st2, am_clr, am_cnd, cc_121, ac_121, nL_121, rb_121, np_148, ok_121_148, nL_148, vd_148_11, tg_11_2, tg_4_7, List.getElem?_cons_succ, List.getElem?_cons_zero, nz_of, nzl_of, Int.toNat_add, Int.toNat_mul, tn_l, lt_t, lt_f, le_t, le_f, eq_t, eq_f, ltn_t, ltn_f, len_t, len_f, eqn_t, eqn_f, up_ne, up_up, sh_0, rf_0_2, sh_73, e0, am_cmp]
      exact key
  · by_cases a1 : n < 1
    · rw [s1_iff [50] 200]
      simp (disch := omega) [sz_s, sz_0, gx_s, hx_r, hx_c, hx_b, hx_s, hx_i, hx_n, kx_s, kx_n, kx_i, cx_d, up_at, am_ctl, am_step, am_i1, am_i2, am_i2d, am_l1, am_l2, am_l2d, am_ldi, am_ldl, am_lda, am_sti, am_sta, am_stl, am_inc, am_i2l, am_l2i, am_lcmp, am_dup, am_dup2, am_pop1, am_fv, am_getf, am_putf, am_wr, am_ial, am_lal, am_bal, am_aal, am_ias, am_las, am_bas, am_alen, am_inst, am_cast, am_cpm, am_copy, am_tsw, am_pop, am_cat, am_cS, am_cI, am_cV, am_ri, am_rl, am_ra, am_rv, am_b1, am_b2, am_ent, am_en, am_isL, am_st1, am_st2, am_clr, am_cnd, cc_121, ac_121, nL_121, rb_121, np_148, ok_121_148, nL_148, vd_148_11, tg_11_2, tg_4_7, List.getElem?_cons_succ, List.getElem?_cons_zero, nz_of, nzl_of, Int.toNat_add, Int.toNat_mul, tn_l, lt_t, lt_f, le_t, le_f, eq_t, eq_f, ltn_t, ltn_f, len_t, len_f, eqn_t, eqn_f, up_ne, up_up, sh_0, rf_0_2, sh_73, e0, am_cmp]
      exact k1 v
    · by_cases a2 : 40 < n
      · rw [s1_iff [50] 200]
        simp (disch := omega) [sz_s, sz_0, gx_s, hx_r, hx_c, hx_b, hx_s, hx_i, hx_n, kx_s, kx_n, kx_i, cx_d, up_at, am_ctl, am_step, am_i1, am_i2, am_i2d, am_l1, am_l2, am_l2d, am_ldi, am_ldl, am_lda, am_sti, am_sta, am_stl, am_inc, am_i2l, am_l2i, am_lcmp, am_dup, am_dup2, am_pop1, am_fv, am_getf, am_putf, am_wr, am_ial, am_lal, am_bal, am_aal, am_ias, am_las, am_bas, am_alen, am_inst, am_cast, am_cpm, am_copy, am_tsw, am_pop, am_cat, am_cS, am_cI, am_cV, am_ri, am_rl, am_ra, am_rv, am_b1, am_b2, am_ent, am_en, am_isL, am_st1, am_st2, am_clr, am_cnd, cc_121, ac_121, nL_121, rb_121, np_148, ok_121_148, nL_148, vd_148_11, tg_11_2, tg_4_7, List.getElem?_cons_succ, List.getElem?_cons_zero, nz_of, nzl_of, Int.toNat_add, Int.toNat_mul, tn_l, lt_t, lt_f, le_t, le_f, eq_t, eq_f, ltn_t, ltn_f, len_t, len_f, eqn_t, eqn_f, up_ne, up_up, sh_0, rf_0_2, sh_73, e0, am_cmp]
        exact k1 v
      · by_cases a3 : seed < 1
        · rw [s1_iff [50] 200]
          simp (disch := omega) [sz_s, sz_0, gx_s, hx_r, hx_c, hx_b, hx_s, hx_i, hx_n, kx_s, kx_n, kx_i, cx_d, up_at, am_ctl, am_step, am_i1, am_i2, am_i2d, am_l1, am_l2, am_l2d, am_ldi, am_ldl, am_lda, am_sti, am_sta, am_stl, am_inc, am_i2l, am_l2i, am_lcmp, am_dup, am_dup2, am_pop1, am_fv, am_getf, am_putf, am_wr, am_ial, am_lal, am_bal, am_aal, am_ias, am_las, am_bas, am_alen, am_inst, am_cast, am_cpm, am_copy, am_tsw, am_pop, am_cat, am_cS, am_cI, am_cV, am_ri, am_rl, am_ra, am_rv, am_b1, am_b2, am_ent, am_en, am_isL, am_st1, am_st2, am_clr, am_cnd, cc_121, ac_121, nL_121, rb_121, np_148, ok_121_148, nL_148, vd_148_11, tg_11_2, tg_4_7, List.getElem?_cons_succ, List.getElem?_cons_zero, nz_of, nzl_of, Int.toNat_add, Int.toNat_mul, tn_l, lt_t, lt_f, le_t, le_f, eq_t, eq_f, ltn_t, ltn_f, len_t, len_f, eqn_t, eqn_f, up_ne, up_up, sh_0, rf_0_2, sh_73, e0, am_cmp]
          exact k1 v
        · rw [s1_iff [50] 200]
          simp (disch := omega) [sz_s, sz_0, gx_s, hx_r, hx_c, hx_b, hx_s, hx_i, hx_n, kx_s, kx_n, kx_i, cx_d, up_at, am_ctl, am_step, am_i1, am_i2, am_i2d, am_l1, am_l2, am_l2d, am_ldi, am_ldl, am_lda, am_sti, am_sta, am_stl, am_inc, am_i2l, am_l2i, am_lcmp, am_dup, am_dup2, am_pop1, am_fv, am_getf, am_putf, am_wr, am_ial, am_lal, am_bal, am_aal, am_ias, am_las, am_bas, am_alen, am_inst, am_cast, am_cpm, am_copy, am_tsw, am_pop, am_cat, am_cS, am_cI, am_cV, am_ri, am_rl, am_ra, am_rv, am_b1, am_b2, am_ent, am_en, am_isL, am_st1, am_st2, am_clr, am_cnd, cc_121, ac_121, nL_121, rb_121, np_148, ok_121_148, nL_148, vd_148_11, tg_11_2, tg_4_7, List.getElem?_cons_succ, List.getElem?_cons_zero, nz_of, nzl_of, Int.toNat_add, Int.toNat_mul, tn_l, lt_t, lt_f, le_t, le_f, eq_t, eq_f, ltn_t, ltn_f, len_t, len_f, eqn_t, eqn_f, up_ne, up_up, sh_0, rf_0_2, sh_73, e0, am_cmp]
          exact k1 v
set_option maxHeartbeats 16000000 in
set_option maxRecDepth 100000 in
theorem wm_years {B : Int} {μ : Nat → Nat → Int} (h : INV B μ) (hB : B ≤ 900000) (X : Nat → Nat → Int) (n seed : Int) (Φ : Option AV → ST → Prop) (k1 : ¬ ((1 ≤ n ∧ n ≤ 40) ∧ 1 ≤ seed ∧ seed ≤ 2147483646) → Φ (some (.inl (-1))) (S (mix X μ))) (k2 : ((1 ≤ n ∧ n ≤ 40) ∧ 1 ≤ seed ∧ seed ≤ 2147483646) → μ 102 0 < 2 → Φ (some (.inl (-4))) (S (mix X μ))) (k3 : ((1 ≤ n ∧ n ≤ 40) ∧ 1 ≤ seed ∧ seed ≤ 2147483646) → 2 ≤ μ 102 0 → Φ (some (.inl (dJ μ seed (nW (μ 102)) n.toNat))) (S (mix X (yJ μ seed (nW (μ 102)) n.toNat)))) : wpM 238 [.inr (.inr (some 101)), .inl n, .inl seed] (S (mix X μ)) Φ := by
  have hL : LD B μ 73 0 := h.2.2.2.1
  have e1 := (ld_n hL).2.1
  have e8 := (ld_n hL).2.2
  have x1 : mix X μ 102 0 = (nW (μ 102) : Int) := by rw [mix_hi _ _ _ (by decide)]; exact e1
  unfold wpM
  by_cases v : (1 ≤ n ∧ n ≤ 40) ∧ 1 ≤ seed ∧ seed ≤ 2147483646
  · by_cases c : μ 102 0 < 2
    · rw [s1_iff [48] 200]
      simp (disch := omega) [sz_s, sz_0, gx_s, hx_r, hx_c, hx_b, hx_s, hx_i, hx_n, kx_s, kx_n, kx_i, cx_d, up_at, am_ctl, am_step, am_i1, am_i2, am_i2d, am_l1, am_l2, am_l2d, am_ldi, am_ldl, am_lda, am_sti, am_sta, am_stl, am_inc, am_i2l, am_l2i, am_lcmp, am_dup, am_dup2, am_pop1, am_fv, am_getf, am_putf, am_wr, am_ial, am_lal, am_bal, am_aal, am_ias, am_las, am_bas, am_alen, am_inst, am_cast, am_cpm, am_copy, am_tsw, am_pop, am_cat, am_cS, am_cI, am_cV, am_ri, am_rl, am_ra, am_rv, am_b1, am_b2, am_ent, am_en, am_isL, am_st1, am_st2, am_clr, am_cnd, cc_238, ac_238, nL_238, rb_238, np_156, ok_238_156, nL_156, np_196, ok_238_196, nL_196, vd_196_12, np_198, ok_238_198, nL_198, vd_198_12, np_199, ok_238_199, nL_199, vd_199_12, np_200, ok_238_200, nL_200, vd_200_12, tg_12_0, List.getElem?_cons_succ, List.getElem?_cons_zero, nz_of, nzl_of, Int.toNat_add, Int.toNat_mul, tn_l, lt_t, lt_f, le_t, le_f, eq_t, eq_f, ltn_t, ltn_f, len_t, len_f, eqn_t, eqn_f, up_ne, up_up, sh_101, sh_102, rf_101_0, x1, wm_in, v.1.1, v.1.2, v.2.1, v.2.2]
      exact k2 v c
    · have k3 := k3 v (by omega)
      obtain ⟨m, rfl⟩ : ∃ m : Nat, n = m := ⟨n.toNat, by omega⟩
      rw [Int.toNat_natCast] at k3
      generalize hN : nW (μ 102) = N at *
      have h2 : 2 ≤ N := by omega
      have key := up_to (fun (j : Nat) (s : Option AV × Option AV × Option AV) => wpS 238 48 [some (.inr (.inr (some 101))), some (.inl m), some (.inl seed), some (.inr (.inl (ltJ seed j))), none, some (.inl (dJ μ seed N j)), some (.inl j), s.1, s.2.1, s.2.2] [] (S (mix X (yJ μ seed N j))) Φ) (fun _ s => (∀ z, ¬ s.1 = some (.inr (.inl z))) ∧ (∀ z, ¬ s.2.1 = some (.inr (.inl z))) ∧ (∀ z, ¬ s.2.2 = some (.inr (.inl z)))) m (fun j s hj hI hs' => by
        try dsimp only at hs' ⊢
        obtain ⟨i1, i2, i3, i4⟩ := yJ_inv h v.2 h2 (by omega) j
        have hr := hJ_rng v.2 h2 j
        have sr := sJ_rng v.2 j
        have lr := ltJ_rng v.2 j
        have lr1 := ltJ_rng v.2 (j + 1)
        have t1 : (ltJ seed j * 48271).tmod 2147483647 = ltJ seed (j + 1) := by rw [Int.mul_comm]; rfl
        have t2 : ((ltJ seed (j + 1)).tdiv 64).tmod 4 = sJ seed j := rfl
        have hM := MR_mix X (MR_of i1 (by omega))
        have hL' : LD _ _ 73 0 := i1.2.2.2.1
        have e73 : mix X (yJ μ seed N j) 102 0 = N := by
          rw [mix_hi _ _ _ (by decide)]; exact i2
        have r102 : mix X (yJ μ seed N j) 102 = yJ μ seed N j 102 := funext fun i => mix_hi _ _ _ (by decide)
        have d0 : 0 ≤ (ltJ seed (j + 1)).tdiv 64 := Int.tdiv_nonneg (by omega) (by decide)
        have d1 : (ltJ seed (j + 1)).tdiv 64 ≤ ltJ seed (j + 1) := Int.tdiv_le_self _ (by omega)
        have N0 : ¬ ((N : Int) = 0) := by omega
        have ok := nxJ_ok h2 hr.2
        have lq := ld_h hL' (h := hJ seed N j) (by unfold nW; omega)
        have lp := ld_h hL' (h := nxJ N (hJ seed N j)) (by unfold nW; omega)
        have ld := ld_d hL' (j := 8 * hJ seed N j + nxJ N (hJ seed N j)) (by omega)
        have b1 := wm_born hM (hJ seed N j) (by omega)
        have b2 := wm_gone hM (hJ seed N j) (by omega)
        have b3 := wm_melt hM (hJ seed N j) 1 (by omega) (by decide)
        have b4 := wm_lend hM (hJ seed N j) (nxJ N (hJ seed N j)) 1 (by omega) (by omega) ok.2 (by decide)
        rw [r102] at b1 b2 b3 b4
        rw [← lq.1.2.2.1] at b1 b2
        rw [← lq.1.2.2.2] at b1 b3 b4
        rw [← lp.1.2.2.2] at b4
        have nx : ((hJ seed N j : Int) + 1).tmod N = (nxJ N (hJ seed N j) : Int) := by
          rw [Int.tmod_eq_emod_of_nonneg (by omega)]
          unfold nxJ
          by_cases e : hJ seed N j + 1 < N
          · rw [if_pos e, Int.emod_eq_of_lt (by omega) (by omega)]; omega
          · rw [if_neg e, show (hJ seed N j : Int) + 1 = N by omega, Int.emod_self]; rfl
        have mb : mborn (mix X (yJ μ seed N j)) (hJ seed N j) = mix X (mJ (yJ μ seed N j) 0 (hJ seed N j) (nxJ N (hJ seed N j))) := by rw [← mJ_mix]; rfl
        have mg : mgone (mix X (yJ μ seed N j)) (hJ seed N j) = mix X (mJ (yJ μ seed N j) 1 (hJ seed N j) (nxJ N (hJ seed N j))) := by rw [← mJ_mix]; rfl
        have mm : mmelt (mix X (yJ μ seed N j)) (hJ seed N j) 1 = mix X (mJ (yJ μ seed N j) 2 (hJ seed N j) (nxJ N (hJ seed N j))) := by rw [← mJ_mix]; rfl
        have ml : mlend (mix X (yJ μ seed N j)) (hJ seed N j) (nxJ N (hJ seed N j)) 1 = mix X (mJ (yJ μ seed N j) 3 (hJ seed N j) (nxJ N (hJ seed N j))) := by rw [← mJ_mix]; rfl
        have xm : ∀ s, mix X (mJ (xJ (yJ μ seed N j) s (hJ seed N j) (nxJ N (hJ seed N j))) s (hJ seed N j) (nxJ N (hJ seed N j))) = mix X (mJ (yJ μ seed N j) s (hJ seed N j) (nxJ N (hJ seed N j))) := fun s => by
          rw [← mJ_mix, xJ_mir, mJ_mix]
        have q := fun z => hs' (some (.inl (hJ seed N j)), some (.inl (sJ seed j)), some (.inl z)) ⟨by simp, by simp, by simp⟩
        simp only [dJ, yJ] at q
        have g1 : 0 ≤ yJ μ seed N j 76 (hJ seed N j) := by omega
        have g2 : 0 ≤ yJ μ seed N j 77 (hJ seed N j) := by omega
        have g3 : 0 ≤ yJ μ seed N j 102 (37 + (8 * hJ seed N j + nxJ N (hJ seed N j))) := by omega
        clear lq lp ld hI
        obtain ⟨s1, s2, s3⟩ := s
        rcases four sr with sx | sx | sx | sx
        · have cq : cJ (yJ μ seed N j) 0 (hJ seed N j) (nxJ N (hJ seed N j)) = decide (yJ μ seed N j 76 (hJ seed N j) < 9 ∧ yJ μ seed N j 77 (hJ seed N j) < 30) := rfl
          rw [sx, cq] at q
          by_cases cc : yJ μ seed N j 76 (hJ seed N j) < 9 ∧ yJ μ seed N j 77 (hJ seed N j) < 30
          · have q := q (yJ μ seed N j 76 (hJ seed N j) + 1)
            rw [if_pos (decide_eq_true cc), if_pos (decide_eq_true cc), xm] at q
            simp only [if_pos cc] at b1
            rw [s1_iff [48] 200]
            simp (disch := omega) [sz_s, sz_0, gx_s, hx_r, hx_c, hx_b, hx_s, hx_i, hx_n, kx_s, kx_n, kx_i, cx_d, up_at, am_ctl, am_step, am_i1, am_i2, am_i2d, am_l1, am_l2, am_l2d, am_ldi, am_ldl, am_lda, am_sti, am_sta, am_stl, am_inc, am_i2l, am_l2i, am_lcmp, am_dup, am_dup2, am_pop1, am_fv, am_getf, am_putf, am_wr, am_ial, am_lal, am_bal, am_aal, am_ias, am_las, am_bas, am_alen, am_inst, am_cast, am_cpm, am_copy, am_tsw, am_pop, am_cat, am_cS, am_cI, am_cV, am_ri, am_rl, am_ra, am_rv, am_b1, am_b2, am_ent, am_en, am_isL, am_st1, am_st2, am_clr, am_cnd, cc_238, ac_238, nL_238, rb_238, np_156, ok_238_156, nL_156, np_196, ok_238_196, nL_196, vd_196_12, np_198, ok_238_198, nL_198, vd_198_12, np_199, ok_238_199, nL_199, vd_199_12, np_200, ok_238_200, nL_200, vd_200_12, tg_12_0, List.getElem?_cons_succ, List.getElem?_cons_zero, nz_of, nzl_of, Int.toNat_add, Int.toNat_mul, tn_l, lt_t, lt_f, le_t, le_f, eq_t, eq_f, ltn_t, ltn_f, len_t, len_f, eqn_t, eqn_f, up_ne, up_up, sh_101, sh_102, rf_101_0, e73, t1, t2, sx, hr.1, N0, b1, mb]
            simpa using q
          · have q := q (-2)
            rw [if_neg (by simpa using cc), if_neg (by simpa using cc)] at q
            simp only [if_neg cc] at b1
            rw [s1_iff [48] 200]
            simp (disch := omega) [sz_s, sz_0, gx_s, hx_r, hx_c, hx_b, hx_s, hx_i, hx_n, kx_s, kx_n, kx_i, cx_d, up_at, am_ctl, am_step, am_i1, am_i2, am_i2d, am_l1, am_l2, am_l2d, am_ldi, am_ldl, am_lda, am_sti, am_sta, am_stl, am_inc, am_i2l, am_l2i, am_lcmp, am_dup, am_dup2, am_pop1, am_fv, am_getf, am_putf, am_wr, am_ial, am_lal, am_bal, am_aal, am_ias, am_las, am_bas, am_alen, am_inst, am_cast, am_cpm, am_copy, am_tsw, am_pop, am_cat, am_cS, am_cI, am_cV, am_ri, am_rl, am_ra, am_rv, am_b1, am_b2, am_ent, am_en, am_isL, am_st1, am_st2, am_clr, am_cnd, cc_238, ac_238, nL_238, rb_238, np_156, ok_238_156, nL_156, np_196, ok_238_196, nL_196, vd_196_12, np_198, ok_238_198, nL_198, vd_198_12, np_199, ok_238_199, nL_199, vd_199_12, np_200, ok_238_200, nL_200, vd_200_12, tg_12_0, List.getElem?_cons_succ, List.getElem?_cons_zero, nz_of, nzl_of, Int.toNat_add, Int.toNat_mul, tn_l, lt_t, lt_f, le_t, le_f, eq_t, eq_f, ltn_t, ltn_f, len_t, len_f, eqn_t, eqn_f, up_ne, up_up, sh_101, sh_102, rf_101_0, e73, t1, t2, sx, hr.1, N0, b1, mb]
            simpa using q
        · have cq : cJ (yJ μ seed N j) 1 (hJ seed N j) (nxJ N (hJ seed N j)) = decide (¬ yJ μ seed N j 76 (hJ seed N j) = 0) := rfl
          rw [sx, cq] at q
          by_cases cc : ¬ yJ μ seed N j 76 (hJ seed N j) = 0
          · have q := q (yJ μ seed N j 76 (hJ seed N j) - 1)
            rw [if_pos (decide_eq_true cc), if_pos (decide_eq_true cc), xm] at q
            simp only [if_pos cc] at b2
            rw [s1_iff [48] 200]
            simp (disch := omega) [sz_s, sz_0, gx_s, hx_r, hx_c, hx_b, hx_s, hx_i, hx_n, kx_s, kx_n, kx_i, cx_d, up_at, am_ctl, am_step, am_i1, am_i2, am_i2d, am_l1, am_l2, am_l2d, am_ldi, am_ldl, am_lda, am_sti, am_sta, am_stl, am_inc, am_i2l, am_l2i, am_lcmp, am_dup, am_dup2, am_pop1, am_fv, am_getf, am_putf, am_wr, am_ial, am_lal, am_bal, am_aal, am_ias, am_las, am_bas, am_alen, am_inst, am_cast, am_cpm, am_copy, am_tsw, am_pop, am_cat, am_cS, am_cI, am_cV, am_ri, am_rl, am_ra, am_rv, am_b1, am_b2, am_ent, am_en, am_isL, am_st1, am_st2, am_clr, am_cnd, cc_238, ac_238, nL_238, rb_238, np_156, ok_238_156, nL_156, np_196, ok_238_196, nL_196, vd_196_12, np_198, ok_238_198, nL_198, vd_198_12, np_199, ok_238_199, nL_199, vd_199_12, np_200, ok_238_200, nL_200, vd_200_12, tg_12_0, List.getElem?_cons_succ, List.getElem?_cons_zero, nz_of, nzl_of, Int.toNat_add, Int.toNat_mul, tn_l, lt_t, lt_f, le_t, le_f, eq_t, eq_f, ltn_t, ltn_f, len_t, len_f, eqn_t, eqn_f, up_ne, up_up, sh_101, sh_102, rf_101_0, e73, t1, t2, sx, hr.1, N0, b2, mg]
            simpa using q
          · have q := q (-4)
            rw [if_neg (by simpa using cc), if_neg (by simpa using cc)] at q
            simp only [if_neg cc] at b2
            rw [s1_iff [48] 200]
            simp (disch := omega) [sz_s, sz_0, gx_s, hx_r, hx_c, hx_b, hx_s, hx_i, hx_n, kx_s, kx_n, kx_i, cx_d, up_at, am_ctl, am_step, am_i1, am_i2, am_i2d, am_l1, am_l2, am_l2d, am_ldi, am_ldl, am_lda, am_sti, am_sta, am_stl, am_inc, am_i2l, am_l2i, am_lcmp, am_dup, am_dup2, am_pop1, am_fv, am_getf, am_putf, am_wr, am_ial, am_lal, am_bal, am_aal, am_ias, am_las, am_bas, am_alen, am_inst, am_cast, am_cpm, am_copy, am_tsw, am_pop, am_cat, am_cS, am_cI, am_cV, am_ri, am_rl, am_ra, am_rv, am_b1, am_b2, am_ent, am_en, am_isL, am_st1, am_st2, am_clr, am_cnd, cc_238, ac_238, nL_238, rb_238, np_156, ok_238_156, nL_156, np_196, ok_238_196, nL_196, vd_196_12, np_198, ok_238_198, nL_198, vd_198_12, np_199, ok_238_199, nL_199, vd_199_12, np_200, ok_238_200, nL_200, vd_200_12, tg_12_0, List.getElem?_cons_succ, List.getElem?_cons_zero, nz_of, nzl_of, Int.toNat_add, Int.toNat_mul, tn_l, lt_t, lt_f, le_t, le_f, eq_t, eq_f, ltn_t, ltn_f, len_t, len_f, eqn_t, eqn_f, up_ne, up_up, sh_101, sh_102, rf_101_0, e73, t1, t2, sx, hr.1, N0, b2, mg]
            simpa using q
        · have cq : cJ (yJ μ seed N j) 2 (hJ seed N j) (nxJ N (hJ seed N j)) = decide (1 ≤ yJ μ seed N j 77 (hJ seed N j)) := rfl
          rw [sx, cq] at q
          by_cases cc : 1 ≤ yJ μ seed N j 77 (hJ seed N j)
          · have q := q (yJ μ seed N j 77 (hJ seed N j) - 1)
            rw [if_pos (decide_eq_true cc), if_pos (decide_eq_true cc), xm] at q
            simp only [if_pos cc] at b3
            rw [s1_iff [48] 200]
            simp (disch := omega) [sz_s, sz_0, gx_s, hx_r, hx_c, hx_b, hx_s, hx_i, hx_n, kx_s, kx_n, kx_i, cx_d, up_at, am_ctl, am_step, am_i1, am_i2, am_i2d, am_l1, am_l2, am_l2d, am_ldi, am_ldl, am_lda, am_sti, am_sta, am_stl, am_inc, am_i2l, am_l2i, am_lcmp, am_dup, am_dup2, am_pop1, am_fv, am_getf, am_putf, am_wr, am_ial, am_lal, am_bal, am_aal, am_ias, am_las, am_bas, am_alen, am_inst, am_cast, am_cpm, am_copy, am_tsw, am_pop, am_cat, am_cS, am_cI, am_cV, am_ri, am_rl, am_ra, am_rv, am_b1, am_b2, am_ent, am_en, am_isL, am_st1, am_st2, am_clr, am_cnd, cc_238, ac_238, nL_238, rb_238, np_156, ok_238_156, nL_156, np_196, ok_238_196, nL_196, vd_196_12, np_198, ok_238_198, nL_198, vd_198_12, np_199, ok_238_199, nL_199, vd_199_12, np_200, ok_238_200, nL_200, vd_200_12, tg_12_0, List.getElem?_cons_succ, List.getElem?_cons_zero, nz_of, nzl_of, Int.toNat_add, Int.toNat_mul, tn_l, lt_t, lt_f, le_t, le_f, eq_t, eq_f, ltn_t, ltn_f, len_t, len_f, eqn_t, eqn_f, up_ne, up_up, sh_101, sh_102, rf_101_0, e73, t1, t2, sx, hr.1, N0, b3, mm]
            simpa using q
          · have q := q (-4)
            rw [if_neg (by simpa using cc), if_neg (by simpa using cc)] at q
            simp only [if_neg cc] at b3
            rw [s1_iff [48] 200]
            simp (disch := omega) [sz_s, sz_0, gx_s, hx_r, hx_c, hx_b, hx_s, hx_i, hx_n, kx_s, kx_n, kx_i, cx_d, up_at, am_ctl, am_step, am_i1, am_i2, am_i2d, am_l1, am_l2, am_l2d, am_ldi, am_ldl, am_lda, am_sti, am_sta, am_stl, am_inc, am_i2l, am_l2i, am_lcmp, am_dup, am_dup2, am_pop1, am_fv, am_getf, am_putf, am_wr, am_ial, am_lal, am_bal, am_aal, am_ias, am_las, am_bas, am_alen, am_inst, am_cast, am_cpm, am_copy, am_tsw, am_pop, am_cat, am_cS, am_cI, am_cV, am_ri, am_rl, am_ra, am_rv, am_b1, am_b2, am_ent, am_en, am_isL, am_st1, am_st2, am_clr, am_cnd, cc_238, ac_238, nL_238, rb_238, np_156, ok_238_156, nL_156, np_196, ok_238_196, nL_196, vd_196_12, np_198, ok_238_198, nL_198, vd_198_12, np_199, ok_238_199, nL_199, vd_199_12, np_200, ok_238_200, nL_200, vd_200_12, tg_12_0, List.getElem?_cons_succ, List.getElem?_cons_zero, nz_of, nzl_of, Int.toNat_add, Int.toNat_mul, tn_l, lt_t, lt_f, le_t, le_f, eq_t, eq_f, ltn_t, ltn_f, len_t, len_f, eqn_t, eqn_f, up_ne, up_up, sh_101, sh_102, rf_101_0, e73, t1, t2, sx, hr.1, N0, b3, mm]
            simpa using q
        · have cq : cJ (yJ μ seed N j) 3 (hJ seed N j) (nxJ N (hJ seed N j)) = decide (1 ≤ yJ μ seed N j 77 (hJ seed N j) ∧ yJ μ seed N j 77 (nxJ N (hJ seed N j)) + 1 ≤ 30) := rfl
          rw [sx, cq] at q
          by_cases cc : 1 ≤ yJ μ seed N j 77 (hJ seed N j) ∧ yJ μ seed N j 77 (nxJ N (hJ seed N j)) + 1 ≤ 30
          · have q := q (yJ μ seed N j 102 (37 + (8 * hJ seed N j + nxJ N (hJ seed N j))) + 1)
            rw [if_pos (decide_eq_true cc), if_pos (decide_eq_true cc), xm] at q
            simp only [if_pos cc] at b4
            rw [s1_iff [48] 200]
            simp (disch := omega) [sz_s, sz_0, gx_s, hx_r, hx_c, hx_b, hx_s, hx_i, hx_n, kx_s, kx_n, kx_i, cx_d, up_at, am_ctl, am_step, am_i1, am_i2, am_i2d, am_l1, am_l2, am_l2d, am_ldi, am_ldl, am_lda, am_sti, am_sta, am_stl, am_inc, am_i2l, am_l2i, am_lcmp, am_dup, am_dup2, am_pop1, am_fv, am_getf, am_putf, am_wr, am_ial, am_lal, am_bal, am_aal, am_ias, am_las, am_bas, am_alen, am_inst, am_cast, am_cpm, am_copy, am_tsw, am_pop, am_cat, am_cS, am_cI, am_cV, am_ri, am_rl, am_ra, am_rv, am_b1, am_b2, am_ent, am_en, am_isL, am_st1, am_st2, am_clr, am_cnd, cc_238, ac_238, nL_238, rb_238, np_156, ok_238_156, nL_156, np_196, ok_238_196, nL_196, vd_196_12, np_198, ok_238_198, nL_198, vd_198_12, np_199, ok_238_199, nL_199, vd_199_12, np_200, ok_238_200, nL_200, vd_200_12, tg_12_0, List.getElem?_cons_succ, List.getElem?_cons_zero, nz_of, nzl_of, Int.toNat_add, Int.toNat_mul, tn_l, lt_t, lt_f, le_t, le_f, eq_t, eq_f, ltn_t, ltn_f, len_t, len_f, eqn_t, eqn_f, up_ne, up_up, sh_101, sh_102, rf_101_0, e73, t1, t2, sx, hr.1, N0, nx, b4, ml]
            simpa using q
          · have q := q (-4)
            rw [if_neg (by simpa using cc), if_neg (by simpa using cc)] at q
            simp only [if_neg cc] at b4
            rw [s1_iff [48] 200]
            simp (disch := omega) [sz_s, sz_0, gx_s, hx_r, hx_c, hx_b, hx_s, hx_i, hx_n, kx_s, kx_n, kx_i, cx_d, up_at, am_ctl, am_step, am_i1, am_i2, am_i2d, am_l1, am_l2, am_l2d, am_ldi, am_ldl, am_lda, am_sti, am_sta, am_stl, am_inc, am_i2l, am_l2i, am_lcmp, am_dup, am_dup2, am_pop1, am_fv, am_getf, am_putf, am_wr, am_ial, am_lal, am_bal, am_aal, am_ias, am_las, am_bas, am_alen, am_inst, am_cast, am_cpm, am_copy, am_tsw, am_pop, am_cat, am_cS, am_cI, am_cV, am_ri, am_rl, am_ra, am_rv, am_b1, am_b2, am_ent, am_en, am_isL, am_st1, am_st2, am_clr, am_cnd, cc_238, ac_238, nL_238, rb_238, np_156, ok_238_156, nL_156, np_196, ok_238_196, nL_196, vd_196_12, np_198, ok_238_198, nL_198, vd_198_12, np_199, ok_238_199, nL_199, vd_199_12, np_200, ok_238_200, nL_200, vd_200_12, tg_12_0, List.getElem?_cons_succ, List.getElem?_cons_zero, nz_of, nzl_of, Int.toNat_add, Int.toNat_mul, tn_l, lt_t, lt_f, le_t, le_f, eq_t, eq_f, ltn_t, ltn_f, len_t, len_f, eqn_t, eqn_f, up_ne, up_up, sh_101, sh_102, rf_101_0, e73, t1, t2, sx, hr.1, N0, nx, b4, ml]
            simpa using q) (fun s _ => by
        obtain ⟨s1, s2, s3⟩ := s
        try dsimp only
        rw [s1_iff [48] 200]
        simp (disch := omega) [sz_s, sz_0, gx_s, hx_r, hx_c, hx_b, hx_s, hx_i, hx_n, kx_s, kx_n, kx_i, cx_d, up_at, am_ctl, am_step, am_i1, am_i2, am_i2d, am_l1, am_l2, am_l2d, am_ldi, am_ldl, am_lda, am_sti, am_sta, am_stl, am_inc, am_i2l, am_l2i, am_lcmp, am_dup, am_dup2, am_pop1, am_fv, am_getf, am_putf, am_wr, am_ial, am_lal, am_bal, am_aal, am_ias, am_las, am_bas, am_alen, am_inst, am_cast, am_cpm, am_copy, am_tsw, am_pop, am_cat, am_cS, am_cI, am_cV, am_ri, am_rl, am_ra, am_rv, am_b1, am_b2, am_ent, am_en, am_isL, am_st1, am_st2, am_clr, am_cnd, cc_238, ac_238, nL_238, rb_238, np_156, ok_238_156, nL_156, np_196, ok_238_196, nL_196, vd_196_12, np_198, ok_238_198, nL_198, vd_198_12, np_199, ok_238_199, nL_199, vd_199_12, np_200, ok_238_200, nL_200, vd_200_12, tg_12_0, List.getElem?_cons_succ, List.getElem?_cons_zero, nz_of, nzl_of, Int.toNat_add, Int.toNat_mul, tn_l, lt_t, lt_f, le_t, le_f, eq_t, eq_f, ltn_t, ltn_f, len_t, len_f, eqn_t, eqn_f, up_ne, up_up, sh_101, sh_102, rf_101_0]
        exact k3) (none, none, none) ⟨by simp, by simp, by simp⟩
      try dsimp only at key
      rw [yJ] at key
      rw [s1_iff [48] 200]
      simp (disch := omega) [sz_s, sz_0, gx_s, hx_r, hx_c, hx_b, hx_s, hx_i, hx_n, kx_s, kx_n, kx_i, cx_d, up_at, am_ctl, am_step, am_i1, am_i2, am_i2d, am_l1, am_l2, am_l2d, am_ldi, am_ldl, am_lda, am_sti, am_sta, am_stl, am_inc, am_i2l, am_l2i, am_lcmp, am_dup, am_dup2, am_pop1, am_fv, am_getf, am_putf, am_wr, am_ial, am_lal, am_bal, am_aal, am_ias, am_las, am_bas, am_alen, am_inst, am_cast, am_cpm, am_copy, am_tsw, am_pop, am_cat, am_cS, am_cI, am_cV, am_ri, am_rl, am_ra, am_rv, am_b1, am_b2, am_ent, am_en, am_isL, am_st1, am_st2, am_clr, am_cnd, cc_238, ac_238, nL_238, rb_238, np_156, ok_238_156, nL_156, np_196, ok_238_196, nL_196, vd_196_12, np_198, ok_238_198, nL_198, vd_198_12, np_199, ok_238_199, nL_199, vd_199_12, np_200, ok_238_200, nL_200, vd_200_12, tg_12_0, List.getElem?_cons_succ, List.getElem?_cons_zero, nz_of, nzl_of, Int.toNat_add, Int.toNat_mul, tn_l, lt_t, lt_f, le_t, le_f, eq_t, eq_f, ltn_t, ltn_f, len_t, len_f, eqn_t, eqn_f, up_ne, up_up, sh_101, sh_102, rf_101_0, x1, wm_in, v.1.1, v.1.2, v.2.1, v.2.2]
      exact key
  · by_cases a1 : 1 ≤ n ∧ n ≤ 40
    · rw [s1_iff [48] 200]
      simp (disch := omega) [sz_s, sz_0, gx_s, hx_r, hx_c, hx_b, hx_s, hx_i, hx_n, kx_s, kx_n, kx_i, cx_d, up_at, am_ctl, am_step, am_i1, am_i2, am_i2d, am_l1, am_l2, am_l2d, am_ldi, am_ldl, am_lda, am_sti, am_sta, am_stl, am_inc, am_i2l, am_l2i, am_lcmp, am_dup, am_dup2, am_pop1, am_fv, am_getf, am_putf, am_wr, am_ial, am_lal, am_bal, am_aal, am_ias, am_las, am_bas, am_alen, am_inst, am_cast, am_cpm, am_copy, am_tsw, am_pop, am_cat, am_cS, am_cI, am_cV, am_ri, am_rl, am_ra, am_rv, am_b1, am_b2, am_ent, am_en, am_isL, am_st1, am_st2, am_clr, am_cnd, cc_238, ac_238, nL_238, rb_238, np_156, ok_238_156, nL_156, np_196, ok_238_196, nL_196, vd_196_12, np_198, ok_238_198, nL_198, vd_198_12, np_199, ok_238_199, nL_199, vd_199_12, np_200, ok_238_200, nL_200, vd_200_12, tg_12_0, List.getElem?_cons_succ, List.getElem?_cons_zero, nz_of, nzl_of, Int.toNat_add, Int.toNat_mul, tn_l, lt_t, lt_f, le_t, le_f, eq_t, eq_f, ltn_t, ltn_f, len_t, len_f, eqn_t, eqn_f, up_ne, up_up, sh_101, sh_102, rf_101_0, x1, wm_in, a1.1, a1.2, show ¬ (1 ≤ seed ∧ seed ≤ 2147483646) from fun q => v ⟨a1, q⟩]
      exact k1 v
    · rw [s1_iff [48] 200]
      simp (disch := omega) [sz_s, sz_0, gx_s, hx_r, hx_c, hx_b, hx_s, hx_i, hx_n, kx_s, kx_n, kx_i, cx_d, up_at, am_ctl, am_step, am_i1, am_i2, am_i2d, am_l1, am_l2, am_l2d, am_ldi, am_ldl, am_lda, am_sti, am_sta, am_stl, am_inc, am_i2l, am_l2i, am_lcmp, am_dup, am_dup2, am_pop1, am_fv, am_getf, am_putf, am_wr, am_ial, am_lal, am_bal, am_aal, am_ias, am_las, am_bas, am_alen, am_inst, am_cast, am_cpm, am_copy, am_tsw, am_pop, am_cat, am_cS, am_cI, am_cV, am_ri, am_rl, am_ra, am_rv, am_b1, am_b2, am_ent, am_en, am_isL, am_st1, am_st2, am_clr, am_cnd, cc_238, ac_238, nL_238, rb_238, np_156, ok_238_156, nL_156, np_196, ok_238_196, nL_196, vd_196_12, np_198, ok_238_198, nL_198, vd_198_12, np_199, ok_238_199, nL_199, vd_199_12, np_200, ok_238_200, nL_200, vd_200_12, tg_12_0, List.getElem?_cons_succ, List.getElem?_cons_zero, nz_of, nzl_of, Int.toNat_add, Int.toNat_mul, tn_l, lt_t, lt_f, le_t, le_f, eq_t, eq_f, ltn_t, ltn_f, len_t, len_f, eqn_t, eqn_f, up_ne, up_up, sh_101, sh_102, rf_101_0, x1, wm_in, a1]
      exact k1 v
theorem eq_years {B : Int} {μ : Nat → Nat → Int} (h : INV B μ) (hB : B ≤ 900000) (n seed : Int) : EQV (B + 40) μ 121 238 [.inl n, .inl seed] := by
  have hL : LD B μ 73 0 := h.2.2.2.1
  have e1 := (ld_n hL).2.1
  unfold EQV
  refine wp_years h hB n seed _ (fun v => ?_) (fun v c => ?_) (fun v c => ?_)
  · refine ⟨_, _, rfl, rfl, ?_⟩
    have := wm_years h hB μ n seed (fun r' σ2 => r' = some (.inl (-1)) ∧ ∃ μ', σ2 = S μ' ∧ INV (B + 40) μ') (fun _ => ⟨rfl, _, rfl, by rw [mix_same]; exact INV_mono (by omega) h⟩) (fun w => absurd w v) (fun w => absurd w v)
    rw [mix_same] at this
    exact this
  · refine ⟨_, _, rfl, rfl, ?_⟩
    have := wm_years h hB μ n seed (fun r' σ2 => r' = some (.inl (-4)) ∧ ∃ μ', σ2 = S μ' ∧ INV (B + 40) μ') (fun w => absurd v w) (fun _ _ => ⟨rfl, _, rfl, by rw [mix_same]; exact INV_mono (by omega) h⟩) (fun _ w => absurd w (by omega))
    rw [mix_same] at this
    exact this
  · refine ⟨_, _, rfl, rfl, ?_⟩
    refine wm_years h hB _ n seed _ (fun w => absurd v w) (fun _ w => absurd w (by omega)) (fun _ _ => ⟨rfl, _, rfl, ?_⟩)
    rw [mix_same]
    exact INV_mono (by omega) (yJ_inv h v.2 (by omega) e1 n.toNat).1
