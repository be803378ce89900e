/-! ways of the class: the place of a house -/
set_option maxRecDepth 100000 in
theorem wp_placeOf {ν : Nat → Nat → Int} {s : Nat} {hs : Nat → Nat} (h5 : ν 9 5 = s) (hs5 : s ≤ 5) (hh : ∀ i, i < s → ν 10 i = hs i) (i0 : Nat) (hi0 : i0 < s) (inj : ∀ i, i < s → hs i = hs i0 → i = i0) (Φ : Option AV → ST → Prop) : wpM 70 [.inr (.inr (some 9)), .inl (hs i0 : Nat)] (S ν) Φ ↔ Φ (some (.inl i0)) (S ν) := by
  generalize hH : hs i0 = H at *
  have step : ∀ i, i < i0 → ((fun i : Nat => wpS 70 2 [some (.inr (.inr (some 9))), some (.inl H), some (.inl i)] [] (S ν) Φ) i ↔ (fun i : Nat => wpS 70 2 [some (.inr (.inr (some 9))), some (.inl H), some (.inl i)] [] (S ν) Φ) (i + 1)) := by
    intro i hi
    have v := hh i (by omega)
    have ne : ¬ hs i = H := fun q => by have := inj i (by omega) q; omega
    dsimp only
    rw [s1_iff [2] 200]
    simp (disch := omega) [sz_s, sz_0, gx_s, hx_r, hx_c, hx_b, hx_s, hx_i, hx_n, kx_s, kx_n, kx_i, cx_d, up_at, am_ctl, am_step, am_i1, am_i2, am_i2d, am_l1, am_l2, am_l2d, am_ldi, am_ldl, am_lda, am_sti, am_sta, am_stl, am_inc, am_i2l, am_l2i, am_lcmp, am_dup, am_dup2, am_pop1, am_fv, am_getf, am_putf, am_wr, am_ial, am_lal, am_bal, am_aal, am_ias, am_las, am_bas, am_alen, am_inst, am_cast, am_cpm, am_copy, am_tsw, am_pop, am_cat, am_cS, am_cI, am_cV, am_ri, am_rl, am_ra, am_rv, am_b1, am_b2, am_ent, am_en, am_isL, am_st1, am_st2, am_clr, am_cnd, cc_70, ac_70, nL_70, rb_70, tg_10_5, tg_10_0, List.getElem?_cons_succ, List.getElem?_cons_zero, nz_of, nzl_of, Int.toNat_add, Int.toNat_mul, tn_l, lt_t, lt_f, le_t, le_f, eq_t, eq_f, ltn_t, ltn_f, len_t, len_f, eqn_t, eqn_f, up_ne, up_up, sh_9, rf_9_0, sh_10, h5, v, ne]
  have s0 := up_iff _ i0 step
  have v := hh i0 hi0
  rw [hH] at v
  unfold wpM
  rw [s1_iff [2] 200]
  simp (disch := omega) [sz_s, sz_0, gx_s, hx_r, hx_c, hx_b, hx_s, hx_i, hx_n, kx_s, kx_n, kx_i, cx_d, up_at, am_ctl, am_step, am_i1, am_i2, am_i2d, am_l1, am_l2, am_l2d, am_ldi, am_ldl, am_lda, am_sti, am_sta, am_stl, am_inc, am_i2l, am_l2i, am_lcmp, am_dup, am_dup2, am_pop1, am_fv, am_getf, am_putf, am_wr, am_ial, am_lal, am_bal, am_aal, am_ias, am_las, am_bas, am_alen, am_inst, am_cast, am_cpm, am_copy, am_tsw, am_pop, am_cat, am_cS, am_cI, am_cV, am_ri, am_rl, am_ra, am_rv, am_b1, am_b2, am_ent, am_en, am_isL, am_st1, am_st2, am_clr, am_cnd, cc_70, ac_70, nL_70, rb_70, tg_10_5, tg_10_0, List.getElem?_cons_succ, List.getElem?_cons_zero, nz_of, nzl_of, Int.toNat_add, Int.toNat_mul, tn_l, lt_t, lt_f, le_t, le_f, eq_t, eq_f, ltn_t, ltn_f, len_t, len_f, eqn_t, eqn_f, up_ne, up_up]
  refine s0.trans ?_
  rw [s1_iff [2] 200]
  simp (disch := omega) [sz_s, sz_0, gx_s, hx_r, hx_c, hx_b, hx_s, hx_i, hx_n, kx_s, kx_n, kx_i, cx_d, up_at, am_ctl, am_step, am_i1, am_i2, am_i2d, am_l1, am_l2, am_l2d, am_ldi, am_ldl, am_lda, am_sti, am_sta, am_stl, am_inc, am_i2l, am_l2i, am_lcmp, am_dup, am_dup2, am_pop1, am_fv, am_getf, am_putf, am_wr, am_ial, am_lal, am_bal, am_aal, am_ias, am_las, am_bas, am_alen, am_inst, am_cast, am_cpm, am_copy, am_tsw, am_pop, am_cat, am_cS, am_cI, am_cV, am_ri, am_rl, am_ra, am_rv, am_b1, am_b2, am_ent, am_en, am_isL, am_st1, am_st2, am_clr, am_cnd, cc_70, ac_70, nL_70, rb_70, tg_10_5, tg_10_0, List.getElem?_cons_succ, List.getElem?_cons_zero, nz_of, nzl_of, Int.toNat_add, Int.toNat_mul, tn_l, lt_t, lt_f, le_t, le_f, eq_t, eq_f, ltn_t, ltn_f, len_t, len_f, eqn_t, eqn_f, up_ne, up_up, sh_9, rf_9_0, sh_10, h5, v, hi0]
