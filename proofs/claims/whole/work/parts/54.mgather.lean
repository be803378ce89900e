/-! ways of the reference: houses gathered -/
set_option maxRecDepth 100000 in
theorem wm_gather {μ : Nat → Nat → Int} (hW : WR (μ 102)) (p : Int) (Φ : Option AV → ST → Prop) (k : ∀ ν : Nat → Nat → Int, (∀ k i, ¬ k = 112 → ¬ (k = 101 ∧ i = 17) → ν k i = μ k i) → ν 101 17 = (gS (μ 102) p : Int) → (∀ i, i < gS (μ 102) p → ν 112 i = (gH (μ 102) p (nW (μ 102)) i : Int)) → Φ none (S ν)) : wpM 213 [.inr (.inr (some 101)), .inl p] (S μ) Φ := by
  have e0 := wr_n hW
  have key := up_to (fun (h : Nat) (ν : Nat → Nat → Int) => wpS 213 7 [some (.inr (.inr (some 101))), some (.inl p), some (.inl h)] [] (S ν) Φ) (fun h ν => (∀ k i, ¬ k = 112 → ¬ (k = 101 ∧ i = 17) → ν k i = μ k i) ∧ ν 101 17 = gN (μ 102) p h ∧ ∀ i, i < gN (μ 102) p h → ν 112 i = gH (μ 102) p (nW (μ 102)) i) (nW (μ 102)) (fun h ν hh hI hs' => by
    try dsimp only at hI hs' ⊢
    obtain ⟨i1, i2, i3⟩ := hI
    have n0 : ν 102 0 = (nW (μ 102) : Int) := by rw [i1 102 0 (by omega) (by omega)]; exact e0.2.1
    have v : ν 102 (13 + h) = μ 102 (13 + h) := i1 _ _ (by omega) (by omega)
    have gl := gN_le (μ 102) p h
    by_cases c : μ 102 (13 + h) = p
    · have gs : gN (μ 102) p (h + 1) = gN (μ 102) p h + 1 := by rw [gN, if_pos c]
      have gh := (gH_of (μ 102) p (nW (μ 102)) h hh c).1
      rw [gs] at hs'
      generalize gN (μ 102) p h = g at *
      have q := hs' (am_up (am_up ν 112 g (h : Int)) 101 17 ((g : Int) + 1)) ⟨fun k i h1 h2 => by
        simp only [up_at]
        rw [if_neg h2, if_neg (by omega)]; exact i1 k i h1 h2, by simp [up_at], fun i hi => by
        rw [up_ne _ _ _ (by decide), up_at]
        by_cases e : i = g
        · subst e; rw [if_pos ⟨rfl, rfl⟩, gh]
        · rw [if_neg (fun q => e q.2)]; exact i3 i (by omega)⟩
      rw [s1_iff [7] 200]
      simp (disch := omega) [sz_s, sz_0, gx_s, hx_r, hx_c, hx_b, hx_s, hx_i, hx_n, kx_s, kx_n, kx_i, cx_d, up_at, am_ctl, am_step, am_i1, am_i2, am_i2d, am_l1, am_l2, am_l2d, am_ldi, am_ldl, am_lda, am_sti, am_sta, am_stl, am_inc, am_i2l, am_l2i, am_lcmp, am_dup, am_dup2, am_pop1, am_fv, am_getf, am_putf, am_wr, am_ial, am_lal, am_bal, am_aal, am_ias, am_las, am_bas, am_alen, am_inst, am_cast, am_cpm, am_copy, am_tsw, am_pop, am_cat, am_cS, am_cI, am_cV, am_ri, am_rl, am_ra, am_rv, am_b1, am_b2, am_ent, am_en, am_isL, am_st1, am_st2, am_clr, am_cnd, cc_213, ac_213, nL_213, rb_213, tg_12_0, tg_12_16, tg_12_17, List.getElem?_cons_succ, List.getElem?_cons_zero, nz_of, nzl_of, Int.toNat_add, Int.toNat_mul, tn_l, lt_t, lt_f, le_t, le_f, eq_t, eq_f, ltn_t, ltn_f, len_t, len_f, eqn_t, eqn_f, up_ne, up_up, sh_101, sh_102, sh_112, rf_101_0, rf_101_16, n0, hh, v, c, i2]
      simpa using q
    · have gs : gN (μ 102) p (h + 1) = gN (μ 102) p h := by rw [gN, if_neg c]
      rw [gs] at hs'
      have q := hs' ν ⟨i1, i2, i3⟩
      rw [s1_iff [7] 200]
      simp (disch := omega) [sz_s, sz_0, gx_s, hx_r, hx_c, hx_b, hx_s, hx_i, hx_n, kx_s, kx_n, kx_i, cx_d, up_at, am_ctl, am_step, am_i1, am_i2, am_i2d, am_l1, am_l2, am_l2d, am_ldi, am_ldl, am_lda, am_sti, am_sta, am_stl, am_inc, am_i2l, am_l2i, am_lcmp, am_dup, am_dup2, am_pop1, am_fv, am_getf, am_putf, am_wr, am_ial, am_lal, am_bal, am_aal, am_ias, am_las, am_bas, am_alen, am_inst, am_cast, am_cpm, am_copy, am_tsw, am_pop, am_cat, am_cS, am_cI, am_cV, am_ri, am_rl, am_ra, am_rv, am_b1, am_b2, am_ent, am_en, am_isL, am_st1, am_st2, am_clr, am_cnd, cc_213, ac_213, nL_213, rb_213, tg_12_0, tg_12_16, tg_12_17, List.getElem?_cons_succ, List.getElem?_cons_zero, nz_of, nzl_of, Int.toNat_add, Int.toNat_mul, tn_l, lt_t, lt_f, le_t, le_f, eq_t, eq_f, ltn_t, ltn_f, len_t, len_f, eqn_t, eqn_f, up_ne, up_up, sh_101, sh_102, rf_101_0, n0, hh, v, c]
      simpa using q) (fun ν hI => by
    try dsimp only at hI ⊢
    obtain ⟨i1, i2, i3⟩ := hI
    have n0 : ν 102 0 = (nW (μ 102) : Int) := by rw [i1 102 0 (by omega) (by omega)]; exact e0.2.1
    have k := k ν i1 i2 i3
    rw [s1_iff [7] 200]
    simp (disch := omega) [sz_s, sz_0, gx_s, hx_r, hx_c, hx_b, hx_s, hx_i, hx_n, kx_s, kx_n, kx_i, cx_d, up_at, am_ctl, am_step, am_i1, am_i2, am_i2d, am_l1, am_l2, am_l2d, am_ldi, am_ldl, am_lda, am_sti, am_sta, am_stl, am_inc, am_i2l, am_l2i, am_lcmp, am_dup, am_dup2, am_pop1, am_fv, am_getf, am_putf, am_wr, am_ial, am_lal, am_bal, am_aal, am_ias, am_las, am_bas, am_alen, am_inst, am_cast, am_cpm, am_copy, am_tsw, am_pop, am_cat, am_cS, am_cI, am_cV, am_ri, am_rl, am_ra, am_rv, am_b1, am_b2, am_ent, am_en, am_isL, am_st1, am_st2, am_clr, am_cnd, cc_213, ac_213, nL_213, rb_213, tg_12_0, tg_12_16, tg_12_17, List.getElem?_cons_succ, List.getElem?_cons_zero, nz_of, nzl_of, Int.toNat_add, Int.toNat_mul, tn_l, lt_t, lt_f, le_t, le_f, eq_t, eq_f, ltn_t, ltn_f, len_t, len_f, eqn_t, eqn_f, up_ne, up_up, sh_101, sh_102, rf_101_0, n0]
    exact k) (am_up μ 101 17 0) ⟨fun k i h1 h2 => by rw [up_at, if_neg h2], by rw [gN]; simp [up_at], fun i hi => by rw [gN] at hi; omega⟩
  try dsimp only at key
  unfold wpM
  rw [s1_iff [7] 200]
  simp (disch := omega) [sz_s, sz_0, gx_s, hx_r, hx_c, hx_b, hx_s, hx_i, hx_n, kx_s, kx_n, kx_i, cx_d, up_at, am_ctl, am_step, am_i1, am_i2, am_i2d, am_l1, am_l2, am_l2d, am_ldi, am_ldl, am_lda, am_sti, am_sta, am_stl, am_inc, am_i2l, am_l2i, am_lcmp, am_dup, am_dup2, am_pop1, am_fv, am_getf, am_putf, am_wr, am_ial, am_lal, am_bal, am_aal, am_ias, am_las, am_bas, am_alen, am_inst, am_cast, am_cpm, am_copy, am_tsw, am_pop, am_cat, am_cS, am_cI, am_cV, am_ri, am_rl, am_ra, am_rv, am_b1, am_b2, am_ent, am_en, am_isL, am_st1, am_st2, am_clr, am_cnd, cc_213, ac_213, nL_213, rb_213, tg_12_0, tg_12_16, tg_12_17, List.getElem?_cons_succ, List.getElem?_cons_zero, nz_of, nzl_of, Int.toNat_add, Int.toNat_mul, tn_l, lt_t, lt_f, le_t, le_f, eq_t, eq_f, ltn_t, ltn_f, len_t, len_f, eqn_t, eqn_f, up_ne, up_up, sh_101]
  simpa using key
