/-! hands, sack, was, gains, lost: equal on both sides -/
set_option maxRecDepth 100000 in
theorem wp_hands {B : Int} {μ : Nat → Nat → Int} (hL : LD B μ 73 0) (x : Int) (Φ : Option AV → ST → Prop) : wpM 101 [.inr (.inr (some 0)), .inl x] (S μ) Φ ↔ (if 0 ≤ x ∧ x < (nW (μ 102) : Int) then Φ (some (.inl (hndW (μ 102) x.toNat))) (S (am_up μ 0 10 (cntW (μ 102) x.toNat (μ 102 1)))) else Φ (some (.inl (-1))) (S μ)) := by
  have e0 := ld_n hL
  have l0 := ld_0 hL
  by_cases hx : 0 ≤ x ∧ x < (nW (μ 102) : Int)
  · rw [if_pos hx]
    obtain ⟨q, rfl⟩ : ∃ q : Nat, x = q := ⟨x.toNat, by omega⟩
    have hq : q < nW (μ 102) := by omega
    have lh := ld_h hL hq
    rw [Int.toNat_natCast]
    have H2 := @wp_handedIn _ _ (LD_up hL 0 10 (cntW (μ 102) q (μ 102 1)) (by decide) (by decide)) q (by rw [up_ne _ _ _ (by decide)]; exact hq)
    rw [up_ne _ _ _ (by decide)] at H2
    unfold wpM
    rw [s1_iff [] 200]
    simp (disch := omega) [sz_s, sz_0, gx_s, hx_r, hx_c, hx_b, hx_s, hx_i, hx_n, kx_s, kx_n, kx_i, cx_d, up_at, am_ctl, am_step, am_i1, am_i2, am_i2d, am_l1, am_l2, am_l2d, am_ldi, am_ldl, am_lda, am_sti, am_sta, am_stl, am_inc, am_i2l, am_l2i, am_lcmp, am_dup, am_dup2, am_pop1, am_fv, am_getf, am_putf, am_wr, am_ial, am_lal, am_bal, am_aal, am_ias, am_las, am_bas, am_alen, am_inst, am_cast, am_cpm, am_copy, am_tsw, am_pop, am_cat, am_cS, am_cI, am_cV, am_ri, am_rl, am_ra, am_rv, am_b1, am_b2, am_ent, am_en, am_isL, am_st1, am_st2, am_clr, am_cnd, cc_101, ac_101, nL_101, rb_101, np_129, ok_101_129, nL_129, np_24, ok_101_24, nL_24, vd_24_4, np_25, ok_101_25, nL_25, vd_25_4, np_134, ok_101_134, nL_134, vd_134_11, tg_11_2, tg_4_7, tg_4_8, List.getElem?_cons_succ, List.getElem?_cons_zero, nz_of, nzl_of, Int.toNat_add, Int.toNat_mul, tn_l, lt_t, lt_f, le_t, le_f, eq_t, eq_f, ltn_t, ltn_f, len_t, len_f, eqn_t, eqn_f, up_ne, up_up, sh_0, rf_0_2, sh_73, wp_within, e0.1, l0.2.1, wp_counted hL hq, wp_tell, H2, hq]
  · rw [if_neg hx]
    unfold wpM
    rw [s1_iff [] 200]
    simp (disch := omega) [sz_s, sz_0, gx_s, hx_r, hx_c, hx_b, hx_s, hx_i, hx_n, kx_s, kx_n, kx_i, cx_d, up_at, am_ctl, am_step, am_i1, am_i2, am_i2d, am_l1, am_l2, am_l2d, am_ldi, am_ldl, am_lda, am_sti, am_sta, am_stl, am_inc, am_i2l, am_l2i, am_lcmp, am_dup, am_dup2, am_pop1, am_fv, am_getf, am_putf, am_wr, am_ial, am_lal, am_bal, am_aal, am_ias, am_las, am_bas, am_alen, am_inst, am_cast, am_cpm, am_copy, am_tsw, am_pop, am_cat, am_cS, am_cI, am_cV, am_ri, am_rl, am_ra, am_rv, am_b1, am_b2, am_ent, am_en, am_isL, am_st1, am_st2, am_clr, am_cnd, cc_101, ac_101, nL_101, rb_101, np_129, ok_101_129, nL_129, np_24, ok_101_24, nL_24, vd_24_4, np_25, ok_101_25, nL_25, vd_25_4, np_134, ok_101_134, nL_134, vd_134_11, tg_11_2, tg_4_7, tg_4_8, List.getElem?_cons_succ, List.getElem?_cons_zero, nz_of, nzl_of, Int.toNat_add, Int.toNat_mul, tn_l, lt_t, lt_f, le_t, le_f, eq_t, eq_f, ltn_t, ltn_f, len_t, len_f, eqn_t, eqn_f, up_ne, up_up, sh_0, rf_0_2, sh_73, wp_within, e0.1, l0.2.1, hx]
set_option maxRecDepth 100000 in
theorem wm_hands {B : Int} {μ : Nat → Nat → Int} (hL : LD B μ 73 0) (x : Int) (Φ : Option AV → ST → Prop) : wpM 206 [.inr (.inr (some 101)), .inl x] (S μ) Φ ↔ (if 0 ≤ x ∧ x < (nW (μ 102) : Int) then Φ (some (.inl (hndW (μ 102) x.toNat))) (S (am_up μ 101 8 (cntW (μ 102) x.toNat (μ 102 1)))) else Φ (some (.inl (-1))) (S μ)) := by
  have e0 := ld_n hL
  have l0 := ld_0 hL
  by_cases hx : 0 ≤ x ∧ x < (nW (μ 102) : Int)
  · rw [if_pos hx]
    obtain ⟨q, rfl⟩ : ∃ q : Nat, x = q := ⟨x.toNat, by omega⟩
    have hq : q < nW (μ 102) := by omega
    have lh := ld_h hL hq
    rw [Int.toNat_natCast]
    have H2 := wm_handed (μ 102 (5 + q)) (μ 102 (21 + q)) (μ 102 (29 + q)) (μ 102 2) lh.2.1 lh.2.2.2.1 lh.2.2.2.2.1
    simp only [← show hndW (μ 102) q = hndP (μ 102 (5 + q)) (μ 102 (21 + q)) (μ 102 (29 + q)) (μ 102 2) from rfl] at H2
    unfold wpM
    rw [s1_iff [] 200]
    simp (disch := omega) [sz_s, sz_0, gx_s, hx_r, hx_c, hx_b, hx_s, hx_i, hx_n, kx_s, kx_n, kx_i, cx_d, up_at, am_ctl, am_step, am_i1, am_i2, am_i2d, am_l1, am_l2, am_l2d, am_ldi, am_ldl, am_lda, am_sti, am_sta, am_stl, am_inc, am_i2l, am_l2i, am_lcmp, am_dup, am_dup2, am_pop1, am_fv, am_getf, am_putf, am_wr, am_ial, am_lal, am_bal, am_aal, am_ias, am_las, am_bas, am_alen, am_inst, am_cast, am_cpm, am_copy, am_tsw, am_pop, am_cat, am_cS, am_cI, am_cV, am_ri, am_rl, am_ra, am_rv, am_b1, am_b2, am_ent, am_en, am_isL, am_st1, am_st2, am_clr, am_cnd, cc_206, ac_206, nL_206, rb_206, np_184, ok_206_184, nL_184, np_178, ok_206_178, nL_178, vd_178_12, np_186, ok_206_186, nL_186, vd_186_12, tg_12_0, List.getElem?_cons_succ, List.getElem?_cons_zero, nz_of, nzl_of, Int.toNat_add, Int.toNat_mul, tn_l, lt_t, lt_f, le_t, le_f, eq_t, eq_f, ltn_t, ltn_f, len_t, len_f, eqn_t, eqn_f, up_ne, up_up, sh_101, sh_102, rf_101_0, wm_house hL, wm_countedOf hL hq _ l0.2.2.2.2.2.2.1.1, H2, hq]
  · rw [if_neg hx]
    unfold wpM
    rw [s1_iff [] 200]
    simp (disch := omega) [sz_s, sz_0, gx_s, hx_r, hx_c, hx_b, hx_s, hx_i, hx_n, kx_s, kx_n, kx_i, cx_d, up_at, am_ctl, am_step, am_i1, am_i2, am_i2d, am_l1, am_l2, am_l2d, am_ldi, am_ldl, am_lda, am_sti, am_sta, am_stl, am_inc, am_i2l, am_l2i, am_lcmp, am_dup, am_dup2, am_pop1, am_fv, am_getf, am_putf, am_wr, am_ial, am_lal, am_bal, am_aal, am_ias, am_las, am_bas, am_alen, am_inst, am_cast, am_cpm, am_copy, am_tsw, am_pop, am_cat, am_cS, am_cI, am_cV, am_ri, am_rl, am_ra, am_rv, am_b1, am_b2, am_ent, am_en, am_isL, am_st1, am_st2, am_clr, am_cnd, cc_206, ac_206, nL_206, rb_206, np_184, ok_206_184, nL_184, np_178, ok_206_178, nL_178, vd_178_12, np_186, ok_206_186, nL_186, vd_186_12, tg_12_0, List.getElem?_cons_succ, List.getElem?_cons_zero, nz_of, nzl_of, Int.toNat_add, Int.toNat_mul, tn_l, lt_t, lt_f, le_t, le_f, eq_t, eq_f, ltn_t, ltn_f, len_t, len_f, eqn_t, eqn_f, up_ne, up_up, sh_101, sh_102, rf_101_0, wm_house hL, hx]
theorem eq_hands {B : Int} {μ : Nat → Nat → Int} (h : INV B μ) (x : Int) : EQV B μ 101 206 [.inl x] := by
  have hL : LD B μ 73 0 := h.2.2.2.1
  unfold EQV
  rw [wp_hands hL]
  by_cases hx : 0 ≤ x ∧ x < (nW (μ 102) : Int)
  · rw [if_pos hx]
    refine ⟨_, _, rfl, rfl, ?_⟩
    rw [wm_hands (LD_up hL _ _ _ (by decide) (by decide)), up_ne _ _ _ (by decide), if_pos hx]
    exact ⟨rfl, _, rfl, inv_tell h _⟩
  · rw [if_neg hx]
    refine ⟨_, _, rfl, rfl, ?_⟩
    rw [wm_hands hL, if_neg hx]
    exact ⟨rfl, _, rfl, h⟩
def gnW (w : Nat → Int) (h : Nat) : Int := w 3 * (w (21 + h) - cntW w h (w 1))
theorem mul_rng {a b : Int} (ha : 0 ≤ a ∧ a ≤ 99) (hb : -40 ≤ b ∧ b ≤ 40) : -3960 ≤ a * b ∧ a * b ≤ 3960 := by
  have h1 : 0 ≤ a * (40 - b) := Int.mul_nonneg ha.1 (by omega)
  have h2 : 0 ≤ a * (40 + b) := Int.mul_nonneg ha.1 (by omega)
  rw [Int.mul_sub] at h1
  rw [Int.mul_add] at h2
  omega
set_option maxRecDepth 100000 in
theorem wp_gains {B : Int} {μ : Nat → Nat → Int} (hL : LD B μ 73 0) (x : Int) (Φ : Option AV → ST → Prop) : wpM 113 [.inr (.inr (some 0)), .inl x] (S μ) Φ ↔ (if 0 ≤ x ∧ x < (nW (μ 102) : Int) then Φ (some (.inl (1))) (S (am_up μ 0 10 (gnW (μ 102) x.toNat))) else Φ (some (.inl (-1))) (S μ)) := by
  have e0 := ld_n hL
  have l0 := ld_0 hL
  by_cases hx : 0 ≤ x ∧ x < (nW (μ 102) : Int)
  · rw [if_pos hx]
    obtain ⟨q, rfl⟩ : ∃ q : Nat, x = q := ⟨x.toNat, by omega⟩
    have hq : q < nW (μ 102) := by omega
    have lh := ld_h hL hq
    rw [Int.toNat_natCast]
    have lc := ld_c hL hq (μ 102 1)
    have mr := mul_rng l0.2.2.2.2.2.2.2.2.1 (show -40 ≤ μ 102 (21 + q) - cntW (μ 102) q (μ 102 1) ∧ μ 102 (21 + q) - cntW (μ 102) q (μ 102 1) ≤ 40 by omega)
    have E1 : nz (-μ 102 3 * (cntW (μ 102) q (μ 102 1) - μ 102 (21 + q))) = gnW (μ 102) q := by
      rw [show -μ 102 3 * (cntW (μ 102) q (μ 102 1) - μ 102 (21 + q)) = μ 102 3 * (μ 102 (21 + q) - cntW (μ 102) q (μ 102 1)) by rw [Int.neg_mul, ← Int.mul_neg, Int.neg_sub]]
      exact nz_of (by omega) (by omega)
    unfold wpM
    rw [s1_iff [] 200]
    simp (disch := omega) [sz_s, sz_0, gx_s, hx_r, hx_c, hx_b, hx_s, hx_i, hx_n, kx_s, kx_n, kx_i, cx_d, up_at, am_ctl, am_step, am_i1, am_i2, am_i2d, am_l1, am_l2, am_l2d, am_ldi, am_ldl, am_lda, am_sti, am_sta, am_stl, am_inc, am_i2l, am_l2i, am_lcmp, am_dup, am_dup2, am_pop1, am_fv, am_getf, am_putf, am_wr, am_ial, am_lal, am_bal, am_aal, am_ias, am_las, am_bas, am_alen, am_inst, am_cast, am_cpm, am_copy, am_tsw, am_pop, am_cat, am_cS, am_cI, am_cV, am_ri, am_rl, am_ra, am_rv, am_b1, am_b2, am_ent, am_en, am_isL, am_st1, am_st2, am_clr, am_cnd, cc_113, ac_113, nL_113, rb_113, np_129, ok_113_129, nL_129, np_26, ok_113_26, nL_26, vd_26_4, np_134, ok_113_134, nL_134, vd_134_11, tg_11_2, tg_4_7, tg_4_10, List.getElem?_cons_succ, List.getElem?_cons_zero, nz_of, nzl_of, Int.toNat_add, Int.toNat_mul, tn_l, lt_t, lt_f, le_t, le_f, eq_t, eq_f, ltn_t, ltn_f, len_t, len_f, eqn_t, eqn_f, up_ne, up_up, sh_0, rf_0_2, sh_73, wp_within, e0.1, l0.2.2.2.1, wp_lie hL hq, wp_tell, E1, hq]
  · rw [if_neg hx]
    unfold wpM
    rw [s1_iff [] 200]
    simp (disch := omega) [sz_s, sz_0, gx_s, hx_r, hx_c, hx_b, hx_s, hx_i, hx_n, kx_s, kx_n, kx_i, cx_d, up_at, am_ctl, am_step, am_i1, am_i2, am_i2d, am_l1, am_l2, am_l2d, am_ldi, am_ldl, am_lda, am_sti, am_sta, am_stl, am_inc, am_i2l, am_l2i, am_lcmp, am_dup, am_dup2, am_pop1, am_fv, am_getf, am_putf, am_wr, am_ial, am_lal, am_bal, am_aal, am_ias, am_las, am_bas, am_alen, am_inst, am_cast, am_cpm, am_copy, am_tsw, am_pop, am_cat, am_cS, am_cI, am_cV, am_ri, am_rl, am_ra, am_rv, am_b1, am_b2, am_ent, am_en, am_isL, am_st1, am_st2, am_clr, am_cnd, cc_113, ac_113, nL_113, rb_113, np_129, ok_113_129, nL_129, np_26, ok_113_26, nL_26, vd_26_4, np_134, ok_113_134, nL_134, vd_134_11, tg_11_2, tg_4_7, tg_4_10, List.getElem?_cons_succ, List.getElem?_cons_zero, nz_of, nzl_of, Int.toNat_add, Int.toNat_mul, tn_l, lt_t, lt_f, le_t, le_f, eq_t, eq_f, ltn_t, ltn_f, len_t, len_f, eqn_t, eqn_f, up_ne, up_up, sh_0, rf_0_2, sh_73, wp_within, e0.1, l0.2.2.2.1, hx]
set_option maxRecDepth 100000 in
theorem wm_hides {B : Int} {μ : Nat → Nat → Int} (hL : LD B μ 73 0) {h : Nat} (hh : h < nW (μ 102)) (Φ : Option AV → ST → Prop) : wpM 222 [.inr (.inr (some 101)), .inl h] (S μ) Φ ↔ Φ (some (.inl (μ 102 (21 + h) - cntW (μ 102) h (μ 102 1)))) (S μ) := by
  obtain ⟨-, k, p, m, s, h8⟩ := ld_h hL hh
  have lc := ld_c hL hh (μ 102 1)
  unfold wpM
  rw [s1_iff [] 200]
  simp (disch := omega) [sz_s, sz_0, gx_s, hx_r, hx_c, hx_b, hx_s, hx_i, hx_n, kx_s, kx_n, kx_i, cx_d, up_at, am_ctl, am_step, am_i1, am_i2, am_i2d, am_l1, am_l2, am_l2d, am_ldi, am_ldl, am_lda, am_sti, am_sta, am_stl, am_inc, am_i2l, am_l2i, am_lcmp, am_dup, am_dup2, am_pop1, am_fv, am_getf, am_putf, am_wr, am_ial, am_lal, am_bal, am_aal, am_ias, am_las, am_bas, am_alen, am_inst, am_cast, am_cpm, am_copy, am_tsw, am_pop, am_cat, am_cS, am_cI, am_cV, am_ri, am_rl, am_ra, am_rv, am_b1, am_b2, am_ent, am_en, am_isL, am_st1, am_st2, am_clr, am_cnd, cc_222, ac_222, nL_222, rb_222, np_186, ok_222_186, nL_186, vd_186_12, tg_12_0, List.getElem?_cons_succ, List.getElem?_cons_zero, nz_of, nzl_of, Int.toNat_add, Int.toNat_mul, tn_l, lt_t, lt_f, le_t, le_f, eq_t, eq_f, ltn_t, ltn_f, len_t, len_f, eqn_t, eqn_f, up_ne, up_up, sh_101, sh_102, rf_101_0, wm_countedOf hL hh _ (ld_0 hL).2.2.2.2.2.2.1.1]
set_option maxRecDepth 100000 in
theorem wm_gains {B : Int} {μ : Nat → Nat → Int} (hL : LD B μ 73 0) (x : Int) (Φ : Option AV → ST → Prop) : wpM 223 [.inr (.inr (some 101)), .inl x] (S μ) Φ ↔ (if 0 ≤ x ∧ x < (nW (μ 102) : Int) then Φ (some (.inl (1))) (S (am_up μ 101 8 (gnW (μ 102) x.toNat))) else Φ (some (.inl (-1))) (S μ)) := by
  have e0 := ld_n hL
  have l0 := ld_0 hL
  by_cases hx : 0 ≤ x ∧ x < (nW (μ 102) : Int)
  · rw [if_pos hx]
    obtain ⟨q, rfl⟩ : ∃ q : Nat, x = q := ⟨x.toNat, by omega⟩
    have hq : q < nW (μ 102) := by omega
    have lh := ld_h hL hq
    rw [Int.toNat_natCast]
    have lc := ld_c hL hq (μ 102 1)
    have mr := mul_rng l0.2.2.2.2.2.2.2.2.1 (show -40 ≤ μ 102 (21 + q) - cntW (μ 102) q (μ 102 1) ∧ μ 102 (21 + q) - cntW (μ 102) q (μ 102 1) ≤ 40 by omega)
    have E1 : nz (μ 102 3 * (μ 102 (21 + q) - cntW (μ 102) q (μ 102 1))) = gnW (μ 102) q := nz_of (by omega) (by omega)
    have E2 : μ 102 3 * (μ 102 (21 + q) - cntW (μ 102) q (μ 102 1)) = gnW (μ 102) q := rfl
    have H2 := wm_hides hL hq
    unfold wpM
    rw [s1_iff [] 200]
    simp (disch := omega) [sz_s, sz_0, gx_s, hx_r, hx_c, hx_b, hx_s, hx_i, hx_n, kx_s, kx_n, kx_i, cx_d, up_at, am_ctl, am_step, am_i1, am_i2, am_i2d, am_l1, am_l2, am_l2d, am_ldi, am_ldl, am_lda, am_sti, am_sta, am_stl, am_inc, am_i2l, am_l2i, am_lcmp, am_dup, am_dup2, am_pop1, am_fv, am_getf, am_putf, am_wr, am_ial, am_lal, am_bal, am_aal, am_ias, am_las, am_bas, am_alen, am_inst, am_cast, am_cpm, am_copy, am_tsw, am_pop, am_cat, am_cS, am_cI, am_cV, am_ri, am_rl, am_ra, am_rv, am_b1, am_b2, am_ent, am_en, am_isL, am_st1, am_st2, am_clr, am_cnd, cc_223, ac_223, nL_223, rb_223, np_161, ok_223_161, nL_161, vd_161_12, np_178, ok_223_178, nL_178, vd_178_12, np_222, ok_223_222, nL_222, vd_222_12, tg_12_0, List.getElem?_cons_succ, List.getElem?_cons_zero, nz_of, nzl_of, Int.toNat_add, Int.toNat_mul, tn_l, lt_t, lt_f, le_t, le_f, eq_t, eq_f, ltn_t, ltn_f, len_t, len_f, eqn_t, eqn_f, up_ne, up_up, sh_101, sh_102, rf_101_0, wm_house hL, H2, wm_tells, E2, hq]
  · rw [if_neg hx]
    unfold wpM
    rw [s1_iff [] 200]
    simp (disch := omega) [sz_s, sz_0, gx_s, hx_r, hx_c, hx_b, hx_s, hx_i, hx_n, kx_s, kx_n, kx_i, cx_d, up_at, am_ctl, am_step, am_i1, am_i2, am_i2d, am_l1, am_l2, am_l2d, am_ldi, am_ldl, am_lda, am_sti, am_sta, am_stl, am_inc, am_i2l, am_l2i, am_lcmp, am_dup, am_dup2, am_pop1, am_fv, am_getf, am_putf, am_wr, am_ial, am_lal, am_bal, am_aal, am_ias, am_las, am_bas, am_alen, am_inst, am_cast, am_cpm, am_copy, am_tsw, am_pop, am_cat, am_cS, am_cI, am_cV, am_ri, am_rl, am_ra, am_rv, am_b1, am_b2, am_ent, am_en, am_isL, am_st1, am_st2, am_clr, am_cnd, cc_223, ac_223, nL_223, rb_223, np_161, ok_223_161, nL_161, vd_161_12, np_178, ok_223_178, nL_178, vd_178_12, np_222, ok_223_222, nL_222, vd_222_12, tg_12_0, List.getElem?_cons_succ, List.getElem?_cons_zero, nz_of, nzl_of, Int.toNat_add, Int.toNat_mul, tn_l, lt_t, lt_f, le_t, le_f, eq_t, eq_f, ltn_t, ltn_f, len_t, len_f, eqn_t, eqn_f, up_ne, up_up, sh_101, sh_102, rf_101_0, wm_house hL, hx]
theorem eq_gains {B : Int} {μ : Nat → Nat → Int} (h : INV B μ) (x : Int) : EQV B μ 113 223 [.inl x] := by
  have hL : LD B μ 73 0 := h.2.2.2.1
  unfold EQV
  rw [wp_gains hL]
  by_cases hx : 0 ≤ x ∧ x < (nW (μ 102) : Int)
  · rw [if_pos hx]
    refine ⟨_, _, rfl, rfl, ?_⟩
    rw [wm_gains (LD_up hL _ _ _ (by decide) (by decide)), up_ne _ _ _ (by decide), if_pos hx]
    exact ⟨rfl, _, rfl, inv_tell h _⟩
  · rw [if_neg hx]
    refine ⟨_, _, rfl, rfl, ?_⟩
    rw [wm_gains hL, if_neg hx]
    exact ⟨rfl, _, rfl, h⟩
set_option maxRecDepth 100000 in
theorem wp_sack {B : Int} {μ : Nat → Nat → Int} (hL : LD B μ 73 0) (p : Int) (Φ : Option AV → ST → Prop) : wpM 102 [.inr (.inr (some 0)), .inl p] (S μ) Φ ↔ (if 0 ≤ p ∧ p < 3 then Φ (some (.inl (inW (μ 102) p (μ 102 1)))) (S (am_up μ 0 10 (minW (μ 102) p))) else Φ (some (.inl (-1))) (S μ)) := by
  have l0 := ld_0 hL
  have K := wp_countedIn (LD_up hL 0 10 (minW (μ 102) p) (by decide) (by decide)) p (μ 102 1)
  rw [up_ne _ _ _ (by decide)] at K
  by_cases hx : 0 ≤ p ∧ p < 3
  · rw [if_pos hx]
    unfold wpM
    rw [s1_iff [] 200]
    simp (disch := omega) [sz_s, sz_0, gx_s, hx_r, hx_c, hx_b, hx_s, hx_i, hx_n, kx_s, kx_n, kx_i, cx_d, up_at, am_ctl, am_step, am_i1, am_i2, am_i2d, am_l1, am_l2, am_l2d, am_ldi, am_ldl, am_lda, am_sti, am_sta, am_stl, am_inc, am_i2l, am_l2i, am_lcmp, am_dup, am_dup2, am_pop1, am_fv, am_getf, am_putf, am_wr, am_ial, am_lal, am_bal, am_aal, am_ias, am_las, am_bas, am_alen, am_inst, am_cast, am_cpm, am_copy, am_tsw, am_pop, am_cat, am_cS, am_cI, am_cV, am_ri, am_rl, am_ra, am_rv, am_b1, am_b2, am_ent, am_en, am_isL, am_st1, am_st2, am_clr, am_cnd, cc_102, ac_102, nL_102, rb_102, np_129, ok_102_129, nL_129, np_27, ok_102_27, nL_27, vd_27_4, np_29, ok_102_29, nL_29, vd_29_4, np_134, ok_102_134, nL_134, vd_134_11, tg_11_2, tg_4_8, List.getElem?_cons_succ, List.getElem?_cons_zero, nz_of, nzl_of, Int.toNat_add, Int.toNat_mul, tn_l, lt_t, lt_f, le_t, le_f, eq_t, eq_f, ltn_t, ltn_f, len_t, len_f, eqn_t, eqn_f, up_ne, up_up, sh_0, rf_0_2, sh_73, wp_within, hx.1, hx.2, wp_mouthsIn hL, wp_tell, l0.2.1, K]
  · rw [if_neg hx]
    unfold wpM
    rw [s1_iff [] 200]
    simp (disch := omega) [sz_s, sz_0, gx_s, hx_r, hx_c, hx_b, hx_s, hx_i, hx_n, kx_s, kx_n, kx_i, cx_d, up_at, am_ctl, am_step, am_i1, am_i2, am_i2d, am_l1, am_l2, am_l2d, am_ldi, am_ldl, am_lda, am_sti, am_sta, am_stl, am_inc, am_i2l, am_l2i, am_lcmp, am_dup, am_dup2, am_pop1, am_fv, am_getf, am_putf, am_wr, am_ial, am_lal, am_bal, am_aal, am_ias, am_las, am_bas, am_alen, am_inst, am_cast, am_cpm, am_copy, am_tsw, am_pop, am_cat, am_cS, am_cI, am_cV, am_ri, am_rl, am_ra, am_rv, am_b1, am_b2, am_ent, am_en, am_isL, am_st1, am_st2, am_clr, am_cnd, cc_102, ac_102, nL_102, rb_102, np_129, ok_102_129, nL_129, np_27, ok_102_27, nL_27, vd_27_4, np_29, ok_102_29, nL_29, vd_29_4, np_134, ok_102_134, nL_134, vd_134_11, tg_11_2, tg_4_8, List.getElem?_cons_succ, List.getElem?_cons_zero, nz_of, nzl_of, Int.toNat_add, Int.toNat_mul, tn_l, lt_t, lt_f, le_t, le_f, eq_t, eq_f, ltn_t, ltn_f, len_t, len_f, eqn_t, eqn_f, up_ne, up_up, sh_0, wp_within, hx]
set_option maxRecDepth 100000 in
theorem wm_sack {B : Int} {μ : Nat → Nat → Int} (hL : LD B μ 73 0) (p : Int) (Φ : Option AV → ST → Prop) : wpM 208 [.inr (.inr (some 101)), .inl p] (S μ) Φ ↔ (if 0 ≤ p ∧ p < 3 then Φ (some (.inl (inW (μ 102) p (μ 102 1)))) (S (am_up μ 101 8 (minW (μ 102) p))) else Φ (some (.inl (-1))) (S μ)) := by
  have e0 := ld_n hL
  have K := wm_sackOf (LD_up hL 101 8 (minW (μ 102) p) (by decide) (by decide)) p
  rw [up_ne _ _ _ (by decide)] at K
  by_cases hx : 0 ≤ p ∧ p < 3
  · rw [if_pos hx]
    have r0 : ∀ i, i < nW (μ 102) → 0 ≤ (fun h => if μ 102 (13 + h) = p then μ 102 (21 + h) else 0) i ∧ (fun h => if μ 102 (13 + h) = p then μ 102 (21 + h) else 0) i ≤ 31 := by
      intro i hi
      obtain ⟨⟨-, -, -, -⟩, kk, pp, mm, ss, h8⟩ := ld_h hL hi
      dsimp only; split <;> omega
    have step : ∀ j, j < nW (μ 102) → ((fun j : Nat => wpS 208 16 [some (.inr (.inr (some 101))), some (.inl p), some (.inl j)] [] (S (am_up μ 101 8 (sumZ (fun h => if μ 102 (13 + h) = p then μ 102 (21 + h) else 0) j))) Φ) j ↔ (fun j : Nat => wpS 208 16 [some (.inr (.inr (some 101))), some (.inl p), some (.inl j)] [] (S (am_up μ 101 8 (sumZ (fun h => if μ 102 (13 + h) = p then μ 102 (21 + h) else 0) j))) Φ) (j + 1)) := by
      intro j hj
      obtain ⟨⟨e1, e2, e3, e4⟩, kk, pp, mm, ss, h8⟩ := ld_h hL hj
      have r1 := sumZ_rng (n := j) (fun i hi => r0 i (by omega))
      have r2 := r0 j hj
      dsimp only at r2 ⊢
      rw [sumZ_s]
      by_cases hc : μ 102 (13 + j) = p
      · rw [if_pos hc] at r2 ⊢
        rw [s1_iff [16] 200]
        simp (disch := omega) [sz_s, sz_0, gx_s, hx_r, hx_c, hx_b, hx_s, hx_i, hx_n, kx_s, kx_n, kx_i, cx_d, up_at, am_ctl, am_step, am_i1, am_i2, am_i2d, am_l1, am_l2, am_l2d, am_ldi, am_ldl, am_lda, am_sti, am_sta, am_stl, am_inc, am_i2l, am_l2i, am_lcmp, am_dup, am_dup2, am_pop1, am_fv, am_getf, am_putf, am_wr, am_ial, am_lal, am_bal, am_aal, am_ias, am_las, am_bas, am_alen, am_inst, am_cast, am_cpm, am_copy, am_tsw, am_pop, am_cat, am_cS, am_cI, am_cV, am_ri, am_rl, am_ra, am_rv, am_b1, am_b2, am_ent, am_en, am_isL, am_st1, am_st2, am_clr, am_cnd, cc_208, ac_208, nL_208, rb_208, np_207, ok_208_207, nL_207, np_201, ok_208_201, nL_201, vd_201_12, tg_12_0, tg_12_8, List.getElem?_cons_succ, List.getElem?_cons_zero, nz_of, nzl_of, Int.toNat_add, Int.toNat_mul, tn_l, lt_t, lt_f, le_t, le_f, eq_t, eq_f, ltn_t, ltn_f, len_t, len_f, eqn_t, eqn_f, up_ne, up_up, sh_101, sh_102, rf_101_0, e0.2.1, hc, hj, Nat.not_le.mpr hj]
      · rw [if_neg hc] at r2 ⊢
        rw [s1_iff [16] 200]
        simp (disch := omega) [sz_s, sz_0, gx_s, hx_r, hx_c, hx_b, hx_s, hx_i, hx_n, kx_s, kx_n, kx_i, cx_d, up_at, am_ctl, am_step, am_i1, am_i2, am_i2d, am_l1, am_l2, am_l2d, am_ldi, am_ldl, am_lda, am_sti, am_sta, am_stl, am_inc, am_i2l, am_l2i, am_lcmp, am_dup, am_dup2, am_pop1, am_fv, am_getf, am_putf, am_wr, am_ial, am_lal, am_bal, am_aal, am_ias, am_las, am_bas, am_alen, am_inst, am_cast, am_cpm, am_copy, am_tsw, am_pop, am_cat, am_cS, am_cI, am_cV, am_ri, am_rl, am_ra, am_rv, am_b1, am_b2, am_ent, am_en, am_isL, am_st1, am_st2, am_clr, am_cnd, cc_208, ac_208, nL_208, rb_208, np_207, ok_208_207, nL_207, np_201, ok_208_201, nL_201, vd_201_12, tg_12_0, tg_12_8, List.getElem?_cons_succ, List.getElem?_cons_zero, nz_of, nzl_of, Int.toNat_add, Int.toNat_mul, tn_l, lt_t, lt_f, le_t, le_f, eq_t, eq_f, ltn_t, ltn_f, len_t, len_f, eqn_t, eqn_f, up_ne, up_up, sh_101, sh_102, rf_101_0, e0.2.1, hc, hj, Nat.not_le.mpr hj]
    have s0 := up_iff _ (nW (μ 102)) step
    rw [sumZ_0] at s0
    unfold wpM
    rw [s1_iff [16] 200]
    simp (disch := omega) [sz_s, sz_0, gx_s, hx_r, hx_c, hx_b, hx_s, hx_i, hx_n, kx_s, kx_n, kx_i, cx_d, up_at, am_ctl, am_step, am_i1, am_i2, am_i2d, am_l1, am_l2, am_l2d, am_ldi, am_ldl, am_lda, am_sti, am_sta, am_stl, am_inc, am_i2l, am_l2i, am_lcmp, am_dup, am_dup2, am_pop1, am_fv, am_getf, am_putf, am_wr, am_ial, am_lal, am_bal, am_aal, am_ias, am_las, am_bas, am_alen, am_inst, am_cast, am_cpm, am_copy, am_tsw, am_pop, am_cat, am_cS, am_cI, am_cV, am_ri, am_rl, am_ra, am_rv, am_b1, am_b2, am_ent, am_en, am_isL, am_st1, am_st2, am_clr, am_cnd, cc_208, ac_208, nL_208, rb_208, np_207, ok_208_207, nL_207, np_201, ok_208_201, nL_201, vd_201_12, tg_12_0, tg_12_8, List.getElem?_cons_succ, List.getElem?_cons_zero, nz_of, nzl_of, Int.toNat_add, Int.toNat_mul, tn_l, lt_t, lt_f, le_t, le_f, eq_t, eq_f, ltn_t, ltn_f, len_t, len_f, eqn_t, eqn_f, up_ne, up_up, sh_101, wm_isProvince, hx.1, show p ≤ 2 by omega]
    refine s0.trans ?_
    show _ ↔ Φ (some (.inl (inW (μ 102) p (μ 102 1)))) (S (am_up μ 101 8 (minW (μ 102) p)))
    rw [s1_iff [16] 200]
    simp (disch := omega) [sz_s, sz_0, gx_s, hx_r, hx_c, hx_b, hx_s, hx_i, hx_n, kx_s, kx_n, kx_i, cx_d, up_at, am_ctl, am_step, am_i1, am_i2, am_i2d, am_l1, am_l2, am_l2d, am_ldi, am_ldl, am_lda, am_sti, am_sta, am_stl, am_inc, am_i2l, am_l2i, am_lcmp, am_dup, am_dup2, am_pop1, am_fv, am_getf, am_putf, am_wr, am_ial, am_lal, am_bal, am_aal, am_ias, am_las, am_bas, am_alen, am_inst, am_cast, am_cpm, am_copy, am_tsw, am_pop, am_cat, am_cS, am_cI, am_cV, am_ri, am_rl, am_ra, am_rv, am_b1, am_b2, am_ent, am_en, am_isL, am_st1, am_st2, am_clr, am_cnd, cc_208, ac_208, nL_208, rb_208, np_207, ok_208_207, nL_207, np_201, ok_208_201, nL_201, vd_201_12, tg_12_0, tg_12_8, List.getElem?_cons_succ, List.getElem?_cons_zero, nz_of, nzl_of, Int.toNat_add, Int.toNat_mul, tn_l, lt_t, lt_f, le_t, le_f, eq_t, eq_f, ltn_t, ltn_f, len_t, len_f, eqn_t, eqn_f, up_ne, up_up, sh_101, sh_102, rf_101_0, e0.2.1, ← show minW (μ 102) p = sumZ (fun h => if μ 102 (13 + h) = p then μ 102 (21 + h) else 0) (nW (μ 102)) from rfl, K]
  · rw [if_neg hx]
    unfold wpM
    rw [s1_iff [] 200]
    simp (disch := omega) [sz_s, sz_0, gx_s, hx_r, hx_c, hx_b, hx_s, hx_i, hx_n, kx_s, kx_n, kx_i, cx_d, up_at, am_ctl, am_step, am_i1, am_i2, am_i2d, am_l1, am_l2, am_l2d, am_ldi, am_ldl, am_lda, am_sti, am_sta, am_stl, am_inc, am_i2l, am_l2i, am_lcmp, am_dup, am_dup2, am_pop1, am_fv, am_getf, am_putf, am_wr, am_ial, am_lal, am_bal, am_aal, am_ias, am_las, am_bas, am_alen, am_inst, am_cast, am_cpm, am_copy, am_tsw, am_pop, am_cat, am_cS, am_cI, am_cV, am_ri, am_rl, am_ra, am_rv, am_b1, am_b2, am_ent, am_en, am_isL, am_st1, am_st2, am_clr, am_cnd, cc_208, ac_208, nL_208, rb_208, np_207, ok_208_207, nL_207, np_201, ok_208_201, nL_201, vd_201_12, tg_12_0, tg_12_8, List.getElem?_cons_succ, List.getElem?_cons_zero, nz_of, nzl_of, Int.toNat_add, Int.toNat_mul, tn_l, lt_t, lt_f, le_t, le_f, eq_t, eq_f, ltn_t, ltn_f, len_t, len_f, eqn_t, eqn_f, up_ne, up_up, sh_101, wm_isProvince, show ¬ (0 ≤ p ∧ p ≤ 2) by omega]
theorem eq_sack {B : Int} {μ : Nat → Nat → Int} (h : INV B μ) (p : Int) : EQV B μ 102 208 [.inl p] := by
  have hL : LD B μ 73 0 := h.2.2.2.1
  unfold EQV
  rw [wp_sack hL]
  by_cases hx : 0 ≤ p ∧ p < 3
  · rw [if_pos hx]
    refine ⟨_, _, rfl, rfl, ?_⟩
    rw [wm_sack (LD_up hL _ _ _ (by decide) (by decide)), up_ne _ _ _ (by decide), if_pos hx]
    exact ⟨rfl, _, rfl, inv_tell h _⟩
  · rw [if_neg hx]
    refine ⟨_, _, rfl, rfl, ?_⟩
    rw [wm_sack hL, if_neg hx]
    exact ⟨rfl, _, rfl, h⟩
set_option maxRecDepth 100000 in
theorem wp_logged {B : Int} {μ : Nat → Nat → Int} (hL : LD B μ 73 0) (t p : Nat) (ht : (t : Int) < μ 102 2) (hp : p < 3) (Φ : Option AV → ST → Prop) : wpM 35 [.inr (.inr (some 73)), .inl t, .inl p] (S μ) Φ ↔ Φ (some (.inl (μ 102 (101 + (3 * t + p))))) (S μ) := by
  have l0 := ld_0 hL
  have e1 := (ld_g hL (j := 3 * t + p) (by omega)).1
  unfold wpM
  rw [s1_iff [] 200]
  simp (disch := omega) [sz_s, sz_0, gx_s, hx_r, hx_c, hx_b, hx_s, hx_i, hx_n, kx_s, kx_n, kx_i, cx_d, up_at, am_ctl, am_step, am_i1, am_i2, am_i2d, am_l1, am_l2, am_l2d, am_ldi, am_ldl, am_lda, am_sti, am_sta, am_stl, am_inc, am_i2l, am_l2i, am_lcmp, am_dup, am_dup2, am_pop1, am_fv, am_getf, am_putf, am_wr, am_ial, am_lal, am_bal, am_aal, am_ias, am_las, am_bas, am_alen, am_inst, am_cast, am_cpm, am_copy, am_tsw, am_pop, am_cat, am_cS, am_cI, am_cV, am_ri, am_rl, am_ra, am_rv, am_b1, am_b2, am_ent, am_en, am_isL, am_st1, am_st2, am_clr, am_cnd, cc_35, ac_35, nL_35, rb_35, tg_4_6, List.getElem?_cons_succ, List.getElem?_cons_zero, nz_of, nzl_of, Int.toNat_add, Int.toNat_mul, tn_l, lt_t, lt_f, le_t, le_f, eq_t, eq_f, ltn_t, ltn_f, len_t, len_f, eqn_t, eqn_f, up_ne, up_up, sh_73, sh_79, rf_73_6, Nat.mul_comm t 3, e1]
set_option maxRecDepth 100000 in
theorem wp_was {B : Int} {μ : Nat → Nat → Int} (hL : LD B μ 73 0) (n p : Int) (Φ : Option AV → ST → Prop) : wpM 103 [.inr (.inr (some 0)), .inl n, .inl p] (S μ) Φ ↔ (if 0 ≤ n ∧ 0 ≤ p ∧ p < 3 then (if n < μ 102 2 then Φ (some (.inl (μ 102 (101 + (3 * n.toNat + p.toNat))))) (S μ) else Φ (some (.inl (-3))) (S (xfind μ 2))) else Φ (some (.inl (-1))) (S μ)) := by
  have l0 := ld_0 hL
  unfold wpM
  by_cases hn : 0 ≤ n
  · by_cases hp : 0 ≤ p ∧ p < 3
    · rw [if_pos ⟨hn, hp⟩]
      by_cases c : n < μ 102 2
      · rw [if_pos c]
        obtain ⟨t, rfl⟩ : ∃ t : Nat, n = t := ⟨n.toNat, by omega⟩
        obtain ⟨q, rfl⟩ : ∃ q : Nat, p = q := ⟨p.toNat, by omega⟩
        simp only [Int.toNat_natCast]
        have hq : q < 3 := by omega
        rw [s1_iff [] 200]
        simp (disch := omega) [sz_s, sz_0, gx_s, hx_r, hx_c, hx_b, hx_s, hx_i, hx_n, kx_s, kx_n, kx_i, cx_d, up_at, am_ctl, am_step, am_i1, am_i2, am_i2d, am_l1, am_l2, am_l2d, am_ldi, am_ldl, am_lda, am_sti, am_sta, am_stl, am_inc, am_i2l, am_l2i, am_lcmp, am_dup, am_dup2, am_pop1, am_fv, am_getf, am_putf, am_wr, am_ial, am_lal, am_bal, am_aal, am_ias, am_las, am_bas, am_alen, am_inst, am_cast, am_cpm, am_copy, am_tsw, am_pop, am_cat, am_cS, am_cI, am_cV, am_ri, am_rl, am_ra, am_rv, am_b1, am_b2, am_ent, am_en, am_isL, am_st1, am_st2, am_clr, am_cnd, cc_103, ac_103, nL_103, rb_103, np_129, ok_103_129, nL_129, np_35, ok_103_35, nL_35, vd_35_4, np_133, ok_103_133, nL_133, vd_133_11, tg_11_2, tg_4_9, List.getElem?_cons_succ, List.getElem?_cons_zero, nz_of, nzl_of, Int.toNat_add, Int.toNat_mul, tn_l, lt_t, lt_f, le_t, le_f, eq_t, eq_f, ltn_t, ltn_f, len_t, len_f, eqn_t, eqn_f, up_ne, up_up, sh_0, rf_0_2, sh_73, wp_within, l0.2.2.1, wp_find 2 (by decide), hq, c, wp_logged hL t q (by omega) (by omega)]
      · rw [if_neg c]
        rw [s1_iff [] 200]
        simp (disch := omega) [sz_s, sz_0, gx_s, hx_r, hx_c, hx_b, hx_s, hx_i, hx_n, kx_s, kx_n, kx_i, cx_d, up_at, am_ctl, am_step, am_i1, am_i2, am_i2d, am_l1, am_l2, am_l2d, am_ldi, am_ldl, am_lda, am_sti, am_sta, am_stl, am_inc, am_i2l, am_l2i, am_lcmp, am_dup, am_dup2, am_pop1, am_fv, am_getf, am_putf, am_wr, am_ial, am_lal, am_bal, am_aal, am_ias, am_las, am_bas, am_alen, am_inst, am_cast, am_cpm, am_copy, am_tsw, am_pop, am_cat, am_cS, am_cI, am_cV, am_ri, am_rl, am_ra, am_rv, am_b1, am_b2, am_ent, am_en, am_isL, am_st1, am_st2, am_clr, am_cnd, cc_103, ac_103, nL_103, rb_103, np_129, ok_103_129, nL_129, np_35, ok_103_35, nL_35, vd_35_4, np_133, ok_103_133, nL_133, vd_133_11, tg_11_2, tg_4_9, List.getElem?_cons_succ, List.getElem?_cons_zero, nz_of, nzl_of, Int.toNat_add, Int.toNat_mul, tn_l, lt_t, lt_f, le_t, le_f, eq_t, eq_f, ltn_t, ltn_f, len_t, len_f, eqn_t, eqn_f, up_ne, up_up, sh_0, rf_0_2, sh_73, wp_within, l0.2.2.1, wp_find 2 (by decide), hp.1, hp.2, c, xfind]
    · rw [if_neg (fun q => hp q.2)]
      rw [s1_iff [] 200]
      simp (disch := omega) [sz_s, sz_0, gx_s, hx_r, hx_c, hx_b, hx_s, hx_i, hx_n, kx_s, kx_n, kx_i, cx_d, up_at, am_ctl, am_step, am_i1, am_i2, am_i2d, am_l1, am_l2, am_l2d, am_ldi, am_ldl, am_lda, am_sti, am_sta, am_stl, am_inc, am_i2l, am_l2i, am_lcmp, am_dup, am_dup2, am_pop1, am_fv, am_getf, am_putf, am_wr, am_ial, am_lal, am_bal, am_aal, am_ias, am_las, am_bas, am_alen, am_inst, am_cast, am_cpm, am_copy, am_tsw, am_pop, am_cat, am_cS, am_cI, am_cV, am_ri, am_rl, am_ra, am_rv, am_b1, am_b2, am_ent, am_en, am_isL, am_st1, am_st2, am_clr, am_cnd, cc_103, ac_103, nL_103, rb_103, np_129, ok_103_129, nL_129, np_35, ok_103_35, nL_35, vd_35_4, np_133, ok_103_133, nL_133, vd_133_11, tg_11_2, tg_4_9, List.getElem?_cons_succ, List.getElem?_cons_zero, nz_of, nzl_of, Int.toNat_add, Int.toNat_mul, tn_l, lt_t, lt_f, le_t, le_f, eq_t, eq_f, ltn_t, ltn_f, len_t, len_f, eqn_t, eqn_f, up_ne, up_up, sh_0, rf_0_2, sh_73, wp_within, l0.2.2.1, wp_find 2 (by decide), hp]
  · rw [if_neg (fun q => hn q.1)]
    rw [s1_iff [] 200]
    simp (disch := omega) [sz_s, sz_0, gx_s, hx_r, hx_c, hx_b, hx_s, hx_i, hx_n, kx_s, kx_n, kx_i, cx_d, up_at, am_ctl, am_step, am_i1, am_i2, am_i2d, am_l1, am_l2, am_l2d, am_ldi, am_ldl, am_lda, am_sti, am_sta, am_stl, am_inc, am_i2l, am_l2i, am_lcmp, am_dup, am_dup2, am_pop1, am_fv, am_getf, am_putf, am_wr, am_ial, am_lal, am_bal, am_aal, am_ias, am_las, am_bas, am_alen, am_inst, am_cast, am_cpm, am_copy, am_tsw, am_pop, am_cat, am_cS, am_cI, am_cV, am_ri, am_rl, am_ra, am_rv, am_b1, am_b2, am_ent, am_en, am_isL, am_st1, am_st2, am_clr, am_cnd, cc_103, ac_103, nL_103, rb_103, np_129, ok_103_129, nL_129, np_35, ok_103_35, nL_35, vd_35_4, np_133, ok_103_133, nL_133, vd_133_11, tg_11_2, tg_4_9, List.getElem?_cons_succ, List.getElem?_cons_zero, nz_of, nzl_of, Int.toNat_add, Int.toNat_mul, tn_l, lt_t, lt_f, le_t, le_f, eq_t, eq_f, ltn_t, ltn_f, len_t, len_f, eqn_t, eqn_f, up_ne, up_up, sh_0, rf_0_2, sh_73, wp_within, l0.2.2.1, wp_find 2 (by decide)]
set_option maxRecDepth 100000 in
theorem wm_was {B : Int} {μ : Nat → Nat → Int} (hL : LD B μ 73 0) (n p : Int) (Φ : Option AV → ST → Prop) : wpM 209 [.inr (.inr (some 101)), .inl n, .inl p] (S μ) Φ ↔ (if 0 ≤ n ∧ 0 ≤ p ∧ p < 3 then (if n < μ 102 2 then Φ (some (.inl (μ 102 (101 + (3 * n.toNat + p.toNat))))) (S μ) else Φ (some (.inl (-3))) (S (mfind μ 2))) else Φ (some (.inl (-1))) (S μ)) := by
  have l0 := ld_0 hL
  unfold wpM
  by_cases hn : 0 ≤ n
  · by_cases hp : 0 ≤ p ∧ p < 3
    · rw [if_pos ⟨hn, hp⟩]
      by_cases c : n < μ 102 2
      · rw [if_pos c]
        obtain ⟨t, rfl⟩ : ∃ t : Nat, n = t := ⟨n.toNat, by omega⟩
        obtain ⟨q, rfl⟩ : ∃ q : Nat, p = q := ⟨p.toNat, by omega⟩
        simp only [Int.toNat_natCast]
        have hq : q < 3 := by omega
        rw [s1_iff [] 200]
        simp (disch := omega) [sz_s, sz_0, gx_s, hx_r, hx_c, hx_b, hx_s, hx_i, hx_n, kx_s, kx_n, kx_i, cx_d, up_at, am_ctl, am_step, am_i1, am_i2, am_i2d, am_l1, am_l2, am_l2d, am_ldi, am_ldl, am_lda, am_sti, am_sta, am_stl, am_inc, am_i2l, am_l2i, am_lcmp, am_dup, am_dup2, am_pop1, am_fv, am_getf, am_putf, am_wr, am_ial, am_lal, am_bal, am_aal, am_ias, am_las, am_bas, am_alen, am_inst, am_cast, am_cpm, am_copy, am_tsw, am_pop, am_cat, am_cS, am_cI, am_cV, am_ri, am_rl, am_ra, am_rv, am_b1, am_b2, am_ent, am_en, am_isL, am_st1, am_st2, am_clr, am_cnd, cc_209, ac_209, nL_209, rb_209, np_207, ok_209_207, nL_207, np_160, ok_209_160, nL_160, vd_160_12, tg_12_0, List.getElem?_cons_succ, List.getElem?_cons_zero, nz_of, nzl_of, Int.toNat_add, Int.toNat_mul, tn_l, lt_t, lt_f, le_t, le_f, eq_t, eq_f, ltn_t, ltn_f, len_t, len_f, eqn_t, eqn_f, up_ne, up_up, sh_101, sh_102, rf_101_0, wm_isProvince, wm_met 2 (by decide), hq, c, Nat.add_assoc]
      · rw [if_neg c]
        rw [s1_iff [] 200]
        simp (disch := omega) [sz_s, sz_0, gx_s, hx_r, hx_c, hx_b, hx_s, hx_i, hx_n, kx_s, kx_n, kx_i, cx_d, up_at, am_ctl, am_step, am_i1, am_i2, am_i2d, am_l1, am_l2, am_l2d, am_ldi, am_ldl, am_lda, am_sti, am_sta, am_stl, am_inc, am_i2l, am_l2i, am_lcmp, am_dup, am_dup2, am_pop1, am_fv, am_getf, am_putf, am_wr, am_ial, am_lal, am_bal, am_aal, am_ias, am_las, am_bas, am_alen, am_inst, am_cast, am_cpm, am_copy, am_tsw, am_pop, am_cat, am_cS, am_cI, am_cV, am_ri, am_rl, am_ra, am_rv, am_b1, am_b2, am_ent, am_en, am_isL, am_st1, am_st2, am_clr, am_cnd, cc_209, ac_209, nL_209, rb_209, np_207, ok_209_207, nL_207, np_160, ok_209_160, nL_160, vd_160_12, tg_12_0, List.getElem?_cons_succ, List.getElem?_cons_zero, nz_of, nzl_of, Int.toNat_add, Int.toNat_mul, tn_l, lt_t, lt_f, le_t, le_f, eq_t, eq_f, ltn_t, ltn_f, len_t, len_f, eqn_t, eqn_f, up_ne, up_up, sh_101, sh_102, rf_101_0, wm_isProvince, wm_met 2 (by decide), hp.1, show p ≤ 2 by omega, c, mfind]
    · rw [if_neg (fun q => hp q.2)]
      rw [s1_iff [] 200]
      simp (disch := omega) [sz_s, sz_0, gx_s, hx_r, hx_c, hx_b, hx_s, hx_i, hx_n, kx_s, kx_n, kx_i, cx_d, up_at, am_ctl, am_step, am_i1, am_i2, am_i2d, am_l1, am_l2, am_l2d, am_ldi, am_ldl, am_lda, am_sti, am_sta, am_stl, am_inc, am_i2l, am_l2i, am_lcmp, am_dup, am_dup2, am_pop1, am_fv, am_getf, am_putf, am_wr, am_ial, am_lal, am_bal, am_aal, am_ias, am_las, am_bas, am_alen, am_inst, am_cast, am_cpm, am_copy, am_tsw, am_pop, am_cat, am_cS, am_cI, am_cV, am_ri, am_rl, am_ra, am_rv, am_b1, am_b2, am_ent, am_en, am_isL, am_st1, am_st2, am_clr, am_cnd, cc_209, ac_209, nL_209, rb_209, np_207, ok_209_207, nL_207, np_160, ok_209_160, nL_160, vd_160_12, tg_12_0, List.getElem?_cons_succ, List.getElem?_cons_zero, nz_of, nzl_of, Int.toNat_add, Int.toNat_mul, tn_l, lt_t, lt_f, le_t, le_f, eq_t, eq_f, ltn_t, ltn_f, len_t, len_f, eqn_t, eqn_f, up_ne, up_up, sh_101, sh_102, rf_101_0, wm_isProvince, wm_met 2 (by decide), show ¬ (0 ≤ p ∧ p ≤ 2) by omega]
  · rw [if_neg (fun q => hn q.1)]
    rw [s1_iff [] 200]
    simp (disch := omega) [sz_s, sz_0, gx_s, hx_r, hx_c, hx_b, hx_s, hx_i, hx_n, kx_s, kx_n, kx_i, cx_d, up_at, am_ctl, am_step, am_i1, am_i2, am_i2d, am_l1, am_l2, am_l2d, am_ldi, am_ldl, am_lda, am_sti, am_sta, am_stl, am_inc, am_i2l, am_l2i, am_lcmp, am_dup, am_dup2, am_pop1, am_fv, am_getf, am_putf, am_wr, am_ial, am_lal, am_bal, am_aal, am_ias, am_las, am_bas, am_alen, am_inst, am_cast, am_cpm, am_copy, am_tsw, am_pop, am_cat, am_cS, am_cI, am_cV, am_ri, am_rl, am_ra, am_rv, am_b1, am_b2, am_ent, am_en, am_isL, am_st1, am_st2, am_clr, am_cnd, cc_209, ac_209, nL_209, rb_209, np_207, ok_209_207, nL_207, np_160, ok_209_160, nL_160, vd_160_12, tg_12_0, List.getElem?_cons_succ, List.getElem?_cons_zero, nz_of, nzl_of, Int.toNat_add, Int.toNat_mul, tn_l, lt_t, lt_f, le_t, le_f, eq_t, eq_f, ltn_t, ltn_f, len_t, len_f, eqn_t, eqn_f, up_ne, up_up, sh_101, sh_102, rf_101_0, wm_isProvince, wm_met 2 (by decide)]
theorem LD_xf {B : Int} {μ : Nat → Nat → Int} (hL : LD B μ 73 0) (f : Nat) : LD B (xfind μ f) 73 0 := by
  unfold xfind
  exact LD_up (LD_up hL _ _ _ (by decide) (by decide)) _ _ _ (by decide) (by decide)
theorem xf_102 (μ : Nat → Nat → Int) (f : Nat) (k : Nat) (h : ¬ k = 0) (h2 : ¬ k = 45) : xfind μ f k = μ k := by
  unfold xfind; rw [up_ne _ _ _ h2, up_ne _ _ _ h]
theorem eq_was {B : Int} {μ : Nat → Nat → Int} (h : INV B μ) (n p : Int) : EQV B μ 103 209 [.inl n, .inl p] := by
  have hL : LD B μ 73 0 := h.2.2.2.1
  unfold EQV
  rw [wp_was hL]
  by_cases hx : 0 ≤ n ∧ 0 ≤ p ∧ p < 3
  · rw [if_pos hx]
    by_cases c : n < μ 102 2
    · rw [if_pos c]
      refine ⟨_, _, rfl, rfl, ?_⟩
      rw [wm_was hL, if_pos hx, if_pos c]
      exact ⟨rfl, _, rfl, h⟩
    · rw [if_neg c]
      refine ⟨_, _, rfl, rfl, ?_⟩
      rw [wm_was (LD_xf hL 2), if_pos hx, xf_102 _ _ _ (by decide) (by decide), if_neg c]
      exact ⟨rfl, _, rfl, inv_find h 2 (by decide)⟩
  · rw [if_neg hx]
    refine ⟨_, _, rfl, rfl, ?_⟩
    rw [wm_was hL, if_neg hx]
    exact ⟨rfl, _, rfl, h⟩
def loW (w : Nat → Int) (t p : Nat) (n : Int) : Int := n - w (101 + 3 * t) - w (101 + (3 * t + 1)) - w (101 + (3 * t + 2)) + w (101 + (3 * t + p))
set_option maxRecDepth 100000 in
theorem wp_lost {B : Int} {μ : Nat → Nat → Int} (hL : LD B μ 73 0) (a p n : Int) (Φ : Option AV → ST → Prop) : wpM 111 [.inr (.inr (some 0)), .inl a, .inl p, .inl n] (S μ) Φ ↔ (if 0 ≤ a ∧ (0 ≤ p ∧ p < 3) ∧ 0 ≤ n ∧ n < 1000 then (if a < μ 102 2 then (if loW (μ 102) a.toNat p.toNat n < 0 then Φ (some (.inl (-4))) (S μ) else Φ (some (.inl (loW (μ 102) a.toNat p.toNat n))) (S (am_up μ 0 10 (if loW (μ 102) a.toNat p.toNat n = μ 102 (101 + (3 * a.toNat + p.toNat)) then 1 else 0)))) else Φ (some (.inl (-3))) (S (xfind μ 2))) else Φ (some (.inl (-1))) (S μ)) := by
  have l0 := ld_0 hL
  unfold wpM
  by_cases hn : 0 ≤ a
  · by_cases hp : 0 ≤ p ∧ p < 3
    · by_cases hm : 0 ≤ n ∧ n < 1000
      · rw [if_pos ⟨hn, hp, hm⟩]
        by_cases c : a < μ 102 2
        · rw [if_pos c]
          obtain ⟨t, rfl⟩ : ∃ t : Nat, a = t := ⟨a.toNat, by omega⟩
          have g0 := ld_g hL (j := 3 * t) (by omega)
          have g1 := ld_g hL (j := 3 * t + 1) (by omega)
          have g2 := ld_g hL (j := 3 * t + 2) (by omega)
          have ht : t < 30 := by omega
          have K0 := wp_logged hL t 0 (by omega) (by omega)
          have K1 := wp_logged hL t 1 (by omega) (by omega)
          have K2 := wp_logged hL t 2 (by omega) (by omega)
          simp only [Int.natCast_zero, Int.natCast_one, show ((2 : Nat) : Int) = 2 from rfl, Nat.add_zero] at K0 K1 K2

          simp only [Int.toNat_natCast]
          have : p = 0 ∨ p = 1 ∨ p = 2 := by omega
          rcases this with rfl | rfl | rfl
          · have eL : loW (μ 102) t (Int.toNat 0) n = n - μ 102 (101 + (3 * t + 1)) - μ 102 (101 + (3 * t + 2)) := by unfold loW; simp <;> omega
            simp only [eL]
            by_cases ng : n - μ 102 (101 + (3 * t + 1)) - μ 102 (101 + (3 * t + 2)) < 0
            · rw [if_pos ng]
              rw [s1_iff [] 200]
              simp (disch := omega) [sz_s, sz_0, gx_s, hx_r, hx_c, hx_b, hx_s, hx_i, hx_n, kx_s, kx_n, kx_i, cx_d, up_at, am_ctl, am_step, am_i1, am_i2, am_i2d, am_l1, am_l2, am_l2d, am_ldi, am_ldl, am_lda, am_sti, am_sta, am_stl, am_inc, am_i2l, am_l2i, am_lcmp, am_dup, am_dup2, am_pop1, am_fv, am_getf, am_putf, am_wr, am_ial, am_lal, am_bal, am_aal, am_ias, am_las, am_bas, am_alen, am_inst, am_cast, am_cpm, am_copy, am_tsw, am_pop, am_cat, am_cS, am_cI, am_cV, am_ri, am_rl, am_ra, am_rv, am_b1, am_b2, am_ent, am_en, am_isL, am_st1, am_st2, am_clr, am_cnd, cc_111, ac_111, nL_111, rb_111, np_129, ok_111_129, nL_129, np_35, ok_111_35, nL_35, vd_35_4, np_133, ok_111_133, nL_133, vd_133_11, np_134, ok_111_134, nL_134, vd_134_11, tg_11_2, tg_4_9, List.getElem?_cons_succ, List.getElem?_cons_zero, nz_of, nzl_of, Int.toNat_add, Int.toNat_mul, tn_l, lt_t, lt_f, le_t, le_f, eq_t, eq_f, ltn_t, ltn_f, len_t, len_f, eqn_t, eqn_f, up_ne, up_up, sh_0, rf_0_2, sh_73, wp_within, l0.2.2.1, wp_find 2 (by decide), hm.1, hm.2, show n ≤ 999 by omega, c, K0, K1, K2, wp_tell]
            · rw [if_neg ng]
              rw [s1_iff [] 200]
              simp (disch := omega) [sz_s, sz_0, gx_s, hx_r, hx_c, hx_b, hx_s, hx_i, hx_n, kx_s, kx_n, kx_i, cx_d, up_at, am_ctl, am_step, am_i1, am_i2, am_i2d, am_l1, am_l2, am_l2d, am_ldi, am_ldl, am_lda, am_sti, am_sta, am_stl, am_inc, am_i2l, am_l2i, am_lcmp, am_dup, am_dup2, am_pop1, am_fv, am_getf, am_putf, am_wr, am_ial, am_lal, am_bal, am_aal, am_ias, am_las, am_bas, am_alen, am_inst, am_cast, am_cpm, am_copy, am_tsw, am_pop, am_cat, am_cS, am_cI, am_cV, am_ri, am_rl, am_ra, am_rv, am_b1, am_b2, am_ent, am_en, am_isL, am_st1, am_st2, am_clr, am_cnd, cc_111, ac_111, nL_111, rb_111, np_129, ok_111_129, nL_129, np_35, ok_111_35, nL_35, vd_35_4, np_133, ok_111_133, nL_133, vd_133_11, np_134, ok_111_134, nL_134, vd_134_11, tg_11_2, tg_4_9, List.getElem?_cons_succ, List.getElem?_cons_zero, nz_of, nzl_of, Int.toNat_add, Int.toNat_mul, tn_l, lt_t, lt_f, le_t, le_f, eq_t, eq_f, ltn_t, ltn_f, len_t, len_f, eqn_t, eqn_f, up_ne, up_up, sh_0, rf_0_2, sh_73, wp_within, l0.2.2.1, wp_find 2 (by decide), hm.1, hm.2, show n ≤ 999 by omega, c, K0, K1, K2, wp_tell]
              all_goals (repeat' split) <;> first | rfl | (exfalso; omega) | exact an_iff (by omega) | (simp_all; done) | (simp_all; omega)
          · have eL : loW (μ 102) t (Int.toNat 1) n = n - μ 102 (101 + 3 * t) - μ 102 (101 + (3 * t + 2)) := by unfold loW; simp <;> omega
            simp only [eL]
            by_cases ng : n - μ 102 (101 + 3 * t) - μ 102 (101 + (3 * t + 2)) < 0
            · rw [if_pos ng]
              rw [s1_iff [] 200]
              simp (disch := omega) [sz_s, sz_0, gx_s, hx_r, hx_c, hx_b, hx_s, hx_i, hx_n, kx_s, kx_n, kx_i, cx_d, up_at, am_ctl, am_step, am_i1, am_i2, am_i2d, am_l1, am_l2, am_l2d, am_ldi, am_ldl, am_lda, am_sti, am_sta, am_stl, am_inc, am_i2l, am_l2i, am_lcmp, am_dup, am_dup2, am_pop1, am_fv, am_getf, am_putf, am_wr, am_ial, am_lal, am_bal, am_aal, am_ias, am_las, am_bas, am_alen, am_inst, am_cast, am_cpm, am_copy, am_tsw, am_pop, am_cat, am_cS, am_cI, am_cV, am_ri, am_rl, am_ra, am_rv, am_b1, am_b2, am_ent, am_en, am_isL, am_st1, am_st2, am_clr, am_cnd, cc_111, ac_111, nL_111, rb_111, np_129, ok_111_129, nL_129, np_35, ok_111_35, nL_35, vd_35_4, np_133, ok_111_133, nL_133, vd_133_11, np_134, ok_111_134, nL_134, vd_134_11, tg_11_2, tg_4_9, List.getElem?_cons_succ, List.getElem?_cons_zero, nz_of, nzl_of, Int.toNat_add, Int.toNat_mul, tn_l, lt_t, lt_f, le_t, le_f, eq_t, eq_f, ltn_t, ltn_f, len_t, len_f, eqn_t, eqn_f, up_ne, up_up, sh_0, rf_0_2, sh_73, wp_within, l0.2.2.1, wp_find 2 (by decide), hm.1, hm.2, show n ≤ 999 by omega, c, K0, K1, K2, wp_tell]
            · rw [if_neg ng]
              rw [s1_iff [] 200]
              simp (disch := omega) [sz_s, sz_0, gx_s, hx_r, hx_c, hx_b, hx_s, hx_i, hx_n, kx_s, kx_n, kx_i, cx_d, up_at, am_ctl, am_step, am_i1, am_i2, am_i2d, am_l1, am_l2, am_l2d, am_ldi, am_ldl, am_lda, am_sti, am_sta, am_stl, am_inc, am_i2l, am_l2i, am_lcmp, am_dup, am_dup2, am_pop1, am_fv, am_getf, am_putf, am_wr, am_ial, am_lal, am_bal, am_aal, am_ias, am_las, am_bas, am_alen, am_inst, am_cast, am_cpm, am_copy, am_tsw, am_pop, am_cat, am_cS, am_cI, am_cV, am_ri, am_rl, am_ra, am_rv, am_b1, am_b2, am_ent, am_en, am_isL, am_st1, am_st2, am_clr, am_cnd, cc_111, ac_111, nL_111, rb_111, np_129, ok_111_129, nL_129, np_35, ok_111_35, nL_35, vd_35_4, np_133, ok_111_133, nL_133, vd_133_11, np_134, ok_111_134, nL_134, vd_134_11, tg_11_2, tg_4_9, List.getElem?_cons_succ, List.getElem?_cons_zero, nz_of, nzl_of, Int.toNat_add, Int.toNat_mul, tn_l, lt_t, lt_f, le_t, le_f, eq_t, eq_f, ltn_t, ltn_f, len_t, len_f, eqn_t, eqn_f, up_ne, up_up, sh_0, rf_0_2, sh_73, wp_within, l0.2.2.1, wp_find 2 (by decide), hm.1, hm.2, show n ≤ 999 by omega, c, K0, K1, K2, wp_tell]
              all_goals (repeat' split) <;> first | rfl | (exfalso; omega) | exact an_iff (by omega) | (simp_all; done) | (simp_all; omega)
          · have eL : loW (μ 102) t (Int.toNat 2) n = n - μ 102 (101 + 3 * t) - μ 102 (101 + (3 * t + 1)) := by unfold loW; simp <;> omega
            simp only [eL]
            by_cases ng : n - μ 102 (101 + 3 * t) - μ 102 (101 + (3 * t + 1)) < 0
            · rw [if_pos ng]
              rw [s1_iff [] 200]
              simp (disch := omega) [sz_s, sz_0, gx_s, hx_r, hx_c, hx_b, hx_s, hx_i, hx_n, kx_s, kx_n, kx_i, cx_d, up_at, am_ctl, am_step, am_i1, am_i2, am_i2d, am_l1, am_l2, am_l2d, am_ldi, am_ldl, am_lda, am_sti, am_sta, am_stl, am_inc, am_i2l, am_l2i, am_lcmp, am_dup, am_dup2, am_pop1, am_fv, am_getf, am_putf, am_wr, am_ial, am_lal, am_bal, am_aal, am_ias, am_las, am_bas, am_alen, am_inst, am_cast, am_cpm, am_copy, am_tsw, am_pop, am_cat, am_cS, am_cI, am_cV, am_ri, am_rl, am_ra, am_rv, am_b1, am_b2, am_ent, am_en, am_isL, am_st1, am_st2, am_clr, am_cnd, cc_111, ac_111, nL_111, rb_111, np_129, ok_111_129, nL_129, np_35, ok_111_35, nL_35, vd_35_4, np_133, ok_111_133, nL_133, vd_133_11, np_134, ok_111_134, nL_134, vd_134_11, tg_11_2, tg_4_9, List.getElem?_cons_succ, List.getElem?_cons_zero, nz_of, nzl_of, Int.toNat_add, Int.toNat_mul, tn_l, lt_t, lt_f, le_t, le_f, eq_t, eq_f, ltn_t, ltn_f, len_t, len_f, eqn_t, eqn_f, up_ne, up_up, sh_0, rf_0_2, sh_73, wp_within, l0.2.2.1, wp_find 2 (by decide), hm.1, hm.2, show n ≤ 999 by omega, c, K0, K1, K2, wp_tell]
            · rw [if_neg ng]
              rw [s1_iff [] 200]
              simp (disch := omega) [sz_s, sz_0, gx_s, hx_r, hx_c, hx_b, hx_s, hx_i, hx_n, kx_s, kx_n, kx_i, cx_d, up_at, am_ctl, am_step, am_i1, am_i2, am_i2d, am_l1, am_l2, am_l2d, am_ldi, am_ldl, am_lda, am_sti, am_sta, am_stl, am_inc, am_i2l, am_l2i, am_lcmp, am_dup, am_dup2, am_pop1, am_fv, am_getf, am_putf, am_wr, am_ial, am_lal, am_bal, am_aal, am_ias, am_las, am_bas, am_alen, am_inst, am_cast, am_cpm, am_copy, am_tsw, am_pop, am_cat, am_cS, am_cI, am_cV, am_ri, am_rl, am_ra, am_rv, am_b1, am_b2, am_ent, am_en, am_isL, am_st1, am_st2, am_clr, am_cnd, cc_111, ac_111, nL_111, rb_111, np_129, ok_111_129, nL_129, np_35, ok_111_35, nL_35, vd_35_4, np_133, ok_111_133, nL_133, vd_133_11, np_134, ok_111_134, nL_134, vd_134_11, tg_11_2, tg_4_9, List.getElem?_cons_succ, List.getElem?_cons_zero, nz_of, nzl_of, Int.toNat_add, Int.toNat_mul, tn_l, lt_t, lt_f, le_t, le_f, eq_t, eq_f, ltn_t, ltn_f, len_t, len_f, eqn_t, eqn_f, up_ne, up_up, sh_0, rf_0_2, sh_73, wp_within, l0.2.2.1, wp_find 2 (by decide), hm.1, hm.2, show n ≤ 999 by omega, c, K0, K1, K2, wp_tell]
              all_goals (repeat' split) <;> first | rfl | (exfalso; omega) | exact an_iff (by omega) | (simp_all; done) | (simp_all; omega)
        · rw [if_neg c]
          rw [s1_iff [] 200]
          simp (disch := omega) [sz_s, sz_0, gx_s, hx_r, hx_c, hx_b, hx_s, hx_i, hx_n, kx_s, kx_n, kx_i, cx_d, up_at, am_ctl, am_step, am_i1, am_i2, am_i2d, am_l1, am_l2, am_l2d, am_ldi, am_ldl, am_lda, am_sti, am_sta, am_stl, am_inc, am_i2l, am_l2i, am_lcmp, am_dup, am_dup2, am_pop1, am_fv, am_getf, am_putf, am_wr, am_ial, am_lal, am_bal, am_aal, am_ias, am_las, am_bas, am_alen, am_inst, am_cast, am_cpm, am_copy, am_tsw, am_pop, am_cat, am_cS, am_cI, am_cV, am_ri, am_rl, am_ra, am_rv, am_b1, am_b2, am_ent, am_en, am_isL, am_st1, am_st2, am_clr, am_cnd, cc_111, ac_111, nL_111, rb_111, np_129, ok_111_129, nL_129, np_35, ok_111_35, nL_35, vd_35_4, np_133, ok_111_133, nL_133, vd_133_11, np_134, ok_111_134, nL_134, vd_134_11, tg_11_2, tg_4_9, List.getElem?_cons_succ, List.getElem?_cons_zero, nz_of, nzl_of, Int.toNat_add, Int.toNat_mul, tn_l, lt_t, lt_f, le_t, le_f, eq_t, eq_f, ltn_t, ltn_f, len_t, len_f, eqn_t, eqn_f, up_ne, up_up, sh_0, rf_0_2, sh_73, wp_within, l0.2.2.1, wp_find 2 (by decide), hp.1, hp.2, hm.1, hm.2, c, xfind]
      · rw [if_neg (fun q => hm q.2.2)]
        rw [s1_iff [] 200]
        simp (disch := omega) [sz_s, sz_0, gx_s, hx_r, hx_c, hx_b, hx_s, hx_i, hx_n, kx_s, kx_n, kx_i, cx_d, up_at, am_ctl, am_step, am_i1, am_i2, am_i2d, am_l1, am_l2, am_l2d, am_ldi, am_ldl, am_lda, am_sti, am_sta, am_stl, am_inc, am_i2l, am_l2i, am_lcmp, am_dup, am_dup2, am_pop1, am_fv, am_getf, am_putf, am_wr, am_ial, am_lal, am_bal, am_aal, am_ias, am_las, am_bas, am_alen, am_inst, am_cast, am_cpm, am_copy, am_tsw, am_pop, am_cat, am_cS, am_cI, am_cV, am_ri, am_rl, am_ra, am_rv, am_b1, am_b2, am_ent, am_en, am_isL, am_st1, am_st2, am_clr, am_cnd, cc_111, ac_111, nL_111, rb_111, np_129, ok_111_129, nL_129, np_35, ok_111_35, nL_35, vd_35_4, np_133, ok_111_133, nL_133, vd_133_11, np_134, ok_111_134, nL_134, vd_134_11, tg_11_2, tg_4_9, List.getElem?_cons_succ, List.getElem?_cons_zero, nz_of, nzl_of, Int.toNat_add, Int.toNat_mul, tn_l, lt_t, lt_f, le_t, le_f, eq_t, eq_f, ltn_t, ltn_f, len_t, len_f, eqn_t, eqn_f, up_ne, up_up, sh_0, rf_0_2, sh_73, wp_within, l0.2.2.1, wp_find 2 (by decide), hp.1, hp.2, show p ≤ 2 by omega, hm]
    · rw [if_neg (fun q => hp q.2.1)]
      rw [s1_iff [] 200]
      simp (disch := omega) [sz_s, sz_0, gx_s, hx_r, hx_c, hx_b, hx_s, hx_i, hx_n, kx_s, kx_n, kx_i, cx_d, up_at, am_ctl, am_step, am_i1, am_i2, am_i2d, am_l1, am_l2, am_l2d, am_ldi, am_ldl, am_lda, am_sti, am_sta, am_stl, am_inc, am_i2l, am_l2i, am_lcmp, am_dup, am_dup2, am_pop1, am_fv, am_getf, am_putf, am_wr, am_ial, am_lal, am_bal, am_aal, am_ias, am_las, am_bas, am_alen, am_inst, am_cast, am_cpm, am_copy, am_tsw, am_pop, am_cat, am_cS, am_cI, am_cV, am_ri, am_rl, am_ra, am_rv, am_b1, am_b2, am_ent, am_en, am_isL, am_st1, am_st2, am_clr, am_cnd, cc_111, ac_111, nL_111, rb_111, np_129, ok_111_129, nL_129, np_35, ok_111_35, nL_35, vd_35_4, np_133, ok_111_133, nL_133, vd_133_11, np_134, ok_111_134, nL_134, vd_134_11, tg_11_2, tg_4_9, List.getElem?_cons_succ, List.getElem?_cons_zero, nz_of, nzl_of, Int.toNat_add, Int.toNat_mul, tn_l, lt_t, lt_f, le_t, le_f, eq_t, eq_f, ltn_t, ltn_f, len_t, len_f, eqn_t, eqn_f, up_ne, up_up, sh_0, rf_0_2, sh_73, wp_within, l0.2.2.1, wp_find 2 (by decide), hp]
  · rw [if_neg (fun q => hn q.1)]
    rw [s1_iff [] 200]
    simp (disch := omega) [sz_s, sz_0, gx_s, hx_r, hx_c, hx_b, hx_s, hx_i, hx_n, kx_s, kx_n, kx_i, cx_d, up_at, am_ctl, am_step, am_i1, am_i2, am_i2d, am_l1, am_l2, am_l2d, am_ldi, am_ldl, am_lda, am_sti, am_sta, am_stl, am_inc, am_i2l, am_l2i, am_lcmp, am_dup, am_dup2, am_pop1, am_fv, am_getf, am_putf, am_wr, am_ial, am_lal, am_bal, am_aal, am_ias, am_las, am_bas, am_alen, am_inst, am_cast, am_cpm, am_copy, am_tsw, am_pop, am_cat, am_cS, am_cI, am_cV, am_ri, am_rl, am_ra, am_rv, am_b1, am_b2, am_ent, am_en, am_isL, am_st1, am_st2, am_clr, am_cnd, cc_111, ac_111, nL_111, rb_111, np_129, ok_111_129, nL_129, np_35, ok_111_35, nL_35, vd_35_4, np_133, ok_111_133, nL_133, vd_133_11, np_134, ok_111_134, nL_134, vd_134_11, tg_11_2, tg_4_9, List.getElem?_cons_succ, List.getElem?_cons_zero, nz_of, nzl_of, Int.toNat_add, Int.toNat_mul, tn_l, lt_t, lt_f, le_t, le_f, eq_t, eq_f, ltn_t, ltn_f, len_t, len_f, eqn_t, eqn_f, up_ne, up_up, sh_0, rf_0_2, sh_73, wp_within, l0.2.2.1, wp_find 2 (by decide)]
set_option maxRecDepth 100000 in
theorem wm_lost {B : Int} {μ : Nat → Nat → Int} (hL : LD B μ 73 0) (a p n : Int) (Φ : Option AV → ST → Prop) : wpM 220 [.inr (.inr (some 101)), .inl a, .inl p, .inl n] (S μ) Φ ↔ (if 0 ≤ a ∧ (0 ≤ p ∧ p < 3) ∧ 0 ≤ n ∧ n < 1000 then (if a < μ 102 2 then (if loW (μ 102) a.toNat p.toNat n < 0 then Φ (some (.inl (-4))) (S μ) else Φ (some (.inl (loW (μ 102) a.toNat p.toNat n))) (S (am_up μ 101 8 (if loW (μ 102) a.toNat p.toNat n = μ 102 (101 + (3 * a.toNat + p.toNat)) then 1 else 0)))) else Φ (some (.inl (-3))) (S (mfind μ 2))) else Φ (some (.inl (-1))) (S μ)) := by
  have l0 := ld_0 hL
  unfold wpM
  by_cases hn : 0 ≤ a
  · by_cases hp : 0 ≤ p ∧ p < 3
    · by_cases hm : 0 ≤ n ∧ n < 1000
      · rw [if_pos ⟨hn, hp, hm⟩]
        by_cases c : a < μ 102 2
        · rw [if_pos c]
          obtain ⟨t, rfl⟩ : ∃ t : Nat, a = t := ⟨a.toNat, by omega⟩
          have g0 := ld_g hL (j := 3 * t) (by omega)
          have g1 := ld_g hL (j := 3 * t + 1) (by omega)
          have g2 := ld_g hL (j := 3 * t + 2) (by omega)
          have ht : t < 30 := by omega
  
          simp only [Int.toNat_natCast]
          have : p = 0 ∨ p = 1 ∨ p = 2 := by omega
          rcases this with rfl | rfl | rfl
          · have eL : loW (μ 102) t (Int.toNat 0) n = n - μ 102 (101 + (3 * t + 1)) - μ 102 (101 + (3 * t + 2)) := by unfold loW; simp <;> omega
            simp only [eL]
            by_cases ng : n - μ 102 (101 + (3 * t + 1)) - μ 102 (101 + (3 * t + 2)) < 0
            · rw [if_pos ng]
              rw [s1_iff [] 200]
              simp (disch := omega) [sz_s, sz_0, gx_s, hx_r, hx_c, hx_b, hx_s, hx_i, hx_n, kx_s, kx_n, kx_i, cx_d, up_at, am_ctl, am_step, am_i1, am_i2, am_i2d, am_l1, am_l2, am_l2d, am_ldi, am_ldl, am_lda, am_sti, am_sta, am_stl, am_inc, am_i2l, am_l2i, am_lcmp, am_dup, am_dup2, am_pop1, am_fv, am_getf, am_putf, am_wr, am_ial, am_lal, am_bal, am_aal, am_ias, am_las, am_bas, am_alen, am_inst, am_cast, am_cpm, am_copy, am_tsw, am_pop, am_cat, am_cS, am_cI, am_cV, am_ri, am_rl, am_ra, am_rv, am_b1, am_b2, am_ent, am_en, am_isL, am_st1, am_st2, am_clr, am_cnd, cc_220, ac_220, nL_220, rb_220, np_156, ok_220_156, nL_156, np_207, ok_220_207, nL_207, np_160, ok_220_160, nL_160, vd_160_12, tg_12_0, List.getElem?_cons_succ, List.getElem?_cons_zero, nz_of, nzl_of, Int.toNat_add, Int.toNat_mul, tn_l, lt_t, lt_f, le_t, le_f, eq_t, eq_f, ltn_t, ltn_f, len_t, len_f, eqn_t, eqn_f, up_ne, up_up, sh_101, sh_102, rf_101_0, wm_in, wm_isProvince, wm_met 2 (by decide), hm.1, hm.2, show n ≤ 999 by omega, c, Nat.add_assoc]
            · rw [if_neg ng]
              rw [s1_iff [] 200]
              simp (disch := omega) [sz_s, sz_0, gx_s, hx_r, hx_c, hx_b, hx_s, hx_i, hx_n, kx_s, kx_n, kx_i, cx_d, up_at, am_ctl, am_step, am_i1, am_i2, am_i2d, am_l1, am_l2, am_l2d, am_ldi, am_ldl, am_lda, am_sti, am_sta, am_stl, am_inc, am_i2l, am_l2i, am_lcmp, am_dup, am_dup2, am_pop1, am_fv, am_getf, am_putf, am_wr, am_ial, am_lal, am_bal, am_aal, am_ias, am_las, am_bas, am_alen, am_inst, am_cast, am_cpm, am_copy, am_tsw, am_pop, am_cat, am_cS, am_cI, am_cV, am_ri, am_rl, am_ra, am_rv, am_b1, am_b2, am_ent, am_en, am_isL, am_st1, am_st2, am_clr, am_cnd, cc_220, ac_220, nL_220, rb_220, np_156, ok_220_156, nL_156, np_207, ok_220_207, nL_207, np_160, ok_220_160, nL_160, vd_160_12, tg_12_0, List.getElem?_cons_succ, List.getElem?_cons_zero, nz_of, nzl_of, Int.toNat_add, Int.toNat_mul, tn_l, lt_t, lt_f, le_t, le_f, eq_t, eq_f, ltn_t, ltn_f, len_t, len_f, eqn_t, eqn_f, up_ne, up_up, sh_101, sh_102, rf_101_0, wm_in, wm_isProvince, wm_met 2 (by decide), hm.1, hm.2, show n ≤ 999 by omega, c, Nat.add_assoc]
              all_goals (repeat' split) <;> first | rfl | (exfalso; omega) | exact an_iff (by omega) | (simp_all; done) | (simp_all; omega)
          · have eL : loW (μ 102) t (Int.toNat 1) n = n - μ 102 (101 + 3 * t) - μ 102 (101 + (3 * t + 2)) := by unfold loW; simp <;> omega
            simp only [eL]
            by_cases ng : n - μ 102 (101 + 3 * t) - μ 102 (101 + (3 * t + 2)) < 0
            · rw [if_pos ng]
              rw [s1_iff [] 200]
              simp (disch := omega) [sz_s, sz_0, gx_s, hx_r, hx_c, hx_b, hx_s, hx_i, hx_n, kx_s, kx_n, kx_i, cx_d, up_at, am_ctl, am_step, am_i1, am_i2, am_i2d, am_l1, am_l2, am_l2d, am_ldi, am_ldl, am_lda, am_sti, am_sta, am_stl, am_inc, am_i2l, am_l2i, am_lcmp, am_dup, am_dup2, am_pop1, am_fv, am_getf, am_putf, am_wr, am_ial, am_lal, am_bal, am_aal, am_ias, am_las, am_bas, am_alen, am_inst, am_cast, am_cpm, am_copy, am_tsw, am_pop, am_cat, am_cS, am_cI, am_cV, am_ri, am_rl, am_ra, am_rv, am_b1, am_b2, am_ent, am_en, am_isL, am_st1, am_st2, am_clr, am_cnd, cc_220, ac_220, nL_220, rb_220, np_156, ok_220_156, nL_156, np_207, ok_220_207, nL_207, np_160, ok_220_160, nL_160, vd_160_12, tg_12_0, List.getElem?_cons_succ, List.getElem?_cons_zero, nz_of, nzl_of, Int.toNat_add, Int.toNat_mul, tn_l, lt_t, lt_f, le_t, le_f, eq_t, eq_f, ltn_t, ltn_f, len_t, len_f, eqn_t, eqn_f, up_ne, up_up, sh_101, sh_102, rf_101_0, wm_in, wm_isProvince, wm_met 2 (by decide), hm.1, hm.2, show n ≤ 999 by omega, c, Nat.add_assoc]
            · rw [if_neg ng]
              rw [s1_iff [] 200]
              simp (disch := omega) [sz_s, sz_0, gx_s, hx_r, hx_c, hx_b, hx_s, hx_i, hx_n, kx_s, kx_n, kx_i, cx_d, up_at, am_ctl, am_step, am_i1, am_i2, am_i2d, am_l1, am_l2, am_l2d, am_ldi, am_ldl, am_lda, am_sti, am_sta, am_stl, am_inc, am_i2l, am_l2i, am_lcmp, am_dup, am_dup2, am_pop1, am_fv, am_getf, am_putf, am_wr, am_ial, am_lal, am_bal, am_aal, am_ias, am_las, am_bas, am_alen, am_inst, am_cast, am_cpm, am_copy, am_tsw, am_pop, am_cat, am_cS, am_cI, am_cV, am_ri, am_rl, am_ra, am_rv, am_b1, am_b2, am_ent, am_en, am_isL, am_st1, am_st2, am_clr, am_cnd, cc_220, ac_220, nL_220, rb_220, np_156, ok_220_156, nL_156, np_207, ok_220_207, nL_207, np_160, ok_220_160, nL_160, vd_160_12, tg_12_0, List.getElem?_cons_succ, List.getElem?_cons_zero, nz_of, nzl_of, Int.toNat_add, Int.toNat_mul, tn_l, lt_t, lt_f, le_t, le_f, eq_t, eq_f, ltn_t, ltn_f, len_t, len_f, eqn_t, eqn_f, up_ne, up_up, sh_101, sh_102, rf_101_0, wm_in, wm_isProvince, wm_met 2 (by decide), hm.1, hm.2, show n ≤ 999 by omega, c, Nat.add_assoc]
              all_goals (repeat' split) <;> first | rfl | (exfalso; omega) | exact an_iff (by omega) | (simp_all; done) | (simp_all; omega)
          · have eL : loW (μ 102) t (Int.toNat 2) n = n - μ 102 (101 + 3 * t) - μ 102 (101 + (3 * t + 1)) := by unfold loW; simp <;> omega
            simp only [eL]
            by_cases ng : n - μ 102 (101 + 3 * t) - μ 102 (101 + (3 * t + 1)) < 0
            · rw [if_pos ng]
              rw [s1_iff [] 200]
              simp (disch := omega) [sz_s, sz_0, gx_s, hx_r, hx_c, hx_b, hx_s, hx_i, hx_n, kx_s, kx_n, kx_i, cx_d, up_at, am_ctl, am_step, am_i1, am_i2, am_i2d, am_l1, am_l2, am_l2d, am_ldi, am_ldl, am_lda, am_sti, am_sta, am_stl, am_inc, am_i2l, am_l2i, am_lcmp, am_dup, am_dup2, am_pop1, am_fv, am_getf, am_putf, am_wr, am_ial, am_lal, am_bal, am_aal, am_ias, am_las, am_bas, am_alen, am_inst, am_cast, am_cpm, am_copy, am_tsw, am_pop, am_cat, am_cS, am_cI, am_cV, am_ri, am_rl, am_ra, am_rv, am_b1, am_b2, am_ent, am_en, am_isL, am_st1, am_st2, am_clr, am_cnd, cc_220, ac_220, nL_220, rb_220, np_156, ok_220_156, nL_156, np_207, ok_220_207, nL_207, np_160, ok_220_160, nL_160, vd_160_12, tg_12_0, List.getElem?_cons_succ, List.getElem?_cons_zero, nz_of, nzl_of, Int.toNat_add, Int.toNat_mul, tn_l, lt_t, lt_f, le_t, le_f, eq_t, eq_f, ltn_t, ltn_f, len_t, len_f, eqn_t, eqn_f, up_ne, up_up, sh_101, sh_102, rf_101_0, wm_in, wm_isProvince, wm_met 2 (by decide), hm.1, hm.2, show n ≤ 999 by omega, c, Nat.add_assoc]
            · rw [if_neg ng]
              rw [s1_iff [] 200]
              simp (disch := omega) [sz_s, sz_0, gx_s, hx_r, hx_c, hx_b, hx_s, hx_i, hx_n, kx_s, kx_n, kx_i, cx_d, up_at, am_ctl, am_step, am_i1, am_i2, am_i2d, am_l1, am_l2, am_l2d, am_ldi, am_ldl, am_lda, am_sti, am_sta, am_stl, am_inc, am_i2l, am_l2i, am_lcmp, am_dup, am_dup2, am_pop1, am_fv, am_getf, am_putf, am_wr, am_ial, am_lal, am_bal, am_aal, am_ias, am_las, am_bas, am_alen, am_inst, am_cast, am_cpm, am_copy, am_tsw, am_pop, am_cat, am_cS, am_cI, am_cV, am_ri, am_rl, am_ra, am_rv, am_b1, am_b2, am_ent, am_en, am_isL, am_st1, am_st2, am_clr, am_cnd, cc_220, ac_220, nL_220, rb_220, np_156, ok_220_156, nL_156, np_207, ok_220_207, nL_207, np_160, ok_220_160, nL_160, vd_160_12, tg_12_0, List.getElem?_cons_succ, List.getElem?_cons_zero, nz_of, nzl_of, Int.toNat_add, Int.toNat_mul, tn_l, lt_t, lt_f, le_t, le_f, eq_t, eq_f, ltn_t, ltn_f, len_t, len_f, eqn_t, eqn_f, up_ne, up_up, sh_101, sh_102, rf_101_0, wm_in, wm_isProvince, wm_met 2 (by decide), hm.1, hm.2, show n ≤ 999 by omega, c, Nat.add_assoc]
              all_goals (repeat' split) <;> first | rfl | (exfalso; omega) | exact an_iff (by omega) | (simp_all; done) | (simp_all; omega)
        · rw [if_neg c]
          rw [s1_iff [] 200]
          simp (disch := omega) [sz_s, sz_0, gx_s, hx_r, hx_c, hx_b, hx_s, hx_i, hx_n, kx_s, kx_n, kx_i, cx_d, up_at, am_ctl, am_step, am_i1, am_i2, am_i2d, am_l1, am_l2, am_l2d, am_ldi, am_ldl, am_lda, am_sti, am_sta, am_stl, am_inc, am_i2l, am_l2i, am_lcmp, am_dup, am_dup2, am_pop1, am_fv, am_getf, am_putf, am_wr, am_ial, am_lal, am_bal, am_aal, am_ias, am_las, am_bas, am_alen, am_inst, am_cast, am_cpm, am_copy, am_tsw, am_pop, am_cat, am_cS, am_cI, am_cV, am_ri, am_rl, am_ra, am_rv, am_b1, am_b2, am_ent, am_en, am_isL, am_st1, am_st2, am_clr, am_cnd, cc_220, ac_220, nL_220, rb_220, np_156, ok_220_156, nL_156, np_207, ok_220_207, nL_207, np_160, ok_220_160, nL_160, vd_160_12, tg_12_0, List.getElem?_cons_succ, List.getElem?_cons_zero, nz_of, nzl_of, Int.toNat_add, Int.toNat_mul, tn_l, lt_t, lt_f, le_t, le_f, eq_t, eq_f, ltn_t, ltn_f, len_t, len_f, eqn_t, eqn_f, up_ne, up_up, sh_101, sh_102, rf_101_0, wm_in, wm_isProvince, wm_met 2 (by decide), hp.1, show p ≤ 2 by omega, hm.1, show n ≤ 999 by omega, c, mfind]
      · rw [if_neg (fun q => hm q.2.2)]
        rw [s1_iff [] 200]
        simp (disch := omega) [sz_s, sz_0, gx_s, hx_r, hx_c, hx_b, hx_s, hx_i, hx_n, kx_s, kx_n, kx_i, cx_d, up_at, am_ctl, am_step, am_i1, am_i2, am_i2d, am_l1, am_l2, am_l2d, am_ldi, am_ldl, am_lda, am_sti, am_sta, am_stl, am_inc, am_i2l, am_l2i, am_lcmp, am_dup, am_dup2, am_pop1, am_fv, am_getf, am_putf, am_wr, am_ial, am_lal, am_bal, am_aal, am_ias, am_las, am_bas, am_alen, am_inst, am_cast, am_cpm, am_copy, am_tsw, am_pop, am_cat, am_cS, am_cI, am_cV, am_ri, am_rl, am_ra, am_rv, am_b1, am_b2, am_ent, am_en, am_isL, am_st1, am_st2, am_clr, am_cnd, cc_220, ac_220, nL_220, rb_220, np_156, ok_220_156, nL_156, np_207, ok_220_207, nL_207, np_160, ok_220_160, nL_160, vd_160_12, tg_12_0, List.getElem?_cons_succ, List.getElem?_cons_zero, nz_of, nzl_of, Int.toNat_add, Int.toNat_mul, tn_l, lt_t, lt_f, le_t, le_f, eq_t, eq_f, ltn_t, ltn_f, len_t, len_f, eqn_t, eqn_f, up_ne, up_up, sh_101, sh_102, rf_101_0, wm_in, wm_isProvince, wm_met 2 (by decide), hp.1, hp.2, show p ≤ 2 by omega, show ¬ (0 ≤ n ∧ n ≤ 999) by omega]
    · rw [if_neg (fun q => hp q.2.1)]
      rw [s1_iff [] 200]
      simp (disch := omega) [sz_s, sz_0, gx_s, hx_r, hx_c, hx_b, hx_s, hx_i, hx_n, kx_s, kx_n, kx_i, cx_d, up_at, am_ctl, am_step, am_i1, am_i2, am_i2d, am_l1, am_l2, am_l2d, am_ldi, am_ldl, am_lda, am_sti, am_sta, am_stl, am_inc, am_i2l, am_l2i, am_lcmp, am_dup, am_dup2, am_pop1, am_fv, am_getf, am_putf, am_wr, am_ial, am_lal, am_bal, am_aal, am_ias, am_las, am_bas, am_alen, am_inst, am_cast, am_cpm, am_copy, am_tsw, am_pop, am_cat, am_cS, am_cI, am_cV, am_ri, am_rl, am_ra, am_rv, am_b1, am_b2, am_ent, am_en, am_isL, am_st1, am_st2, am_clr, am_cnd, cc_220, ac_220, nL_220, rb_220, np_156, ok_220_156, nL_156, np_207, ok_220_207, nL_207, np_160, ok_220_160, nL_160, vd_160_12, tg_12_0, List.getElem?_cons_succ, List.getElem?_cons_zero, nz_of, nzl_of, Int.toNat_add, Int.toNat_mul, tn_l, lt_t, lt_f, le_t, le_f, eq_t, eq_f, ltn_t, ltn_f, len_t, len_f, eqn_t, eqn_f, up_ne, up_up, sh_101, sh_102, rf_101_0, wm_in, wm_isProvince, wm_met 2 (by decide), show ¬ (0 ≤ p ∧ p ≤ 2) by omega]
  · rw [if_neg (fun q => hn q.1)]
    rw [s1_iff [] 200]
    simp (disch := omega) [sz_s, sz_0, gx_s, hx_r, hx_c, hx_b, hx_s, hx_i, hx_n, kx_s, kx_n, kx_i, cx_d, up_at, am_ctl, am_step, am_i1, am_i2, am_i2d, am_l1, am_l2, am_l2d, am_ldi, am_ldl, am_lda, am_sti, am_sta, am_stl, am_inc, am_i2l, am_l2i, am_lcmp, am_dup, am_dup2, am_pop1, am_fv, am_getf, am_putf, am_wr, am_ial, am_lal, am_bal, am_aal, am_ias, am_las, am_bas, am_alen, am_inst, am_cast, am_cpm, am_copy, am_tsw, am_pop, am_cat, am_cS, am_cI, am_cV, am_ri, am_rl, am_ra, am_rv, am_b1, am_b2, am_ent, am_en, am_isL, am_st1, am_st2, am_clr, am_cnd, cc_220, ac_220, nL_220, rb_220, np_156, ok_220_156, nL_156, np_207, ok_220_207, nL_207, np_160, ok_220_160, nL_160, vd_160_12, tg_12_0, List.getElem?_cons_succ, List.getElem?_cons_zero, nz_of, nzl_of, Int.toNat_add, Int.toNat_mul, tn_l, lt_t, lt_f, le_t, le_f, eq_t, eq_f, ltn_t, ltn_f, len_t, len_f, eqn_t, eqn_f, up_ne, up_up, sh_101, sh_102, rf_101_0, wm_in, wm_isProvince, wm_met 2 (by decide)]
theorem eq_lost {B : Int} {μ : Nat → Nat → Int} (h : INV B μ) (a p n : Int) : EQV B μ 111 220 [.inl a, .inl p, .inl n] := by
  have hL : LD B μ 73 0 := h.2.2.2.1
  unfold EQV
  rw [wp_lost hL]
  by_cases hx : 0 ≤ a ∧ (0 ≤ p ∧ p < 3) ∧ 0 ≤ n ∧ n < 1000
  · rw [if_pos hx]
    by_cases c : a < μ 102 2
    · rw [if_pos c]
      by_cases ng : loW (μ 102) a.toNat p.toNat n < 0
      · rw [if_pos ng]
        refine ⟨_, _, rfl, rfl, ?_⟩
        rw [wm_lost hL, if_pos hx, if_pos c, if_pos ng]
        exact ⟨rfl, _, rfl, h⟩
      · rw [if_neg ng]
        refine ⟨_, _, rfl, rfl, ?_⟩
        rw [wm_lost (LD_up hL _ _ _ (by decide) (by decide)), if_pos hx, up_ne _ _ _ (by decide), if_pos c, if_neg ng]
        exact ⟨rfl, _, rfl, inv_tell h _⟩
    · rw [if_neg c]
      refine ⟨_, _, rfl, rfl, ?_⟩
      rw [wm_lost (LD_xf hL 2), if_pos hx, xf_102 _ _ _ (by decide) (by decide), if_neg c]
      exact ⟨rfl, _, rfl, inv_find h 2 (by decide)⟩
  · rw [if_neg hx]
    refine ⟨_, _, rfl, rfl, ?_⟩
    rw [wm_lost hL, if_neg hx]
    exact ⟨rfl, _, rfl, h⟩
