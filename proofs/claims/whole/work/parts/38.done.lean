/-! lend, back, melt, born, gone: equal on both sides -/
theorem xr_lend (μ : Nat → Nat → Int) (a b : Nat) (n : Int) (k : Nat) (h1 : ¬ (4 ≤ k ∧ k ≤ 8)) (h2 : ¬ (73 ≤ k ∧ k ≤ 79)) : xlend μ a b n k = μ k := by
  unfold xlend; rw [xa_ne _ _ _ _ _ _ h1]; simp (disch := omega) only [up_ne]
theorem xM_lend {μ : Nat → Nat → Int} (h : MR μ) (a b : Nat) (n : Int) : MR (xlend μ a b n) := MR_as h (xr_lend μ a b n 102 (by decide) (by decide)) (by rw [xr_lend μ a b n 101 (by decide) (by decide)])
theorem xr_back (μ : Nat → Nat → Int) (a b : Nat) (n : Int) (k : Nat) (h1 : ¬ (4 ≤ k ∧ k ≤ 8)) (h2 : ¬ (73 ≤ k ∧ k ≤ 79)) : xback μ a b n k = μ k := by
  unfold xback; rw [xa_ne _ _ _ _ _ _ h1]; simp (disch := omega) only [up_ne]
theorem xM_back {μ : Nat → Nat → Int} (h : MR μ) (a b : Nat) (n : Int) : MR (xback μ a b n) := MR_as h (xr_back μ a b n 102 (by decide) (by decide)) (by rw [xr_back μ a b n 101 (by decide) (by decide)])
theorem xr_melt (μ : Nat → Nat → Int) (q : Nat) (n : Int) (k : Nat) (h1 : ¬ (4 ≤ k ∧ k ≤ 8)) (h2 : ¬ (73 ≤ k ∧ k ≤ 79)) : xmelt μ q n k = μ k := by
  unfold xmelt; rw [xa_ne _ _ _ _ _ _ h1]; simp (disch := omega) only [up_ne]
theorem xM_melt {μ : Nat → Nat → Int} (h : MR μ) (q : Nat) (n : Int) : MR (xmelt μ q n) := MR_as h (xr_melt μ q n 102 (by decide) (by decide)) (by rw [xr_melt μ q n 101 (by decide) (by decide)])
theorem xr_born (μ : Nat → Nat → Int) (q : Nat) (k : Nat) (h1 : ¬ (4 ≤ k ∧ k ≤ 8)) (h2 : ¬ (73 ≤ k ∧ k ≤ 79)) : xborn μ q k = μ k := by
  unfold xborn; rw [xa_ne _ _ _ _ _ _ h1]; simp (disch := omega) only [up_ne]
theorem xM_born {μ : Nat → Nat → Int} (h : MR μ) (q : Nat) : MR (xborn μ q) := MR_as h (xr_born μ q 102 (by decide) (by decide)) (by rw [xr_born μ q 101 (by decide) (by decide)])
theorem xr_gone (μ : Nat → Nat → Int) (q : Nat) (k : Nat) (h1 : ¬ (4 ≤ k ∧ k ≤ 8)) (h2 : ¬ (73 ≤ k ∧ k ≤ 79)) : xgone μ q k = μ k := by
  unfold xgone; rw [xa_ne _ _ _ _ _ _ h1]; simp (disch := omega) only [up_ne]
theorem xM_gone {μ : Nat → Nat → Int} (h : MR μ) (q : Nat) : MR (xgone μ q) := MR_as h (xr_gone μ q 102 (by decide) (by decide)) (by rw [xr_gone μ q 101 (by decide) (by decide)])
set_option maxRecDepth 100000 in
theorem wp_debtC (a b : Nat) (ha : a < 8) (hb : b < 8) (μ : Nat → Nat → Int) (Φ : Option AV → ST → Prop) : wpM 18 [.inr (.inr (some 73)), .inl a, .inl b] (S μ) Φ ↔ Φ (some (.inl (μ 78 (8 * a + b)))) (S μ) := by
  unfold wpM
  rw [s1_iff [] 90]
  simp (disch := omega) [sz_s, sz_0, gx_s, hx_r, hx_c, hx_b, hx_s, hx_i, hx_n, kx_s, kx_n, kx_i, cx_d, up_at, am_ctl, am_step, am_i1, am_i2, am_i2d, am_l1, am_l2, am_l2d, am_ldi, am_ldl, am_lda, am_sti, am_sta, am_stl, am_inc, am_i2l, am_l2i, am_lcmp, am_dup, am_dup2, am_pop1, am_fv, am_getf, am_putf, am_wr, am_ial, am_lal, am_bal, am_aal, am_ias, am_las, am_bas, am_alen, am_inst, am_cast, am_cpm, am_copy, am_tsw, am_pop, am_cat, am_cS, am_cI, am_cV, am_ri, am_rl, am_ra, am_rv, am_b1, am_b2, am_ent, am_en, am_isL, am_st1, am_st2, am_clr, am_cnd, cc_18, ac_18, nL_18, rb_18, tg_4_5, List.getElem?_cons_succ, List.getElem?_cons_zero, nz_of, nzl_of, Int.toNat_add, Int.toNat_mul, tn_l, lt_t, lt_f, le_t, le_f, eq_t, eq_f, ltn_t, ltn_f, len_t, len_f, eqn_t, eqn_f, up_ne, up_up, sh_73, sh_78, rf_73_5, Nat.mul_comm a 8]
set_option maxRecDepth 100000 in
theorem wp_areTwo_ {μ : Nat → Nat → Int} (hR : CR μ) (a b : Int) (Φ : Option AV → ST → Prop) : wpM 132 [.inr (.inr (some 0)), .inl a, .inl b] (S μ) Φ ↔ Φ (some (.inl (if (0 ≤ a ∧ a < μ 73 7) ∧ (0 ≤ b ∧ b < μ 73 7) ∧ ¬ a = b then 1 else 0))) (S μ) := by
  unfold wpM
  rw [s1_iff [] 90]
  simp (disch := omega) [sz_s, sz_0, gx_s, hx_r, hx_c, hx_b, hx_s, hx_i, hx_n, kx_s, kx_n, kx_i, cx_d, up_at, am_ctl, am_step, am_i1, am_i2, am_i2d, am_l1, am_l2, am_l2d, am_ldi, am_ldl, am_lda, am_sti, am_sta, am_stl, am_inc, am_i2l, am_l2i, am_lcmp, am_dup, am_dup2, am_pop1, am_fv, am_getf, am_putf, am_wr, am_ial, am_lal, am_bal, am_aal, am_ias, am_las, am_bas, am_alen, am_inst, am_cast, am_cpm, am_copy, am_tsw, am_pop, am_cat, am_cS, am_cI, am_cV, am_ri, am_rl, am_ra, am_rv, am_b1, am_b2, am_ent, am_en, am_isL, am_st1, am_st2, am_clr, am_cnd, cc_132, ac_132, nL_132, rb_132, np_129, ok_132_129, nL_129, tg_11_2, tg_4_7, List.getElem?_cons_succ, List.getElem?_cons_zero, nz_of, nzl_of, Int.toNat_add, Int.toNat_mul, tn_l, lt_t, lt_f, le_t, le_f, eq_t, eq_f, ltn_t, ltn_f, len_t, len_f, eqn_t, eqn_f, up_ne, up_up, sh_0, rf_0_2, sh_73, wp_within]
  all_goals (repeat' split) <;> first | rfl | (exfalso; omega)
set_option maxRecDepth 100000 in
theorem wp_lend_ {μ : Nat → Nat → Int} (hR : CR μ) (a b n : Int) (Φ : Option AV → ST → Prop) : wpM 92 [.inr (.inr (some 0)), .inl a, .inl b, .inl n] (S μ) Φ ↔ (if (((0 ≤ a ∧ a < μ 73 7) ∧ (0 ≤ b ∧ b < μ 73 7) ∧ ¬ a = b) ∧ 1 ≤ n ∧ n ≤ 9) then (if n ≤ μ 77 a.toNat ∧ μ 77 b.toNat + n ≤ 30 then Φ (some (.inl (μ 78 (8 * a.toNat + b.toNat) + n))) (S (xlend μ a.toNat b.toNat n)) else Φ (some (.inl (-4))) (S μ)) else Φ (some (.inl (-1))) (S μ)) := by
  have T := wp_areTwo_ hR a b
  have r1 := hR.1
  unfold wpM
  by_cases v : (((0 ≤ a ∧ a < μ 73 7) ∧ (0 ≤ b ∧ b < μ 73 7) ∧ ¬ a = b) ∧ 1 ≤ n ∧ n ≤ 9)
  · rw [if_pos v]
    rw [if_pos v.1] at T
    obtain ⟨x, rfl⟩ : ∃ x : Nat, a = x := ⟨a.toNat, by omega⟩
    obtain ⟨y, rfl⟩ : ∃ y : Nat, b = y := ⟨b.toNat, by omega⟩
    have P := wp_lends hR x y n (by omega) (by omega) (by omega) v.2
    simp only [Int.toNat_natCast]
    by_cases c : n ≤ μ 77 x ∧ μ 77 y + n ≤ 30
    · rw [if_pos c]
      simp only [if_pos c] at P
      have e : xlend μ x y n 78 (8 * x + y) = μ 78 (8 * x + y) + n := by
        unfold xlend; rw [xa_ne _ _ _ _ _ 78 (by decide)]; simp [up_at]
      rw [s1_iff [] 90]
      simp (disch := omega) [sz_s, sz_0, gx_s, hx_r, hx_c, hx_b, hx_s, hx_i, hx_n, kx_s, kx_n, kx_i, cx_d, up_at, am_ctl, am_step, am_i1, am_i2, am_i2d, am_l1, am_l2, am_l2d, am_ldi, am_ldl, am_lda, am_sti, am_sta, am_stl, am_inc, am_i2l, am_l2i, am_lcmp, am_dup, am_dup2, am_pop1, am_fv, am_getf, am_putf, am_wr, am_ial, am_lal, am_bal, am_aal, am_ias, am_las, am_bas, am_alen, am_inst, am_cast, am_cpm, am_copy, am_tsw, am_pop, am_cat, am_cS, am_cI, am_cV, am_ri, am_rl, am_ra, am_rv, am_b1, am_b2, am_ent, am_en, am_isL, am_st1, am_st2, am_clr, am_cnd, cc_92, ac_92, nL_92, rb_92, np_130, ok_92_130, nL_130, np_18, ok_92_18, nL_18, vd_18_4, np_132, ok_92_132, nL_132, vd_132_11, np_144, ok_92_144, nL_144, vd_144_11, tg_11_2, List.getElem?_cons_succ, List.getElem?_cons_zero, nz_of, nzl_of, Int.toNat_add, Int.toNat_mul, tn_l, lt_t, lt_f, le_t, le_f, eq_t, eq_f, ltn_t, ltn_f, len_t, len_f, eqn_t, eqn_f, up_ne, up_up, sh_0, rf_0_2, sh_73, T, wp_canMove, v.2.1, v.2.2, P, wp_debtC x y (by omega) (by omega), e]
    · rw [if_neg c]
      simp only [if_neg c] at P
      rw [s1_iff [] 90]
      simp (disch := omega) [sz_s, sz_0, gx_s, hx_r, hx_c, hx_b, hx_s, hx_i, hx_n, kx_s, kx_n, kx_i, cx_d, up_at, am_ctl, am_step, am_i1, am_i2, am_i2d, am_l1, am_l2, am_l2d, am_ldi, am_ldl, am_lda, am_sti, am_sta, am_stl, am_inc, am_i2l, am_l2i, am_lcmp, am_dup, am_dup2, am_pop1, am_fv, am_getf, am_putf, am_wr, am_ial, am_lal, am_bal, am_aal, am_ias, am_las, am_bas, am_alen, am_inst, am_cast, am_cpm, am_copy, am_tsw, am_pop, am_cat, am_cS, am_cI, am_cV, am_ri, am_rl, am_ra, am_rv, am_b1, am_b2, am_ent, am_en, am_isL, am_st1, am_st2, am_clr, am_cnd, cc_92, ac_92, nL_92, rb_92, np_130, ok_92_130, nL_130, np_18, ok_92_18, nL_18, vd_18_4, np_132, ok_92_132, nL_132, vd_132_11, np_144, ok_92_144, nL_144, vd_144_11, tg_11_2, List.getElem?_cons_succ, List.getElem?_cons_zero, nz_of, nzl_of, Int.toNat_add, Int.toNat_mul, tn_l, lt_t, lt_f, le_t, le_f, eq_t, eq_f, ltn_t, ltn_f, len_t, len_f, eqn_t, eqn_f, up_ne, up_up, sh_0, rf_0_2, sh_73, T, wp_canMove, v.2.1, v.2.2, P]
  · rw [if_neg v]
    by_cases v1 : (0 ≤ a ∧ a < μ 73 7) ∧ (0 ≤ b ∧ b < μ 73 7) ∧ ¬ a = b
    · rw [if_pos v1] at T
      rw [s1_iff [] 90]
      simp (disch := omega) [sz_s, sz_0, gx_s, hx_r, hx_c, hx_b, hx_s, hx_i, hx_n, kx_s, kx_n, kx_i, cx_d, up_at, am_ctl, am_step, am_i1, am_i2, am_i2d, am_l1, am_l2, am_l2d, am_ldi, am_ldl, am_lda, am_sti, am_sta, am_stl, am_inc, am_i2l, am_l2i, am_lcmp, am_dup, am_dup2, am_pop1, am_fv, am_getf, am_putf, am_wr, am_ial, am_lal, am_bal, am_aal, am_ias, am_las, am_bas, am_alen, am_inst, am_cast, am_cpm, am_copy, am_tsw, am_pop, am_cat, am_cS, am_cI, am_cV, am_ri, am_rl, am_ra, am_rv, am_b1, am_b2, am_ent, am_en, am_isL, am_st1, am_st2, am_clr, am_cnd, cc_92, ac_92, nL_92, rb_92, np_130, ok_92_130, nL_130, np_18, ok_92_18, nL_18, vd_18_4, np_132, ok_92_132, nL_132, vd_132_11, np_144, ok_92_144, nL_144, vd_144_11, tg_11_2, List.getElem?_cons_succ, List.getElem?_cons_zero, nz_of, nzl_of, Int.toNat_add, Int.toNat_mul, tn_l, lt_t, lt_f, le_t, le_f, eq_t, eq_f, ltn_t, ltn_f, len_t, len_f, eqn_t, eqn_f, up_ne, up_up, sh_0, T, wp_canMove, show ¬ (1 ≤ n ∧ n ≤ 9) from fun q => v ⟨v1, q⟩]
    · rw [if_neg v1] at T
      rw [s1_iff [] 90]
      simp (disch := omega) [sz_s, sz_0, gx_s, hx_r, hx_c, hx_b, hx_s, hx_i, hx_n, kx_s, kx_n, kx_i, cx_d, up_at, am_ctl, am_step, am_i1, am_i2, am_i2d, am_l1, am_l2, am_l2d, am_ldi, am_ldl, am_lda, am_sti, am_sta, am_stl, am_inc, am_i2l, am_l2i, am_lcmp, am_dup, am_dup2, am_pop1, am_fv, am_getf, am_putf, am_wr, am_ial, am_lal, am_bal, am_aal, am_ias, am_las, am_bas, am_alen, am_inst, am_cast, am_cpm, am_copy, am_tsw, am_pop, am_cat, am_cS, am_cI, am_cV, am_ri, am_rl, am_ra, am_rv, am_b1, am_b2, am_ent, am_en, am_isL, am_st1, am_st2, am_clr, am_cnd, cc_92, ac_92, nL_92, rb_92, np_130, ok_92_130, nL_130, np_18, ok_92_18, nL_18, vd_18_4, np_132, ok_92_132, nL_132, vd_132_11, np_144, ok_92_144, nL_144, vd_144_11, tg_11_2, List.getElem?_cons_succ, List.getElem?_cons_zero, nz_of, nzl_of, Int.toNat_add, Int.toNat_mul, tn_l, lt_t, lt_f, le_t, le_f, eq_t, eq_f, ltn_t, ltn_f, len_t, len_f, eqn_t, eqn_f, up_ne, up_up, sh_0, T]
set_option maxRecDepth 100000 in
theorem wp_back_ {μ : Nat → Nat → Int} (hR : CR μ) (a b n : Int) (Φ : Option AV → ST → Prop) : wpM 93 [.inr (.inr (some 0)), .inl a, .inl b, .inl n] (S μ) Φ ↔ (if (((0 ≤ a ∧ a < μ 73 7) ∧ (0 ≤ b ∧ b < μ 73 7) ∧ ¬ a = b) ∧ 1 ≤ n ∧ n ≤ 9) then (if n ≤ μ 78 (8 * a.toNat + b.toNat) ∧ n ≤ μ 77 b.toNat ∧ μ 77 a.toNat + n ≤ 30 then Φ (some (.inl (μ 78 (8 * a.toNat + b.toNat) + -n))) (S (xback μ a.toNat b.toNat n)) else Φ (some (.inl (-4))) (S μ)) else Φ (some (.inl (-1))) (S μ)) := by
  have T := wp_areTwo_ hR a b
  have r1 := hR.1
  unfold wpM
  by_cases v : (((0 ≤ a ∧ a < μ 73 7) ∧ (0 ≤ b ∧ b < μ 73 7) ∧ ¬ a = b) ∧ 1 ≤ n ∧ n ≤ 9)
  · rw [if_pos v]
    rw [if_pos v.1] at T
    obtain ⟨x, rfl⟩ : ∃ x : Nat, a = x := ⟨a.toNat, by omega⟩
    obtain ⟨y, rfl⟩ : ∃ y : Nat, b = y := ⟨b.toNat, by omega⟩
    obtain ⟨r1, r2, r3, r4, r5⟩ := hR
    have a1 := r4 x (by omega)
    have b1 := r4 y (by omega)
    have d1 := r5 (8 * x + y) (by omega)
    have K := wp_canHandOver y x n (by omega) (by omega) μ b1.2 a1.2 (by omega)
    simp only [Int.toNat_natCast]
    by_cases c0 : n ≤ μ 78 (8 * x + y)
    · by_cases c : n ≤ μ 77 y ∧ μ 77 x + n ≤ 30
      · rw [if_pos ⟨c0, c⟩]
        rw [if_pos c] at K
        rw [s1_iff [] 90]
        simp (disch := omega) [sz_s, sz_0, gx_s, hx_r, hx_c, hx_b, hx_s, hx_i, hx_n, kx_s, kx_n, kx_i, cx_d, up_at, am_ctl, am_step, am_i1, am_i2, am_i2d, am_l1, am_l2, am_l2d, am_ldi, am_ldl, am_lda, am_sti, am_sta, am_stl, am_inc, am_i2l, am_l2i, am_lcmp, am_dup, am_dup2, am_pop1, am_fv, am_getf, am_putf, am_wr, am_ial, am_lal, am_bal, am_aal, am_ias, am_las, am_bas, am_alen, am_inst, am_cast, am_cpm, am_copy, am_tsw, am_pop, am_cat, am_cS, am_cI, am_cV, am_ri, am_rl, am_ra, am_rv, am_b1, am_b2, am_ent, am_en, am_isL, am_st1, am_st2, am_clr, am_cnd, cc_93, ac_93, nL_93, rb_93, np_130, ok_93_130, nL_130, np_4, ok_93_4, nL_4, vd_4_1, np_18, ok_93_18, nL_18, vd_18_4, np_19, ok_93_19, nL_19, vd_19_4, np_22, ok_93_22, nL_22, vd_22_4, np_23, ok_93_23, nL_23, vd_23_4, np_132, ok_93_132, nL_132, vd_132_11, tg_11_2, tg_11_4, List.getElem?_cons_succ, List.getElem?_cons_zero, nz_of, nzl_of, Int.toNat_add, Int.toNat_mul, tn_l, lt_t, lt_f, le_t, le_f, eq_t, eq_f, ltn_t, ltn_f, len_t, len_f, eqn_t, eqn_f, up_ne, up_up, sh_0, rf_0_2, rf_0_4, sh_73, sh_4, T, wp_canMove, v.2.1, v.2.2, wp_debtC x y (by omega) (by omega), c0, K, wp_handOver y x n (by omega) (by omega) (by omega) μ b1.2 a1.2 (by omega)]
        rw [wp_owe x y (-n) (by omega) (by omega) _ (by simpa [up_at] using d1) (by omega)]
        simp (disch := omega) [sz_s, sz_0, gx_s, hx_r, hx_c, hx_b, hx_s, hx_i, hx_n, kx_s, kx_n, kx_i, cx_d, up_at, am_ctl, am_step, am_i1, am_i2, am_i2d, am_l1, am_l2, am_l2d, am_ldi, am_ldl, am_lda, am_sti, am_sta, am_stl, am_inc, am_i2l, am_l2i, am_lcmp, am_dup, am_dup2, am_pop1, am_fv, am_getf, am_putf, am_wr, am_ial, am_lal, am_bal, am_aal, am_ias, am_las, am_bas, am_alen, am_inst, am_cast, am_cpm, am_copy, am_tsw, am_pop, am_cat, am_cS, am_cI, am_cV, am_ri, am_rl, am_ra, am_rv, am_b1, am_b2, am_ent, am_en, am_isL, am_st1, am_st2, am_clr, am_cnd, cc_93, ac_93, nL_93, rb_93, np_130, ok_93_130, nL_130, np_4, ok_93_4, nL_4, vd_4_1, np_18, ok_93_18, nL_18, vd_18_4, np_19, ok_93_19, nL_19, vd_19_4, np_22, ok_93_22, nL_22, vd_22_4, np_23, ok_93_23, nL_23, vd_23_4, np_132, ok_93_132, nL_132, vd_132_11, tg_11_2, tg_11_4, List.getElem?_cons_succ, List.getElem?_cons_zero, nz_of, nzl_of, Int.toNat_add, Int.toNat_mul, tn_l, lt_t, lt_f, le_t, le_f, eq_t, eq_f, ltn_t, ltn_f, len_t, len_f, eqn_t, eqn_f, up_ne, up_up, sh_0, rf_0_2, rf_0_4, sh_73, sh_4]
        rw [wp_add _ _ _ _ _ (by simpa [up_at] using r2) (by simpa [up_at] using r3)]
        have e : xadd (am_up (am_up (am_up μ 77 y (μ 77 y - n)) 77 x (μ 77 x + n)) 78 (8 * x + y) (μ 78 (8 * x + y) + -n)) 1 x y n 78 (8 * x + y) = μ 78 (8 * x + y) + -n := by
          rw [xa_ne _ _ _ _ _ 78 (by decide)]; simp [up_at]
        simp (disch := omega) [sz_s, sz_0, gx_s, hx_r, hx_c, hx_b, hx_s, hx_i, hx_n, kx_s, kx_n, kx_i, cx_d, up_at, am_ctl, am_step, am_i1, am_i2, am_i2d, am_l1, am_l2, am_l2d, am_ldi, am_ldl, am_lda, am_sti, am_sta, am_stl, am_inc, am_i2l, am_l2i, am_lcmp, am_dup, am_dup2, am_pop1, am_fv, am_getf, am_putf, am_wr, am_ial, am_lal, am_bal, am_aal, am_ias, am_las, am_bas, am_alen, am_inst, am_cast, am_cpm, am_copy, am_tsw, am_pop, am_cat, am_cS, am_cI, am_cV, am_ri, am_rl, am_ra, am_rv, am_b1, am_b2, am_ent, am_en, am_isL, am_st1, am_st2, am_clr, am_cnd, cc_93, ac_93, nL_93, rb_93, np_130, ok_93_130, nL_130, np_4, ok_93_4, nL_4, vd_4_1, np_18, ok_93_18, nL_18, vd_18_4, np_19, ok_93_19, nL_19, vd_19_4, np_22, ok_93_22, nL_22, vd_22_4, np_23, ok_93_23, nL_23, vd_23_4, np_132, ok_93_132, nL_132, vd_132_11, tg_11_2, tg_11_4, List.getElem?_cons_succ, List.getElem?_cons_zero, nz_of, nzl_of, Int.toNat_add, Int.toNat_mul, tn_l, lt_t, lt_f, le_t, le_f, eq_t, eq_f, ltn_t, ltn_f, len_t, len_f, eqn_t, eqn_f, up_ne, up_up, sh_0, rf_0_2, rf_0_4, sh_73, sh_4, wp_debtC x y (by omega) (by omega), e, xback]
      · rw [if_neg (fun q => c q.2)]
        rw [if_neg c] at K
        rw [s1_iff [] 90]
        simp (disch := omega) [sz_s, sz_0, gx_s, hx_r, hx_c, hx_b, hx_s, hx_i, hx_n, kx_s, kx_n, kx_i, cx_d, up_at, am_ctl, am_step, am_i1, am_i2, am_i2d, am_l1, am_l2, am_l2d, am_ldi, am_ldl, am_lda, am_sti, am_sta, am_stl, am_inc, am_i2l, am_l2i, am_lcmp, am_dup, am_dup2, am_pop1, am_fv, am_getf, am_putf, am_wr, am_ial, am_lal, am_bal, am_aal, am_ias, am_las, am_bas, am_alen, am_inst, am_cast, am_cpm, am_copy, am_tsw, am_pop, am_cat, am_cS, am_cI, am_cV, am_ri, am_rl, am_ra, am_rv, am_b1, am_b2, am_ent, am_en, am_isL, am_st1, am_st2, am_clr, am_cnd, cc_93, ac_93, nL_93, rb_93, np_130, ok_93_130, nL_130, np_4, ok_93_4, nL_4, vd_4_1, np_18, ok_93_18, nL_18, vd_18_4, np_19, ok_93_19, nL_19, vd_19_4, np_22, ok_93_22, nL_22, vd_22_4, np_23, ok_93_23, nL_23, vd_23_4, np_132, ok_93_132, nL_132, vd_132_11, tg_11_2, tg_11_4, List.getElem?_cons_succ, List.getElem?_cons_zero, nz_of, nzl_of, Int.toNat_add, Int.toNat_mul, tn_l, lt_t, lt_f, le_t, le_f, eq_t, eq_f, ltn_t, ltn_f, len_t, len_f, eqn_t, eqn_f, up_ne, up_up, sh_0, rf_0_2, rf_0_4, sh_73, sh_4, T, wp_canMove, v.2.1, v.2.2, wp_debtC x y (by omega) (by omega), c0, K]
    · rw [if_neg (fun q => c0 q.1)]
      rw [s1_iff [] 90]
      simp (disch := omega) [sz_s, sz_0, gx_s, hx_r, hx_c, hx_b, hx_s, hx_i, hx_n, kx_s, kx_n, kx_i, cx_d, up_at, am_ctl, am_step, am_i1, am_i2, am_i2d, am_l1, am_l2, am_l2d, am_ldi, am_ldl, am_lda, am_sti, am_sta, am_stl, am_inc, am_i2l, am_l2i, am_lcmp, am_dup, am_dup2, am_pop1, am_fv, am_getf, am_putf, am_wr, am_ial, am_lal, am_bal, am_aal, am_ias, am_las, am_bas, am_alen, am_inst, am_cast, am_cpm, am_copy, am_tsw, am_pop, am_cat, am_cS, am_cI, am_cV, am_ri, am_rl, am_ra, am_rv, am_b1, am_b2, am_ent, am_en, am_isL, am_st1, am_st2, am_clr, am_cnd, cc_93, ac_93, nL_93, rb_93, np_130, ok_93_130, nL_130, np_4, ok_93_4, nL_4, vd_4_1, np_18, ok_93_18, nL_18, vd_18_4, np_19, ok_93_19, nL_19, vd_19_4, np_22, ok_93_22, nL_22, vd_22_4, np_23, ok_93_23, nL_23, vd_23_4, np_132, ok_93_132, nL_132, vd_132_11, tg_11_2, tg_11_4, List.getElem?_cons_succ, List.getElem?_cons_zero, nz_of, nzl_of, Int.toNat_add, Int.toNat_mul, tn_l, lt_t, lt_f, le_t, le_f, eq_t, eq_f, ltn_t, ltn_f, len_t, len_f, eqn_t, eqn_f, up_ne, up_up, sh_0, rf_0_2, rf_0_4, sh_73, sh_4, T, wp_canMove, v.2.1, v.2.2, wp_debtC x y (by omega) (by omega), c0]
  · rw [if_neg v]
    by_cases v1 : (0 ≤ a ∧ a < μ 73 7) ∧ (0 ≤ b ∧ b < μ 73 7) ∧ ¬ a = b
    · rw [if_pos v1] at T
      rw [s1_iff [] 90]
      simp (disch := omega) [sz_s, sz_0, gx_s, hx_r, hx_c, hx_b, hx_s, hx_i, hx_n, kx_s, kx_n, kx_i, cx_d, up_at, am_ctl, am_step, am_i1, am_i2, am_i2d, am_l1, am_l2, am_l2d, am_ldi, am_ldl, am_lda, am_sti, am_sta, am_stl, am_inc, am_i2l, am_l2i, am_lcmp, am_dup, am_dup2, am_pop1, am_fv, am_getf, am_putf, am_wr, am_ial, am_lal, am_bal, am_aal, am_ias, am_las, am_bas, am_alen, am_inst, am_cast, am_cpm, am_copy, am_tsw, am_pop, am_cat, am_cS, am_cI, am_cV, am_ri, am_rl, am_ra, am_rv, am_b1, am_b2, am_ent, am_en, am_isL, am_st1, am_st2, am_clr, am_cnd, cc_93, ac_93, nL_93, rb_93, np_130, ok_93_130, nL_130, np_4, ok_93_4, nL_4, vd_4_1, np_18, ok_93_18, nL_18, vd_18_4, np_19, ok_93_19, nL_19, vd_19_4, np_22, ok_93_22, nL_22, vd_22_4, np_23, ok_93_23, nL_23, vd_23_4, np_132, ok_93_132, nL_132, vd_132_11, tg_11_2, tg_11_4, List.getElem?_cons_succ, List.getElem?_cons_zero, nz_of, nzl_of, Int.toNat_add, Int.toNat_mul, tn_l, lt_t, lt_f, le_t, le_f, eq_t, eq_f, ltn_t, ltn_f, len_t, len_f, eqn_t, eqn_f, up_ne, up_up, sh_0, T, wp_canMove, show ¬ (1 ≤ n ∧ n ≤ 9) from fun q => v ⟨v1, q⟩]
    · rw [if_neg v1] at T
      rw [s1_iff [] 90]
      simp (disch := omega) [sz_s, sz_0, gx_s, hx_r, hx_c, hx_b, hx_s, hx_i, hx_n, kx_s, kx_n, kx_i, cx_d, up_at, am_ctl, am_step, am_i1, am_i2, am_i2d, am_l1, am_l2, am_l2d, am_ldi, am_ldl, am_lda, am_sti, am_sta, am_stl, am_inc, am_i2l, am_l2i, am_lcmp, am_dup, am_dup2, am_pop1, am_fv, am_getf, am_putf, am_wr, am_ial, am_lal, am_bal, am_aal, am_ias, am_las, am_bas, am_alen, am_inst, am_cast, am_cpm, am_copy, am_tsw, am_pop, am_cat, am_cS, am_cI, am_cV, am_ri, am_rl, am_ra, am_rv, am_b1, am_b2, am_ent, am_en, am_isL, am_st1, am_st2, am_clr, am_cnd, cc_93, ac_93, nL_93, rb_93, np_130, ok_93_130, nL_130, np_4, ok_93_4, nL_4, vd_4_1, np_18, ok_93_18, nL_18, vd_18_4, np_19, ok_93_19, nL_19, vd_19_4, np_22, ok_93_22, nL_22, vd_22_4, np_23, ok_93_23, nL_23, vd_23_4, np_132, ok_93_132, nL_132, vd_132_11, tg_11_2, tg_11_4, List.getElem?_cons_succ, List.getElem?_cons_zero, nz_of, nzl_of, Int.toNat_add, Int.toNat_mul, tn_l, lt_t, lt_f, le_t, le_f, eq_t, eq_f, ltn_t, ltn_f, len_t, len_f, eqn_t, eqn_f, up_ne, up_up, sh_0, T]
set_option maxRecDepth 100000 in
theorem wp_melt_ {μ : Nat → Nat → Int} (hR : CR μ) (x n : Int) (Φ : Option AV → ST → Prop) : wpM 94 [.inr (.inr (some 0)), .inl x, .inl n] (S μ) Φ ↔ (if (0 ≤ x ∧ x < μ 73 7) ∧ 1 ≤ n ∧ n ≤ 9 then (if n ≤ μ 77 x.toNat then Φ (some (.inl (μ 77 x.toNat - n))) (S (xmelt μ x.toNat n)) else Φ (some (.inl (-4))) (S μ)) else Φ (some (.inl (-1))) (S μ)) := by
  have r1 := hR.1
  unfold wpM
  by_cases v : (0 ≤ x ∧ x < μ 73 7) ∧ 1 ≤ n ∧ n ≤ 9
  · rw [if_pos v]
    obtain ⟨q, rfl⟩ : ∃ q : Nat, x = q := ⟨x.toNat, by omega⟩
    have P := wp_melts hR q n (by omega) v.2
    simp only [Int.toNat_natCast]
    by_cases c : n ≤ μ 77 q
    · rw [if_pos c]
      simp only [if_pos c] at P
      have e : xmelt μ q n 77 q = μ 77 q - n := by
        unfold xmelt; rw [xa_ne _ _ _ _ _ 77 (by decide)]; simp [up_at]
      rw [s1_iff [] 90]
      simp (disch := omega) [sz_s, sz_0, gx_s, hx_r, hx_c, hx_b, hx_s, hx_i, hx_n, kx_s, kx_n, kx_i, cx_d, up_at, am_ctl, am_step, am_i1, am_i2, am_i2d, am_l1, am_l2, am_l2d, am_ldi, am_ldl, am_lda, am_sti, am_sta, am_stl, am_inc, am_i2l, am_l2i, am_lcmp, am_dup, am_dup2, am_pop1, am_fv, am_getf, am_putf, am_wr, am_ial, am_lal, am_bal, am_aal, am_ias, am_las, am_bas, am_alen, am_inst, am_cast, am_cpm, am_copy, am_tsw, am_pop, am_cat, am_cS, am_cI, am_cV, am_ri, am_rl, am_ra, am_rv, am_b1, am_b2, am_ent, am_en, am_isL, am_st1, am_st2, am_clr, am_cnd, cc_94, ac_94, nL_94, rb_94, np_129, ok_94_129, nL_129, np_130, ok_94_130, nL_130, np_145, ok_94_145, nL_145, vd_145_11, tg_11_2, tg_4_7, tg_4_4, List.getElem?_cons_succ, List.getElem?_cons_zero, nz_of, nzl_of, Int.toNat_add, Int.toNat_mul, tn_l, lt_t, lt_f, le_t, le_f, eq_t, eq_f, ltn_t, ltn_f, len_t, len_f, eqn_t, eqn_f, up_ne, up_up, sh_0, rf_0_2, sh_73, sh_77, rf_73_4, wp_within, wp_canMove, v.1.2, v.2.1, v.2.2, P, e]
    · rw [if_neg c]
      simp only [if_neg c] at P
      rw [s1_iff [] 90]
      simp (disch := omega) [sz_s, sz_0, gx_s, hx_r, hx_c, hx_b, hx_s, hx_i, hx_n, kx_s, kx_n, kx_i, cx_d, up_at, am_ctl, am_step, am_i1, am_i2, am_i2d, am_l1, am_l2, am_l2d, am_ldi, am_ldl, am_lda, am_sti, am_sta, am_stl, am_inc, am_i2l, am_l2i, am_lcmp, am_dup, am_dup2, am_pop1, am_fv, am_getf, am_putf, am_wr, am_ial, am_lal, am_bal, am_aal, am_ias, am_las, am_bas, am_alen, am_inst, am_cast, am_cpm, am_copy, am_tsw, am_pop, am_cat, am_cS, am_cI, am_cV, am_ri, am_rl, am_ra, am_rv, am_b1, am_b2, am_ent, am_en, am_isL, am_st1, am_st2, am_clr, am_cnd, cc_94, ac_94, nL_94, rb_94, np_129, ok_94_129, nL_129, np_130, ok_94_130, nL_130, np_145, ok_94_145, nL_145, vd_145_11, tg_11_2, tg_4_7, tg_4_4, List.getElem?_cons_succ, List.getElem?_cons_zero, nz_of, nzl_of, Int.toNat_add, Int.toNat_mul, tn_l, lt_t, lt_f, le_t, le_f, eq_t, eq_f, ltn_t, ltn_f, len_t, len_f, eqn_t, eqn_f, up_ne, up_up, sh_0, rf_0_2, sh_73, sh_77, rf_73_4, wp_within, wp_canMove, v.1.2, v.2.1, v.2.2, P]
  · rw [if_neg v]
    by_cases v1 : 0 ≤ x ∧ x < μ 73 7
    · rw [s1_iff [] 90]
      simp (disch := omega) [sz_s, sz_0, gx_s, hx_r, hx_c, hx_b, hx_s, hx_i, hx_n, kx_s, kx_n, kx_i, cx_d, up_at, am_ctl, am_step, am_i1, am_i2, am_i2d, am_l1, am_l2, am_l2d, am_ldi, am_ldl, am_lda, am_sti, am_sta, am_stl, am_inc, am_i2l, am_l2i, am_lcmp, am_dup, am_dup2, am_pop1, am_fv, am_getf, am_putf, am_wr, am_ial, am_lal, am_bal, am_aal, am_ias, am_las, am_bas, am_alen, am_inst, am_cast, am_cpm, am_copy, am_tsw, am_pop, am_cat, am_cS, am_cI, am_cV, am_ri, am_rl, am_ra, am_rv, am_b1, am_b2, am_ent, am_en, am_isL, am_st1, am_st2, am_clr, am_cnd, cc_94, ac_94, nL_94, rb_94, np_129, ok_94_129, nL_129, np_130, ok_94_130, nL_130, np_145, ok_94_145, nL_145, vd_145_11, tg_11_2, tg_4_7, tg_4_4, List.getElem?_cons_succ, List.getElem?_cons_zero, nz_of, nzl_of, Int.toNat_add, Int.toNat_mul, tn_l, lt_t, lt_f, le_t, le_f, eq_t, eq_f, ltn_t, ltn_f, len_t, len_f, eqn_t, eqn_f, up_ne, up_up, sh_0, rf_0_2, sh_73, wp_within, wp_canMove, v1.1, v1.2, show ¬ (1 ≤ n ∧ n ≤ 9) from fun q => v ⟨v1, q⟩]
    · rw [s1_iff [] 90]
      simp (disch := omega) [sz_s, sz_0, gx_s, hx_r, hx_c, hx_b, hx_s, hx_i, hx_n, kx_s, kx_n, kx_i, cx_d, up_at, am_ctl, am_step, am_i1, am_i2, am_i2d, am_l1, am_l2, am_l2d, am_ldi, am_ldl, am_lda, am_sti, am_sta, am_stl, am_inc, am_i2l, am_l2i, am_lcmp, am_dup, am_dup2, am_pop1, am_fv, am_getf, am_putf, am_wr, am_ial, am_lal, am_bal, am_aal, am_ias, am_las, am_bas, am_alen, am_inst, am_cast, am_cpm, am_copy, am_tsw, am_pop, am_cat, am_cS, am_cI, am_cV, am_ri, am_rl, am_ra, am_rv, am_b1, am_b2, am_ent, am_en, am_isL, am_st1, am_st2, am_clr, am_cnd, cc_94, ac_94, nL_94, rb_94, np_129, ok_94_129, nL_129, np_130, ok_94_130, nL_130, np_145, ok_94_145, nL_145, vd_145_11, tg_11_2, tg_4_7, tg_4_4, List.getElem?_cons_succ, List.getElem?_cons_zero, nz_of, nzl_of, Int.toNat_add, Int.toNat_mul, tn_l, lt_t, lt_f, le_t, le_f, eq_t, eq_f, ltn_t, ltn_f, len_t, len_f, eqn_t, eqn_f, up_ne, up_up, sh_0, rf_0_2, sh_73, wp_within, v1]
set_option maxRecDepth 100000 in
theorem wp_born_ {μ : Nat → Nat → Int} (hR : CR μ) (x : Int) (Φ : Option AV → ST → Prop) : wpM 95 [.inr (.inr (some 0)), .inl x] (S μ) Φ ↔ (if 0 ≤ x ∧ x < μ 73 7 then (if μ 76 x.toNat < 9 ∧ μ 77 x.toNat < 30 then Φ (some (.inl (μ 76 x.toNat + 1))) (S (xborn μ x.toNat)) else Φ (some (.inl (-2))) (S μ)) else Φ (some (.inl (-1))) (S μ)) := by
  have r1 := hR.1
  unfold wpM
  by_cases v : 0 ≤ x ∧ x < μ 73 7
  · rw [if_pos v]
    obtain ⟨q, rfl⟩ : ∃ q : Nat, x = q := ⟨x.toNat, by omega⟩
    have P := wp_bears hR q (by omega)
    simp only [Int.toNat_natCast]
    by_cases c : μ 76 q < 9 ∧ μ 77 q < 30
    · rw [if_pos c]
      simp only [if_pos c] at P
      have e : xborn μ q 76 q = μ 76 q + 1 := by
        unfold xborn; rw [xa_ne _ _ _ _ _ 76 (by decide)]; simp [up_at]
      rw [s1_iff [] 90]
      simp (disch := omega) [sz_s, sz_0, gx_s, hx_r, hx_c, hx_b, hx_s, hx_i, hx_n, kx_s, kx_n, kx_i, cx_d, up_at, am_ctl, am_step, am_i1, am_i2, am_i2d, am_l1, am_l2, am_l2d, am_ldi, am_ldl, am_lda, am_sti, am_sta, am_stl, am_inc, am_i2l, am_l2i, am_lcmp, am_dup, am_dup2, am_pop1, am_fv, am_getf, am_putf, am_wr, am_ial, am_lal, am_bal, am_aal, am_ias, am_las, am_bas, am_alen, am_inst, am_cast, am_cpm, am_copy, am_tsw, am_pop, am_cat, am_cS, am_cI, am_cV, am_ri, am_rl, am_ra, am_rv, am_b1, am_b2, am_ent, am_en, am_isL, am_st1, am_st2, am_clr, am_cnd, cc_95, ac_95, nL_95, rb_95, np_129, ok_95_129, nL_129, np_146, ok_95_146, nL_146, vd_146_11, tg_11_2, tg_4_7, tg_4_3, List.getElem?_cons_succ, List.getElem?_cons_zero, nz_of, nzl_of, Int.toNat_add, Int.toNat_mul, tn_l, lt_t, lt_f, le_t, le_f, eq_t, eq_f, ltn_t, ltn_f, len_t, len_f, eqn_t, eqn_f, up_ne, up_up, sh_0, rf_0_2, sh_73, sh_76, rf_73_3, wp_within, v.2, P, e]
    · rw [if_neg c]
      simp only [if_neg c] at P
      rw [s1_iff [] 90]
      simp (disch := omega) [sz_s, sz_0, gx_s, hx_r, hx_c, hx_b, hx_s, hx_i, hx_n, kx_s, kx_n, kx_i, cx_d, up_at, am_ctl, am_step, am_i1, am_i2, am_i2d, am_l1, am_l2, am_l2d, am_ldi, am_ldl, am_lda, am_sti, am_sta, am_stl, am_inc, am_i2l, am_l2i, am_lcmp, am_dup, am_dup2, am_pop1, am_fv, am_getf, am_putf, am_wr, am_ial, am_lal, am_bal, am_aal, am_ias, am_las, am_bas, am_alen, am_inst, am_cast, am_cpm, am_copy, am_tsw, am_pop, am_cat, am_cS, am_cI, am_cV, am_ri, am_rl, am_ra, am_rv, am_b1, am_b2, am_ent, am_en, am_isL, am_st1, am_st2, am_clr, am_cnd, cc_95, ac_95, nL_95, rb_95, np_129, ok_95_129, nL_129, np_146, ok_95_146, nL_146, vd_146_11, tg_11_2, tg_4_7, tg_4_3, List.getElem?_cons_succ, List.getElem?_cons_zero, nz_of, nzl_of, Int.toNat_add, Int.toNat_mul, tn_l, lt_t, lt_f, le_t, le_f, eq_t, eq_f, ltn_t, ltn_f, len_t, len_f, eqn_t, eqn_f, up_ne, up_up, sh_0, rf_0_2, sh_73, wp_within, v.2, P]
  · rw [if_neg v]
    rw [s1_iff [] 90]
    simp (disch := omega) [sz_s, sz_0, gx_s, hx_r, hx_c, hx_b, hx_s, hx_i, hx_n, kx_s, kx_n, kx_i, cx_d, up_at, am_ctl, am_step, am_i1, am_i2, am_i2d, am_l1, am_l2, am_l2d, am_ldi, am_ldl, am_lda, am_sti, am_sta, am_stl, am_inc, am_i2l, am_l2i, am_lcmp, am_dup, am_dup2, am_pop1, am_fv, am_getf, am_putf, am_wr, am_ial, am_lal, am_bal, am_aal, am_ias, am_las, am_bas, am_alen, am_inst, am_cast, am_cpm, am_copy, am_tsw, am_pop, am_cat, am_cS, am_cI, am_cV, am_ri, am_rl, am_ra, am_rv, am_b1, am_b2, am_ent, am_en, am_isL, am_st1, am_st2, am_clr, am_cnd, cc_95, ac_95, nL_95, rb_95, np_129, ok_95_129, nL_129, np_146, ok_95_146, nL_146, vd_146_11, tg_11_2, tg_4_7, tg_4_3, List.getElem?_cons_succ, List.getElem?_cons_zero, nz_of, nzl_of, Int.toNat_add, Int.toNat_mul, tn_l, lt_t, lt_f, le_t, le_f, eq_t, eq_f, ltn_t, ltn_f, len_t, len_f, eqn_t, eqn_f, up_ne, up_up, sh_0, rf_0_2, sh_73, wp_within, v]
set_option maxRecDepth 100000 in
theorem wp_gone_ {μ : Nat → Nat → Int} (hR : CR μ) (x : Int) (Φ : Option AV → ST → Prop) : wpM 96 [.inr (.inr (some 0)), .inl x] (S μ) Φ ↔ (if 0 ≤ x ∧ x < μ 73 7 then (if ¬ μ 76 x.toNat = 0 then Φ (some (.inl (μ 76 x.toNat - 1))) (S (xgone μ x.toNat)) else Φ (some (.inl (-4))) (S μ)) else Φ (some (.inl (-1))) (S μ)) := by
  have r1 := hR.1
  unfold wpM
  by_cases v : 0 ≤ x ∧ x < μ 73 7
  · rw [if_pos v]
    obtain ⟨q, rfl⟩ : ∃ q : Nat, x = q := ⟨x.toNat, by omega⟩
    have P := wp_loses hR q (by omega)
    simp only [Int.toNat_natCast]
    by_cases c : ¬ μ 76 q = 0
    · rw [if_pos c]
      simp only [if_pos c] at P
      have e : xgone μ q 76 q = μ 76 q - 1 := by
        unfold xgone; rw [xa_ne _ _ _ _ _ 76 (by decide)]; simp [up_at]
      rw [s1_iff [] 90]
      simp (disch := omega) [sz_s, sz_0, gx_s, hx_r, hx_c, hx_b, hx_s, hx_i, hx_n, kx_s, kx_n, kx_i, cx_d, up_at, am_ctl, am_step, am_i1, am_i2, am_i2d, am_l1, am_l2, am_l2d, am_ldi, am_ldl, am_lda, am_sti, am_sta, am_stl, am_inc, am_i2l, am_l2i, am_lcmp, am_dup, am_dup2, am_pop1, am_fv, am_getf, am_putf, am_wr, am_ial, am_lal, am_bal, am_aal, am_ias, am_las, am_bas, am_alen, am_inst, am_cast, am_cpm, am_copy, am_tsw, am_pop, am_cat, am_cS, am_cI, am_cV, am_ri, am_rl, am_ra, am_rv, am_b1, am_b2, am_ent, am_en, am_isL, am_st1, am_st2, am_clr, am_cnd, cc_96, ac_96, nL_96, rb_96, np_129, ok_96_129, nL_129, np_147, ok_96_147, nL_147, vd_147_11, tg_11_2, tg_4_7, tg_4_3, List.getElem?_cons_succ, List.getElem?_cons_zero, nz_of, nzl_of, Int.toNat_add, Int.toNat_mul, tn_l, lt_t, lt_f, le_t, le_f, eq_t, eq_f, ltn_t, ltn_f, len_t, len_f, eqn_t, eqn_f, up_ne, up_up, sh_0, rf_0_2, sh_73, sh_76, rf_73_3, wp_within, v.2, P, e]
    · rw [if_neg c]
      simp only [if_neg c] at P
      rw [s1_iff [] 90]
      simp (disch := omega) [sz_s, sz_0, gx_s, hx_r, hx_c, hx_b, hx_s, hx_i, hx_n, kx_s, kx_n, kx_i, cx_d, up_at, am_ctl, am_step, am_i1, am_i2, am_i2d, am_l1, am_l2, am_l2d, am_ldi, am_ldl, am_lda, am_sti, am_sta, am_stl, am_inc, am_i2l, am_l2i, am_lcmp, am_dup, am_dup2, am_pop1, am_fv, am_getf, am_putf, am_wr, am_ial, am_lal, am_bal, am_aal, am_ias, am_las, am_bas, am_alen, am_inst, am_cast, am_cpm, am_copy, am_tsw, am_pop, am_cat, am_cS, am_cI, am_cV, am_ri, am_rl, am_ra, am_rv, am_b1, am_b2, am_ent, am_en, am_isL, am_st1, am_st2, am_clr, am_cnd, cc_96, ac_96, nL_96, rb_96, np_129, ok_96_129, nL_129, np_147, ok_96_147, nL_147, vd_147_11, tg_11_2, tg_4_7, tg_4_3, List.getElem?_cons_succ, List.getElem?_cons_zero, nz_of, nzl_of, Int.toNat_add, Int.toNat_mul, tn_l, lt_t, lt_f, le_t, le_f, eq_t, eq_f, ltn_t, ltn_f, len_t, len_f, eqn_t, eqn_f, up_ne, up_up, sh_0, rf_0_2, sh_73, wp_within, v.2, P]
  · rw [if_neg v]
    rw [s1_iff [] 90]
    simp (disch := omega) [sz_s, sz_0, gx_s, hx_r, hx_c, hx_b, hx_s, hx_i, hx_n, kx_s, kx_n, kx_i, cx_d, up_at, am_ctl, am_step, am_i1, am_i2, am_i2d, am_l1, am_l2, am_l2d, am_ldi, am_ldl, am_lda, am_sti, am_sta, am_stl, am_inc, am_i2l, am_l2i, am_lcmp, am_dup, am_dup2, am_pop1, am_fv, am_getf, am_putf, am_wr, am_ial, am_lal, am_bal, am_aal, am_ias, am_las, am_bas, am_alen, am_inst, am_cast, am_cpm, am_copy, am_tsw, am_pop, am_cat, am_cS, am_cI, am_cV, am_ri, am_rl, am_ra, am_rv, am_b1, am_b2, am_ent, am_en, am_isL, am_st1, am_st2, am_clr, am_cnd, cc_96, ac_96, nL_96, rb_96, np_129, ok_96_129, nL_129, np_147, ok_96_147, nL_147, vd_147_11, tg_11_2, tg_4_7, tg_4_3, List.getElem?_cons_succ, List.getElem?_cons_zero, nz_of, nzl_of, Int.toNat_add, Int.toNat_mul, tn_l, lt_t, lt_f, le_t, le_f, eq_t, eq_f, ltn_t, ltn_f, len_t, len_f, eqn_t, eqn_f, up_ne, up_up, sh_0, rf_0_2, sh_73, wp_within, v]
set_option maxRecDepth 100000 in
theorem wm_lend_bad {μ : Nat → Nat → Int} (hR : MR μ) (a b n : Int) (v : ¬ (((0 ≤ a ∧ a < μ 102 0) ∧ (0 ≤ b ∧ b < μ 102 0) ∧ ¬ a = b) ∧ 1 ≤ n ∧ n ≤ 9)) (Φ : Option AV → ST → Prop) : wpM 196 [.inr (.inr (some 101)), .inl a, .inl b, .inl n] (S μ) Φ ↔ Φ (some (.inl (-1))) (S μ) := by
  have T := wm_areTwo hR a b n
  rw [if_neg v] at T
  unfold wpM
  rw [s1_iff [] 90]
  simp (disch := omega) [sz_s, sz_0, gx_s, hx_r, hx_c, hx_b, hx_s, hx_i, hx_n, kx_s, kx_n, kx_i, cx_d, up_at, am_ctl, am_step, am_i1, am_i2, am_i2d, am_l1, am_l2, am_l2d, am_ldi, am_ldl, am_lda, am_sti, am_sta, am_stl, am_inc, am_i2l, am_l2i, am_lcmp, am_dup, am_dup2, am_pop1, am_fv, am_getf, am_putf, am_wr, am_ial, am_lal, am_bal, am_aal, am_ias, am_las, am_bas, am_alen, am_inst, am_cast, am_cpm, am_copy, am_tsw, am_pop, am_cat, am_cS, am_cI, am_cV, am_ri, am_rl, am_ra, am_rv, am_b1, am_b2, am_ent, am_en, am_isL, am_st1, am_st2, am_clr, am_cnd, cc_196, ac_196, nL_196, rb_196, np_192, ok_196_192, nL_192, vd_192_12, np_193, ok_196_193, nL_193, vd_193_12, np_194, ok_196_194, nL_194, vd_194_12, np_195, ok_196_195, nL_195, vd_195_12, tg_12_0, List.getElem?_cons_succ, List.getElem?_cons_zero, nz_of, nzl_of, Int.toNat_add, Int.toNat_mul, tn_l, lt_t, lt_f, le_t, le_f, eq_t, eq_f, ltn_t, ltn_f, len_t, len_f, eqn_t, eqn_f, up_ne, up_up, sh_101, T]
set_option maxRecDepth 100000 in
theorem wm_back_bad {μ : Nat → Nat → Int} (hR : MR μ) (a b n : Int) (v : ¬ (((0 ≤ a ∧ a < μ 102 0) ∧ (0 ≤ b ∧ b < μ 102 0) ∧ ¬ a = b) ∧ 1 ≤ n ∧ n ≤ 9)) (Φ : Option AV → ST → Prop) : wpM 197 [.inr (.inr (some 101)), .inl a, .inl b, .inl n] (S μ) Φ ↔ Φ (some (.inl (-1))) (S μ) := by
  have T := wm_areTwo hR a b n
  rw [if_neg v] at T
  unfold wpM
  rw [s1_iff [] 90]
  simp (disch := omega) [sz_s, sz_0, gx_s, hx_r, hx_c, hx_b, hx_s, hx_i, hx_n, kx_s, kx_n, kx_i, cx_d, up_at, am_ctl, am_step, am_i1, am_i2, am_i2d, am_l1, am_l2, am_l2d, am_ldi, am_ldl, am_lda, am_sti, am_sta, am_stl, am_inc, am_i2l, am_l2i, am_lcmp, am_dup, am_dup2, am_pop1, am_fv, am_getf, am_putf, am_wr, am_ial, am_lal, am_bal, am_aal, am_ias, am_las, am_bas, am_alen, am_inst, am_cast, am_cpm, am_copy, am_tsw, am_pop, am_cat, am_cS, am_cI, am_cV, am_ri, am_rl, am_ra, am_rv, am_b1, am_b2, am_ent, am_en, am_isL, am_st1, am_st2, am_clr, am_cnd, cc_197, ac_197, nL_197, rb_197, np_192, ok_197_192, nL_192, vd_192_12, np_193, ok_197_193, nL_193, vd_193_12, np_194, ok_197_194, nL_194, vd_194_12, np_195, ok_197_195, nL_195, vd_195_12, tg_12_0, List.getElem?_cons_succ, List.getElem?_cons_zero, nz_of, nzl_of, Int.toNat_add, Int.toNat_mul, tn_l, lt_t, lt_f, le_t, le_f, eq_t, eq_f, ltn_t, ltn_f, len_t, len_f, eqn_t, eqn_f, up_ne, up_up, sh_101, T]
set_option maxRecDepth 100000 in
theorem wm_melt_bad {μ : Nat → Nat → Int} (hR : MR μ) (x n : Int) (v : ¬ ((0 ≤ x ∧ x < μ 102 0) ∧ 1 ≤ n ∧ n ≤ 9)) (Φ : Option AV → ST → Prop) : wpM 198 [.inr (.inr (some 101)), .inl x, .inl n] (S μ) Φ ↔ Φ (some (.inl (-1))) (S μ) := by
  have T := wm_isH hR x
  unfold wpM
  by_cases v1 : 0 ≤ x ∧ x < μ 102 0
  · rw [if_pos v1] at T
    rw [s1_iff [] 90]
    simp (disch := omega) [sz_s, sz_0, gx_s, hx_r, hx_c, hx_b, hx_s, hx_i, hx_n, kx_s, kx_n, kx_i, cx_d, up_at, am_ctl, am_step, am_i1, am_i2, am_i2d, am_l1, am_l2, am_l2d, am_ldi, am_ldl, am_lda, am_sti, am_sta, am_stl, am_inc, am_i2l, am_l2i, am_lcmp, am_dup, am_dup2, am_pop1, am_fv, am_getf, am_putf, am_wr, am_ial, am_lal, am_bal, am_aal, am_ias, am_las, am_bas, am_alen, am_inst, am_cast, am_cpm, am_copy, am_tsw, am_pop, am_cat, am_cS, am_cI, am_cV, am_ri, am_rl, am_ra, am_rv, am_b1, am_b2, am_ent, am_en, am_isL, am_st1, am_st2, am_clr, am_cnd, cc_198, ac_198, nL_198, rb_198, np_156, ok_198_156, nL_156, np_178, ok_198_178, nL_178, vd_178_12, np_192, ok_198_192, nL_192, vd_192_12, tg_12_0, List.getElem?_cons_succ, List.getElem?_cons_zero, nz_of, nzl_of, Int.toNat_add, Int.toNat_mul, tn_l, lt_t, lt_f, le_t, le_f, eq_t, eq_f, ltn_t, ltn_f, len_t, len_f, eqn_t, eqn_f, up_ne, up_up, sh_101, T, wm_in, show ¬ (1 ≤ n ∧ n ≤ 9) from fun q => v ⟨v1, q⟩]
  · rw [if_neg v1] at T
    rw [s1_iff [] 90]
    simp (disch := omega) [sz_s, sz_0, gx_s, hx_r, hx_c, hx_b, hx_s, hx_i, hx_n, kx_s, kx_n, kx_i, cx_d, up_at, am_ctl, am_step, am_i1, am_i2, am_i2d, am_l1, am_l2, am_l2d, am_ldi, am_ldl, am_lda, am_sti, am_sta, am_stl, am_inc, am_i2l, am_l2i, am_lcmp, am_dup, am_dup2, am_pop1, am_fv, am_getf, am_putf, am_wr, am_ial, am_lal, am_bal, am_aal, am_ias, am_las, am_bas, am_alen, am_inst, am_cast, am_cpm, am_copy, am_tsw, am_pop, am_cat, am_cS, am_cI, am_cV, am_ri, am_rl, am_ra, am_rv, am_b1, am_b2, am_ent, am_en, am_isL, am_st1, am_st2, am_clr, am_cnd, cc_198, ac_198, nL_198, rb_198, np_156, ok_198_156, nL_156, np_178, ok_198_178, nL_178, vd_178_12, np_192, ok_198_192, nL_192, vd_192_12, tg_12_0, List.getElem?_cons_succ, List.getElem?_cons_zero, nz_of, nzl_of, Int.toNat_add, Int.toNat_mul, tn_l, lt_t, lt_f, le_t, le_f, eq_t, eq_f, ltn_t, ltn_f, len_t, len_f, eqn_t, eqn_f, up_ne, up_up, sh_101, T]
set_option maxRecDepth 100000 in
theorem wm_born_bad {μ : Nat → Nat → Int} (hR : MR μ) (x : Int) (v : ¬ (0 ≤ x ∧ x < μ 102 0)) (Φ : Option AV → ST → Prop) : wpM 199 [.inr (.inr (some 101)), .inl x] (S μ) Φ ↔ Φ (some (.inl (-1))) (S μ) := by
  have T := wm_isH hR x
  rw [if_neg v] at T
  unfold wpM
  rw [s1_iff [] 90]
  simp (disch := omega) [sz_s, sz_0, gx_s, hx_r, hx_c, hx_b, hx_s, hx_i, hx_n, kx_s, kx_n, kx_i, cx_d, up_at, am_ctl, am_step, am_i1, am_i2, am_i2d, am_l1, am_l2, am_l2d, am_ldi, am_ldl, am_lda, am_sti, am_sta, am_stl, am_inc, am_i2l, am_l2i, am_lcmp, am_dup, am_dup2, am_pop1, am_fv, am_getf, am_putf, am_wr, am_ial, am_lal, am_bal, am_aal, am_ias, am_las, am_bas, am_alen, am_inst, am_cast, am_cpm, am_copy, am_tsw, am_pop, am_cat, am_cS, am_cI, am_cV, am_ri, am_rl, am_ra, am_rv, am_b1, am_b2, am_ent, am_en, am_isL, am_st1, am_st2, am_clr, am_cnd, cc_199, ac_199, nL_199, rb_199, np_178, ok_199_178, nL_178, vd_178_12, np_192, ok_199_192, nL_192, vd_192_12, tg_12_0, List.getElem?_cons_succ, List.getElem?_cons_zero, nz_of, nzl_of, Int.toNat_add, Int.toNat_mul, tn_l, lt_t, lt_f, le_t, le_f, eq_t, eq_f, ltn_t, ltn_f, len_t, len_f, eqn_t, eqn_f, up_ne, up_up, sh_101, T]
set_option maxRecDepth 100000 in
theorem wm_gone_bad {μ : Nat → Nat → Int} (hR : MR μ) (x : Int) (v : ¬ (0 ≤ x ∧ x < μ 102 0)) (Φ : Option AV → ST → Prop) : wpM 200 [.inr (.inr (some 101)), .inl x] (S μ) Φ ↔ Φ (some (.inl (-1))) (S μ) := by
  have T := wm_isH hR x
  rw [if_neg v] at T
  unfold wpM
  rw [s1_iff [] 90]
  simp (disch := omega) [sz_s, sz_0, gx_s, hx_r, hx_c, hx_b, hx_s, hx_i, hx_n, kx_s, kx_n, kx_i, cx_d, up_at, am_ctl, am_step, am_i1, am_i2, am_i2d, am_l1, am_l2, am_l2d, am_ldi, am_ldl, am_lda, am_sti, am_sta, am_stl, am_inc, am_i2l, am_l2i, am_lcmp, am_dup, am_dup2, am_pop1, am_fv, am_getf, am_putf, am_wr, am_ial, am_lal, am_bal, am_aal, am_ias, am_las, am_bas, am_alen, am_inst, am_cast, am_cpm, am_copy, am_tsw, am_pop, am_cat, am_cS, am_cI, am_cV, am_ri, am_rl, am_ra, am_rv, am_b1, am_b2, am_ent, am_en, am_isL, am_st1, am_st2, am_clr, am_cnd, cc_200, ac_200, nL_200, rb_200, np_178, ok_200_178, nL_178, vd_178_12, np_192, ok_200_192, nL_192, vd_192_12, tg_12_0, List.getElem?_cons_succ, List.getElem?_cons_zero, nz_of, nzl_of, Int.toNat_add, Int.toNat_mul, tn_l, lt_t, lt_f, le_t, le_f, eq_t, eq_f, ltn_t, ltn_f, len_t, len_f, eqn_t, eqn_f, up_ne, up_up, sh_101, T]
theorem eq_lend {B : Int} {μ : Nat → Nat → Int} (h : INV B μ) (hB : B ≤ 900000) (a b n : Int) : EQV (B + 9) μ 92 196 [.inl a, .inl b, .inl n] := by
  have hL : LD B μ 73 0 := h.2.2.2.1
  have hC := CR_of h (by omega)
  have hM := MR_of h (by omega)
  have n0 := (ld_0 hL).1
  unfold EQV
  rw [wp_lend_ hC]
  by_cases v : (((0 ≤ a ∧ a < μ 73 7) ∧ (0 ≤ b ∧ b < μ 73 7) ∧ ¬ a = b) ∧ 1 ≤ n ∧ n ≤ 9)
  · rw [if_pos v]
    obtain ⟨x, rfl⟩ : ∃ x : Nat, a = x := ⟨a.toNat, by omega⟩
    obtain ⟨y, rfl⟩ : ∃ y : Nat, b = y := ⟨b.toNat, by omega⟩
    simp only [Int.toNat_natCast]
    have la := ld_h hL (h := x) (by unfold nW; omega)
    have lb := ld_h hL (h := y) (by unfold nW; omega)
    have ea := la.1.2.2.2
    have eb := lb.1.2.2.2
    have ed := (ld_d hL (j := 8 * x + y) (by omega)).1
    by_cases c : n ≤ μ 77 x ∧ μ 77 y + n ≤ 30
    · rw [if_pos c]
      refine ⟨_, _, rfl, rfl, ?_⟩
      rw [wm_lend (xM_lend hM x y n) x y n (by rw [xr_lend _ _ _ _ 102 (by decide) (by decide)]; omega) (by rw [xr_lend _ _ _ _ 102 (by decide) (by decide)]; omega) (by omega) v.2]
      rw [xr_lend _ _ _ _ 102 (by decide) (by decide), if_pos (by omega), ← ed]
      exact ⟨rfl, _, rfl, INV_mono (by omega) (INV_lend h x y n (by omega) (by omega) (by omega) v.2 c)⟩
    · rw [if_neg c]
      refine ⟨_, _, rfl, rfl, ?_⟩
      rw [wm_lend hM x y n (by omega) (by omega) (by omega) v.2, if_neg (by omega)]
      exact ⟨rfl, _, rfl, INV_mono (by omega) h⟩
  · rw [if_neg v]
    refine ⟨_, _, rfl, rfl, ?_⟩
    rw [wm_lend_bad hM a b n (by rw [← n0]; exact v)]
    exact ⟨rfl, _, rfl, INV_mono (by omega) h⟩
theorem eq_back {B : Int} {μ : Nat → Nat → Int} (h : INV B μ) (hB : B ≤ 900000) (a b n : Int) : EQV (B + 9) μ 93 197 [.inl a, .inl b, .inl n] := by
  have hL : LD B μ 73 0 := h.2.2.2.1
  have hC := CR_of h (by omega)
  have hM := MR_of h (by omega)
  have n0 := (ld_0 hL).1
  unfold EQV
  rw [wp_back_ hC]
  by_cases v : (((0 ≤ a ∧ a < μ 73 7) ∧ (0 ≤ b ∧ b < μ 73 7) ∧ ¬ a = b) ∧ 1 ≤ n ∧ n ≤ 9)
  · rw [if_pos v]
    obtain ⟨x, rfl⟩ : ∃ x : Nat, a = x := ⟨a.toNat, by omega⟩
    obtain ⟨y, rfl⟩ : ∃ y : Nat, b = y := ⟨b.toNat, by omega⟩
    simp only [Int.toNat_natCast]
    have la := ld_h hL (h := x) (by unfold nW; omega)
    have lb := ld_h hL (h := y) (by unfold nW; omega)
    have ea := la.1.2.2.2
    have eb := lb.1.2.2.2
    have ed := (ld_d hL (j := 8 * x + y) (by omega)).1
    by_cases c : n ≤ μ 78 (8 * x + y) ∧ n ≤ μ 77 y ∧ μ 77 x + n ≤ 30
    · rw [if_pos c]
      refine ⟨_, _, rfl, rfl, ?_⟩
      rw [wm_back (xM_back hM x y n) x y n (by rw [xr_back _ _ _ _ 102 (by decide) (by decide)]; omega) (by rw [xr_back _ _ _ _ 102 (by decide) (by decide)]; omega) (by omega) v.2]
      rw [xr_back _ _ _ _ 102 (by decide) (by decide), if_pos (by omega), ← ed]
      exact ⟨rfl, _, rfl, INV_mono (by omega) (INV_back h x y n (by omega) (by omega) (by omega) v.2 c)⟩
    · rw [if_neg c]
      refine ⟨_, _, rfl, rfl, ?_⟩
      rw [wm_back hM x y n (by omega) (by omega) (by omega) v.2, if_neg (by omega)]
      exact ⟨rfl, _, rfl, INV_mono (by omega) h⟩
  · rw [if_neg v]
    refine ⟨_, _, rfl, rfl, ?_⟩
    rw [wm_back_bad hM a b n (by rw [← n0]; exact v)]
    exact ⟨rfl, _, rfl, INV_mono (by omega) h⟩
theorem eq_melt {B : Int} {μ : Nat → Nat → Int} (h : INV B μ) (hB : B ≤ 1000000) (x n : Int) : EQV B μ 94 198 [.inl x, .inl n] := by
  have hL : LD B μ 73 0 := h.2.2.2.1
  have hC := CR_of h hB
  have hM := MR_of h hB
  have n0 := (ld_0 hL).1
  unfold EQV
  rw [wp_melt_ hC]
  by_cases v : (0 ≤ x ∧ x < μ 73 7) ∧ 1 ≤ n ∧ n ≤ 9
  · rw [if_pos v]
    obtain ⟨q, rfl⟩ : ∃ q : Nat, x = q := ⟨x.toNat, by omega⟩
    simp only [Int.toNat_natCast]
    have la := ld_h hL (h := q) (by unfold nW; omega)
    have ea := la.1.2.2.2
    by_cases c : n ≤ μ 77 q
    · rw [if_pos c]
      refine ⟨_, _, rfl, rfl, ?_⟩
      rw [wm_melt (xM_melt hM q n) q n (by rw [xr_melt _ _ _ 102 (by decide) (by decide)]; omega) v.2]
      rw [xr_melt _ _ _ 102 (by decide) (by decide), if_pos (by omega), ← ea]
      exact ⟨rfl, _, rfl, INV_melt h q n (by omega) v.2 c⟩
    · rw [if_neg c]
      refine ⟨_, _, rfl, rfl, ?_⟩
      rw [wm_melt hM q n (by omega) v.2, if_neg (by omega)]
      exact ⟨rfl, _, rfl, h⟩
  · rw [if_neg v]
    refine ⟨_, _, rfl, rfl, ?_⟩
    rw [wm_melt_bad hM x n (by rw [← n0]; exact v)]
    exact ⟨rfl, _, rfl, h⟩
theorem eq_born {B : Int} {μ : Nat → Nat → Int} (h : INV B μ) (hB : B ≤ 1000000) (x : Int) : EQV B μ 95 199 [.inl x] := by
  have hL : LD B μ 73 0 := h.2.2.2.1
  have hC := CR_of h hB
  have hM := MR_of h hB
  have n0 := (ld_0 hL).1
  unfold EQV
  rw [wp_born_ hC]
  by_cases v : 0 ≤ x ∧ x < μ 73 7
  · rw [if_pos v]
    obtain ⟨q, rfl⟩ : ∃ q : Nat, x = q := ⟨x.toNat, by omega⟩
    simp only [Int.toNat_natCast]
    have la := ld_h hL (h := q) (by unfold nW; omega)
    have ea := la.1.2.2.1
    have eb := la.1.2.2.2
    by_cases c : μ 76 q < 9 ∧ μ 77 q < 30
    · rw [if_pos c]
      refine ⟨_, _, rfl, rfl, ?_⟩
      rw [wm_born (xM_born hM q) q (by rw [xr_born _ _ 102 (by decide) (by decide)]; omega)]
      rw [xr_born _ _ 102 (by decide) (by decide), if_pos (by omega), ← ea]
      exact ⟨rfl, _, rfl, INV_born h q (by omega) c⟩
    · rw [if_neg c]
      refine ⟨_, _, rfl, rfl, ?_⟩
      rw [wm_born hM q (by omega), if_neg (by omega)]
      exact ⟨rfl, _, rfl, h⟩
  · rw [if_neg v]
    refine ⟨_, _, rfl, rfl, ?_⟩
    rw [wm_born_bad hM x (by rw [← n0]; exact v)]
    exact ⟨rfl, _, rfl, h⟩
theorem eq_gone {B : Int} {μ : Nat → Nat → Int} (h : INV B μ) (hB : B ≤ 1000000) (x : Int) : EQV B μ 96 200 [.inl x] := by
  have hL : LD B μ 73 0 := h.2.2.2.1
  have hC := CR_of h hB
  have hM := MR_of h hB
  have n0 := (ld_0 hL).1
  unfold EQV
  rw [wp_gone_ hC]
  by_cases v : 0 ≤ x ∧ x < μ 73 7
  · rw [if_pos v]
    obtain ⟨q, rfl⟩ : ∃ q : Nat, x = q := ⟨x.toNat, by omega⟩
    simp only [Int.toNat_natCast]
    have la := ld_h hL (h := q) (by unfold nW; omega)
    have ea := la.1.2.2.1
    have eb := la.1.2.2.2
    by_cases c : ¬ μ 76 q = 0
    · rw [if_pos c]
      refine ⟨_, _, rfl, rfl, ?_⟩
      rw [wm_gone (xM_gone hM q) q (by rw [xr_gone _ _ 102 (by decide) (by decide)]; omega)]
      rw [xr_gone _ _ 102 (by decide) (by decide), if_pos (by omega), ← ea]
      exact ⟨rfl, _, rfl, INV_gone h q (by omega) c⟩
    · rw [if_neg c]
      refine ⟨_, _, rfl, rfl, ?_⟩
      rw [wm_gone hM q (by omega), if_neg (by omega)]
      exact ⟨rfl, _, rfl, h⟩
  · rw [if_neg v]
    refine ⟨_, _, rfl, rfl, ?_⟩
    rw [wm_gone_bad hM x (by rw [← n0]; exact v)]
    exact ⟨rfl, _, rfl, h⟩
