/-! mean, copy, next: equal on both sides -/
/-- k places of a cell, from o on, are as g says -/
def rfz (μ : Nat → Nat → Int) (c o k : Nat) (g : Nat → Int) : Nat → Nat → Int := am_row μ c (fun q => if o ≤ q ∧ q < o + k then g (q - o) else μ c q)
theorem rfz_ne (μ : Nat → Nat → Int) (c o k : Nat) (g : Nat → Int) (b : Nat) (h : ¬ b = c) : rfz μ c o k g b = μ b := by
  funext j; unfold rfz am_row; rw [if_neg h]
theorem rfz_at (μ : Nat → Nat → Int) (c o k : Nat) (g : Nat → Int) (j : Nat) : rfz μ c o k g c j = if o ≤ j ∧ j < o + k then g (j - o) else μ c j := by
  unfold rfz am_row; rw [if_pos rfl]
theorem rfz_0 (μ : Nat → Nat → Int) (c o : Nat) (g : Nat → Int) : rfz μ c o 0 g = μ := by
  funext b j
  by_cases h : b = c
  · subst h; rw [rfz_at, if_neg (by omega)]
  · rw [rfz_ne _ _ _ _ _ _ h]
theorem rfz_s (μ : Nat → Nat → Int) (c o k : Nat) (g : Nat → Int) : am_up (rfz μ c o k g) c (o + k) (g k) = rfz μ c o (k + 1) g := by
  funext b j
  unfold am_up
  by_cases h : b = c
  · subst h
    rw [rfz_at, rfz_at]
    by_cases e : j = o + k
    · subst e
      rw [if_pos ⟨rfl, rfl⟩, if_pos (by omega), show o + k - o = k by omega]
    · rw [if_neg (by omega)]
      by_cases q : o ≤ j ∧ j < o + k
      · rw [if_pos q, if_pos (by omega)]
      · rw [if_neg q, if_neg (by omega)]
  · rw [if_neg (by omega), rfz_ne _ _ _ _ _ _ h, rfz_ne _ _ _ _ _ _ h]
/-- a row's size and values, both sides -/
def RW (μ : Nat → Nat → Int) (n : Nat) : Prop := (-1 ≤ μ 105 n ∧ μ 105 n ≤ 60) ∧ μ (46 + 2 * n) 1 = μ 105 n ∧ ∀ i : Nat, (i : Int) < μ 105 n → μ (47 + 2 * n) i = μ 104 (60 * n + i) ∧ (-2147483648 ≤ μ 104 (60 * n + i) ∧ μ 104 (60 * n + i) < 2147483648)
theorem RW_as {μ ν : Nat → Nat → Int} {n : Nat} (h : RW μ n) (e : ∀ k, k = 46 + 2 * n ∨ k = 47 + 2 * n ∨ k = 104 ∨ k = 105 → ν k = μ k) : RW ν n := by
  unfold RW at h ⊢
  rw [e _ (Or.inl rfl), e _ (Or.inr (Or.inl rfl)), e _ (Or.inr (Or.inr (Or.inl rfl))), e _ (Or.inr (Or.inr (Or.inr rfl)))]
  exact h
theorem row_of {B : Int} {μ : Nat → Nat → Int} (h : INV B μ) {n : Nat} (hn : n < 6) : RW μ n := by
  obtain ⟨b1, b2, b3⟩ := h.2.1 n hn
  exact ⟨b1, b2, fun i hi => ⟨(b3 i hi).1, nz_rng.mp (b3 i hi).2⟩⟩
def smV (μ : Nat → Nat → Int) (n k : Nat) : Int := sumZ (fun i => μ 104 (60 * n + i)) k
def meV (μ : Nat → Nat → Int) (n : Nat) : Int := nz (nzl ((smV μ n (μ 105 n).toNat).tdiv (μ 105 n)))
theorem smV_rng {μ : Nat → Nat → Int} {n : Nat} (h : RW μ n) {k : Nat} (hk : (k : Int) ≤ μ 105 n) : -2147483648 * (k : Int) ≤ smV μ n k ∧ smV μ n k ≤ 2147483648 * (k : Int) := by
  obtain ⟨b1, b2, b3⟩ := h
  exact sumZ_rng (fun i hi => by have := (b3 i (by omega)).2; omega)
set_option maxRecDepth 100000 in
theorem wp_mean {μ : Nat → Nat → Int} {n : Nat} (hn : n < 6) (h : RW μ n) (Φ : Option AV → ST → Prop) : wpM 84 [.inr (.inr (some 0)), .inl n] (S μ) Φ ↔ (if μ 105 n = -1 then Φ (some (.inl (-3))) (S (xfind μ 1)) else if μ 105 n = 0 then Φ (some (.inl (-3))) (S (xfind μ 4)) else Φ (some (.inl 1)) (S (am_up μ 0 10 (meV μ n)))) := by
  obtain ⟨b1, b2, b3⟩ := id h
  obtain ⟨g1, g2, g3, g4⟩ := g_row n hn
  have T := wp_isThere (46 + 2 * n) (by omega) g2
  by_cases c : μ 105 n = -1
  · rw [if_pos c]
    unfold wpM
    rw [s1_iff [] 200]
    simp (disch := omega) [sz_s, sz_0, gx_s, hx_r, hx_c, hx_b, hx_s, hx_i, hx_n, kx_s, kx_n, kx_i, cx_d, up_at, am_ctl, am_step, am_i1, am_i2, am_i2d, am_l1, am_l2, am_l2d, am_ldi, am_ldl, am_lda, am_sti, am_sta, am_stl, am_inc, am_i2l, am_l2i, am_lcmp, am_dup, am_dup2, am_pop1, am_fv, am_getf, am_putf, am_wr, am_ial, am_lal, am_bal, am_aal, am_ias, am_las, am_bas, am_alen, am_inst, am_cast, am_cpm, am_copy, am_tsw, am_pop, am_cat, am_cS, am_cI, am_cV, am_ri, am_rl, am_ra, am_rv, am_b1, am_b2, am_ent, am_en, am_isL, am_st1, am_st2, am_clr, am_cnd, cc_84, ac_84, nL_84, rb_84, np_129, ok_84_129, nL_129, np_56, ok_84_56, nL_56, vd_56_8, np_133, ok_84_133, nL_133, vd_133_11, np_134, ok_84_134, nL_134, vd_134_11, tg_11_0, tg_8_1, tg_8_0, List.getElem?_cons_succ, List.getElem?_cons_zero, nz_of, nzl_of, Int.toNat_add, Int.toNat_mul, tn_l, lt_t, lt_f, le_t, le_f, eq_t, eq_f, ltn_t, ltn_f, len_t, len_f, eqn_t, eqn_f, up_ne, up_up, sh_0, sh_1, rf_0_0, wp_within, g1, g2, T, b2, c, wp_find 1 (by decide), xfind]
  · rw [if_neg c]
    by_cases c0 : μ 105 n = 0
    · rw [if_pos c0]
      unfold wpM
      rw [s1_iff [] 200]
      simp (disch := omega) [sz_s, sz_0, gx_s, hx_r, hx_c, hx_b, hx_s, hx_i, hx_n, kx_s, kx_n, kx_i, cx_d, up_at, am_ctl, am_step, am_i1, am_i2, am_i2d, am_l1, am_l2, am_l2d, am_ldi, am_ldl, am_lda, am_sti, am_sta, am_stl, am_inc, am_i2l, am_l2i, am_lcmp, am_dup, am_dup2, am_pop1, am_fv, am_getf, am_putf, am_wr, am_ial, am_lal, am_bal, am_aal, am_ias, am_las, am_bas, am_alen, am_inst, am_cast, am_cpm, am_copy, am_tsw, am_pop, am_cat, am_cS, am_cI, am_cV, am_ri, am_rl, am_ra, am_rv, am_b1, am_b2, am_ent, am_en, am_isL, am_st1, am_st2, am_clr, am_cnd, cc_84, ac_84, nL_84, rb_84, np_129, ok_84_129, nL_129, np_56, ok_84_56, nL_56, vd_56_8, np_133, ok_84_133, nL_133, vd_133_11, np_134, ok_84_134, nL_134, vd_134_11, tg_11_0, tg_8_1, tg_8_0, List.getElem?_cons_succ, List.getElem?_cons_zero, nz_of, nzl_of, Int.toNat_add, Int.toNat_mul, tn_l, lt_t, lt_f, le_t, le_f, eq_t, eq_f, ltn_t, ltn_f, len_t, len_f, eqn_t, eqn_f, up_ne, up_up, sh_0, sh_1, rf_0_0, wp_within, g1, g2, T, b2, c0, wp_find 4 (by decide), xfind]
    · rw [if_neg c0]
      obtain ⟨s, hs⟩ : ∃ s : Nat, μ 105 n = s := ⟨(μ 105 n).toNat, by omega⟩
      have step : ∀ j, j < s → ((fun j : Nat => wpS 84 49 [some (.inr (.inr (some 0))), some (.inl n), some (.inr (.inr (some (46 + 2 * n)))), some (.inr (.inl (smV μ n j))), none, some (.inl j)] [] (S μ) Φ) j ↔ (fun j : Nat => wpS 84 49 [some (.inr (.inr (some 0))), some (.inl n), some (.inr (.inr (some (46 + 2 * n)))), some (.inr (.inl (smV μ n j))), none, some (.inl j)] [] (S μ) Φ) (j + 1)) := by
        intro j hj
        have r1 := smV_rng h (k := j) (by omega)
        have b4 := b3 j (by omega)
        have e : smV μ n (j + 1) = smV μ n j + μ 104 (60 * n + j) := rfl
        dsimp only
        rw [e]
        rw [s1_iff [49] 200]
        simp (disch := omega) [sz_s, sz_0, gx_s, hx_r, hx_c, hx_b, hx_s, hx_i, hx_n, kx_s, kx_n, kx_i, cx_d, up_at, am_ctl, am_step, am_i1, am_i2, am_i2d, am_l1, am_l2, am_l2d, am_ldi, am_ldl, am_lda, am_sti, am_sta, am_stl, am_inc, am_i2l, am_l2i, am_lcmp, am_dup, am_dup2, am_pop1, am_fv, am_getf, am_putf, am_wr, am_ial, am_lal, am_bal, am_aal, am_ias, am_las, am_bas, am_alen, am_inst, am_cast, am_cpm, am_copy, am_tsw, am_pop, am_cat, am_cS, am_cI, am_cV, am_ri, am_rl, am_ra, am_rv, am_b1, am_b2, am_ent, am_en, am_isL, am_st1, am_st2, am_clr, am_cnd, cc_84, ac_84, nL_84, rb_84, np_129, ok_84_129, nL_129, np_56, ok_84_56, nL_56, vd_56_8, np_133, ok_84_133, nL_133, vd_133_11, np_134, ok_84_134, nL_134, vd_134_11, tg_11_0, tg_8_1, tg_8_0, List.getElem?_cons_succ, List.getElem?_cons_zero, nz_of, nzl_of, Int.toNat_add, Int.toNat_mul, tn_l, lt_t, lt_f, le_t, le_f, eq_t, eq_f, ltn_t, ltn_f, len_t, len_f, eqn_t, eqn_f, up_ne, up_up, g1, g2, g3, g4, b2, b4.1, hs, hj]
      have s0 := up_iff _ s step
      have e0 : smV μ n 0 = 0 := rfl
      have em : meV μ n = nz (nzl ((smV μ n s).tdiv s)) := by unfold meV; rw [hs, Int.toNat_natCast]
      rw [em]
      rw [e0] at s0
      unfold wpM
      rw [s1_iff [49] 200]
      simp (disch := omega) [sz_s, sz_0, gx_s, hx_r, hx_c, hx_b, hx_s, hx_i, hx_n, kx_s, kx_n, kx_i, cx_d, up_at, am_ctl, am_step, am_i1, am_i2, am_i2d, am_l1, am_l2, am_l2d, am_ldi, am_ldl, am_lda, am_sti, am_sta, am_stl, am_inc, am_i2l, am_l2i, am_lcmp, am_dup, am_dup2, am_pop1, am_fv, am_getf, am_putf, am_wr, am_ial, am_lal, am_bal, am_aal, am_ias, am_las, am_bas, am_alen, am_inst, am_cast, am_cpm, am_copy, am_tsw, am_pop, am_cat, am_cS, am_cI, am_cV, am_ri, am_rl, am_ra, am_rv, am_b1, am_b2, am_ent, am_en, am_isL, am_st1, am_st2, am_clr, am_cnd, cc_84, ac_84, nL_84, rb_84, np_129, ok_84_129, nL_129, np_56, ok_84_56, nL_56, vd_56_8, np_133, ok_84_133, nL_133, vd_133_11, np_134, ok_84_134, nL_134, vd_134_11, tg_11_0, tg_8_1, tg_8_0, List.getElem?_cons_succ, List.getElem?_cons_zero, nz_of, nzl_of, Int.toNat_add, Int.toNat_mul, tn_l, lt_t, lt_f, le_t, le_f, eq_t, eq_f, ltn_t, ltn_f, len_t, len_f, eqn_t, eqn_f, up_ne, up_up, sh_0, sh_1, rf_0_0, wp_within, g1, g2, T, b2, hs]
      refine s0.trans ?_
      rw [s1_iff [49] 200]
      simp (disch := omega) [sz_s, sz_0, gx_s, hx_r, hx_c, hx_b, hx_s, hx_i, hx_n, kx_s, kx_n, kx_i, cx_d, up_at, am_ctl, am_step, am_i1, am_i2, am_i2d, am_l1, am_l2, am_l2d, am_ldi, am_ldl, am_lda, am_sti, am_sta, am_stl, am_inc, am_i2l, am_l2i, am_lcmp, am_dup, am_dup2, am_pop1, am_fv, am_getf, am_putf, am_wr, am_ial, am_lal, am_bal, am_aal, am_ias, am_las, am_bas, am_alen, am_inst, am_cast, am_cpm, am_copy, am_tsw, am_pop, am_cat, am_cS, am_cI, am_cV, am_ri, am_rl, am_ra, am_rv, am_b1, am_b2, am_ent, am_en, am_isL, am_st1, am_st2, am_clr, am_cnd, cc_84, ac_84, nL_84, rb_84, np_129, ok_84_129, nL_129, np_56, ok_84_56, nL_56, vd_56_8, np_133, ok_84_133, nL_133, vd_133_11, np_134, ok_84_134, nL_134, vd_134_11, tg_11_0, tg_8_1, tg_8_0, List.getElem?_cons_succ, List.getElem?_cons_zero, nz_of, nzl_of, Int.toNat_add, Int.toNat_mul, tn_l, lt_t, lt_f, le_t, le_f, eq_t, eq_f, ltn_t, ltn_f, len_t, len_f, eqn_t, eqn_f, up_ne, up_up, sh_0, g1, g2, g3, g4, b2, hs, wp_tell, show ¬ s = 0 by omega]
set_option maxRecDepth 100000 in
theorem wm_mean {μ : Nat → Nat → Int} {n : Nat} (hn : n < 6) (h : RW μ n) (Φ : Option AV → ST → Prop) : wpM 171 [.inr (.inr (some 101)), .inl n] (S μ) Φ ↔ (if μ 105 n = -1 then Φ (some (.inl (-3))) (S (mfind μ 1)) else if μ 105 n = 0 then Φ (some (.inl (-3))) (S (mfind μ 4)) else Φ (some (.inl 1)) (S (am_up μ 101 8 (meV μ n)))) := by
  obtain ⟨b1, b2, b3⟩ := id h
  by_cases c : μ 105 n = -1
  · rw [if_pos c]
    unfold wpM
    rw [s1_iff [] 200]
    simp (disch := omega) [sz_s, sz_0, gx_s, hx_r, hx_c, hx_b, hx_s, hx_i, hx_n, kx_s, kx_n, kx_i, cx_d, up_at, am_ctl, am_step, am_i1, am_i2, am_i2d, am_l1, am_l2, am_l2d, am_ldi, am_ldl, am_lda, am_sti, am_sta, am_stl, am_inc, am_i2l, am_l2i, am_lcmp, am_dup, am_dup2, am_pop1, am_fv, am_getf, am_putf, am_wr, am_ial, am_lal, am_bal, am_aal, am_ias, am_las, am_bas, am_alen, am_inst, am_cast, am_cpm, am_copy, am_tsw, am_pop, am_cat, am_cS, am_cI, am_cV, am_ri, am_rl, am_ra, am_rv, am_b1, am_b2, am_ent, am_en, am_isL, am_st1, am_st2, am_clr, am_cnd, cc_171, ac_171, nL_171, rb_171, np_163, ok_171_163, nL_163, np_160, ok_171_160, nL_160, vd_160_12, np_161, ok_171_161, nL_161, vd_161_12, tg_12_3, tg_12_2, List.getElem?_cons_succ, List.getElem?_cons_zero, nz_of, nzl_of, Int.toNat_add, Int.toNat_mul, tn_l, lt_t, lt_f, le_t, le_f, eq_t, eq_f, ltn_t, ltn_f, len_t, len_f, eqn_t, eqn_f, up_ne, up_up, sh_101, sh_105, rf_101_3, wm_isRow, c, wm_met 1 (by decide), mfind]
  · rw [if_neg c]
    by_cases c0 : μ 105 n = 0
    · rw [if_pos c0]
      unfold wpM
      rw [s1_iff [] 200]
      simp (disch := omega) [sz_s, sz_0, gx_s, hx_r, hx_c, hx_b, hx_s, hx_i, hx_n, kx_s, kx_n, kx_i, cx_d, up_at, am_ctl, am_step, am_i1, am_i2, am_i2d, am_l1, am_l2, am_l2d, am_ldi, am_ldl, am_lda, am_sti, am_sta, am_stl, am_inc, am_i2l, am_l2i, am_lcmp, am_dup, am_dup2, am_pop1, am_fv, am_getf, am_putf, am_wr, am_ial, am_lal, am_bal, am_aal, am_ias, am_las, am_bas, am_alen, am_inst, am_cast, am_cpm, am_copy, am_tsw, am_pop, am_cat, am_cS, am_cI, am_cV, am_ri, am_rl, am_ra, am_rv, am_b1, am_b2, am_ent, am_en, am_isL, am_st1, am_st2, am_clr, am_cnd, cc_171, ac_171, nL_171, rb_171, np_163, ok_171_163, nL_163, np_160, ok_171_160, nL_160, vd_160_12, np_161, ok_171_161, nL_161, vd_161_12, tg_12_3, tg_12_2, List.getElem?_cons_succ, List.getElem?_cons_zero, nz_of, nzl_of, Int.toNat_add, Int.toNat_mul, tn_l, lt_t, lt_f, le_t, le_f, eq_t, eq_f, ltn_t, ltn_f, len_t, len_f, eqn_t, eqn_f, up_ne, up_up, sh_101, sh_105, rf_101_3, wm_isRow, c0, wm_met 4 (by decide), mfind]
    · rw [if_neg c0]
      obtain ⟨s, hs⟩ : ∃ s : Nat, μ 105 n = s := ⟨(μ 105 n).toNat, by omega⟩
      have step : ∀ j, j < s → ((fun j : Nat => wpS 171 42 [some (.inr (.inr (some 101))), some (.inl n), some (.inr (.inl (smV μ n j))), none, some (.inl j)] [] (S μ) Φ) j ↔ (fun j : Nat => wpS 171 42 [some (.inr (.inr (some 101))), some (.inl n), some (.inr (.inl (smV μ n j))), none, some (.inl j)] [] (S μ) Φ) (j + 1)) := by
        intro j hj
        have r1 := smV_rng h (k := j) (by omega)
        have b4 := b3 j (by omega)
        have e : smV μ n (j + 1) = smV μ n j + μ 104 (60 * n + j) := rfl
        dsimp only
        rw [e]
        rw [s1_iff [42] 200]
        simp (disch := omega) [sz_s, sz_0, gx_s, hx_r, hx_c, hx_b, hx_s, hx_i, hx_n, kx_s, kx_n, kx_i, cx_d, up_at, am_ctl, am_step, am_i1, am_i2, am_i2d, am_l1, am_l2, am_l2d, am_ldi, am_ldl, am_lda, am_sti, am_sta, am_stl, am_inc, am_i2l, am_l2i, am_lcmp, am_dup, am_dup2, am_pop1, am_fv, am_getf, am_putf, am_wr, am_ial, am_lal, am_bal, am_aal, am_ias, am_las, am_bas, am_alen, am_inst, am_cast, am_cpm, am_copy, am_tsw, am_pop, am_cat, am_cS, am_cI, am_cV, am_ri, am_rl, am_ra, am_rv, am_b1, am_b2, am_ent, am_en, am_isL, am_st1, am_st2, am_clr, am_cnd, cc_171, ac_171, nL_171, rb_171, np_163, ok_171_163, nL_163, np_160, ok_171_160, nL_160, vd_160_12, np_161, ok_171_161, nL_161, vd_161_12, tg_12_3, tg_12_2, List.getElem?_cons_succ, List.getElem?_cons_zero, nz_of, nzl_of, Int.toNat_add, Int.toNat_mul, tn_l, lt_t, lt_f, le_t, le_f, eq_t, eq_f, ltn_t, ltn_f, len_t, len_f, eqn_t, eqn_f, up_ne, up_up, sh_101, sh_104, sh_105, rf_101_2, rf_101_3, hs, hj]
      have s0 := up_iff _ s step
      have e0 : smV μ n 0 = 0 := rfl
      have em : meV μ n = nz (nzl ((smV μ n s).tdiv s)) := by unfold meV; rw [hs, Int.toNat_natCast]
      rw [em]
      rw [e0] at s0
      unfold wpM
      rw [s1_iff [42] 200]
      simp (disch := omega) [sz_s, sz_0, gx_s, hx_r, hx_c, hx_b, hx_s, hx_i, hx_n, kx_s, kx_n, kx_i, cx_d, up_at, am_ctl, am_step, am_i1, am_i2, am_i2d, am_l1, am_l2, am_l2d, am_ldi, am_ldl, am_lda, am_sti, am_sta, am_stl, am_inc, am_i2l, am_l2i, am_lcmp, am_dup, am_dup2, am_pop1, am_fv, am_getf, am_putf, am_wr, am_ial, am_lal, am_bal, am_aal, am_ias, am_las, am_bas, am_alen, am_inst, am_cast, am_cpm, am_copy, am_tsw, am_pop, am_cat, am_cS, am_cI, am_cV, am_ri, am_rl, am_ra, am_rv, am_b1, am_b2, am_ent, am_en, am_isL, am_st1, am_st2, am_clr, am_cnd, cc_171, ac_171, nL_171, rb_171, np_163, ok_171_163, nL_163, np_160, ok_171_160, nL_160, vd_160_12, np_161, ok_171_161, nL_161, vd_161_12, tg_12_3, tg_12_2, List.getElem?_cons_succ, List.getElem?_cons_zero, nz_of, nzl_of, Int.toNat_add, Int.toNat_mul, tn_l, lt_t, lt_f, le_t, le_f, eq_t, eq_f, ltn_t, ltn_f, len_t, len_f, eqn_t, eqn_f, up_ne, up_up, sh_101, sh_105, rf_101_3, wm_isRow, hs]
      refine s0.trans ?_
      rw [s1_iff [42] 200]
      simp (disch := omega) [sz_s, sz_0, gx_s, hx_r, hx_c, hx_b, hx_s, hx_i, hx_n, kx_s, kx_n, kx_i, cx_d, up_at, am_ctl, am_step, am_i1, am_i2, am_i2d, am_l1, am_l2, am_l2d, am_ldi, am_ldl, am_lda, am_sti, am_sta, am_stl, am_inc, am_i2l, am_l2i, am_lcmp, am_dup, am_dup2, am_pop1, am_fv, am_getf, am_putf, am_wr, am_ial, am_lal, am_bal, am_aal, am_ias, am_las, am_bas, am_alen, am_inst, am_cast, am_cpm, am_copy, am_tsw, am_pop, am_cat, am_cS, am_cI, am_cV, am_ri, am_rl, am_ra, am_rv, am_b1, am_b2, am_ent, am_en, am_isL, am_st1, am_st2, am_clr, am_cnd, cc_171, ac_171, nL_171, rb_171, np_163, ok_171_163, nL_163, np_160, ok_171_160, nL_160, vd_160_12, np_161, ok_171_161, nL_161, vd_161_12, tg_12_3, tg_12_2, List.getElem?_cons_succ, List.getElem?_cons_zero, nz_of, nzl_of, Int.toNat_add, Int.toNat_mul, tn_l, lt_t, lt_f, le_t, le_f, eq_t, eq_f, ltn_t, ltn_f, len_t, len_f, eqn_t, eqn_f, up_ne, up_up, sh_101, sh_105, rf_101_3, hs, wm_tells, show ¬ s = 0 by omega]
set_option maxRecDepth 100000 in
theorem wp_mean_no (x : Int) (hx : ¬ (0 ≤ x ∧ x < 6)) (μ : Nat → Nat → Int) (Φ : Option AV → ST → Prop) : wpM 84 [.inr (.inr (some 0)), .inl x] (S μ) Φ ↔ Φ (some (.inl (-1))) (S μ) := by
  unfold wpM
  rw [s1_iff [] 200]
  simp (disch := omega) [sz_s, sz_0, gx_s, hx_r, hx_c, hx_b, hx_s, hx_i, hx_n, kx_s, kx_n, kx_i, cx_d, up_at, am_ctl, am_step, am_i1, am_i2, am_i2d, am_l1, am_l2, am_l2d, am_ldi, am_ldl, am_lda, am_sti, am_sta, am_stl, am_inc, am_i2l, am_l2i, am_lcmp, am_dup, am_dup2, am_pop1, am_fv, am_getf, am_putf, am_wr, am_ial, am_lal, am_bal, am_aal, am_ias, am_las, am_bas, am_alen, am_inst, am_cast, am_cpm, am_copy, am_tsw, am_pop, am_cat, am_cS, am_cI, am_cV, am_ri, am_rl, am_ra, am_rv, am_b1, am_b2, am_ent, am_en, am_isL, am_st1, am_st2, am_clr, am_cnd, cc_84, ac_84, nL_84, rb_84, np_129, ok_84_129, nL_129, np_56, ok_84_56, nL_56, vd_56_8, np_133, ok_84_133, nL_133, vd_133_11, np_134, ok_84_134, nL_134, vd_134_11, tg_11_0, tg_8_1, tg_8_0, List.getElem?_cons_succ, List.getElem?_cons_zero, nz_of, nzl_of, Int.toNat_add, Int.toNat_mul, tn_l, lt_t, lt_f, le_t, le_f, eq_t, eq_f, ltn_t, ltn_f, len_t, len_f, eqn_t, eqn_f, up_ne, up_up, sh_0, wp_within, hx]
set_option maxRecDepth 100000 in
theorem wm_mean_no (x : Int) (hx : ¬ (0 ≤ x ∧ x < 6)) (μ : Nat → Nat → Int) (Φ : Option AV → ST → Prop) : wpM 171 [.inr (.inr (some 101)), .inl x] (S μ) Φ ↔ Φ (some (.inl (-1))) (S μ) := by
  unfold wpM
  rw [s1_iff [] 200]
  simp (disch := omega) [sz_s, sz_0, gx_s, hx_r, hx_c, hx_b, hx_s, hx_i, hx_n, kx_s, kx_n, kx_i, cx_d, up_at, am_ctl, am_step, am_i1, am_i2, am_i2d, am_l1, am_l2, am_l2d, am_ldi, am_ldl, am_lda, am_sti, am_sta, am_stl, am_inc, am_i2l, am_l2i, am_lcmp, am_dup, am_dup2, am_pop1, am_fv, am_getf, am_putf, am_wr, am_ial, am_lal, am_bal, am_aal, am_ias, am_las, am_bas, am_alen, am_inst, am_cast, am_cpm, am_copy, am_tsw, am_pop, am_cat, am_cS, am_cI, am_cV, am_ri, am_rl, am_ra, am_rv, am_b1, am_b2, am_ent, am_en, am_isL, am_st1, am_st2, am_clr, am_cnd, cc_171, ac_171, nL_171, rb_171, np_163, ok_171_163, nL_163, np_160, ok_171_160, nL_160, vd_160_12, np_161, ok_171_161, nL_161, vd_161_12, tg_12_3, tg_12_2, List.getElem?_cons_succ, List.getElem?_cons_zero, nz_of, nzl_of, Int.toNat_add, Int.toNat_mul, tn_l, lt_t, lt_f, le_t, le_f, eq_t, eq_f, ltn_t, ltn_f, len_t, len_f, eqn_t, eqn_f, up_ne, up_up, sh_101, wm_isRow, show ¬ (0 ≤ x ∧ x ≤ 5) by omega]
theorem xf_m (μ : Nat → Nat → Int) (f n : Nat) : meV (xfind μ f) n = meV μ n := by
  unfold meV smV; rw [xf_102 _ _ 104 (by decide) (by decide), xf_102 _ _ 105 (by decide) (by decide)]
theorem up0_m (μ : Nat → Nat → Int) (i : Nat) (v : Int) (n : Nat) : meV (am_up μ 0 i v) n = meV μ n := by
  unfold meV smV; rw [up_ne _ _ _ (by decide), up_ne _ _ _ (by decide)]
theorem eq_mean {B : Int} {μ : Nat → Nat → Int} (h : INV B μ) (x : Int) : EQV B μ 84 171 [.inl x] := by
  unfold EQV
  by_cases hx : 0 ≤ x ∧ x < 6
  · obtain ⟨n, rfl⟩ : ∃ n : Nat, x = n := ⟨x.toNat, by omega⟩
    have hn : n < 6 := by omega
    have R := row_of h hn
    have Rx : ∀ f, RW (xfind μ f) n := fun f => RW_as R (fun k hk => xf_102 _ _ _ (by omega) (by omega))
    have Ru : ∀ v, RW (am_up μ 0 10 v) n := fun v => RW_as R (fun k hk => up_ne _ _ _ (by omega))
    rw [wp_mean hn R]
    by_cases c : μ 105 n = -1
    · rw [if_pos c]
      refine ⟨_, _, rfl, rfl, ?_⟩
      rw [wm_mean hn (Rx 1), xf_102 _ _ 105 (by decide) (by decide), if_pos c]
      exact ⟨rfl, _, rfl, inv_find h 1 (by decide)⟩
    · rw [if_neg c]
      by_cases c0 : μ 105 n = 0
      · rw [if_pos c0]
        refine ⟨_, _, rfl, rfl, ?_⟩
        rw [wm_mean hn (Rx 4), xf_102 _ _ 105 (by decide) (by decide), if_neg c, if_pos c0]
        exact ⟨rfl, _, rfl, inv_find h 4 (by decide)⟩
      · rw [if_neg c0]
        refine ⟨_, _, rfl, rfl, ?_⟩
        rw [wm_mean hn (Ru _), up_ne _ _ _ (by decide), if_neg c, if_neg c0, up0_m]
        exact ⟨rfl, _, rfl, inv_tell h _⟩
  · rw [wp_mean_no x hx]
    refine ⟨_, _, rfl, rfl, ?_⟩
    rw [wm_mean_no x hx]
    exact ⟨rfl, _, rfl, h⟩
