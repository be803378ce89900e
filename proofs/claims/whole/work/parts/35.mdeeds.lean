/-! deeds: the reference's -/
def mshk (μ : Nat → Nat → Int) (k : Nat) : Nat → Nat → Int := am_row μ 109 (fun i => if i < k then μ 109 (i + 4) else μ 109 i)
theorem mshk_r (μ : Nat → Nat → Int) (k : Nat) : mshk μ k 109 (k + 4) = μ 109 (k + 4) := by
  simp only [mshk, am_row, if_true]; rw [if_neg (by omega)]
theorem mshk_ne (μ : Nat → Nat → Int) (k b j : Nat) (h : ¬ b = 109) : mshk μ k b j = μ b j := by
  unfold mshk am_row; rw [if_neg h]
theorem mshk_at (μ : Nat → Nat → Int) (k j : Nat) : mshk μ k 109 j = if j < k then μ 109 (j + 4) else μ 109 j := by
  unfold mshk am_row; rw [if_pos rfl]
theorem mshk_0 (μ : Nat → Nat → Int) : mshk μ 0 = μ := by
  funext b j
  unfold mshk am_row
  split
  · rename_i h; subst h; simp
  · rfl
theorem mshk_s (μ : Nat → Nat → Int) (k : Nat) : am_up (mshk μ k) 109 k (μ 109 (k + 4)) = mshk μ (k + 1) := by
  funext b j
  unfold am_up
  by_cases h : b = 109
  · subst h
    rw [mshk_at, mshk_at]
    by_cases e : j = k
    · subst e; simp
    · simp only [e, and_false, if_false]
      by_cases q : j < k
      · rw [if_pos q, if_pos (by omega)]
      · rw [if_neg q, if_neg (by omega)]
  · rw [if_neg (fun q => h q.1), mshk_ne _ _ _ _ h, mshk_ne _ _ _ _ h]
def mpush (ν : Nat → Nat → Int) (M : Nat) (s a b n : Int) : Nat → Nat → Int := am_up (am_up (am_up (am_up (am_up ν 109 (4 * M) s) 109 (4 * M + 1) a) 109 (4 * M + 2) b) 109 (4 * M + 3) n) 101 12 ((M : Int) + 1)
def mminds (μ : Nat → Nat → Int) (s a b n : Int) : Nat → Nat → Int := if μ 101 12 = 60 then mpush (am_up (mshk μ 236) 101 12 59) 59 s a b n else mpush μ (μ 101 12).toNat s a b n
set_option maxRecDepth 100000 in
theorem wm_minds (s a b n : Int) (μ : Nat → Nat → Int) (h : 0 ≤ μ 101 12 ∧ μ 101 12 ≤ 60) (Φ : Option AV → ST → Prop) : wpM 192 [.inr (.inr (some 101)), .inl s, .inl a, .inl b, .inl n] (S μ) Φ ↔ Φ none (S (mminds μ s a b n)) := by
  obtain ⟨M, hM⟩ : ∃ M : Nat, μ 101 12 = M := ⟨(μ 101 12).toNat, by omega⟩
  unfold wpM mminds
  by_cases c : μ 101 12 = 60
  · rw [if_pos c]
    have step : ∀ k, k < 236 → ((fun k : Nat => wpS 192 12 [some (.inr (.inr (some 101))), some (.inl s), some (.inl a), some (.inl b), some (.inl n), some (.inl k)] [] (S (mshk μ k)) Φ) k ↔ (fun k : Nat => wpS 192 12 [some (.inr (.inr (some 101))), some (.inl s), some (.inl a), some (.inl b), some (.inl n), some (.inl k)] [] (S (mshk μ k)) Φ) (k + 1)) := by
      intro k hk
      dsimp only
      rw [s1_iff [12] 90]
      simp (disch := omega) [sz_s, sz_0, gx_s, hx_r, hx_c, hx_b, hx_s, hx_i, hx_n, kx_s, kx_n, kx_i, cx_d, up_at, am_ctl, am_step, am_i1, am_i2, am_i2d, am_l1, am_l2, am_l2d, am_ldi, am_ldl, am_lda, am_sti, am_sta, am_stl, am_inc, am_i2l, am_l2i, am_lcmp, am_dup, am_dup2, am_pop1, am_fv, am_getf, am_putf, am_wr, am_ial, am_lal, am_bal, am_aal, am_ias, am_las, am_bas, am_alen, am_inst, am_cast, am_cpm, am_copy, am_tsw, am_pop, am_cat, am_cS, am_cI, am_cV, am_ri, am_rl, am_ra, am_rv, am_b1, am_b2, am_ent, am_en, am_isL, am_st1, am_st2, am_clr, am_cnd, cc_192, ac_192, nL_192, rb_192, tg_12_12, tg_12_11, List.getElem?_cons_succ, List.getElem?_cons_zero, nz_of, nzl_of, Int.toNat_add, Int.toNat_mul, tn_l, lt_t, lt_f, le_t, le_f, eq_t, eq_f, ltn_t, ltn_f, len_t, len_f, eqn_t, eqn_f, up_ne, up_up, sh_101, sh_109, rf_101_11, mshk_r, mshk_s]
    rw [s1_iff [12] 90]
    simp (disch := omega) [sz_s, sz_0, gx_s, hx_r, hx_c, hx_b, hx_s, hx_i, hx_n, kx_s, kx_n, kx_i, cx_d, up_at, am_ctl, am_step, am_i1, am_i2, am_i2d, am_l1, am_l2, am_l2d, am_ldi, am_ldl, am_lda, am_sti, am_sta, am_stl, am_inc, am_i2l, am_l2i, am_lcmp, am_dup, am_dup2, am_pop1, am_fv, am_getf, am_putf, am_wr, am_ial, am_lal, am_bal, am_aal, am_ias, am_las, am_bas, am_alen, am_inst, am_cast, am_cpm, am_copy, am_tsw, am_pop, am_cat, am_cS, am_cI, am_cV, am_ri, am_rl, am_ra, am_rv, am_b1, am_b2, am_ent, am_en, am_isL, am_st1, am_st2, am_clr, am_cnd, cc_192, ac_192, nL_192, rb_192, tg_12_12, tg_12_11, List.getElem?_cons_succ, List.getElem?_cons_zero, nz_of, nzl_of, Int.toNat_add, Int.toNat_mul, tn_l, lt_t, lt_f, le_t, le_f, eq_t, eq_f, ltn_t, ltn_f, len_t, len_f, eqn_t, eqn_f, up_ne, up_up, sh_101, sh_109, rf_101_11, c]
    have s0 := (up_iff _ 236 step)
    rw [mshk_0] at s0
    refine s0.trans ?_
    rw [s1_iff [12] 90]
    simp (disch := omega) [sz_s, sz_0, gx_s, hx_r, hx_c, hx_b, hx_s, hx_i, hx_n, kx_s, kx_n, kx_i, cx_d, up_at, am_ctl, am_step, am_i1, am_i2, am_i2d, am_l1, am_l2, am_l2d, am_ldi, am_ldl, am_lda, am_sti, am_sta, am_stl, am_inc, am_i2l, am_l2i, am_lcmp, am_dup, am_dup2, am_pop1, am_fv, am_getf, am_putf, am_wr, am_ial, am_lal, am_bal, am_aal, am_ias, am_las, am_bas, am_alen, am_inst, am_cast, am_cpm, am_copy, am_tsw, am_pop, am_cat, am_cS, am_cI, am_cV, am_ri, am_rl, am_ra, am_rv, am_b1, am_b2, am_ent, am_en, am_isL, am_st1, am_st2, am_clr, am_cnd, cc_192, ac_192, nL_192, rb_192, tg_12_12, tg_12_11, List.getElem?_cons_succ, List.getElem?_cons_zero, nz_of, nzl_of, Int.toNat_add, Int.toNat_mul, tn_l, lt_t, lt_f, le_t, le_f, eq_t, eq_f, ltn_t, ltn_f, len_t, len_f, eqn_t, eqn_f, up_ne, up_up, sh_101, sh_109, rf_101_11, mshk_ne, c, mpush]
  · rw [if_neg c]
    rw [s1_iff [12] 90]
    simp (disch := omega) [sz_s, sz_0, gx_s, hx_r, hx_c, hx_b, hx_s, hx_i, hx_n, kx_s, kx_n, kx_i, cx_d, up_at, am_ctl, am_step, am_i1, am_i2, am_i2d, am_l1, am_l2, am_l2d, am_ldi, am_ldl, am_lda, am_sti, am_sta, am_stl, am_inc, am_i2l, am_l2i, am_lcmp, am_dup, am_dup2, am_pop1, am_fv, am_getf, am_putf, am_wr, am_ial, am_lal, am_bal, am_aal, am_ias, am_las, am_bas, am_alen, am_inst, am_cast, am_cpm, am_copy, am_tsw, am_pop, am_cat, am_cS, am_cI, am_cV, am_ri, am_rl, am_ra, am_rv, am_b1, am_b2, am_ent, am_en, am_isL, am_st1, am_st2, am_clr, am_cnd, cc_192, ac_192, nL_192, rb_192, tg_12_12, tg_12_11, List.getElem?_cons_succ, List.getElem?_cons_zero, nz_of, nzl_of, Int.toNat_add, Int.toNat_mul, tn_l, lt_t, lt_f, le_t, le_f, eq_t, eq_f, ltn_t, ltn_f, len_t, len_f, eqn_t, eqn_f, up_ne, up_up, sh_101, sh_109, rf_101_11, c, hM, mpush]
def mlend (μ : Nat → Nat → Int) (a b : Nat) (n : Int) : Nat → Nat → Int := mminds (am_up (am_up (am_up μ 102 (29 + a) (μ 102 (29 + a) - n)) 102 (29 + b) (μ 102 (29 + b) + n)) 102 (37 + (8 * a + b)) (μ 102 (37 + (8 * a + b)) + n)) 0 a b n
def mback (μ : Nat → Nat → Int) (a b : Nat) (n : Int) : Nat → Nat → Int := mminds (am_up (am_up (am_up μ 102 (29 + b) (μ 102 (29 + b) - n)) 102 (29 + a) (μ 102 (29 + a) + n)) 102 (37 + (8 * a + b)) (μ 102 (37 + (8 * a + b)) + -n)) 1 a b n
def mmelt (μ : Nat → Nat → Int) (h : Nat) (n : Int) : Nat → Nat → Int := mminds (am_up μ 102 (29 + h) (μ 102 (29 + h) - n)) 2 h 0 n
def mborn (μ : Nat → Nat → Int) (h : Nat) : Nat → Nat → Int := mminds (am_up (am_up μ 102 (21 + h) (μ 102 (21 + h) + 1)) 102 (29 + h) (μ 102 (29 + h) + 1)) 3 h 0 1
def mgone (μ : Nat → Nat → Int) (h : Nat) : Nat → Nat → Int := mminds (am_up μ 102 (21 + h) (μ 102 (21 + h) - 1)) 4 h 0 1
theorem mminds_102 (μ : Nat → Nat → Int) (s a b n : Int) : mminds μ s a b n 102 = μ 102 := by
  unfold mminds mpush
  split
  · simp (disch := omega) only [up_ne]
    funext j; exact mshk_ne _ _ _ _ (by decide)
  · simp (disch := omega) only [up_ne]
theorem mmL (μ : Nat → Nat → Int) (s a b n : Int) (j : Nat) : mminds μ s a b n 102 j = μ 102 j := congrFun (mminds_102 μ s a b n) j
set_option maxRecDepth 100000 in
theorem wm_passOn (f t : Nat) (n : Int) (d : Nat) (y : Int) (hf : f < 8) (ht : t < 8) (hft : ¬ f = t) (hd : d < 64) (μ : Nat → Nat → Int) (h1 : 0 ≤ μ 102 (29 + f) ∧ μ 102 (29 + f) ≤ 30) (h2 : 0 ≤ μ 102 (29 + t) ∧ μ 102 (29 + t) ≤ 30) (h3 : 0 ≤ μ 102 (37 + d) ∧ μ 102 (37 + d) ≤ 1000000) (hn : -10 ≤ n ∧ n ≤ 10) (hy : -10 ≤ y ∧ y ≤ 10) (Φ : Option AV → ST → Prop) : wpM 193 [.inr (.inr (some 101)), .inl f, .inl t, .inl n, .inl d, .inl y] (S μ) Φ ↔ Φ none (S (am_up (am_up (am_up μ 102 (29 + f) (μ 102 (29 + f) - n)) 102 (29 + t) (μ 102 (29 + t) + n)) 102 (37 + d) (μ 102 (37 + d) + y))) := by
  unfold wpM
  rw [s1_iff [] 90]
  simp (disch := omega) [sz_s, sz_0, gx_s, hx_r, hx_c, hx_b, hx_s, hx_i, hx_n, kx_s, kx_n, kx_i, cx_d, up_at, am_ctl, am_step, am_i1, am_i2, am_i2d, am_l1, am_l2, am_l2d, am_ldi, am_ldl, am_lda, am_sti, am_sta, am_stl, am_inc, am_i2l, am_l2i, am_lcmp, am_dup, am_dup2, am_pop1, am_fv, am_getf, am_putf, am_wr, am_ial, am_lal, am_bal, am_aal, am_ias, am_las, am_bas, am_alen, am_inst, am_cast, am_cpm, am_copy, am_tsw, am_pop, am_cat, am_cS, am_cI, am_cV, am_ri, am_rl, am_ra, am_rv, am_b1, am_b2, am_ent, am_en, am_isL, am_st1, am_st2, am_clr, am_cnd, cc_193, ac_193, nL_193, rb_193, tg_12_0, List.getElem?_cons_succ, List.getElem?_cons_zero, nz_of, nzl_of, Int.toNat_add, Int.toNat_mul, tn_l, lt_t, lt_f, le_t, le_f, eq_t, eq_f, ltn_t, ltn_f, len_t, len_f, eqn_t, eqn_f, up_ne, up_up, sh_101, sh_102, rf_101_0]
set_option maxRecDepth 100000 in
theorem wm_mayLend (a b : Nat) (n : Int) (ha : a < 8) (hb : b < 8) (μ : Nat → Nat → Int) (h2 : 0 ≤ μ 102 (29 + b) ∧ μ 102 (29 + b) ≤ 30) (hn : -10 ≤ n ∧ n ≤ 10) (Φ : Option AV → ST → Prop) : wpM 194 [.inr (.inr (some 101)), .inl a, .inl b, .inl n] (S μ) Φ ↔ Φ (some (.inl (if n ≤ μ 102 (29 + a) ∧ μ 102 (29 + b) + n ≤ 30 then 1 else 0))) (S μ) := by
  unfold wpM
  rw [s1_iff [] 90]
  simp (disch := omega) [sz_s, sz_0, gx_s, hx_r, hx_c, hx_b, hx_s, hx_i, hx_n, kx_s, kx_n, kx_i, cx_d, up_at, am_ctl, am_step, am_i1, am_i2, am_i2d, am_l1, am_l2, am_l2d, am_ldi, am_ldl, am_lda, am_sti, am_sta, am_stl, am_inc, am_i2l, am_l2i, am_lcmp, am_dup, am_dup2, am_pop1, am_fv, am_getf, am_putf, am_wr, am_ial, am_lal, am_bal, am_aal, am_ias, am_las, am_bas, am_alen, am_inst, am_cast, am_cpm, am_copy, am_tsw, am_pop, am_cat, am_cS, am_cI, am_cV, am_ri, am_rl, am_ra, am_rv, am_b1, am_b2, am_ent, am_en, am_isL, am_st1, am_st2, am_clr, am_cnd, cc_194, ac_194, nL_194, rb_194, tg_12_0, List.getElem?_cons_succ, List.getElem?_cons_zero, nz_of, nzl_of, Int.toNat_add, Int.toNat_mul, tn_l, lt_t, lt_f, le_t, le_f, eq_t, eq_f, ltn_t, ltn_f, len_t, len_f, eqn_t, eqn_f, up_ne, up_up, sh_101, sh_102, rf_101_0]
  all_goals (repeat' split) <;> first | rfl | (exfalso; omega)
set_option maxRecDepth 100000 in
theorem wm_isH {μ : Nat → Nat → Int} (hR : MR μ) (x : Int) (Φ : Option AV → ST → Prop) : wpM 178 [.inr (.inr (some 101)), .inl x] (S μ) Φ ↔ Φ (some (.inl (if 0 ≤ x ∧ x < μ 102 0 then 1 else 0))) (S μ) := by
  have e := hR.1
  rw [wm_isHouse]
  refine an_iff ?_
  rw [nz_of (by omega) (by omega)]
  (repeat' split) <;> first | rfl | (exfalso; omega)
set_option maxRecDepth 100000 in
theorem wm_areTwo {μ : Nat → Nat → Int} (hR : MR μ) (a b n : Int) (Φ : Option AV → ST → Prop) : wpM 195 [.inr (.inr (some 101)), .inl a, .inl b, .inl n] (S μ) Φ ↔ Φ (some (.inl (if ((0 ≤ a ∧ a < μ 102 0) ∧ (0 ≤ b ∧ b < μ 102 0) ∧ ¬ a = b) ∧ 1 ≤ n ∧ n ≤ 9 then 1 else 0))) (S μ) := by
  unfold wpM
  rw [s1_iff [] 90]
  simp (disch := omega) [sz_s, sz_0, gx_s, hx_r, hx_c, hx_b, hx_s, hx_i, hx_n, kx_s, kx_n, kx_i, cx_d, up_at, am_ctl, am_step, am_i1, am_i2, am_i2d, am_l1, am_l2, am_l2d, am_ldi, am_ldl, am_lda, am_sti, am_sta, am_stl, am_inc, am_i2l, am_l2i, am_lcmp, am_dup, am_dup2, am_pop1, am_fv, am_getf, am_putf, am_wr, am_ial, am_lal, am_bal, am_aal, am_ias, am_las, am_bas, am_alen, am_inst, am_cast, am_cpm, am_copy, am_tsw, am_pop, am_cat, am_cS, am_cI, am_cV, am_ri, am_rl, am_ra, am_rv, am_b1, am_b2, am_ent, am_en, am_isL, am_st1, am_st2, am_clr, am_cnd, cc_195, ac_195, nL_195, rb_195, np_156, ok_195_156, nL_156, np_178, ok_195_178, nL_178, vd_178_12, List.getElem?_cons_succ, List.getElem?_cons_zero, nz_of, nzl_of, Int.toNat_add, Int.toNat_mul, tn_l, lt_t, lt_f, le_t, le_f, eq_t, eq_f, ltn_t, ltn_f, len_t, len_f, eqn_t, eqn_f, up_ne, up_up, sh_101, wm_isH hR, wm_in]
  all_goals (repeat' split) <;> first | rfl | (exfalso; omega)
set_option maxRecDepth 100000 in
theorem wm_lend {μ : Nat → Nat → Int} (hR : MR μ) (a b : Nat) (n : Int) (ha : (a : Int) < μ 102 0) (hb : (b : Int) < μ 102 0) (hab : ¬ a = b) (hn : 1 ≤ n ∧ n ≤ 9) (Φ : Option AV → ST → Prop) : wpM 196 [.inr (.inr (some 101)), .inl a, .inl b, .inl n] (S μ) Φ ↔ (if n ≤ μ 102 (29 + a) ∧ μ 102 (29 + b) + n ≤ 30 then Φ (some (.inl (μ 102 (37 + (8 * a + b)) + n))) (S (mlend μ a b n)) else Φ (some (.inl (-4))) (S μ)) := by
  have T := wm_areTwo hR a b n
  rw [if_pos (by omega)] at T
  obtain ⟨r1, r2, r3, r4⟩ := hR
  have a1 := r3 a ha
  have b1 := r3 b hb
  have d1 := r4 (8 * a + b) (by omega)
  unfold wpM
  by_cases c : n ≤ μ 102 (29 + a) ∧ μ 102 (29 + b) + n ≤ 30
  · rw [if_pos c]
    have P := wm_passOn a b n (8 * a + b) n (by omega) (by omega) hab (by omega) μ a1.2 b1.2 d1 (by omega) (by omega)
    rw [show ((8 * a + b : Nat) : Int) = 8 * (a : Int) + b by omega] at P
    rw [s1_iff [] 90]
    simp (disch := omega) [sz_s, sz_0, gx_s, hx_r, hx_c, hx_b, hx_s, hx_i, hx_n, kx_s, kx_n, kx_i, cx_d, up_at, am_ctl, am_step, am_i1, am_i2, am_i2d, am_l1, am_l2, am_l2d, am_ldi, am_ldl, am_lda, am_sti, am_sta, am_stl, am_inc, am_i2l, am_l2i, am_lcmp, am_dup, am_dup2, am_pop1, am_fv, am_getf, am_putf, am_wr, am_ial, am_lal, am_bal, am_aal, am_ias, am_las, am_bas, am_alen, am_inst, am_cast, am_cpm, am_copy, am_tsw, am_pop, am_cat, am_cS, am_cI, am_cV, am_ri, am_rl, am_ra, am_rv, am_b1, am_b2, am_ent, am_en, am_isL, am_st1, am_st2, am_clr, am_cnd, cc_196, ac_196, nL_196, rb_196, np_192, ok_196_192, nL_192, vd_192_12, np_193, ok_196_193, nL_193, vd_193_12, np_194, ok_196_194, nL_194, vd_194_12, np_195, ok_196_195, nL_195, vd_195_12, tg_12_0, List.getElem?_cons_succ, List.getElem?_cons_zero, nz_of, nzl_of, Int.toNat_add, Int.toNat_mul, tn_l, lt_t, lt_f, le_t, le_f, eq_t, eq_f, ltn_t, ltn_f, len_t, len_f, eqn_t, eqn_f, up_ne, up_up, sh_101, T, wm_mayLend a b n (by omega) (by omega) μ b1.2 (by omega), c, P]
    rw [wm_minds _ _ _ _ _ (by simpa [up_at] using r2)]
    simp (disch := omega) [sz_s, sz_0, gx_s, hx_r, hx_c, hx_b, hx_s, hx_i, hx_n, kx_s, kx_n, kx_i, cx_d, up_at, am_ctl, am_step, am_i1, am_i2, am_i2d, am_l1, am_l2, am_l2d, am_ldi, am_ldl, am_lda, am_sti, am_sta, am_stl, am_inc, am_i2l, am_l2i, am_lcmp, am_dup, am_dup2, am_pop1, am_fv, am_getf, am_putf, am_wr, am_ial, am_lal, am_bal, am_aal, am_ias, am_las, am_bas, am_alen, am_inst, am_cast, am_cpm, am_copy, am_tsw, am_pop, am_cat, am_cS, am_cI, am_cV, am_ri, am_rl, am_ra, am_rv, am_b1, am_b2, am_ent, am_en, am_isL, am_st1, am_st2, am_clr, am_cnd, cc_196, ac_196, nL_196, rb_196, np_192, ok_196_192, nL_192, vd_192_12, np_193, ok_196_193, nL_193, vd_193_12, np_194, ok_196_194, nL_194, vd_194_12, np_195, ok_196_195, nL_195, vd_195_12, tg_12_0, List.getElem?_cons_succ, List.getElem?_cons_zero, nz_of, nzl_of, Int.toNat_add, Int.toNat_mul, tn_l, lt_t, lt_f, le_t, le_f, eq_t, eq_f, ltn_t, ltn_f, len_t, len_f, eqn_t, eqn_f, up_ne, up_up, sh_101, sh_102, rf_101_0, mmL, mlend, Nat.add_assoc]
  · rw [if_neg c]
    rw [s1_iff [] 90]
    simp (disch := omega) [sz_s, sz_0, gx_s, hx_r, hx_c, hx_b, hx_s, hx_i, hx_n, kx_s, kx_n, kx_i, cx_d, up_at, am_ctl, am_step, am_i1, am_i2, am_i2d, am_l1, am_l2, am_l2d, am_ldi, am_ldl, am_lda, am_sti, am_sta, am_stl, am_inc, am_i2l, am_l2i, am_lcmp, am_dup, am_dup2, am_pop1, am_fv, am_getf, am_putf, am_wr, am_ial, am_lal, am_bal, am_aal, am_ias, am_las, am_bas, am_alen, am_inst, am_cast, am_cpm, am_copy, am_tsw, am_pop, am_cat, am_cS, am_cI, am_cV, am_ri, am_rl, am_ra, am_rv, am_b1, am_b2, am_ent, am_en, am_isL, am_st1, am_st2, am_clr, am_cnd, cc_196, ac_196, nL_196, rb_196, np_192, ok_196_192, nL_192, vd_192_12, np_193, ok_196_193, nL_193, vd_193_12, np_194, ok_196_194, nL_194, vd_194_12, np_195, ok_196_195, nL_195, vd_195_12, tg_12_0, List.getElem?_cons_succ, List.getElem?_cons_zero, nz_of, nzl_of, Int.toNat_add, Int.toNat_mul, tn_l, lt_t, lt_f, le_t, le_f, eq_t, eq_f, ltn_t, ltn_f, len_t, len_f, eqn_t, eqn_f, up_ne, up_up, sh_101, T, wm_mayLend a b n (by omega) (by omega) μ b1.2 (by omega), c]
set_option maxRecDepth 100000 in
theorem wm_back {μ : Nat → Nat → Int} (hR : MR μ) (a b : Nat) (n : Int) (ha : (a : Int) < μ 102 0) (hb : (b : Int) < μ 102 0) (hab : ¬ a = b) (hn : 1 ≤ n ∧ n ≤ 9) (Φ : Option AV → ST → Prop) : wpM 197 [.inr (.inr (some 101)), .inl a, .inl b, .inl n] (S μ) Φ ↔ (if n ≤ μ 102 (37 + (8 * a + b)) ∧ n ≤ μ 102 (29 + b) ∧ μ 102 (29 + a) + n ≤ 30 then Φ (some (.inl (μ 102 (37 + (8 * a + b)) + -n))) (S (mback μ a b n)) else Φ (some (.inl (-4))) (S μ)) := by
  have T := wm_areTwo hR a b n
  rw [if_pos (by omega)] at T
  obtain ⟨r1, r2, r3, r4⟩ := hR
  have a1 := r3 a ha
  have b1 := r3 b hb
  have d1 := r4 (8 * a + b) (by omega)
  have d2 : μ 102 (37 + (8 * a + b)) = μ 102 (37 + 8 * a + b) := by rw [Nat.add_assoc]
  unfold wpM
  by_cases c : n ≤ μ 102 (37 + (8 * a + b)) ∧ n ≤ μ 102 (29 + b) ∧ μ 102 (29 + a) + n ≤ 30
  · rw [if_pos c]
    have P := wm_passOn b a n (8 * a + b) (-n) (by omega) (by omega) (fun e => hab e.symm) (by omega) μ b1.2 a1.2 d1 (by omega) (by omega)
    rw [show ((8 * a + b : Nat) : Int) = 8 * (a : Int) + b by omega] at P
    rw [s1_iff [] 90]
    simp (disch := omega) [sz_s, sz_0, gx_s, hx_r, hx_c, hx_b, hx_s, hx_i, hx_n, kx_s, kx_n, kx_i, cx_d, up_at, am_ctl, am_step, am_i1, am_i2, am_i2d, am_l1, am_l2, am_l2d, am_ldi, am_ldl, am_lda, am_sti, am_sta, am_stl, am_inc, am_i2l, am_l2i, am_lcmp, am_dup, am_dup2, am_pop1, am_fv, am_getf, am_putf, am_wr, am_ial, am_lal, am_bal, am_aal, am_ias, am_las, am_bas, am_alen, am_inst, am_cast, am_cpm, am_copy, am_tsw, am_pop, am_cat, am_cS, am_cI, am_cV, am_ri, am_rl, am_ra, am_rv, am_b1, am_b2, am_ent, am_en, am_isL, am_st1, am_st2, am_clr, am_cnd, cc_197, ac_197, nL_197, rb_197, np_192, ok_197_192, nL_192, vd_192_12, np_193, ok_197_193, nL_193, vd_193_12, np_194, ok_197_194, nL_194, vd_194_12, np_195, ok_197_195, nL_195, vd_195_12, tg_12_0, List.getElem?_cons_succ, List.getElem?_cons_zero, nz_of, nzl_of, Int.toNat_add, Int.toNat_mul, tn_l, lt_t, lt_f, le_t, le_f, eq_t, eq_f, ltn_t, ltn_f, len_t, len_f, eqn_t, eqn_f, up_ne, up_up, sh_101, sh_102, rf_101_0, T, wm_mayLend b a n (by omega) (by omega) μ a1.2 (by omega), ← d2, c, P]
    rw [wm_minds _ _ _ _ _ (by simpa [up_at] using r2)]
    simp (disch := omega) [sz_s, sz_0, gx_s, hx_r, hx_c, hx_b, hx_s, hx_i, hx_n, kx_s, kx_n, kx_i, cx_d, up_at, am_ctl, am_step, am_i1, am_i2, am_i2d, am_l1, am_l2, am_l2d, am_ldi, am_ldl, am_lda, am_sti, am_sta, am_stl, am_inc, am_i2l, am_l2i, am_lcmp, am_dup, am_dup2, am_pop1, am_fv, am_getf, am_putf, am_wr, am_ial, am_lal, am_bal, am_aal, am_ias, am_las, am_bas, am_alen, am_inst, am_cast, am_cpm, am_copy, am_tsw, am_pop, am_cat, am_cS, am_cI, am_cV, am_ri, am_rl, am_ra, am_rv, am_b1, am_b2, am_ent, am_en, am_isL, am_st1, am_st2, am_clr, am_cnd, cc_197, ac_197, nL_197, rb_197, np_192, ok_197_192, nL_192, vd_192_12, np_193, ok_197_193, nL_193, vd_193_12, np_194, ok_197_194, nL_194, vd_194_12, np_195, ok_197_195, nL_195, vd_195_12, tg_12_0, List.getElem?_cons_succ, List.getElem?_cons_zero, nz_of, nzl_of, Int.toNat_add, Int.toNat_mul, tn_l, lt_t, lt_f, le_t, le_f, eq_t, eq_f, ltn_t, ltn_f, len_t, len_f, eqn_t, eqn_f, up_ne, up_up, sh_101, sh_102, rf_101_0, mmL, mback, Nat.add_assoc]
  · rw [if_neg c]
    by_cases c1 : n ≤ μ 102 (37 + (8 * a + b))
    · rw [s1_iff [] 90]
      simp (disch := omega) [sz_s, sz_0, gx_s, hx_r, hx_c, hx_b, hx_s, hx_i, hx_n, kx_s, kx_n, kx_i, cx_d, up_at, am_ctl, am_step, am_i1, am_i2, am_i2d, am_l1, am_l2, am_l2d, am_ldi, am_ldl, am_lda, am_sti, am_sta, am_stl, am_inc, am_i2l, am_l2i, am_lcmp, am_dup, am_dup2, am_pop1, am_fv, am_getf, am_putf, am_wr, am_ial, am_lal, am_bal, am_aal, am_ias, am_las, am_bas, am_alen, am_inst, am_cast, am_cpm, am_copy, am_tsw, am_pop, am_cat, am_cS, am_cI, am_cV, am_ri, am_rl, am_ra, am_rv, am_b1, am_b2, am_ent, am_en, am_isL, am_st1, am_st2, am_clr, am_cnd, cc_197, ac_197, nL_197, rb_197, np_192, ok_197_192, nL_192, vd_192_12, np_193, ok_197_193, nL_193, vd_193_12, np_194, ok_197_194, nL_194, vd_194_12, np_195, ok_197_195, nL_195, vd_195_12, tg_12_0, List.getElem?_cons_succ, List.getElem?_cons_zero, nz_of, nzl_of, Int.toNat_add, Int.toNat_mul, tn_l, lt_t, lt_f, le_t, le_f, eq_t, eq_f, ltn_t, ltn_f, len_t, len_f, eqn_t, eqn_f, up_ne, up_up, sh_101, sh_102, rf_101_0, T, wm_mayLend b a n (by omega) (by omega) μ a1.2 (by omega), ← d2, c1, show ¬ (n ≤ μ 102 (29 + b) ∧ μ 102 (29 + a) + n ≤ 30) from fun q => c ⟨c1, q⟩]
    · rw [s1_iff [] 90]
      simp (disch := omega) [sz_s, sz_0, gx_s, hx_r, hx_c, hx_b, hx_s, hx_i, hx_n, kx_s, kx_n, kx_i, cx_d, up_at, am_ctl, am_step, am_i1, am_i2, am_i2d, am_l1, am_l2, am_l2d, am_ldi, am_ldl, am_lda, am_sti, am_sta, am_stl, am_inc, am_i2l, am_l2i, am_lcmp, am_dup, am_dup2, am_pop1, am_fv, am_getf, am_putf, am_wr, am_ial, am_lal, am_bal, am_aal, am_ias, am_las, am_bas, am_alen, am_inst, am_cast, am_cpm, am_copy, am_tsw, am_pop, am_cat, am_cS, am_cI, am_cV, am_ri, am_rl, am_ra, am_rv, am_b1, am_b2, am_ent, am_en, am_isL, am_st1, am_st2, am_clr, am_cnd, cc_197, ac_197, nL_197, rb_197, np_192, ok_197_192, nL_192, vd_192_12, np_193, ok_197_193, nL_193, vd_193_12, np_194, ok_197_194, nL_194, vd_194_12, np_195, ok_197_195, nL_195, vd_195_12, tg_12_0, List.getElem?_cons_succ, List.getElem?_cons_zero, nz_of, nzl_of, Int.toNat_add, Int.toNat_mul, tn_l, lt_t, lt_f, le_t, le_f, eq_t, eq_f, ltn_t, ltn_f, len_t, len_f, eqn_t, eqn_f, up_ne, up_up, sh_101, sh_102, rf_101_0, T, ← d2, c1]
set_option maxRecDepth 100000 in
theorem wm_melt {μ : Nat → Nat → Int} (hR : MR μ) (h : Nat) (n : Int) (hh : (h : Int) < μ 102 0) (hn : 1 ≤ n ∧ n ≤ 9) (Φ : Option AV → ST → Prop) : wpM 198 [.inr (.inr (some 101)), .inl h, .inl n] (S μ) Φ ↔ (if n ≤ μ 102 (29 + h) then Φ (some (.inl (μ 102 (29 + h) - n))) (S (mmelt μ h n)) else Φ (some (.inl (-4))) (S μ)) := by
  have T := wm_isH hR h
  rw [if_pos (by omega)] at T
  obtain ⟨r1, r2, r3, r4⟩ := hR
  have a1 := r3 h hh
  unfold wpM
  by_cases c : n ≤ μ 102 (29 + h)
  · rw [if_pos c]
    rw [s1_iff [] 90]
    simp (disch := omega) [sz_s, sz_0, gx_s, hx_r, hx_c, hx_b, hx_s, hx_i, hx_n, kx_s, kx_n, kx_i, cx_d, up_at, am_ctl, am_step, am_i1, am_i2, am_i2d, am_l1, am_l2, am_l2d, am_ldi, am_ldl, am_lda, am_sti, am_sta, am_stl, am_inc, am_i2l, am_l2i, am_lcmp, am_dup, am_dup2, am_pop1, am_fv, am_getf, am_putf, am_wr, am_ial, am_lal, am_bal, am_aal, am_ias, am_las, am_bas, am_alen, am_inst, am_cast, am_cpm, am_copy, am_tsw, am_pop, am_cat, am_cS, am_cI, am_cV, am_ri, am_rl, am_ra, am_rv, am_b1, am_b2, am_ent, am_en, am_isL, am_st1, am_st2, am_clr, am_cnd, cc_198, ac_198, nL_198, rb_198, np_156, ok_198_156, nL_156, np_178, ok_198_178, nL_178, vd_178_12, np_192, ok_198_192, nL_192, vd_192_12, tg_12_0, List.getElem?_cons_succ, List.getElem?_cons_zero, nz_of, nzl_of, Int.toNat_add, Int.toNat_mul, tn_l, lt_t, lt_f, le_t, le_f, eq_t, eq_f, ltn_t, ltn_f, len_t, len_f, eqn_t, eqn_f, up_ne, up_up, sh_101, sh_102, rf_101_0, T, wm_in, hn.1, hn.2]
    rw [wm_minds _ _ _ _ _ (by simpa [up_at] using r2)]
    simp (disch := omega) [sz_s, sz_0, gx_s, hx_r, hx_c, hx_b, hx_s, hx_i, hx_n, kx_s, kx_n, kx_i, cx_d, up_at, am_ctl, am_step, am_i1, am_i2, am_i2d, am_l1, am_l2, am_l2d, am_ldi, am_ldl, am_lda, am_sti, am_sta, am_stl, am_inc, am_i2l, am_l2i, am_lcmp, am_dup, am_dup2, am_pop1, am_fv, am_getf, am_putf, am_wr, am_ial, am_lal, am_bal, am_aal, am_ias, am_las, am_bas, am_alen, am_inst, am_cast, am_cpm, am_copy, am_tsw, am_pop, am_cat, am_cS, am_cI, am_cV, am_ri, am_rl, am_ra, am_rv, am_b1, am_b2, am_ent, am_en, am_isL, am_st1, am_st2, am_clr, am_cnd, cc_198, ac_198, nL_198, rb_198, np_156, ok_198_156, nL_156, np_178, ok_198_178, nL_178, vd_178_12, np_192, ok_198_192, nL_192, vd_192_12, tg_12_0, List.getElem?_cons_succ, List.getElem?_cons_zero, nz_of, nzl_of, Int.toNat_add, Int.toNat_mul, tn_l, lt_t, lt_f, le_t, le_f, eq_t, eq_f, ltn_t, ltn_f, len_t, len_f, eqn_t, eqn_f, up_ne, up_up, sh_101, sh_102, rf_101_0, mmL, mmelt]
  · rw [if_neg c]
    rw [s1_iff [] 90]
    simp (disch := omega) [sz_s, sz_0, gx_s, hx_r, hx_c, hx_b, hx_s, hx_i, hx_n, kx_s, kx_n, kx_i, cx_d, up_at, am_ctl, am_step, am_i1, am_i2, am_i2d, am_l1, am_l2, am_l2d, am_ldi, am_ldl, am_lda, am_sti, am_sta, am_stl, am_inc, am_i2l, am_l2i, am_lcmp, am_dup, am_dup2, am_pop1, am_fv, am_getf, am_putf, am_wr, am_ial, am_lal, am_bal, am_aal, am_ias, am_las, am_bas, am_alen, am_inst, am_cast, am_cpm, am_copy, am_tsw, am_pop, am_cat, am_cS, am_cI, am_cV, am_ri, am_rl, am_ra, am_rv, am_b1, am_b2, am_ent, am_en, am_isL, am_st1, am_st2, am_clr, am_cnd, cc_198, ac_198, nL_198, rb_198, np_156, ok_198_156, nL_156, np_178, ok_198_178, nL_178, vd_178_12, np_192, ok_198_192, nL_192, vd_192_12, tg_12_0, List.getElem?_cons_succ, List.getElem?_cons_zero, nz_of, nzl_of, Int.toNat_add, Int.toNat_mul, tn_l, lt_t, lt_f, le_t, le_f, eq_t, eq_f, ltn_t, ltn_f, len_t, len_f, eqn_t, eqn_f, up_ne, up_up, sh_101, sh_102, rf_101_0, T, wm_in, hn.1, hn.2]
set_option maxRecDepth 100000 in
theorem wm_born {μ : Nat → Nat → Int} (hR : MR μ) (h : Nat) (hh : (h : Int) < μ 102 0) (Φ : Option AV → ST → Prop) : wpM 199 [.inr (.inr (some 101)), .inl h] (S μ) Φ ↔ (if μ 102 (21 + h) < 9 ∧ μ 102 (29 + h) < 30 then Φ (some (.inl (μ 102 (21 + h) + 1))) (S (mborn μ h)) else Φ (some (.inl (-2))) (S μ)) := by
  have T := wm_isH hR h
  rw [if_pos (by omega)] at T
  obtain ⟨r1, r2, r3, r4⟩ := hR
  have a1 := r3 h hh
  unfold wpM
  by_cases c : μ 102 (21 + h) < 9 ∧ μ 102 (29 + h) < 30
  · rw [if_pos c]
    rw [s1_iff [] 90]
    simp (disch := omega) [sz_s, sz_0, gx_s, hx_r, hx_c, hx_b, hx_s, hx_i, hx_n, kx_s, kx_n, kx_i, cx_d, up_at, am_ctl, am_step, am_i1, am_i2, am_i2d, am_l1, am_l2, am_l2d, am_ldi, am_ldl, am_lda, am_sti, am_sta, am_stl, am_inc, am_i2l, am_l2i, am_lcmp, am_dup, am_dup2, am_pop1, am_fv, am_getf, am_putf, am_wr, am_ial, am_lal, am_bal, am_aal, am_ias, am_las, am_bas, am_alen, am_inst, am_cast, am_cpm, am_copy, am_tsw, am_pop, am_cat, am_cS, am_cI, am_cV, am_ri, am_rl, am_ra, am_rv, am_b1, am_b2, am_ent, am_en, am_isL, am_st1, am_st2, am_clr, am_cnd, cc_199, ac_199, nL_199, rb_199, np_178, ok_199_178, nL_178, vd_178_12, np_192, ok_199_192, nL_192, vd_192_12, tg_12_0, List.getElem?_cons_succ, List.getElem?_cons_zero, nz_of, nzl_of, Int.toNat_add, Int.toNat_mul, tn_l, lt_t, lt_f, le_t, le_f, eq_t, eq_f, ltn_t, ltn_f, len_t, len_f, eqn_t, eqn_f, up_ne, up_up, sh_101, sh_102, rf_101_0, T]
    rw [wm_minds _ _ _ _ _ (by simpa [up_at] using r2)]
    simp (disch := omega) [sz_s, sz_0, gx_s, hx_r, hx_c, hx_b, hx_s, hx_i, hx_n, kx_s, kx_n, kx_i, cx_d, up_at, am_ctl, am_step, am_i1, am_i2, am_i2d, am_l1, am_l2, am_l2d, am_ldi, am_ldl, am_lda, am_sti, am_sta, am_stl, am_inc, am_i2l, am_l2i, am_lcmp, am_dup, am_dup2, am_pop1, am_fv, am_getf, am_putf, am_wr, am_ial, am_lal, am_bal, am_aal, am_ias, am_las, am_bas, am_alen, am_inst, am_cast, am_cpm, am_copy, am_tsw, am_pop, am_cat, am_cS, am_cI, am_cV, am_ri, am_rl, am_ra, am_rv, am_b1, am_b2, am_ent, am_en, am_isL, am_st1, am_st2, am_clr, am_cnd, cc_199, ac_199, nL_199, rb_199, np_178, ok_199_178, nL_178, vd_178_12, np_192, ok_199_192, nL_192, vd_192_12, tg_12_0, List.getElem?_cons_succ, List.getElem?_cons_zero, nz_of, nzl_of, Int.toNat_add, Int.toNat_mul, tn_l, lt_t, lt_f, le_t, le_f, eq_t, eq_f, ltn_t, ltn_f, len_t, len_f, eqn_t, eqn_f, up_ne, up_up, sh_101, sh_102, rf_101_0, mmL, mborn]
  · rw [if_neg c]
    by_cases c1 : μ 102 (21 + h) < 9
    · rw [s1_iff [] 90]
      simp (disch := omega) [sz_s, sz_0, gx_s, hx_r, hx_c, hx_b, hx_s, hx_i, hx_n, kx_s, kx_n, kx_i, cx_d, up_at, am_ctl, am_step, am_i1, am_i2, am_i2d, am_l1, am_l2, am_l2d, am_ldi, am_ldl, am_lda, am_sti, am_sta, am_stl, am_inc, am_i2l, am_l2i, am_lcmp, am_dup, am_dup2, am_pop1, am_fv, am_getf, am_putf, am_wr, am_ial, am_lal, am_bal, am_aal, am_ias, am_las, am_bas, am_alen, am_inst, am_cast, am_cpm, am_copy, am_tsw, am_pop, am_cat, am_cS, am_cI, am_cV, am_ri, am_rl, am_ra, am_rv, am_b1, am_b2, am_ent, am_en, am_isL, am_st1, am_st2, am_clr, am_cnd, cc_199, ac_199, nL_199, rb_199, np_178, ok_199_178, nL_178, vd_178_12, np_192, ok_199_192, nL_192, vd_192_12, tg_12_0, List.getElem?_cons_succ, List.getElem?_cons_zero, nz_of, nzl_of, Int.toNat_add, Int.toNat_mul, tn_l, lt_t, lt_f, le_t, le_f, eq_t, eq_f, ltn_t, ltn_f, len_t, len_f, eqn_t, eqn_f, up_ne, up_up, sh_101, sh_102, rf_101_0, T]
    · rw [s1_iff [] 90]
      simp (disch := omega) [sz_s, sz_0, gx_s, hx_r, hx_c, hx_b, hx_s, hx_i, hx_n, kx_s, kx_n, kx_i, cx_d, up_at, am_ctl, am_step, am_i1, am_i2, am_i2d, am_l1, am_l2, am_l2d, am_ldi, am_ldl, am_lda, am_sti, am_sta, am_stl, am_inc, am_i2l, am_l2i, am_lcmp, am_dup, am_dup2, am_pop1, am_fv, am_getf, am_putf, am_wr, am_ial, am_lal, am_bal, am_aal, am_ias, am_las, am_bas, am_alen, am_inst, am_cast, am_cpm, am_copy, am_tsw, am_pop, am_cat, am_cS, am_cI, am_cV, am_ri, am_rl, am_ra, am_rv, am_b1, am_b2, am_ent, am_en, am_isL, am_st1, am_st2, am_clr, am_cnd, cc_199, ac_199, nL_199, rb_199, np_178, ok_199_178, nL_178, vd_178_12, np_192, ok_199_192, nL_192, vd_192_12, tg_12_0, List.getElem?_cons_succ, List.getElem?_cons_zero, nz_of, nzl_of, Int.toNat_add, Int.toNat_mul, tn_l, lt_t, lt_f, le_t, le_f, eq_t, eq_f, ltn_t, ltn_f, len_t, len_f, eqn_t, eqn_f, up_ne, up_up, sh_101, sh_102, rf_101_0, T]
set_option maxRecDepth 100000 in
theorem wm_gone {μ : Nat → Nat → Int} (hR : MR μ) (h : Nat) (hh : (h : Int) < μ 102 0) (Φ : Option AV → ST → Prop) : wpM 200 [.inr (.inr (some 101)), .inl h] (S μ) Φ ↔ (if ¬ μ 102 (21 + h) = 0 then Φ (some (.inl (μ 102 (21 + h) - 1))) (S (mgone μ h)) else Φ (some (.inl (-4))) (S μ)) := by
  have T := wm_isH hR h
  rw [if_pos (by omega)] at T
  obtain ⟨r1, r2, r3, r4⟩ := hR
  have a1 := r3 h hh
  unfold wpM
  by_cases c : μ 102 (21 + h) = 0
  · rw [if_neg (by omega)]
    rw [s1_iff [] 90]
    simp (disch := omega) [sz_s, sz_0, gx_s, hx_r, hx_c, hx_b, hx_s, hx_i, hx_n, kx_s, kx_n, kx_i, cx_d, up_at, am_ctl, am_step, am_i1, am_i2, am_i2d, am_l1, am_l2, am_l2d, am_ldi, am_ldl, am_lda, am_sti, am_sta, am_stl, am_inc, am_i2l, am_l2i, am_lcmp, am_dup, am_dup2, am_pop1, am_fv, am_getf, am_putf, am_wr, am_ial, am_lal, am_bal, am_aal, am_ias, am_las, am_bas, am_alen, am_inst, am_cast, am_cpm, am_copy, am_tsw, am_pop, am_cat, am_cS, am_cI, am_cV, am_ri, am_rl, am_ra, am_rv, am_b1, am_b2, am_ent, am_en, am_isL, am_st1, am_st2, am_clr, am_cnd, cc_200, ac_200, nL_200, rb_200, np_178, ok_200_178, nL_178, vd_178_12, np_192, ok_200_192, nL_192, vd_192_12, tg_12_0, List.getElem?_cons_succ, List.getElem?_cons_zero, nz_of, nzl_of, Int.toNat_add, Int.toNat_mul, tn_l, lt_t, lt_f, le_t, le_f, eq_t, eq_f, ltn_t, ltn_f, len_t, len_f, eqn_t, eqn_f, up_ne, up_up, sh_101, sh_102, rf_101_0, T]
  · rw [if_pos c]
    rw [s1_iff [] 90]
    simp (disch := omega) [sz_s, sz_0, gx_s, hx_r, hx_c, hx_b, hx_s, hx_i, hx_n, kx_s, kx_n, kx_i, cx_d, up_at, am_ctl, am_step, am_i1, am_i2, am_i2d, am_l1, am_l2, am_l2d, am_ldi, am_ldl, am_lda, am_sti, am_sta, am_stl, am_inc, am_i2l, am_l2i, am_lcmp, am_dup, am_dup2, am_pop1, am_fv, am_getf, am_putf, am_wr, am_ial, am_lal, am_bal, am_aal, am_ias, am_las, am_bas, am_alen, am_inst, am_cast, am_cpm, am_copy, am_tsw, am_pop, am_cat, am_cS, am_cI, am_cV, am_ri, am_rl, am_ra, am_rv, am_b1, am_b2, am_ent, am_en, am_isL, am_st1, am_st2, am_clr, am_cnd, cc_200, ac_200, nL_200, rb_200, np_178, ok_200_178, nL_178, vd_178_12, np_192, ok_200_192, nL_192, vd_192_12, tg_12_0, List.getElem?_cons_succ, List.getElem?_cons_zero, nz_of, nzl_of, Int.toNat_add, Int.toNat_mul, tn_l, lt_t, lt_f, le_t, le_f, eq_t, eq_f, ltn_t, ltn_f, len_t, len_f, eqn_t, eqn_f, up_ne, up_up, sh_101, sh_102, rf_101_0, T]
    rw [wm_minds _ _ _ _ _ (by simpa [up_at] using r2)]
    simp (disch := omega) [sz_s, sz_0, gx_s, hx_r, hx_c, hx_b, hx_s, hx_i, hx_n, kx_s, kx_n, kx_i, cx_d, up_at, am_ctl, am_step, am_i1, am_i2, am_i2d, am_l1, am_l2, am_l2d, am_ldi, am_ldl, am_lda, am_sti, am_sta, am_stl, am_inc, am_i2l, am_l2i, am_lcmp, am_dup, am_dup2, am_pop1, am_fv, am_getf, am_putf, am_wr, am_ial, am_lal, am_bal, am_aal, am_ias, am_las, am_bas, am_alen, am_inst, am_cast, am_cpm, am_copy, am_tsw, am_pop, am_cat, am_cS, am_cI, am_cV, am_ri, am_rl, am_ra, am_rv, am_b1, am_b2, am_ent, am_en, am_isL, am_st1, am_st2, am_clr, am_cnd, cc_200, ac_200, nL_200, rb_200, np_178, ok_200_178, nL_178, vd_178_12, np_192, ok_200_192, nL_192, vd_192_12, tg_12_0, List.getElem?_cons_succ, List.getElem?_cons_zero, nz_of, nzl_of, Int.toNat_add, Int.toNat_mul, tn_l, lt_t, lt_f, le_t, le_f, eq_t, eq_f, ltn_t, ltn_f, len_t, len_f, eqn_t, eqn_f, up_ne, up_up, sh_101, sh_102, rf_101_0, mmL, mgone]
