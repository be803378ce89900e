/-! fault of the reference -/
def mrd (μ : Nat → Nat → Int) (many : Nat) (rd : Nat → Int) : Nat → Nat → Int := am_up (am_row μ 111 rd) 101 15 (many : Int)
theorem mrd_ne (μ : Nat → Nat → Int) (many : Nat) (rd : Nat → Int) (k : Nat) (h1 : ¬ k = 111) (h2 : ¬ k = 101) : mrd μ many rd k = μ k := by
  unfold mrd; rw [up_ne _ _ _ h2]; funext j; unfold am_row; rw [if_neg h1]
theorem mrd_101 (μ : Nat → Nat → Int) (many : Nat) (rd : Nat → Int) (i : Nat) (h : ¬ i = 15) : mrd μ many rd 101 i = μ 101 i := by
  unfold mrd; rw [up_at, if_neg (by omega)]; unfold am_row; rw [if_neg (by decide)]
theorem mrd_15 (μ : Nat → Nat → Int) (many : Nat) (rd : Nat → Int) : mrd μ many rd 101 15 = many := by
  unfold mrd; rw [up_at, if_pos ⟨rfl, rfl⟩]
theorem mrd_111 (μ : Nat → Nat → Int) (many : Nat) (rd : Nat → Int) : mrd μ many rd 111 = rd := by
  unfold mrd; rw [up_ne _ _ _ (by decide)]; funext j; unfold am_row; rw [if_pos rfl]
theorem mrd_w (μ : Nat → Nat → Int) (many : Nat) (rd : Nat → Int) (k : Nat) (v : Int) : am_up (mrd μ many rd) 111 k v = mrd μ many (am_u1 rd k v) := by
  funext b j
  unfold mrd am_up am_row am_u1
  by_cases h : b = 111
  · subst h; simp
  · simp [h]
theorem mrd_m (μ : Nat → Nat → Int) (many m' : Nat) (rd : Nat → Int) : am_up (mrd μ many rd) 101 15 (m' : Int) = mrd μ m' rd := by
  unfold mrd; rw [up_up]
theorem mrd_0 (μ : Nat → Nat → Int) : am_up μ 101 15 0 = mrd μ 0 (μ 111) := by
  funext b j
  unfold mrd am_up am_row
  by_cases h : b = 111
  · subst h; simp
  · simp [h]
set_option maxRecDepth 100000 in
theorem wm_kind (c : Int) (σ : ST) (Φ : Option AV → ST → Prop) : wpM 174 [.inl c] σ Φ ↔ Φ (some (.inl (koZ c))) σ := by
  unfold wpM koZ
  rw [s1_iff [] 200]
  simp (disch := omega) [sz_s, sz_0, gx_s, hx_r, hx_c, hx_b, hx_s, hx_i, hx_n, kx_s, kx_n, kx_i, cx_d, up_at, am_ctl, am_step, am_i1, am_i2, am_i2d, am_l1, am_l2, am_l2d, am_ldi, am_ldl, am_lda, am_sti, am_sta, am_stl, am_inc, am_i2l, am_l2i, am_lcmp, am_dup, am_dup2, am_pop1, am_fv, am_getf, am_putf, am_wr, am_ial, am_lal, am_bal, am_aal, am_ias, am_las, am_bas, am_alen, am_inst, am_cast, am_cpm, am_copy, am_tsw, am_pop, am_cat, am_cS, am_cI, am_cV, am_ri, am_rl, am_ra, am_rv, am_b1, am_b2, am_ent, am_en, am_isL, am_st1, am_st2, am_clr, am_cnd, cc_174, ac_174, nL_174, rb_174, List.getElem?_cons_succ, List.getElem?_cons_zero, nz_of, nzl_of, Int.toNat_add, Int.toNat_mul, tn_l, lt_t, lt_f, le_t, le_f, eq_t, eq_f, ltn_t, ltn_f, len_t, len_f, eqn_t, eqn_f, up_ne, up_up]
  all_goals (repeat' split) <;> first | rfl | (exfalso; omega)
set_option maxRecDepth 100000 in
theorem wm_faultOf {μ : Nat → Nat → Int} {n s : Nat} {x : Nat → Int} (hn : n < 4) (hT : TX μ n s x) (Φ : Option AV → ST → Prop) : wpM 175 [.inr (.inr (some 101)), .inl n] (S μ) Φ ↔ Φ (some (.inl (fmZ x s s 0 0 0 (μ 111)).1)) (S (mrd μ (fmZ x s s 0 0 0 (μ 111)).2.1 (fmZ x s s 0 0 0 (μ 111)).2.2)) := by
  obtain ⟨t1, t2, t3, t4⟩ := hT
  have lp : ∀ (d i p many : Nat) (rd : Nat → Int) (j5 j6 : Option AV), i + d = s → p < 4 → many ≤ 8 → (0 < p → many < 8) → (∀ z, ¬ j5 = some (.inr (.inl z))) → (wpS 175 17 [some (.inr (.inr (some 101))), some (.inl n), some (.inl s), some (.inl p), some (.inl i), j5, j6] [] (S (mrd μ many rd)) Φ ↔ Φ (some (.inl (fmZ x s d i p many rd).1)) (S (mrd μ (fmZ x s d i p many rd).2.1 (fmZ x s d i p many rd).2.2))) := by
    intro d
    induction d with
    | zero =>
      intro i p many rd j5 j6 hi hp hm hpm hj
      rw [fmZ]
      by_cases p0 : 0 < p
      · rw [if_pos p0]
        rw [s1_iff [17] 200]
        simp (disch := omega) [sz_s, sz_0, gx_s, hx_r, hx_c, hx_b, hx_s, hx_i, hx_n, kx_s, kx_n, kx_i, cx_d, up_at, am_ctl, am_step, am_i1, am_i2, am_i2d, am_l1, am_l2, am_l2d, am_ldi, am_ldl, am_lda, am_sti, am_sta, am_stl, am_inc, am_i2l, am_l2i, am_lcmp, am_dup, am_dup2, am_pop1, am_fv, am_getf, am_putf, am_wr, am_ial, am_lal, am_bal, am_aal, am_ias, am_las, am_bas, am_alen, am_inst, am_cast, am_cpm, am_copy, am_tsw, am_pop, am_cat, am_cS, am_cI, am_cV, am_ri, am_rl, am_ra, am_rv, am_b1, am_b2, am_ent, am_en, am_isL, am_st1, am_st2, am_clr, am_cnd, cc_175, ac_175, nL_175, rb_175, np_156, ok_175_156, nL_156, np_174, ok_175_174, nL_174, tg_12_5, tg_12_4, tg_12_15, tg_12_14, List.getElem?_cons_succ, List.getElem?_cons_zero, nz_of, nzl_of, Int.toNat_add, Int.toNat_mul, tn_l, lt_t, lt_f, le_t, le_f, eq_t, eq_f, ltn_t, ltn_f, len_t, len_f, eqn_t, eqn_f, up_ne, up_up, sh_101, p0]
      · rw [if_neg p0]
        rw [s1_iff [17] 200]
        simp (disch := omega) [sz_s, sz_0, gx_s, hx_r, hx_c, hx_b, hx_s, hx_i, hx_n, kx_s, kx_n, kx_i, cx_d, up_at, am_ctl, am_step, am_i1, am_i2, am_i2d, am_l1, am_l2, am_l2d, am_ldi, am_ldl, am_lda, am_sti, am_sta, am_stl, am_inc, am_i2l, am_l2i, am_lcmp, am_dup, am_dup2, am_pop1, am_fv, am_getf, am_putf, am_wr, am_ial, am_lal, am_bal, am_aal, am_ias, am_las, am_bas, am_alen, am_inst, am_cast, am_cpm, am_copy, am_tsw, am_pop, am_cat, am_cS, am_cI, am_cV, am_ri, am_rl, am_ra, am_rv, am_b1, am_b2, am_ent, am_en, am_isL, am_st1, am_st2, am_clr, am_cnd, cc_175, ac_175, nL_175, rb_175, np_156, ok_175_156, nL_156, np_174, ok_175_174, nL_174, tg_12_5, tg_12_4, tg_12_15, tg_12_14, List.getElem?_cons_succ, List.getElem?_cons_zero, nz_of, nzl_of, Int.toNat_add, Int.toNat_mul, tn_l, lt_t, lt_f, le_t, le_f, eq_t, eq_f, ltn_t, ltn_f, len_t, len_f, eqn_t, eqn_f, up_ne, up_up, sh_101, p0]
    | succ d ih =>
      intro i p many rd j5 j6 hi hp hm hpm hj
      have his : i < s := by omega
      have x0 := t4 i his
      have iv := itV_rng (x i) p
      have kr := koZ_rng (x i)
      have e106 : mrd μ many rd 106 = μ 106 := mrd_ne _ _ _ _ (by decide) (by decide)
      have e15 := mrd_15 μ many rd
      have ix : (x i : Int) = x i := rfl
      rw [fmZ]
      by_cases b : p = 0 ∧ x i = 32
      · rw [if_pos b]
        obtain ⟨rfl, b⟩ := b
        have q := ih (i + 1) 0 many rd (some (.inl 32)) j6 (by omega) (by omega) hm hpm (by simp)
        rw [show ((i + 1 : Nat) : Int) = (i : Int) + 1 by omega] at q
        simp only [Int.natCast_zero] at q ⊢
        rw [s1_iff [17] 200]
        simp (disch := omega) [sz_s, sz_0, gx_s, hx_r, hx_c, hx_b, hx_s, hx_i, hx_n, kx_s, kx_n, kx_i, cx_d, up_at, am_ctl, am_step, am_i1, am_i2, am_i2d, am_l1, am_l2, am_l2d, am_ldi, am_ldl, am_lda, am_sti, am_sta, am_stl, am_inc, am_i2l, am_l2i, am_lcmp, am_dup, am_dup2, am_pop1, am_fv, am_getf, am_putf, am_wr, am_ial, am_lal, am_bal, am_aal, am_ias, am_las, am_bas, am_alen, am_inst, am_cast, am_cpm, am_copy, am_tsw, am_pop, am_cat, am_cS, am_cI, am_cV, am_ri, am_rl, am_ra, am_rv, am_b1, am_b2, am_ent, am_en, am_isL, am_st1, am_st2, am_clr, am_cnd, cc_175, ac_175, nL_175, rb_175, np_156, ok_175_156, nL_156, np_174, ok_175_174, nL_174, tg_12_5, tg_12_4, tg_12_15, tg_12_14, List.getElem?_cons_succ, List.getElem?_cons_zero, nz_of, nzl_of, Int.toNat_add, Int.toNat_mul, tn_l, lt_t, lt_f, le_t, le_f, eq_t, eq_f, ltn_t, ltn_f, len_t, len_f, eqn_t, eqn_f, up_ne, up_up, sh_101, sh_106, rf_101_4, his, e106, x0.2.1, b, q]
      · rw [if_neg b]
        by_cases c : itV (x i) p < 0 ∨ many = 8
        · rw [if_pos c]
          have : p = 0 ∨ p = 1 ∨ p = 2 ∨ p = 3 := by omega
          by_cases p0 : p = 0
          · subst p0
            have b' : ¬ x i = 32 := fun z => b ⟨rfl, z⟩
            have c' : koZ (x i) < 0 ∨ many = 8 := c
            simp only [Int.natCast_zero]
            by_cases k : koZ (x i) < 0
            · rw [s1_iff [17] 200]
              simp (disch := omega) [sz_s, sz_0, gx_s, hx_r, hx_c, hx_b, hx_s, hx_i, hx_n, kx_s, kx_n, kx_i, cx_d, up_at, am_ctl, am_step, am_i1, am_i2, am_i2d, am_l1, am_l2, am_l2d, am_ldi, am_ldl, am_lda, am_sti, am_sta, am_stl, am_inc, am_i2l, am_l2i, am_lcmp, am_dup, am_dup2, am_pop1, am_fv, am_getf, am_putf, am_wr, am_ial, am_lal, am_bal, am_aal, am_ias, am_las, am_bas, am_alen, am_inst, am_cast, am_cpm, am_copy, am_tsw, am_pop, am_cat, am_cS, am_cI, am_cV, am_ri, am_rl, am_ra, am_rv, am_b1, am_b2, am_ent, am_en, am_isL, am_st1, am_st2, am_clr, am_cnd, cc_175, ac_175, nL_175, rb_175, np_156, ok_175_156, nL_156, np_174, ok_175_174, nL_174, tg_12_5, tg_12_4, tg_12_15, tg_12_14, List.getElem?_cons_succ, List.getElem?_cons_zero, nz_of, nzl_of, Int.toNat_add, Int.toNat_mul, tn_l, lt_t, lt_f, le_t, le_f, eq_t, eq_f, ltn_t, ltn_f, len_t, len_f, eqn_t, eqn_f, up_ne, up_up, sh_101, sh_106, rf_101_4, his, e106, x0.2.1, b', wm_kind, k]
            · obtain rfl : many = 8 := by omega
              rw [s1_iff [17] 200]
              simp (disch := omega) [sz_s, sz_0, gx_s, hx_r, hx_c, hx_b, hx_s, hx_i, hx_n, kx_s, kx_n, kx_i, cx_d, up_at, am_ctl, am_step, am_i1, am_i2, am_i2d, am_l1, am_l2, am_l2d, am_ldi, am_ldl, am_lda, am_sti, am_sta, am_stl, am_inc, am_i2l, am_l2i, am_lcmp, am_dup, am_dup2, am_pop1, am_fv, am_getf, am_putf, am_wr, am_ial, am_lal, am_bal, am_aal, am_ias, am_las, am_bas, am_alen, am_inst, am_cast, am_cpm, am_copy, am_tsw, am_pop, am_cat, am_cS, am_cI, am_cV, am_ri, am_rl, am_ra, am_rv, am_b1, am_b2, am_ent, am_en, am_isL, am_st1, am_st2, am_clr, am_cnd, cc_175, ac_175, nL_175, rb_175, np_156, ok_175_156, nL_156, np_174, ok_175_174, nL_174, tg_12_5, tg_12_4, tg_12_15, tg_12_14, List.getElem?_cons_succ, List.getElem?_cons_zero, nz_of, nzl_of, Int.toNat_add, Int.toNat_mul, tn_l, lt_t, lt_f, le_t, le_f, eq_t, eq_f, ltn_t, ltn_f, len_t, len_f, eqn_t, eqn_f, up_ne, up_up, sh_101, sh_106, rf_101_4, his, e106, x0.2.1, b', wm_kind, k, e15]
          · have m8 := hpm (by omega)
            have cc : itV (x i) p < 0 := by omega
            rcases this with rfl | rfl | rfl | rfl
            · exact absurd rfl p0
            · have w : ¬ (48 ≤ x i ∧ x i ≤ 50) := fun z => by
                unfold itV at cc; rw [if_neg (by omega), if_pos (by rw [if_pos rfl]; exact z)] at cc; omega
              rw [s1_iff [17] 200]
              simp (disch := omega) [sz_s, sz_0, gx_s, hx_r, hx_c, hx_b, hx_s, hx_i, hx_n, kx_s, kx_n, kx_i, cx_d, up_at, am_ctl, am_step, am_i1, am_i2, am_i2d, am_l1, am_l2, am_l2d, am_ldi, am_ldl, am_lda, am_sti, am_sta, am_stl, am_inc, am_i2l, am_l2i, am_lcmp, am_dup, am_dup2, am_pop1, am_fv, am_getf, am_putf, am_wr, am_ial, am_lal, am_bal, am_aal, am_ias, am_las, am_bas, am_alen, am_inst, am_cast, am_cpm, am_copy, am_tsw, am_pop, am_cat, am_cS, am_cI, am_cV, am_ri, am_rl, am_ra, am_rv, am_b1, am_b2, am_ent, am_en, am_isL, am_st1, am_st2, am_clr, am_cnd, cc_175, ac_175, nL_175, rb_175, np_156, ok_175_156, nL_156, np_174, ok_175_174, nL_174, tg_12_5, tg_12_4, tg_12_15, tg_12_14, List.getElem?_cons_succ, List.getElem?_cons_zero, nz_of, nzl_of, Int.toNat_add, Int.toNat_mul, tn_l, lt_t, lt_f, le_t, le_f, eq_t, eq_f, ltn_t, ltn_f, len_t, len_f, eqn_t, eqn_f, up_ne, up_up, sh_101, sh_106, rf_101_4, his, e106, x0.2.1, wm_in, w]
            · have w : ¬ (48 ≤ x i ∧ x i ≤ 57) := fun z => by
                unfold itV at cc; rw [if_neg (by omega), if_pos (by rw [if_neg (by omega)]; exact z)] at cc; omega
              rw [s1_iff [17] 200]
              simp (disch := omega) [sz_s, sz_0, gx_s, hx_r, hx_c, hx_b, hx_s, hx_i, hx_n, kx_s, kx_n, kx_i, cx_d, up_at, am_ctl, am_step, am_i1, am_i2, am_i2d, am_l1, am_l2, am_l2d, am_ldi, am_ldl, am_lda, am_sti, am_sta, am_stl, am_inc, am_i2l, am_l2i, am_lcmp, am_dup, am_dup2, am_pop1, am_fv, am_getf, am_putf, am_wr, am_ial, am_lal, am_bal, am_aal, am_ias, am_las, am_bas, am_alen, am_inst, am_cast, am_cpm, am_copy, am_tsw, am_pop, am_cat, am_cS, am_cI, am_cV, am_ri, am_rl, am_ra, am_rv, am_b1, am_b2, am_ent, am_en, am_isL, am_st1, am_st2, am_clr, am_cnd, cc_175, ac_175, nL_175, rb_175, np_156, ok_175_156, nL_156, np_174, ok_175_174, nL_174, tg_12_5, tg_12_4, tg_12_15, tg_12_14, List.getElem?_cons_succ, List.getElem?_cons_zero, nz_of, nzl_of, Int.toNat_add, Int.toNat_mul, tn_l, lt_t, lt_f, le_t, le_f, eq_t, eq_f, ltn_t, ltn_f, len_t, len_f, eqn_t, eqn_f, up_ne, up_up, sh_101, sh_106, rf_101_4, his, e106, x0.2.1, wm_in, w]
            · have w : ¬ (48 ≤ x i ∧ x i ≤ 57) := fun z => by
                unfold itV at cc; rw [if_neg (by omega), if_pos (by rw [if_neg (by omega)]; exact z)] at cc; omega
              rw [s1_iff [17] 200]
              simp (disch := omega) [sz_s, sz_0, gx_s, hx_r, hx_c, hx_b, hx_s, hx_i, hx_n, kx_s, kx_n, kx_i, cx_d, up_at, am_ctl, am_step, am_i1, am_i2, am_i2d, am_l1, am_l2, am_l2d, am_ldi, am_ldl, am_lda, am_sti, am_sta, am_stl, am_inc, am_i2l, am_l2i, am_lcmp, am_dup, am_dup2, am_pop1, am_fv, am_getf, am_putf, am_wr, am_ial, am_lal, am_bal, am_aal, am_ias, am_las, am_bas, am_alen, am_inst, am_cast, am_cpm, am_copy, am_tsw, am_pop, am_cat, am_cS, am_cI, am_cV, am_ri, am_rl, am_ra, am_rv, am_b1, am_b2, am_ent, am_en, am_isL, am_st1, am_st2, am_clr, am_cnd, cc_175, ac_175, nL_175, rb_175, np_156, ok_175_156, nL_156, np_174, ok_175_174, nL_174, tg_12_5, tg_12_4, tg_12_15, tg_12_14, List.getElem?_cons_succ, List.getElem?_cons_zero, nz_of, nzl_of, Int.toNat_add, Int.toNat_mul, tn_l, lt_t, lt_f, le_t, le_f, eq_t, eq_f, ltn_t, ltn_f, len_t, len_f, eqn_t, eqn_f, up_ne, up_up, sh_101, sh_106, rf_101_4, his, e106, x0.2.1, wm_in, w]
        · rw [if_neg c]
          have m8 : many < 8 := by omega
          have c0 : 0 ≤ itV (x i) p := by omega
          have m81 : ¬ many = 8 := by omega
          have : p = 0 ∨ p = 1 ∨ p = 2 ∨ p = 3 := by omega
          have q := fun (p' m' : Nat) (h1 : p' < 4) (h2 : m' ≤ 8) (h3 : 0 < p' → m' < 8) => ih (i + 1) p' m' (am_u1 rd (4 * many + p) (itV (x i) p)) (some (.inl (x i))) (some (.inl (itV (x i) p))) (by omega) h1 h2 h3 (by simp)
          have ww := mrd_w μ many rd (4 * many + p) (itV (x i) p)
          have mm1 := mrd_m μ many (many + 1) (am_u1 rd (4 * many + p) (itV (x i) p))
          have mm0 := mrd_m μ many many (am_u1 rd (4 * many + p) (itV (x i) p))
          have e15' := mrd_15 μ many (am_u1 rd (4 * many + p) (itV (x i) p))
          rw [show ((many + 1 : Nat) : Int) = (many : Int) + 1 by omega] at mm1
          simp only [show ((i + 1 : Nat) : Int) = (i : Int) + 1 by omega] at q
          rcases this with rfl | rfl | rfl | rfl
          · have b' : ¬ x i = 32 := fun z => b ⟨rfl, z⟩
            have kk : itV (x i) 0 = koZ (x i) := rfl
            have q := q 1 many (by omega) (by omega) (by omega)
            rw [if_neg (c := (0 : Nat) = 3) (by omega), if_neg (c := (0 : Nat) = 3) (by omega)]
            rw [kk] at ww mm0 mm1 e15' q c0 ⊢
            simp only [Int.natCast_zero, Int.natCast_one, Nat.zero_add, Nat.add_zero] at q ww mm0 e15' ⊢
            rw [s1_iff [17] 200]
            simp (disch := omega) [sz_s, sz_0, gx_s, hx_r, hx_c, hx_b, hx_s, hx_i, hx_n, kx_s, kx_n, kx_i, cx_d, up_at, am_ctl, am_step, am_i1, am_i2, am_i2d, am_l1, am_l2, am_l2d, am_ldi, am_ldl, am_lda, am_sti, am_sta, am_stl, am_inc, am_i2l, am_l2i, am_lcmp, am_dup, am_dup2, am_pop1, am_fv, am_getf, am_putf, am_wr, am_ial, am_lal, am_bal, am_aal, am_ias, am_las, am_bas, am_alen, am_inst, am_cast, am_cpm, am_copy, am_tsw, am_pop, am_cat, am_cS, am_cI, am_cV, am_ri, am_rl, am_ra, am_rv, am_b1, am_b2, am_ent, am_en, am_isL, am_st1, am_st2, am_clr, am_cnd, cc_175, ac_175, nL_175, rb_175, np_156, ok_175_156, nL_156, np_174, ok_175_174, nL_174, tg_12_5, tg_12_4, tg_12_15, tg_12_14, List.getElem?_cons_succ, List.getElem?_cons_zero, nz_of, nzl_of, Int.toNat_add, Int.toNat_mul, tn_l, lt_t, lt_f, le_t, le_f, eq_t, eq_f, ltn_t, ltn_f, len_t, len_f, eqn_t, eqn_f, up_ne, up_up, sh_101, sh_106, sh_111, rf_101_4, rf_101_14, his, e106, x0.2.1, b', wm_kind, e15, m81, ww, e15', mm0, q]
          · have w : 48 ≤ x i ∧ x i ≤ 50 := by
              unfold itV at c0; rw [if_neg (by omega), if_pos (c := (1 : Nat) = 1) rfl] at c0
              by_cases z : 48 ≤ x i ∧ x i ≤ 50
              · exact z
              · rw [if_neg z] at c0; omega
            have kk : itV (x i) 1 = x i - 48 := by unfold itV; rw [if_neg (by omega), if_pos (by rw [if_pos rfl]; exact w)]
            have q := q 2 many (by omega) (by omega) (by omega)
            rw [if_neg (c := (1 : Nat) = 3) (by omega), if_neg (c := (1 : Nat) = 3) (by omega)]
            rw [kk] at ww mm0 mm1 e15' q c0 ⊢
            simp only [Int.natCast_one, show ((2 : Nat) : Int) = 2 from rfl] at q ⊢
            rw [s1_iff [17] 200]
            simp (disch := omega) [sz_s, sz_0, gx_s, hx_r, hx_c, hx_b, hx_s, hx_i, hx_n, kx_s, kx_n, kx_i, cx_d, up_at, am_ctl, am_step, am_i1, am_i2, am_i2d, am_l1, am_l2, am_l2d, am_ldi, am_ldl, am_lda, am_sti, am_sta, am_stl, am_inc, am_i2l, am_l2i, am_lcmp, am_dup, am_dup2, am_pop1, am_fv, am_getf, am_putf, am_wr, am_ial, am_lal, am_bal, am_aal, am_ias, am_las, am_bas, am_alen, am_inst, am_cast, am_cpm, am_copy, am_tsw, am_pop, am_cat, am_cS, am_cI, am_cV, am_ri, am_rl, am_ra, am_rv, am_b1, am_b2, am_ent, am_en, am_isL, am_st1, am_st2, am_clr, am_cnd, cc_175, ac_175, nL_175, rb_175, np_156, ok_175_156, nL_156, np_174, ok_175_174, nL_174, tg_12_5, tg_12_4, tg_12_15, tg_12_14, List.getElem?_cons_succ, List.getElem?_cons_zero, nz_of, nzl_of, Int.toNat_add, Int.toNat_mul, tn_l, lt_t, lt_f, le_t, le_f, eq_t, eq_f, ltn_t, ltn_f, len_t, len_f, eqn_t, eqn_f, up_ne, up_up, sh_101, sh_106, sh_111, rf_101_4, rf_101_14, his, e106, x0.2.1, wm_in, w.1, w.2, e15, m81, ww, e15', mm0, q]
          · have w : 48 ≤ x i ∧ x i ≤ 57 := by
              unfold itV at c0; rw [if_neg (by omega), if_neg (c := (2 : Nat) = 1) (by omega)] at c0
              by_cases z : 48 ≤ x i ∧ x i ≤ 57
              · exact z
              · rw [if_neg z] at c0; omega
            have kk : itV (x i) 2 = x i - 48 := by unfold itV; rw [if_neg (by omega), if_pos (by rw [if_neg (by omega)]; exact w)]
            have q := q 3 many (by omega) (by omega) (by omega)
            rw [if_neg (c := (2 : Nat) = 3) (by omega), if_neg (c := (2 : Nat) = 3) (by omega)]
            rw [kk] at ww mm0 mm1 e15' q c0 ⊢
            simp only [show ((2 : Nat) : Int) = 2 from rfl, show ((3 : Nat) : Int) = 3 from rfl] at q ⊢
            rw [s1_iff [17] 200]
            simp (disch := omega) [sz_s, sz_0, gx_s, hx_r, hx_c, hx_b, hx_s, hx_i, hx_n, kx_s, kx_n, kx_i, cx_d, up_at, am_ctl, am_step, am_i1, am_i2, am_i2d, am_l1, am_l2, am_l2d, am_ldi, am_ldl, am_lda, am_sti, am_sta, am_stl, am_inc, am_i2l, am_l2i, am_lcmp, am_dup, am_dup2, am_pop1, am_fv, am_getf, am_putf, am_wr, am_ial, am_lal, am_bal, am_aal, am_ias, am_las, am_bas, am_alen, am_inst, am_cast, am_cpm, am_copy, am_tsw, am_pop, am_cat, am_cS, am_cI, am_cV, am_ri, am_rl, am_ra, am_rv, am_b1, am_b2, am_ent, am_en, am_isL, am_st1, am_st2, am_clr, am_cnd, cc_175, ac_175, nL_175, rb_175, np_156, ok_175_156, nL_156, np_174, ok_175_174, nL_174, tg_12_5, tg_12_4, tg_12_15, tg_12_14, List.getElem?_cons_succ, List.getElem?_cons_zero, nz_of, nzl_of, Int.toNat_add, Int.toNat_mul, tn_l, lt_t, lt_f, le_t, le_f, eq_t, eq_f, ltn_t, ltn_f, len_t, len_f, eqn_t, eqn_f, up_ne, up_up, sh_101, sh_106, sh_111, rf_101_4, rf_101_14, his, e106, x0.2.1, wm_in, w.1, w.2, e15, m81, ww, e15', mm0, q]
          · have w : 48 ≤ x i ∧ x i ≤ 57 := by
              unfold itV at c0; rw [if_neg (by omega), if_neg (c := (3 : Nat) = 1) (by omega)] at c0
              by_cases z : 48 ≤ x i ∧ x i ≤ 57
              · exact z
              · rw [if_neg z] at c0; omega
            have kk : itV (x i) 3 = x i - 48 := by unfold itV; rw [if_neg (by omega), if_pos (by rw [if_neg (by omega)]; exact w)]
            have q := q 0 (many + 1) (by omega) (by omega) (by omega)
            rw [if_pos (c := (3 : Nat) = 3) rfl, if_pos (c := (3 : Nat) = 3) rfl]
            rw [kk] at ww mm0 mm1 e15' q c0 ⊢
            simp only [Int.natCast_zero, show ((3 : Nat) : Int) = 3 from rfl] at q ⊢
            rw [s1_iff [17] 200]
            simp (disch := omega) [sz_s, sz_0, gx_s, hx_r, hx_c, hx_b, hx_s, hx_i, hx_n, kx_s, kx_n, kx_i, cx_d, up_at, am_ctl, am_step, am_i1, am_i2, am_i2d, am_l1, am_l2, am_l2d, am_ldi, am_ldl, am_lda, am_sti, am_sta, am_stl, am_inc, am_i2l, am_l2i, am_lcmp, am_dup, am_dup2, am_pop1, am_fv, am_getf, am_putf, am_wr, am_ial, am_lal, am_bal, am_aal, am_ias, am_las, am_bas, am_alen, am_inst, am_cast, am_cpm, am_copy, am_tsw, am_pop, am_cat, am_cS, am_cI, am_cV, am_ri, am_rl, am_ra, am_rv, am_b1, am_b2, am_ent, am_en, am_isL, am_st1, am_st2, am_clr, am_cnd, cc_175, ac_175, nL_175, rb_175, np_156, ok_175_156, nL_156, np_174, ok_175_174, nL_174, tg_12_5, tg_12_4, tg_12_15, tg_12_14, List.getElem?_cons_succ, List.getElem?_cons_zero, nz_of, nzl_of, Int.toNat_add, Int.toNat_mul, tn_l, lt_t, lt_f, le_t, le_f, eq_t, eq_f, ltn_t, ltn_f, len_t, len_f, eqn_t, eqn_f, up_ne, up_up, sh_101, sh_106, sh_111, rf_101_4, rf_101_14, his, e106, x0.2.1, wm_in, w.1, w.2, e15, m81, ww, e15', mm1, q]
  have q := lp s 0 0 0 (μ 111) none none (by omega) (by omega) (by omega) (by omega) (by simp)
  have e107 : mrd μ 0 (μ 111) 107 = μ 107 := mrd_ne _ _ _ _ (by decide) (by decide)
  unfold wpM
  rw [s1_iff [17] 200]
  simp (disch := omega) [sz_s, sz_0, gx_s, hx_r, hx_c, hx_b, hx_s, hx_i, hx_n, kx_s, kx_n, kx_i, cx_d, up_at, am_ctl, am_step, am_i1, am_i2, am_i2d, am_l1, am_l2, am_l2d, am_ldi, am_ldl, am_lda, am_sti, am_sta, am_stl, am_inc, am_i2l, am_l2i, am_lcmp, am_dup, am_dup2, am_pop1, am_fv, am_getf, am_putf, am_wr, am_ial, am_lal, am_bal, am_aal, am_ias, am_las, am_bas, am_alen, am_inst, am_cast, am_cpm, am_copy, am_tsw, am_pop, am_cat, am_cS, am_cI, am_cV, am_ri, am_rl, am_ra, am_rv, am_b1, am_b2, am_ent, am_en, am_isL, am_st1, am_st2, am_clr, am_cnd, cc_175, ac_175, nL_175, rb_175, np_156, ok_175_156, nL_156, np_174, ok_175_174, nL_174, tg_12_5, tg_12_4, tg_12_15, tg_12_14, List.getElem?_cons_succ, List.getElem?_cons_zero, nz_of, nzl_of, Int.toNat_add, Int.toNat_mul, tn_l, lt_t, lt_f, le_t, le_f, eq_t, eq_f, ltn_t, ltn_f, len_t, len_f, eqn_t, eqn_f, up_ne, up_up, sh_101, sh_107, rf_101_5, mrd_0, e107, t3]
  exact q
theorem TX_of {B : Int} {μ : Nat → Nat → Int} (h : INV B μ) {n : Nat} (hn : n < 4) (h0 : ¬ μ 107 n = -1) : ∃ s : Nat, μ 107 n = s ∧ TX μ n s (fun i => μ 106 (80 * n + i)) := by
  obtain ⟨b1, b2, b3⟩ := h.2.2.1 n hn
  refine ⟨(μ 107 n).toNat, by omega, by omega, by omega, by omega, fun i hi => ?_⟩
  have := b3 i (by omega)
  exact ⟨this.1, rfl, this.2.1, this.2.2⟩
theorem TX_as {μ ν : Nat → Nat → Int} {n s : Nat} {x : Nat → Int} (h : TX μ n s x) (e : ∀ k, k = 58 + 2 * n ∨ k = 59 + 2 * n ∨ k = 106 ∨ k = 107 → ν k = μ k) : TX ν n s x := by
  unfold TX at h ⊢
  rw [e _ (Or.inl rfl), e _ (Or.inr (Or.inl rfl)), e _ (Or.inr (Or.inr (Or.inl rfl))), e _ (Or.inr (Or.inr (Or.inr rfl)))]
  exact h
/-- where it can't go on doesn't depend on what was read before -/
theorem fm_rd {x : Nat → Int} {s : Nat} : ∀ (d i p many : Nat) (r1 r2 : Nat → Int), (fmZ x s d i p many r1).1 = (fmZ x s d i p many r2).1 ∧ (fmZ x s d i p many r1).2.1 = (fmZ x s d i p many r2).2.1
  | 0, i, p, many, r1, r2 => ⟨rfl, rfl⟩
  | d + 1, i, p, many, r1, r2 => by
    rw [fmZ, fmZ]
    split
    · exact fm_rd d _ _ _ _ _
    · split
      · exact ⟨rfl, rfl⟩
      · exact fm_rd d _ _ _ _ _
set_option maxRecDepth 100000 in
theorem wp_fault_no (t : Int) (h : ¬ (0 ≤ t ∧ t < 4)) (μ : Nat → Nat → Int) (Φ : Option AV → ST → Prop) : wpM 87 [.inr (.inr (some 0)), .inl t] (S μ) Φ ↔ Φ (some (.inl (-1))) (S μ) := by
  unfold wpM
  rw [s1_iff [] 200]
  simp (disch := omega) [sz_s, sz_0, gx_s, hx_r, hx_c, hx_b, hx_s, hx_i, hx_n, kx_s, kx_n, kx_i, cx_d, up_at, am_ctl, am_step, am_i1, am_i2, am_i2d, am_l1, am_l2, am_l2d, am_ldi, am_ldl, am_lda, am_sti, am_sta, am_stl, am_inc, am_i2l, am_l2i, am_lcmp, am_dup, am_dup2, am_pop1, am_fv, am_getf, am_putf, am_wr, am_ial, am_lal, am_bal, am_aal, am_ias, am_las, am_bas, am_alen, am_inst, am_cast, am_cpm, am_copy, am_tsw, am_pop, am_cat, am_cS, am_cI, am_cV, am_ri, am_rl, am_ra, am_rv, am_b1, am_b2, am_ent, am_en, am_isL, am_st1, am_st2, am_clr, am_cnd, cc_87, ac_87, nL_87, rb_87, np_129, ok_87_129, nL_129, np_140, ok_87_140, nL_140, np_56, ok_87_56, nL_56, vd_56_8, np_133, ok_87_133, nL_133, vd_133_11, tg_11_1, List.getElem?_cons_succ, List.getElem?_cons_zero, nz_of, nzl_of, Int.toNat_add, Int.toNat_mul, tn_l, lt_t, lt_f, le_t, le_f, eq_t, eq_f, ltn_t, ltn_f, len_t, len_f, eqn_t, eqn_f, up_ne, up_up, sh_0, wp_within, h]
set_option maxRecDepth 100000 in
theorem wm_fault_no (t : Int) (h : ¬ (0 ≤ t ∧ t < 4)) (μ : Nat → Nat → Int) (Φ : Option AV → ST → Prop) : wpM 176 [.inr (.inr (some 101)), .inl t] (S μ) Φ ↔ Φ (some (.inl (-1))) (S μ) := by
  unfold wpM
  rw [s1_iff [] 200]
  simp (disch := omega) [sz_s, sz_0, gx_s, hx_r, hx_c, hx_b, hx_s, hx_i, hx_n, kx_s, kx_n, kx_i, cx_d, up_at, am_ctl, am_step, am_i1, am_i2, am_i2d, am_l1, am_l2, am_l2d, am_ldi, am_ldl, am_lda, am_sti, am_sta, am_stl, am_inc, am_i2l, am_l2i, am_lcmp, am_dup, am_dup2, am_pop1, am_fv, am_getf, am_putf, am_wr, am_ial, am_lal, am_bal, am_aal, am_ias, am_las, am_bas, am_alen, am_inst, am_cast, am_cpm, am_copy, am_tsw, am_pop, am_cat, am_cS, am_cI, am_cV, am_ri, am_rl, am_ra, am_rv, am_b1, am_b2, am_ent, am_en, am_isL, am_st1, am_st2, am_clr, am_cnd, cc_176, ac_176, nL_176, rb_176, np_164, ok_176_164, nL_164, np_160, ok_176_160, nL_160, vd_160_12, np_175, ok_176_175, nL_175, vd_175_12, tg_12_5, List.getElem?_cons_succ, List.getElem?_cons_zero, nz_of, nzl_of, Int.toNat_add, Int.toNat_mul, tn_l, lt_t, lt_f, le_t, le_f, eq_t, eq_f, ltn_t, ltn_f, len_t, len_f, eqn_t, eqn_f, up_ne, up_up, sh_101, wm_isText, show ¬ (0 ≤ t ∧ t ≤ 3) by omega]
set_option maxRecDepth 100000 in
theorem wp_fault_mi {n : Nat} (hn : n < 4) {μ : Nat → Nat → Int} (h : μ (58 + 2 * n) 1 = -1) (Φ : Option AV → ST → Prop) : wpM 87 [.inr (.inr (some 0)), .inl n] (S μ) Φ ↔ Φ (some (.inl (-3))) (S (xfind μ 1)) := by
  obtain ⟨g1, g2, g3, g4⟩ := g_text n hn
  unfold wpM
  rw [s1_iff [] 200]
  simp (disch := omega) [sz_s, sz_0, gx_s, hx_r, hx_c, hx_b, hx_s, hx_i, hx_n, kx_s, kx_n, kx_i, cx_d, up_at, am_ctl, am_step, am_i1, am_i2, am_i2d, am_l1, am_l2, am_l2d, am_ldi, am_ldl, am_lda, am_sti, am_sta, am_stl, am_inc, am_i2l, am_l2i, am_lcmp, am_dup, am_dup2, am_pop1, am_fv, am_getf, am_putf, am_wr, am_ial, am_lal, am_bal, am_aal, am_ias, am_las, am_bas, am_alen, am_inst, am_cast, am_cpm, am_copy, am_tsw, am_pop, am_cat, am_cS, am_cI, am_cV, am_ri, am_rl, am_ra, am_rv, am_b1, am_b2, am_ent, am_en, am_isL, am_st1, am_st2, am_clr, am_cnd, cc_87, ac_87, nL_87, rb_87, np_129, ok_87_129, nL_129, np_140, ok_87_140, nL_140, np_56, ok_87_56, nL_56, vd_56_8, np_133, ok_87_133, nL_133, vd_133_11, tg_11_1, List.getElem?_cons_succ, List.getElem?_cons_zero, nz_of, nzl_of, Int.toNat_add, Int.toNat_mul, tn_l, lt_t, lt_f, le_t, le_f, eq_t, eq_f, ltn_t, ltn_f, len_t, len_f, eqn_t, eqn_f, up_ne, up_up, sh_0, sh_2, rf_0_1, wp_within, hn, g1, g2, wp_isThere (58 + 2 * n) (by omega) g2, h, wp_find 1 (by decide), xfind]
set_option maxRecDepth 100000 in
theorem wm_fault_mi {n : Nat} (hn : n < 4) {μ : Nat → Nat → Int} (h : μ 107 n = -1) (Φ : Option AV → ST → Prop) : wpM 176 [.inr (.inr (some 101)), .inl n] (S μ) Φ ↔ Φ (some (.inl (-3))) (S (mfind μ 1)) := by
  unfold wpM
  rw [s1_iff [] 200]
  simp (disch := omega) [sz_s, sz_0, gx_s, hx_r, hx_c, hx_b, hx_s, hx_i, hx_n, kx_s, kx_n, kx_i, cx_d, up_at, am_ctl, am_step, am_i1, am_i2, am_i2d, am_l1, am_l2, am_l2d, am_ldi, am_ldl, am_lda, am_sti, am_sta, am_stl, am_inc, am_i2l, am_l2i, am_lcmp, am_dup, am_dup2, am_pop1, am_fv, am_getf, am_putf, am_wr, am_ial, am_lal, am_bal, am_aal, am_ias, am_las, am_bas, am_alen, am_inst, am_cast, am_cpm, am_copy, am_tsw, am_pop, am_cat, am_cS, am_cI, am_cV, am_ri, am_rl, am_ra, am_rv, am_b1, am_b2, am_ent, am_en, am_isL, am_st1, am_st2, am_clr, am_cnd, cc_176, ac_176, nL_176, rb_176, np_164, ok_176_164, nL_164, np_160, ok_176_160, nL_160, vd_160_12, np_175, ok_176_175, nL_175, vd_175_12, tg_12_5, List.getElem?_cons_succ, List.getElem?_cons_zero, nz_of, nzl_of, Int.toNat_add, Int.toNat_mul, tn_l, lt_t, lt_f, le_t, le_f, eq_t, eq_f, ltn_t, ltn_f, len_t, len_f, eqn_t, eqn_f, up_ne, up_up, sh_101, sh_107, rf_101_5, wm_isText, h, wm_met 1 (by decide), mfind]
set_option maxRecDepth 100000 in
theorem wp_fault {n s : Nat} {x : Nat → Int} (hn : n < 4) {μ : Nat → Nat → Int} (hl : LT μ) (hT : TX μ n s x) (rd : Nat → Int) (Φ : Option AV → ST → Prop) : wpM 87 [.inr (.inr (some 0)), .inl n] (S μ) Φ ↔ Φ (some (.inl (fmZ x s s 0 0 0 rd).1)) (S μ) := by
  obtain ⟨g1, g2, g3, g4⟩ := g_text n hn
  have K := wp_faultOf hl hn hT rd
  have t2 := hT.2.1
  unfold wpM
  rw [s1_iff [] 200]
  simp (disch := omega) [sz_s, sz_0, gx_s, hx_r, hx_c, hx_b, hx_s, hx_i, hx_n, kx_s, kx_n, kx_i, cx_d, up_at, am_ctl, am_step, am_i1, am_i2, am_i2d, am_l1, am_l2, am_l2d, am_ldi, am_ldl, am_lda, am_sti, am_sta, am_stl, am_inc, am_i2l, am_l2i, am_lcmp, am_dup, am_dup2, am_pop1, am_fv, am_getf, am_putf, am_wr, am_ial, am_lal, am_bal, am_aal, am_ias, am_las, am_bas, am_alen, am_inst, am_cast, am_cpm, am_copy, am_tsw, am_pop, am_cat, am_cS, am_cI, am_cV, am_ri, am_rl, am_ra, am_rv, am_b1, am_b2, am_ent, am_en, am_isL, am_st1, am_st2, am_clr, am_cnd, cc_87, ac_87, nL_87, rb_87, np_129, ok_87_129, nL_129, np_140, ok_87_140, nL_140, np_56, ok_87_56, nL_56, vd_56_8, np_133, ok_87_133, nL_133, vd_133_11, tg_11_1, List.getElem?_cons_succ, List.getElem?_cons_zero, nz_of, nzl_of, Int.toNat_add, Int.toNat_mul, tn_l, lt_t, lt_f, le_t, le_f, eq_t, eq_f, ltn_t, ltn_f, len_t, len_f, eqn_t, eqn_f, up_ne, up_up, sh_0, sh_2, rf_0_1, wp_within, hn, g1, g2, wp_isThere (58 + 2 * n) (by omega) g2, t2, K]
set_option maxRecDepth 100000 in
theorem wm_fault {n s : Nat} {x : Nat → Int} (hn : n < 4) {μ : Nat → Nat → Int} (hT : TX μ n s x) (Φ : Option AV → ST → Prop) : wpM 176 [.inr (.inr (some 101)), .inl n] (S μ) Φ ↔ Φ (some (.inl (fmZ x s s 0 0 0 (μ 111)).1)) (S (mrd μ (fmZ x s s 0 0 0 (μ 111)).2.1 (fmZ x s s 0 0 0 (μ 111)).2.2)) := by
  have K := wm_faultOf hn hT
  have t3 := hT.2.2.1
  unfold wpM
  rw [s1_iff [] 200]
  simp (disch := omega) [sz_s, sz_0, gx_s, hx_r, hx_c, hx_b, hx_s, hx_i, hx_n, kx_s, kx_n, kx_i, cx_d, up_at, am_ctl, am_step, am_i1, am_i2, am_i2d, am_l1, am_l2, am_l2d, am_ldi, am_ldl, am_lda, am_sti, am_sta, am_stl, am_inc, am_i2l, am_l2i, am_lcmp, am_dup, am_dup2, am_pop1, am_fv, am_getf, am_putf, am_wr, am_ial, am_lal, am_bal, am_aal, am_ias, am_las, am_bas, am_alen, am_inst, am_cast, am_cpm, am_copy, am_tsw, am_pop, am_cat, am_cS, am_cI, am_cV, am_ri, am_rl, am_ra, am_rv, am_b1, am_b2, am_ent, am_en, am_isL, am_st1, am_st2, am_clr, am_cnd, cc_176, ac_176, nL_176, rb_176, np_164, ok_176_164, nL_164, np_160, ok_176_160, nL_160, vd_160_12, np_175, ok_176_175, nL_175, vd_175_12, tg_12_5, List.getElem?_cons_succ, List.getElem?_cons_zero, nz_of, nzl_of, Int.toNat_add, Int.toNat_mul, tn_l, lt_t, lt_f, le_t, le_f, eq_t, eq_f, ltn_t, ltn_f, len_t, len_f, eqn_t, eqn_f, up_ne, up_up, sh_101, sh_107, rf_101_5, wm_isText, t3, K]
theorem INV_mrd {B : Int} {μ : Nat → Nat → Int} (h : INV B μ) (m : Nat) (rd : Nat → Int) : INV B (mrd μ m rd) := INV_ans h (fun k i hk => by
    by_cases e : k = 101
    · subst e; exact mrd_101 _ _ _ _ (by omega)
    · rw [mrd_ne _ _ _ _ (by omega) e]) (by rw [mrd_ne _ _ _ _ (by omega) (by omega)]) (mrd_101 _ _ _ _ (by omega)) (fun i => by rw [mrd_ne _ _ _ _ (by omega) (by omega)]) (fun i => by rw [mrd_ne _ _ _ _ (by omega) (by omega)]) (by rw [mrd_ne _ _ _ _ (by omega) (by omega), mrd_101 _ _ _ _ (by omega)]; exact h.1.2.1) (by rw [mrd_ne _ _ _ _ (by omega) (by omega), mrd_101 _ _ _ _ (by omega)]; exact h.1.2.2.1) (by rw [mrd_ne _ _ _ _ (by omega) (by omega), mrd_101 _ _ _ _ (by omega)]; exact h.1.2.2.2.1)
theorem eq_fault {B : Int} {μ : Nat → Nat → Int} (h : INV B μ) (hl : LT μ) (t : Int) : EQV B μ 87 176 [.inl t] := by
  unfold EQV
  by_cases ht : 0 ≤ t ∧ t < 4
  · obtain ⟨n, rfl⟩ : ∃ n : Nat, t = n := ⟨t.toNat, by omega⟩
    have hn : n < 4 := by omega
    have b2 := (h.2.2.1 n hn).2.1
    by_cases c : μ 107 n = -1
    · rw [wp_fault_mi hn (by omega)]
      refine ⟨_, _, rfl, rfl, ?_⟩
      rw [wm_fault_mi hn (by rw [xf_102 _ _ _ (by decide) (by decide)]; exact c)]
      exact ⟨rfl, _, rfl, inv_find h 1 (by decide)⟩
    · obtain ⟨s, hs, hT⟩ := TX_of h hn c
      rw [wp_fault hn hl hT (μ 111)]
      refine ⟨_, _, rfl, rfl, ?_⟩
      rw [wm_fault hn hT]
      exact ⟨rfl, _, rfl, INV_mrd h _ _⟩
  · rw [wp_fault_no t ht]
    refine ⟨_, _, rfl, rfl, ?_⟩
    rw [wm_fault_no t ht]
    exact ⟨rfl, _, rfl, h⟩
