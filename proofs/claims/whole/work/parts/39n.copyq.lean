/-! copy: equal on both sides -/
def xcopy (μ : Nat → Nat → Int) (r i t j n : Nat) : Nat → Nat → Int := rfz μ (47 + 2 * t) j n (fun k => μ (47 + 2 * r) (i + k))
def hcopy (μ : Nat → Nat → Int) (r i n : Nat) : Nat → Nat → Int := rfz μ 110 0 n (fun k => μ 104 (60 * r + i + k))
def mcopy (μ : Nat → Nat → Int) (r i t j n : Nat) : Nat → Nat → Int := rfz (hcopy μ r i n) 104 (60 * t + j) n (fun k => μ 104 (60 * r + i + k))
theorem hcopy_110 (μ : Nat → Nat → Int) (r i n k : Nat) (h : k < n) : hcopy μ r i n 110 k = μ 104 (60 * r + i + k) := by
  unfold hcopy; rw [rfz_at, if_pos (by omega), Nat.sub_zero]
theorem hcopy_104 (μ : Nat → Nat → Int) (r i n k : Nat) : hcopy μ r i n 104 k = μ 104 k := by
  unfold hcopy; rw [rfz_ne _ _ _ _ _ _ (by decide)]
theorem hcopy_s (μ : Nat → Nat → Int) (r i k : Nat) : am_up (hcopy μ r i k) 110 k (μ 104 (60 * r + i + k)) = hcopy μ r i (k + 1) := by
  have := rfz_s μ 110 0 k (fun k => μ 104 (60 * r + i + k))
  rw [Nat.zero_add] at this
  exact this
set_option maxRecDepth 100000 in
theorem wp_copy_no (r i t j n : Int) (hx : ¬ ((0 ≤ r ∧ r < 6) ∧ 0 ≤ t ∧ t < 6)) (μ : Nat → Nat → Int) (Φ : Option AV → ST → Prop) : wpM 83 [.inr (.inr (some 0)), .inl r, .inl i, .inl t, .inl j, .inl n] (S μ) Φ ↔ Φ (some (.inl (-1))) (S μ) := by
  unfold wpM
  by_cases h1 : 0 ≤ r ∧ r < 6
  · rw [s1_iff [] 200]
    simp (disch := omega) [sz_s, sz_0, gx_s, hx_r, hx_c, hx_b, hx_s, hx_i, hx_n, kx_s, kx_n, kx_i, cx_d, up_at, am_ctl, am_step, am_i1, am_i2, am_i2d, am_l1, am_l2, am_l2d, am_ldi, am_ldl, am_lda, am_sti, am_sta, am_stl, am_inc, am_i2l, am_l2i, am_lcmp, am_dup, am_dup2, am_pop1, am_fv, am_getf, am_putf, am_wr, am_ial, am_lal, am_bal, am_aal, am_ias, am_las, am_bas, am_alen, am_inst, am_cast, am_cpm, am_copy, am_tsw, am_pop, am_cat, am_cS, am_cI, am_cV, am_ri, am_rl, am_ra, am_rv, am_b1, am_b2, am_ent, am_en, am_isL, am_st1, am_st2, am_clr, am_cnd, cc_83, ac_83, nL_83, rb_83, np_129, ok_83_129, nL_129, np_56, ok_83_56, nL_56, vd_56_8, np_58, ok_83_58, nL_58, vd_58_8, np_133, ok_83_133, nL_133, vd_133_11, tg_11_0, tg_8_0, List.getElem?_cons_succ, List.getElem?_cons_zero, nz_of, nzl_of, Int.toNat_add, Int.toNat_mul, tn_l, lt_t, lt_f, le_t, le_f, eq_t, eq_f, ltn_t, ltn_f, len_t, len_f, eqn_t, eqn_f, up_ne, up_up, sh_0, wp_within, h1.1, h1.2, show ¬ (0 ≤ t ∧ t < 6) from fun q => hx ⟨h1, q⟩]
  · rw [s1_iff [] 200]
    simp (disch := omega) [sz_s, sz_0, gx_s, hx_r, hx_c, hx_b, hx_s, hx_i, hx_n, kx_s, kx_n, kx_i, cx_d, up_at, am_ctl, am_step, am_i1, am_i2, am_i2d, am_l1, am_l2, am_l2d, am_ldi, am_ldl, am_lda, am_sti, am_sta, am_stl, am_inc, am_i2l, am_l2i, am_lcmp, am_dup, am_dup2, am_pop1, am_fv, am_getf, am_putf, am_wr, am_ial, am_lal, am_bal, am_aal, am_ias, am_las, am_bas, am_alen, am_inst, am_cast, am_cpm, am_copy, am_tsw, am_pop, am_cat, am_cS, am_cI, am_cV, am_ri, am_rl, am_ra, am_rv, am_b1, am_b2, am_ent, am_en, am_isL, am_st1, am_st2, am_clr, am_cnd, cc_83, ac_83, nL_83, rb_83, np_129, ok_83_129, nL_129, np_56, ok_83_56, nL_56, vd_56_8, np_58, ok_83_58, nL_58, vd_58_8, np_133, ok_83_133, nL_133, vd_133_11, tg_11_0, tg_8_0, List.getElem?_cons_succ, List.getElem?_cons_zero, nz_of, nzl_of, Int.toNat_add, Int.toNat_mul, tn_l, lt_t, lt_f, le_t, le_f, eq_t, eq_f, ltn_t, ltn_f, len_t, len_f, eqn_t, eqn_f, up_ne, up_up, sh_0, wp_within, h1]
set_option maxRecDepth 100000 in
theorem wm_copy_no (r i t j n : Int) (hx : ¬ ((0 ≤ r ∧ r < 6) ∧ 0 ≤ t ∧ t < 6)) (μ : Nat → Nat → Int) (Φ : Option AV → ST → Prop) : wpM 170 [.inr (.inr (some 101)), .inl r, .inl i, .inl t, .inl j, .inl n] (S μ) Φ ↔ Φ (some (.inl (-1))) (S μ) := by
  unfold wpM
  by_cases h1 : 0 ≤ r ∧ r < 6
  · rw [s1_iff [] 200]
    simp (disch := omega) [sz_s, sz_0, gx_s, hx_r, hx_c, hx_b, hx_s, hx_i, hx_n, kx_s, kx_n, kx_i, cx_d, up_at, am_ctl, am_step, am_i1, am_i2, am_i2d, am_l1, am_l2, am_l2d, am_ldi, am_ldl, am_lda, am_sti, am_sta, am_stl, am_inc, am_i2l, am_l2i, am_lcmp, am_dup, am_dup2, am_pop1, am_fv, am_getf, am_putf, am_wr, am_ial, am_lal, am_bal, am_aal, am_ias, am_las, am_bas, am_alen, am_inst, am_cast, am_cpm, am_copy, am_tsw, am_pop, am_cat, am_cS, am_cI, am_cV, am_ri, am_rl, am_ra, am_rv, am_b1, am_b2, am_ent, am_en, am_isL, am_st1, am_st2, am_clr, am_cnd, cc_170, ac_170, nL_170, rb_170, np_163, ok_170_163, nL_163, np_160, ok_170_160, nL_160, vd_160_12, tg_12_3, tg_12_13, tg_12_2, List.getElem?_cons_succ, List.getElem?_cons_zero, nz_of, nzl_of, Int.toNat_add, Int.toNat_mul, tn_l, lt_t, lt_f, le_t, le_f, eq_t, eq_f, ltn_t, ltn_f, len_t, len_f, eqn_t, eqn_f, up_ne, up_up, sh_101, wm_isRow, h1.1, show r ≤ 5 by omega, show ¬ (0 ≤ t ∧ t ≤ 5) by omega]
  · rw [s1_iff [] 200]
    simp (disch := omega) [sz_s, sz_0, gx_s, hx_r, hx_c, hx_b, hx_s, hx_i, hx_n, kx_s, kx_n, kx_i, cx_d, up_at, am_ctl, am_step, am_i1, am_i2, am_i2d, am_l1, am_l2, am_l2d, am_ldi, am_ldl, am_lda, am_sti, am_sta, am_stl, am_inc, am_i2l, am_l2i, am_lcmp, am_dup, am_dup2, am_pop1, am_fv, am_getf, am_putf, am_wr, am_ial, am_lal, am_bal, am_aal, am_ias, am_las, am_bas, am_alen, am_inst, am_cast, am_cpm, am_copy, am_tsw, am_pop, am_cat, am_cS, am_cI, am_cV, am_ri, am_rl, am_ra, am_rv, am_b1, am_b2, am_ent, am_en, am_isL, am_st1, am_st2, am_clr, am_cnd, cc_170, ac_170, nL_170, rb_170, np_163, ok_170_163, nL_163, np_160, ok_170_160, nL_160, vd_160_12, tg_12_3, tg_12_13, tg_12_2, List.getElem?_cons_succ, List.getElem?_cons_zero, nz_of, nzl_of, Int.toNat_add, Int.toNat_mul, tn_l, lt_t, lt_f, le_t, le_f, eq_t, eq_f, ltn_t, ltn_f, len_t, len_f, eqn_t, eqn_f, up_ne, up_up, sh_101, wm_isRow, show ¬ (0 ≤ r ∧ r ≤ 5) by omega]
set_option maxRecDepth 100000 in
theorem wp_copy (r t : Nat) (i j n : Int) (hr : r < 6) (ht : t < 6) {μ : Nat → Nat → Int} (Rr : RW μ r) (Rt : RW μ t) (Φ : Option AV → ST → Prop) : wpM 83 [.inr (.inr (some 0)), .inl r, .inl i, .inl t, .inl j, .inl n] (S μ) Φ ↔ (if n < 0 then Φ (some (.inl (-3))) (S (xfind μ 5)) else if μ 105 r = -1 ∨ μ 105 t = -1 then Φ (some (.inl (-3))) (S (xfind μ 1)) else if (0 ≤ i ∧ i + n ≤ μ 105 r) ∧ 0 ≤ j ∧ j + n ≤ μ 105 t then Φ (some (.inl 1)) (S (xcopy μ r i.toNat t j.toNat n.toNat)) else Φ (some (.inl (-3))) (S (xfind μ 2))) := by
  obtain ⟨b1, b2, b3⟩ := id Rr
  obtain ⟨c1, c2, c3⟩ := id Rt
  obtain ⟨g1, g2, g3, g4⟩ := g_row r hr
  obtain ⟨f1, f2, f3, f4⟩ := g_row t ht
  have T1 := wp_isThere (46 + 2 * r) (by omega) g2
  have T2 := wp_isThere (46 + 2 * t) (by omega) f2
  have P1 := wp_hasPlaces (46 + 2 * r) i n (by omega) g2 μ
  have P2 := wp_hasPlaces (46 + 2 * t) j n (by omega) f2 μ
  rw [b2] at P1
  rw [c2] at P2
  by_cases n0 : n < 0
  · rw [if_pos n0]
    unfold wpM
    rw [s1_iff [] 200]
    simp (disch := omega) [sz_s, sz_0, gx_s, hx_r, hx_c, hx_b, hx_s, hx_i, hx_n, kx_s, kx_n, kx_i, cx_d, up_at, am_ctl, am_step, am_i1, am_i2, am_i2d, am_l1, am_l2, am_l2d, am_ldi, am_ldl, am_lda, am_sti, am_sta, am_stl, am_inc, am_i2l, am_l2i, am_lcmp, am_dup, am_dup2, am_pop1, am_fv, am_getf, am_putf, am_wr, am_ial, am_lal, am_bal, am_aal, am_ias, am_las, am_bas, am_alen, am_inst, am_cast, am_cpm, am_copy, am_tsw, am_pop, am_cat, am_cS, am_cI, am_cV, am_ri, am_rl, am_ra, am_rv, am_b1, am_b2, am_ent, am_en, am_isL, am_st1, am_st2, am_clr, am_cnd, cc_83, ac_83, nL_83, rb_83, np_129, ok_83_129, nL_129, np_56, ok_83_56, nL_56, vd_56_8, np_58, ok_83_58, nL_58, vd_58_8, np_133, ok_83_133, nL_133, vd_133_11, tg_11_0, tg_8_0, List.getElem?_cons_succ, List.getElem?_cons_zero, nz_of, nzl_of, Int.toNat_add, Int.toNat_mul, tn_l, lt_t, lt_f, le_t, le_f, eq_t, eq_f, ltn_t, ltn_f, len_t, len_f, eqn_t, eqn_f, up_ne, up_up, sh_0, wp_within, hr, ht, wp_find 5 (by decide), xfind]
  · rw [if_neg n0]
    by_cases z1 : μ 105 r = -1
    · rw [if_pos (Or.inl z1)]
      unfold wpM
      rw [s1_iff [] 200]
      simp (disch := omega) [sz_s, sz_0, gx_s, hx_r, hx_c, hx_b, hx_s, hx_i, hx_n, kx_s, kx_n, kx_i, cx_d, up_at, am_ctl, am_step, am_i1, am_i2, am_i2d, am_l1, am_l2, am_l2d, am_ldi, am_ldl, am_lda, am_sti, am_sta, am_stl, am_inc, am_i2l, am_l2i, am_lcmp, am_dup, am_dup2, am_pop1, am_fv, am_getf, am_putf, am_wr, am_ial, am_lal, am_bal, am_aal, am_ias, am_las, am_bas, am_alen, am_inst, am_cast, am_cpm, am_copy, am_tsw, am_pop, am_cat, am_cS, am_cI, am_cV, am_ri, am_rl, am_ra, am_rv, am_b1, am_b2, am_ent, am_en, am_isL, am_st1, am_st2, am_clr, am_cnd, cc_83, ac_83, nL_83, rb_83, np_129, ok_83_129, nL_129, np_56, ok_83_56, nL_56, vd_56_8, np_58, ok_83_58, nL_58, vd_58_8, np_133, ok_83_133, nL_133, vd_133_11, tg_11_0, tg_8_0, List.getElem?_cons_succ, List.getElem?_cons_zero, nz_of, nzl_of, Int.toNat_add, Int.toNat_mul, tn_l, lt_t, lt_f, le_t, le_f, eq_t, eq_f, ltn_t, ltn_f, len_t, len_f, eqn_t, eqn_f, up_ne, up_up, sh_0, sh_1, rf_0_0, wp_within, hr, ht, g1, g2, f1, f2, T1, T2, b2, c2, z1, wp_find 1 (by decide), xfind]
    · by_cases z2 : μ 105 t = -1
      · rw [if_pos (Or.inr z2)]
        unfold wpM
        rw [s1_iff [] 200]
        simp (disch := omega) [sz_s, sz_0, gx_s, hx_r, hx_c, hx_b, hx_s, hx_i, hx_n, kx_s, kx_n, kx_i, cx_d, up_at, am_ctl, am_step, am_i1, am_i2, am_i2d, am_l1, am_l2, am_l2d, am_ldi, am_ldl, am_lda, am_sti, am_sta, am_stl, am_inc, am_i2l, am_l2i, am_lcmp, am_dup, am_dup2, am_pop1, am_fv, am_getf, am_putf, am_wr, am_ial, am_lal, am_bal, am_aal, am_ias, am_las, am_bas, am_alen, am_inst, am_cast, am_cpm, am_copy, am_tsw, am_pop, am_cat, am_cS, am_cI, am_cV, am_ri, am_rl, am_ra, am_rv, am_b1, am_b2, am_ent, am_en, am_isL, am_st1, am_st2, am_clr, am_cnd, cc_83, ac_83, nL_83, rb_83, np_129, ok_83_129, nL_129, np_56, ok_83_56, nL_56, vd_56_8, np_58, ok_83_58, nL_58, vd_58_8, np_133, ok_83_133, nL_133, vd_133_11, tg_11_0, tg_8_0, List.getElem?_cons_succ, List.getElem?_cons_zero, nz_of, nzl_of, Int.toNat_add, Int.toNat_mul, tn_l, lt_t, lt_f, le_t, le_f, eq_t, eq_f, ltn_t, ltn_f, len_t, len_f, eqn_t, eqn_f, up_ne, up_up, sh_0, sh_1, rf_0_0, wp_within, hr, ht, g1, g2, f1, f2, T1, T2, b2, c2, z1, z2, wp_find 1 (by decide), xfind]
      · rw [if_neg (fun q => q.elim z1 z2)]
        by_cases y1 : 0 ≤ i ∧ i + n ≤ μ 105 r
        · rw [if_pos (by rw [nz_of (by omega) (by omega)]; omega)] at P1
          by_cases y2 : 0 ≤ j ∧ j + n ≤ μ 105 t
          · rw [if_pos ⟨y1, y2⟩]
            rw [if_pos (by rw [nz_of (by omega) (by omega)]; omega)] at P2
            obtain ⟨i, rfl⟩ : ∃ x : Nat, i = x := ⟨i.toNat, by omega⟩
            obtain ⟨j, rfl⟩ : ∃ x : Nat, j = x := ⟨j.toNat, by omega⟩
            obtain ⟨n, rfl⟩ : ∃ x : Nat, n = x := ⟨n.toNat, by omega⟩
            unfold wpM
            rw [s1_iff [] 200]
            simp (disch := omega) [sz_s, sz_0, gx_s, hx_r, hx_c, hx_b, hx_s, hx_i, hx_n, kx_s, kx_n, kx_i, cx_d, up_at, am_ctl, am_step, am_i1, am_i2, am_i2d, am_l1, am_l2, am_l2d, am_ldi, am_ldl, am_lda, am_sti, am_sta, am_stl, am_inc, am_i2l, am_l2i, am_lcmp, am_dup, am_dup2, am_pop1, am_fv, am_getf, am_putf, am_wr, am_ial, am_lal, am_bal, am_aal, am_ias, am_las, am_bas, am_alen, am_inst, am_cast, am_cpm, am_copy, am_tsw, am_pop, am_cat, am_cS, am_cI, am_cV, am_ri, am_rl, am_ra, am_rv, am_b1, am_b2, am_ent, am_en, am_isL, am_st1, am_st2, am_clr, am_cnd, cc_83, ac_83, nL_83, rb_83, np_129, ok_83_129, nL_129, np_56, ok_83_56, nL_56, vd_56_8, np_58, ok_83_58, nL_58, vd_58_8, np_133, ok_83_133, nL_133, vd_133_11, tg_11_0, tg_8_0, List.getElem?_cons_succ, List.getElem?_cons_zero, nz_of, nzl_of, Int.toNat_add, Int.toNat_mul, tn_l, lt_t, lt_f, le_t, le_f, eq_t, eq_f, ltn_t, ltn_f, len_t, len_f, eqn_t, eqn_f, up_ne, up_up, sh_0, sh_1, rf_0_0, wp_within, hr, ht, g1, g2, g3, g4, f1, f2, f3, f4, T1, T2, b2, c2, z1, z2, P1, P2, xcopy, rfz]
          · rw [if_neg (fun q => y2 q.2)]
            have w2 : ¬ (0 ≤ j ∧ j ≤ μ 105 t ∧ n ≤ nz (μ 105 t - j)) := fun q => by
              rw [nz_of (by omega) (by omega)] at q
              exact y2 ⟨by omega, by omega⟩
            rw [if_neg w2] at P2
            unfold wpM
            rw [s1_iff [] 200]
            simp (disch := omega) [sz_s, sz_0, gx_s, hx_r, hx_c, hx_b, hx_s, hx_i, hx_n, kx_s, kx_n, kx_i, cx_d, up_at, am_ctl, am_step, am_i1, am_i2, am_i2d, am_l1, am_l2, am_l2d, am_ldi, am_ldl, am_lda, am_sti, am_sta, am_stl, am_inc, am_i2l, am_l2i, am_lcmp, am_dup, am_dup2, am_pop1, am_fv, am_getf, am_putf, am_wr, am_ial, am_lal, am_bal, am_aal, am_ias, am_las, am_bas, am_alen, am_inst, am_cast, am_cpm, am_copy, am_tsw, am_pop, am_cat, am_cS, am_cI, am_cV, am_ri, am_rl, am_ra, am_rv, am_b1, am_b2, am_ent, am_en, am_isL, am_st1, am_st2, am_clr, am_cnd, cc_83, ac_83, nL_83, rb_83, np_129, ok_83_129, nL_129, np_56, ok_83_56, nL_56, vd_56_8, np_58, ok_83_58, nL_58, vd_58_8, np_133, ok_83_133, nL_133, vd_133_11, tg_11_0, tg_8_0, List.getElem?_cons_succ, List.getElem?_cons_zero, nz_of, nzl_of, Int.toNat_add, Int.toNat_mul, tn_l, lt_t, lt_f, le_t, le_f, eq_t, eq_f, ltn_t, ltn_f, len_t, len_f, eqn_t, eqn_f, up_ne, up_up, sh_0, sh_1, rf_0_0, wp_within, hr, ht, g1, g2, f1, f2, T1, T2, b2, c2, z1, z2, P1, P2, wp_find 2 (by decide), xfind]
        · rw [if_neg (fun q => y1 q.1)]
          have w1 : ¬ (0 ≤ i ∧ i ≤ μ 105 r ∧ n ≤ nz (μ 105 r - i)) := fun q => by
            rw [nz_of (by omega) (by omega)] at q
            exact y1 ⟨by omega, by omega⟩
          rw [if_neg w1] at P1
          unfold wpM
          rw [s1_iff [] 200]
          simp (disch := omega) [sz_s, sz_0, gx_s, hx_r, hx_c, hx_b, hx_s, hx_i, hx_n, kx_s, kx_n, kx_i, cx_d, up_at, am_ctl, am_step, am_i1, am_i2, am_i2d, am_l1, am_l2, am_l2d, am_ldi, am_ldl, am_lda, am_sti, am_sta, am_stl, am_inc, am_i2l, am_l2i, am_lcmp, am_dup, am_dup2, am_pop1, am_fv, am_getf, am_putf, am_wr, am_ial, am_lal, am_bal, am_aal, am_ias, am_las, am_bas, am_alen, am_inst, am_cast, am_cpm, am_copy, am_tsw, am_pop, am_cat, am_cS, am_cI, am_cV, am_ri, am_rl, am_ra, am_rv, am_b1, am_b2, am_ent, am_en, am_isL, am_st1, am_st2, am_clr, am_cnd, cc_83, ac_83, nL_83, rb_83, np_129, ok_83_129, nL_129, np_56, ok_83_56, nL_56, vd_56_8, np_58, ok_83_58, nL_58, vd_58_8, np_133, ok_83_133, nL_133, vd_133_11, tg_11_0, tg_8_0, List.getElem?_cons_succ, List.getElem?_cons_zero, nz_of, nzl_of, Int.toNat_add, Int.toNat_mul, tn_l, lt_t, lt_f, le_t, le_f, eq_t, eq_f, ltn_t, ltn_f, len_t, len_f, eqn_t, eqn_f, up_ne, up_up, sh_0, sh_1, rf_0_0, wp_within, hr, ht, g1, g2, f1, f2, T1, T2, b2, c2, z1, z2, P1, wp_find 2 (by decide), xfind]
set_option maxRecDepth 100000 in
theorem wm_copy (r t : Nat) (i j n : Int) (hr : r < 6) (ht : t < 6) {μ : Nat → Nat → Int} (hi : -2147483648 ≤ i ∧ i < 2147483648) (hj : -2147483648 ≤ j ∧ j < 2147483648) (hn : -2147483648 ≤ n ∧ n < 2147483648) (b1 : -1 ≤ μ 105 r ∧ μ 105 r ≤ 60) (c1 : -1 ≤ μ 105 t ∧ μ 105 t ≤ 60) (Φ : Option AV → ST → Prop) : wpM 170 [.inr (.inr (some 101)), .inl r, .inl i, .inl t, .inl j, .inl n] (S μ) Φ ↔ (if n < 0 then Φ (some (.inl (-3))) (S (mfind μ 5)) else if μ 105 r = -1 ∨ μ 105 t = -1 then Φ (some (.inl (-3))) (S (mfind μ 1)) else if (0 ≤ i ∧ i + n ≤ μ 105 r) ∧ 0 ≤ j ∧ j + n ≤ μ 105 t then Φ (some (.inl 1)) (S (mcopy μ r i.toNat t j.toNat n.toNat)) else Φ (some (.inl (-3))) (S (mfind μ 2))) := by
  by_cases n0 : n < 0
  · rw [if_pos n0]
    unfold wpM
    rw [s1_iff [] 200]
    simp (disch := omega) [sz_s, sz_0, gx_s, hx_r, hx_c, hx_b, hx_s, hx_i, hx_n, kx_s, kx_n, kx_i, cx_d, up_at, am_ctl, am_step, am_i1, am_i2, am_i2d, am_l1, am_l2, am_l2d, am_ldi, am_ldl, am_lda, am_sti, am_sta, am_stl, am_inc, am_i2l, am_l2i, am_lcmp, am_dup, am_dup2, am_pop1, am_fv, am_getf, am_putf, am_wr, am_ial, am_lal, am_bal, am_aal, am_ias, am_las, am_bas, am_alen, am_inst, am_cast, am_cpm, am_copy, am_tsw, am_pop, am_cat, am_cS, am_cI, am_cV, am_ri, am_rl, am_ra, am_rv, am_b1, am_b2, am_ent, am_en, am_isL, am_st1, am_st2, am_clr, am_cnd, cc_170, ac_170, nL_170, rb_170, np_163, ok_170_163, nL_163, np_160, ok_170_160, nL_160, vd_160_12, tg_12_3, tg_12_13, tg_12_2, List.getElem?_cons_succ, List.getElem?_cons_zero, nz_of, nzl_of, Int.toNat_add, Int.toNat_mul, tn_l, lt_t, lt_f, le_t, le_f, eq_t, eq_f, ltn_t, ltn_f, len_t, len_f, eqn_t, eqn_f, up_ne, up_up, sh_101, wm_isRow, wm_met 5 (by decide), mfind]
  · rw [if_neg n0]
    by_cases z1 : μ 105 r = -1
    · rw [if_pos (Or.inl z1)]
      unfold wpM
      rw [s1_iff [] 200]
      simp (disch := omega) [sz_s, sz_0, gx_s, hx_r, hx_c, hx_b, hx_s, hx_i, hx_n, kx_s, kx_n, kx_i, cx_d, up_at, am_ctl, am_step, am_i1, am_i2, am_i2d, am_l1, am_l2, am_l2d, am_ldi, am_ldl, am_lda, am_sti, am_sta, am_stl, am_inc, am_i2l, am_l2i, am_lcmp, am_dup, am_dup2, am_pop1, am_fv, am_getf, am_putf, am_wr, am_ial, am_lal, am_bal, am_aal, am_ias, am_las, am_bas, am_alen, am_inst, am_cast, am_cpm, am_copy, am_tsw, am_pop, am_cat, am_cS, am_cI, am_cV, am_ri, am_rl, am_ra, am_rv, am_b1, am_b2, am_ent, am_en, am_isL, am_st1, am_st2, am_clr, am_cnd, cc_170, ac_170, nL_170, rb_170, np_163, ok_170_163, nL_163, np_160, ok_170_160, nL_160, vd_160_12, tg_12_3, tg_12_13, tg_12_2, List.getElem?_cons_succ, List.getElem?_cons_zero, nz_of, nzl_of, Int.toNat_add, Int.toNat_mul, tn_l, lt_t, lt_f, le_t, le_f, eq_t, eq_f, ltn_t, ltn_f, len_t, len_f, eqn_t, eqn_f, up_ne, up_up, sh_101, sh_105, rf_101_3, wm_isRow, z1, wm_met 1 (by decide), mfind]
    · by_cases z2 : μ 105 t = -1
      · rw [if_pos (Or.inr z2)]
        unfold wpM
        rw [s1_iff [] 200]
        simp (disch := omega) [sz_s, sz_0, gx_s, hx_r, hx_c, hx_b, hx_s, hx_i, hx_n, kx_s, kx_n, kx_i, cx_d, up_at, am_ctl, am_step, am_i1, am_i2, am_i2d, am_l1, am_l2, am_l2d, am_ldi, am_ldl, am_lda, am_sti, am_sta, am_stl, am_inc, am_i2l, am_l2i, am_lcmp, am_dup, am_dup2, am_pop1, am_fv, am_getf, am_putf, am_wr, am_ial, am_lal, am_bal, am_aal, am_ias, am_las, am_bas, am_alen, am_inst, am_cast, am_cpm, am_copy, am_tsw, am_pop, am_cat, am_cS, am_cI, am_cV, am_ri, am_rl, am_ra, am_rv, am_b1, am_b2, am_ent, am_en, am_isL, am_st1, am_st2, am_clr, am_cnd, cc_170, ac_170, nL_170, rb_170, np_163, ok_170_163, nL_163, np_160, ok_170_160, nL_160, vd_160_12, tg_12_3, tg_12_13, tg_12_2, List.getElem?_cons_succ, List.getElem?_cons_zero, nz_of, nzl_of, Int.toNat_add, Int.toNat_mul, tn_l, lt_t, lt_f, le_t, le_f, eq_t, eq_f, ltn_t, ltn_f, len_t, len_f, eqn_t, eqn_f, up_ne, up_up, sh_101, sh_105, rf_101_3, wm_isRow, z1, z2, wm_met 1 (by decide), mfind]
      · rw [if_neg (fun q => q.elim z1 z2)]
        by_cases y : (0 ≤ i ∧ i + n ≤ μ 105 r) ∧ 0 ≤ j ∧ j + n ≤ μ 105 t
        · rw [if_pos y]
          obtain ⟨i, rfl⟩ : ∃ x : Nat, i = x := ⟨i.toNat, by omega⟩
          obtain ⟨j, rfl⟩ : ∃ x : Nat, j = x := ⟨j.toNat, by omega⟩
          obtain ⟨n, rfl⟩ : ∃ x : Nat, n = x := ⟨n.toNat, by omega⟩
          simp only [Int.toNat_natCast]
          have step1 : ∀ k, k < n → ((fun k : Nat => wpS 170 104 [some (.inr (.inr (some 101))), some (.inl r), some (.inl i), some (.inl t), some (.inl j), some (.inl n), some (.inl k)] [] (S (hcopy μ r i k)) Φ) k ↔ (fun k : Nat => wpS 170 104 [some (.inr (.inr (some 101))), some (.inl r), some (.inl i), some (.inl t), some (.inl j), some (.inl n), some (.inl k)] [] (S (hcopy μ r i k)) Φ) (k + 1)) := by
            intro k hk
            dsimp only
            rw [s1_iff [104] 200]
            simp (disch := omega) [sz_s, sz_0, gx_s, hx_r, hx_c, hx_b, hx_s, hx_i, hx_n, kx_s, kx_n, kx_i, cx_d, up_at, am_ctl, am_step, am_i1, am_i2, am_i2d, am_l1, am_l2, am_l2d, am_ldi, am_ldl, am_lda, am_sti, am_sta, am_stl, am_inc, am_i2l, am_l2i, am_lcmp, am_dup, am_dup2, am_pop1, am_fv, am_getf, am_putf, am_wr, am_ial, am_lal, am_bal, am_aal, am_ias, am_las, am_bas, am_alen, am_inst, am_cast, am_cpm, am_copy, am_tsw, am_pop, am_cat, am_cS, am_cI, am_cV, am_ri, am_rl, am_ra, am_rv, am_b1, am_b2, am_ent, am_en, am_isL, am_st1, am_st2, am_clr, am_cnd, cc_170, ac_170, nL_170, rb_170, np_163, ok_170_163, nL_163, np_160, ok_170_160, nL_160, vd_160_12, tg_12_3, tg_12_13, tg_12_2, List.getElem?_cons_succ, List.getElem?_cons_zero, nz_of, nzl_of, Int.toNat_add, Int.toNat_mul, tn_l, lt_t, lt_f, le_t, le_f, eq_t, eq_f, ltn_t, ltn_f, len_t, len_f, eqn_t, eqn_f, up_ne, up_up, sh_101, sh_104, sh_110, rf_101_2, rf_101_13, hcopy_104, hcopy_s, hk]
          have step2 : ∀ k, k < n → ((fun k : Nat => wpS 170 141 [some (.inr (.inr (some 101))), some (.inl r), some (.inl i), some (.inl t), some (.inl j), some (.inl n), some (.inl k)] [] (S (rfz (hcopy μ r i n) 104 (60 * t + j) k (fun k => μ 104 (60 * r + i + k)))) Φ) k ↔ (fun k : Nat => wpS 170 141 [some (.inr (.inr (some 101))), some (.inl r), some (.inl i), some (.inl t), some (.inl j), some (.inl n), some (.inl k)] [] (S (rfz (hcopy μ r i n) 104 (60 * t + j) k (fun k => μ 104 (60 * r + i + k)))) Φ) (k + 1)) := by
            intro k hk
            have e1 : rfz (hcopy μ r i n) 104 (60 * t + j) k (fun k => μ 104 (60 * r + i + k)) 110 k = μ 104 (60 * r + i + k) := by
              rw [rfz_ne _ _ _ _ _ _ (by decide), hcopy_110 _ _ _ _ _ hk]
            have e2 := rfz_s (hcopy μ r i n) 104 (60 * t + j) k (fun k => μ 104 (60 * r + i + k))
            dsimp only at e2 ⊢
            rw [s1_iff [141] 200]
            simp (disch := omega) [sz_s, sz_0, gx_s, hx_r, hx_c, hx_b, hx_s, hx_i, hx_n, kx_s, kx_n, kx_i, cx_d, up_at, am_ctl, am_step, am_i1, am_i2, am_i2d, am_l1, am_l2, am_l2d, am_ldi, am_ldl, am_lda, am_sti, am_sta, am_stl, am_inc, am_i2l, am_l2i, am_lcmp, am_dup, am_dup2, am_pop1, am_fv, am_getf, am_putf, am_wr, am_ial, am_lal, am_bal, am_aal, am_ias, am_las, am_bas, am_alen, am_inst, am_cast, am_cpm, am_copy, am_tsw, am_pop, am_cat, am_cS, am_cI, am_cV, am_ri, am_rl, am_ra, am_rv, am_b1, am_b2, am_ent, am_en, am_isL, am_st1, am_st2, am_clr, am_cnd, cc_170, ac_170, nL_170, rb_170, np_163, ok_170_163, nL_163, np_160, ok_170_160, nL_160, vd_160_12, tg_12_3, tg_12_13, tg_12_2, List.getElem?_cons_succ, List.getElem?_cons_zero, nz_of, nzl_of, Int.toNat_add, Int.toNat_mul, tn_l, lt_t, lt_f, le_t, le_f, eq_t, eq_f, ltn_t, ltn_f, len_t, len_f, eqn_t, eqn_f, up_ne, up_up, sh_101, sh_104, sh_110, rf_101_2, rf_101_13, e1, e2, hk]
          have s1 := up_iff _ n step1
          have s2 := up_iff _ n step2
          have h0 : hcopy μ r i 0 = μ := rfz_0 _ _ _ _
          rw [h0] at s1
          rw [rfz_0] at s2
          unfold wpM
          rw [s1_iff [104] 200]
          simp (disch := omega) [sz_s, sz_0, gx_s, hx_r, hx_c, hx_b, hx_s, hx_i, hx_n, kx_s, kx_n, kx_i, cx_d, up_at, am_ctl, am_step, am_i1, am_i2, am_i2d, am_l1, am_l2, am_l2d, am_ldi, am_ldl, am_lda, am_sti, am_sta, am_stl, am_inc, am_i2l, am_l2i, am_lcmp, am_dup, am_dup2, am_pop1, am_fv, am_getf, am_putf, am_wr, am_ial, am_lal, am_bal, am_aal, am_ias, am_las, am_bas, am_alen, am_inst, am_cast, am_cpm, am_copy, am_tsw, am_pop, am_cat, am_cS, am_cI, am_cV, am_ri, am_rl, am_ra, am_rv, am_b1, am_b2, am_ent, am_en, am_isL, am_st1, am_st2, am_clr, am_cnd, cc_170, ac_170, nL_170, rb_170, np_163, ok_170_163, nL_163, np_160, ok_170_160, nL_160, vd_160_12, tg_12_3, tg_12_13, tg_12_2, List.getElem?_cons_succ, List.getElem?_cons_zero, nz_of, nzl_of, Int.toNat_add, Int.toNat_mul, tn_l, lt_t, lt_f, le_t, le_f, eq_t, eq_f, ltn_t, ltn_f, len_t, len_f, eqn_t, eqn_f, up_ne, up_up, sh_101, sh_105, rf_101_3, wm_isRow, am_cmp]
          refine s1.trans ?_
          rw [s1_iff [104, 141] 200]
          simp (disch := omega) [sz_s, sz_0, gx_s, hx_r, hx_c, hx_b, hx_s, hx_i, hx_n, kx_s, kx_n, kx_i, cx_d, up_at, am_ctl, am_step, am_i1, am_i2, am_i2d, am_l1, am_l2, am_l2d, am_ldi, am_ldl, am_lda, am_sti, am_sta, am_stl, am_inc, am_i2l, am_l2i, am_lcmp, am_dup, am_dup2, am_pop1, am_fv, am_getf, am_putf, am_wr, am_ial, am_lal, am_bal, am_aal, am_ias, am_las, am_bas, am_alen, am_inst, am_cast, am_cpm, am_copy, am_tsw, am_pop, am_cat, am_cS, am_cI, am_cV, am_ri, am_rl, am_ra, am_rv, am_b1, am_b2, am_ent, am_en, am_isL, am_st1, am_st2, am_clr, am_cnd, cc_170, ac_170, nL_170, rb_170, np_163, ok_170_163, nL_163, np_160, ok_170_160, nL_160, vd_160_12, tg_12_3, tg_12_13, tg_12_2, List.getElem?_cons_succ, List.getElem?_cons_zero, nz_of, nzl_of, Int.toNat_add, Int.toNat_mul, tn_l, lt_t, lt_f, le_t, le_f, eq_t, eq_f, ltn_t, ltn_f, len_t, len_f, eqn_t, eqn_f, up_ne, up_up, sh_101]
          refine s2.trans ?_
          rw [s1_iff [141] 200]
          simp (disch := omega) [sz_s, sz_0, gx_s, hx_r, hx_c, hx_b, hx_s, hx_i, hx_n, kx_s, kx_n, kx_i, cx_d, up_at, am_ctl, am_step, am_i1, am_i2, am_i2d, am_l1, am_l2, am_l2d, am_ldi, am_ldl, am_lda, am_sti, am_sta, am_stl, am_inc, am_i2l, am_l2i, am_lcmp, am_dup, am_dup2, am_pop1, am_fv, am_getf, am_putf, am_wr, am_ial, am_lal, am_bal, am_aal, am_ias, am_las, am_bas, am_alen, am_inst, am_cast, am_cpm, am_copy, am_tsw, am_pop, am_cat, am_cS, am_cI, am_cV, am_ri, am_rl, am_ra, am_rv, am_b1, am_b2, am_ent, am_en, am_isL, am_st1, am_st2, am_clr, am_cnd, cc_170, ac_170, nL_170, rb_170, np_163, ok_170_163, nL_163, np_160, ok_170_160, nL_160, vd_160_12, tg_12_3, tg_12_13, tg_12_2, List.getElem?_cons_succ, List.getElem?_cons_zero, nz_of, nzl_of, Int.toNat_add, Int.toNat_mul, tn_l, lt_t, lt_f, le_t, le_f, eq_t, eq_f, ltn_t, ltn_f, len_t, len_f, eqn_t, eqn_f, up_ne, up_up, sh_101, mcopy]
        · rw [if_neg y]
          unfold wpM
          by_cases q1 : i < 0
          · rw [s1_iff [] 200]
            simp (disch := omega) [sz_s, sz_0, gx_s, hx_r, hx_c, hx_b, hx_s, hx_i, hx_n, kx_s, kx_n, kx_i, cx_d, up_at, am_ctl, am_step, am_i1, am_i2, am_i2d, am_l1, am_l2, am_l2d, am_ldi, am_ldl, am_lda, am_sti, am_sta, am_stl, am_inc, am_i2l, am_l2i, am_lcmp, am_dup, am_dup2, am_pop1, am_fv, am_getf, am_putf, am_wr, am_ial, am_lal, am_bal, am_aal, am_ias, am_las, am_bas, am_alen, am_inst, am_cast, am_cpm, am_copy, am_tsw, am_pop, am_cat, am_cS, am_cI, am_cV, am_ri, am_rl, am_ra, am_rv, am_b1, am_b2, am_ent, am_en, am_isL, am_st1, am_st2, am_clr, am_cnd, cc_170, ac_170, nL_170, rb_170, np_163, ok_170_163, nL_163, np_160, ok_170_160, nL_160, vd_160_12, tg_12_3, tg_12_13, tg_12_2, List.getElem?_cons_succ, List.getElem?_cons_zero, nz_of, nzl_of, Int.toNat_add, Int.toNat_mul, tn_l, lt_t, lt_f, le_t, le_f, eq_t, eq_f, ltn_t, ltn_f, len_t, len_f, eqn_t, eqn_f, up_ne, up_up, sh_101, sh_105, rf_101_3, wm_isRow, am_cmp, wm_met 2 (by decide), mfind]
          · by_cases q2 : j < 0
            · rw [s1_iff [] 200]
              simp (disch := omega) [sz_s, sz_0, gx_s, hx_r, hx_c, hx_b, hx_s, hx_i, hx_n, kx_s, kx_n, kx_i, cx_d, up_at, am_ctl, am_step, am_i1, am_i2, am_i2d, am_l1, am_l2, am_l2d, am_ldi, am_ldl, am_lda, am_sti, am_sta, am_stl, am_inc, am_i2l, am_l2i, am_lcmp, am_dup, am_dup2, am_pop1, am_fv, am_getf, am_putf, am_wr, am_ial, am_lal, am_bal, am_aal, am_ias, am_las, am_bas, am_alen, am_inst, am_cast, am_cpm, am_copy, am_tsw, am_pop, am_cat, am_cS, am_cI, am_cV, am_ri, am_rl, am_ra, am_rv, am_b1, am_b2, am_ent, am_en, am_isL, am_st1, am_st2, am_clr, am_cnd, cc_170, ac_170, nL_170, rb_170, np_163, ok_170_163, nL_163, np_160, ok_170_160, nL_160, vd_160_12, tg_12_3, tg_12_13, tg_12_2, List.getElem?_cons_succ, List.getElem?_cons_zero, nz_of, nzl_of, Int.toNat_add, Int.toNat_mul, tn_l, lt_t, lt_f, le_t, le_f, eq_t, eq_f, ltn_t, ltn_f, len_t, len_f, eqn_t, eqn_f, up_ne, up_up, sh_101, sh_105, rf_101_3, wm_isRow, am_cmp, wm_met 2 (by decide), mfind]
            · by_cases q3 : i + n ≤ μ 105 r
              · by_cases q5 : i + n = μ 105 r
                · rw [s1_iff [] 200]
                  simp (disch := omega) [sz_s, sz_0, gx_s, hx_r, hx_c, hx_b, hx_s, hx_i, hx_n, kx_s, kx_n, kx_i, cx_d, up_at, am_ctl, am_step, am_i1, am_i2, am_i2d, am_l1, am_l2, am_l2d, am_ldi, am_ldl, am_lda, am_sti, am_sta, am_stl, am_inc, am_i2l, am_l2i, am_lcmp, am_dup, am_dup2, am_pop1, am_fv, am_getf, am_putf, am_wr, am_ial, am_lal, am_bal, am_aal, am_ias, am_las, am_bas, am_alen, am_inst, am_cast, am_cpm, am_copy, am_tsw, am_pop, am_cat, am_cS, am_cI, am_cV, am_ri, am_rl, am_ra, am_rv, am_b1, am_b2, am_ent, am_en, am_isL, am_st1, am_st2, am_clr, am_cnd, cc_170, ac_170, nL_170, rb_170, np_163, ok_170_163, nL_163, np_160, ok_170_160, nL_160, vd_160_12, tg_12_3, tg_12_13, tg_12_2, List.getElem?_cons_succ, List.getElem?_cons_zero, nz_of, nzl_of, Int.toNat_add, Int.toNat_mul, tn_l, lt_t, lt_f, le_t, le_f, eq_t, eq_f, ltn_t, ltn_f, len_t, len_f, eqn_t, eqn_f, up_ne, up_up, sh_101, sh_105, rf_101_3, wm_isRow, am_cmp, wm_met 2 (by decide), mfind]
                · rw [s1_iff [] 200]
                  simp (disch := omega) [sz_s, sz_0, gx_s, hx_r, hx_c, hx_b, hx_s, hx_i, hx_n, kx_s, kx_n, kx_i, cx_d, up_at, am_ctl, am_step, am_i1, am_i2, am_i2d, am_l1, am_l2, am_l2d, am_ldi, am_ldl, am_lda, am_sti, am_sta, am_stl, am_inc, am_i2l, am_l2i, am_lcmp, am_dup, am_dup2, am_pop1, am_fv, am_getf, am_putf, am_wr, am_ial, am_lal, am_bal, am_aal, am_ias, am_las, am_bas, am_alen, am_inst, am_cast, am_cpm, am_copy, am_tsw, am_pop, am_cat, am_cS, am_cI, am_cV, am_ri, am_rl, am_ra, am_rv, am_b1, am_b2, am_ent, am_en, am_isL, am_st1, am_st2, am_clr, am_cnd, cc_170, ac_170, nL_170, rb_170, np_163, ok_170_163, nL_163, np_160, ok_170_160, nL_160, vd_160_12, tg_12_3, tg_12_13, tg_12_2, List.getElem?_cons_succ, List.getElem?_cons_zero, nz_of, nzl_of, Int.toNat_add, Int.toNat_mul, tn_l, lt_t, lt_f, le_t, le_f, eq_t, eq_f, ltn_t, ltn_f, len_t, len_f, eqn_t, eqn_f, up_ne, up_up, sh_101, sh_105, rf_101_3, wm_isRow, am_cmp, wm_met 2 (by decide), mfind]
              · rw [s1_iff [] 200]
                simp (disch := omega) [sz_s, sz_0, gx_s, hx_r, hx_c, hx_b, hx_s, hx_i, hx_n, kx_s, kx_n, kx_i, cx_d, up_at, am_ctl, am_step, am_i1, am_i2, am_i2d, am_l1, am_l2, am_l2d, am_ldi, am_ldl, am_lda, am_sti, am_sta, am_stl, am_inc, am_i2l, am_l2i, am_lcmp, am_dup, am_dup2, am_pop1, am_fv, am_getf, am_putf, am_wr, am_ial, am_lal, am_bal, am_aal, am_ias, am_las, am_bas, am_alen, am_inst, am_cast, am_cpm, am_copy, am_tsw, am_pop, am_cat, am_cS, am_cI, am_cV, am_ri, am_rl, am_ra, am_rv, am_b1, am_b2, am_ent, am_en, am_isL, am_st1, am_st2, am_clr, am_cnd, cc_170, ac_170, nL_170, rb_170, np_163, ok_170_163, nL_163, np_160, ok_170_160, nL_160, vd_160_12, tg_12_3, tg_12_13, tg_12_2, List.getElem?_cons_succ, List.getElem?_cons_zero, nz_of, nzl_of, Int.toNat_add, Int.toNat_mul, tn_l, lt_t, lt_f, le_t, le_f, eq_t, eq_f, ltn_t, ltn_f, len_t, len_f, eqn_t, eqn_f, up_ne, up_up, sh_101, sh_105, rf_101_3, wm_isRow, am_cmp, wm_met 2 (by decide), mfind]
theorem inv_copy {B : Int} {μ : Nat → Nat → Int} (h : INV B μ) (r i t j n : Nat) (hr : r < 6) (ht : t < 6) (h1 : (i : Int) + n ≤ μ 105 r) (h2 : (j : Int) + n ≤ μ 105 t) : INV B (mcopy (xcopy μ r i t j n) r i t j n) := by
  have lo : ∀ k, ¬ k = 47 + 2 * t → ¬ k = 104 → ¬ k = 110 → mcopy (xcopy μ r i t j n) r i t j n k = μ k := fun k q1 q2 q3 => by
    unfold mcopy hcopy xcopy
    rw [rfz_ne _ _ _ _ _ _ q2, rfz_ne _ _ _ _ _ _ q3, rfz_ne _ _ _ _ _ _ q1]
  have x104 : xcopy μ r i t j n 104 = μ 104 := rfz_ne _ _ _ _ _ _ (by omega)
  have e104 : ∀ q, mcopy (xcopy μ r i t j n) r i t j n 104 q = if 60 * t + j ≤ q ∧ q < 60 * t + j + n then μ 104 (60 * r + i + (q - (60 * t + j))) else μ 104 q := fun q => by
    unfold mcopy
    rw [rfz_at, hcopy_104, x104]
  have et : ∀ q, mcopy (xcopy μ r i t j n) r i t j n (47 + 2 * t) q = if j ≤ q ∧ q < j + n then μ (47 + 2 * r) (i + (q - j)) else μ (47 + 2 * t) q := fun q => by
    unfold mcopy hcopy
    rw [rfz_ne _ _ _ _ _ _ (by omega), rfz_ne _ _ _ _ _ _ (by omega)]
    unfold xcopy
    rw [rfz_at]
  generalize mcopy (xcopy μ r i t j n) r i t j n = ν at *
  obtain ⟨ha, hI, htt, hq⟩ := h
  refine ⟨?_, fun q hq => ?_, I_t_of htt (fun k i hk => by rw [lo k (by omega) (by omega) (by omega)]), I_q_of hq (fun k i hk => by rw [lo k (by omega) (by omega) (by omega)])⟩
  · obtain ⟨a1, a2, a3, a4, a5⟩ := ha
    unfold I_a
    rw [lo 0 (by omega) (by omega) (by omega), lo 101 (by omega) (by omega) (by omega), lo 45 (by omega) (by omega) (by omega), lo 108 (by omega) (by omega) (by omega)]
    exact ⟨a1, a2, a3, a4, a5⟩
  · obtain ⟨b1, b2, b3⟩ := hI q hq
    obtain ⟨c1, c2, c3⟩ := hI r hr
    obtain ⟨d1, d2, d3⟩ := hI t ht
    rw [lo 105 (by omega) (by omega) (by omega), lo (46 + 2 * q) (by omega) (by omega) (by omega)]
    refine ⟨b1, b2, fun k hk => ?_⟩
    by_cases e : q = t
    · subst e
      rw [et, e104]
      by_cases z : j ≤ k ∧ k < j + n
      · rw [if_pos z, if_pos (by omega), show 60 * r + i + (60 * q + k - (60 * q + j)) = 60 * r + (i + (k - j)) by omega]
        exact c3 (i + (k - j)) (by omega)
      · rw [if_neg z, if_neg (by omega)]
        exact b3 k hk
    · rw [lo (47 + 2 * q) (by omega) (by omega) (by omega), e104, if_neg (by omega)]
      exact b3 k hk
theorem eq_copy {B : Int} {μ : Nat → Nat → Int} (h : INV B μ) (r i t j n : Int) (hi : nz i = i) (hj : nz j = j) (hn : nz n = n) : EQV B μ 83 170 [.inl r, .inl i, .inl t, .inl j, .inl n] := by
  have hi := nz_rng.mp hi
  have hj := nz_rng.mp hj
  have hn := nz_rng.mp hn
  unfold EQV
  by_cases hx : (0 ≤ r ∧ r < 6) ∧ 0 ≤ t ∧ t < 6
  · obtain ⟨r, rfl⟩ : ∃ n : Nat, r = n := ⟨r.toNat, by omega⟩
    obtain ⟨t, rfl⟩ : ∃ n : Nat, t = n := ⟨t.toNat, by omega⟩
    have hr : r < 6 := by omega
    have ht : t < 6 := by omega
    have Rr := row_of h hr
    have Rt := row_of h ht
    have x5 : ∀ f, xfind μ f 105 = μ 105 := fun f => xf_102 _ _ 105 (by decide) (by decide)
    rw [wp_copy r t i j n hr ht Rr Rt]
    by_cases n0 : n < 0
    · rw [if_pos n0]
      refine ⟨_, _, rfl, rfl, ?_⟩
      rw [wm_copy r t i j n hr ht hi hj hn (by rw [x5]; exact Rr.1) (by rw [x5]; exact Rt.1), if_pos n0]
      exact ⟨rfl, _, rfl, inv_find h 5 (by decide)⟩
    · rw [if_neg n0]
      by_cases z : μ 105 r = -1 ∨ μ 105 t = -1
      · rw [if_pos z]
        refine ⟨_, _, rfl, rfl, ?_⟩
        rw [wm_copy r t i j n hr ht hi hj hn (by rw [x5]; exact Rr.1) (by rw [x5]; exact Rt.1), x5, if_neg n0, if_pos z]
        exact ⟨rfl, _, rfl, inv_find h 1 (by decide)⟩
      · rw [if_neg z]
        by_cases y : (0 ≤ i ∧ i + n ≤ μ 105 r) ∧ 0 ≤ j ∧ j + n ≤ μ 105 t
        · rw [if_pos y]
          refine ⟨_, _, rfl, rfl, ?_⟩
          have x : xcopy μ r i.toNat t j.toNat n.toNat 105 = μ 105 := rfz_ne _ _ _ _ _ _ (by omega)
          rw [wm_copy r t i j n hr ht hi hj hn (by rw [x]; exact Rr.1) (by rw [x]; exact Rt.1), x, if_neg n0, if_neg z, if_pos y]
          exact ⟨rfl, _, rfl, inv_copy h r i.toNat t j.toNat n.toNat hr ht (by omega) (by omega)⟩
        · rw [if_neg y]
          refine ⟨_, _, rfl, rfl, ?_⟩
          rw [wm_copy r t i j n hr ht hi hj hn (by rw [x5]; exact Rr.1) (by rw [x5]; exact Rt.1), x5, if_neg n0, if_neg z, if_neg y]
          exact ⟨rfl, _, rfl, inv_find h 2 (by decide)⟩
  · rw [wp_copy_no r i t j n hx]
    refine ⟨_, _, rfl, rfl, ?_⟩
    rw [wm_copy_no r i t j n hx]
    exact ⟨rfl, _, rfl, h⟩
