/-! house, hands, sack, was, gains, lost: of both sides -/
theorem up_ne {α : Type} (f : Nat → Nat → α) {a b : Nat} (i : Nat) (v : α) (h : ¬ b = a) : am_up f a i v b = f b := by
  funext j; simp [am_up, h]
theorem LD_up {B : Int} {μ : Nat → Nat → Int} (hL : LD B μ 73 0) (k i : Nat) (v : Int) (h1 : ¬ k = 102) (h2 : ¬ (73 ≤ k ∧ k ≤ 79)) : LD B (am_up μ k i v) 73 0 :=
  LD_of hL (fun j => by rw [up_ne _ _ _ (by omega)]) (fun b j hb => by rw [up_ne _ _ _ (by omega)])
set_option maxRecDepth 100000 in
theorem wm_house {B : Int} {μ : Nat → Nat → Int} (hL : LD B μ 73 0) (x : Int) (Φ : Option AV → ST → Prop) : wpM 178 [.inr (.inr (some 101)), .inl x] (S μ) Φ ↔ Φ (some (.inl (if 0 ≤ x ∧ x < (nW (μ 102) : Int) then 1 else 0))) (S μ) := by
  have e := ld_n hL
  rw [wm_isHouse]
  refine an_iff ?_
  rw [nz_of (by omega) (by omega)]
  (repeat' split) <;> first | rfl | (exfalso; omega)
def figW (w : Nat → Int) (h : Nat) (k : Int) : Int := if k = 0 then w (5 + h) else if k = 1 then w (13 + h) else if k = 2 then w (21 + h) else if k = 3 then w (29 + h) else if k = 4 then oweW w h else owdW w h
set_option maxRecDepth 100000 in
theorem wp_figure {B : Int} {μ : Nat → Nat → Int} (hL : LD B μ 73 0) (hB : B ≤ 1000000) {h : Nat} (hh : h < nW (μ 102)) (k : Int) (hk : 0 ≤ k ∧ k ≤ 5) (Φ : Option AV → ST → Prop) : wpM 17 [.inr (.inr (some 73)), .inl h, .inl k] (S μ) Φ ↔ Φ (some (.inl (figW (μ 102) h k))) (S μ) := by
  obtain ⟨⟨e1, e2, e3, e4⟩, -, -, -, -, h8⟩ := ld_h hL hh
  unfold wpM figW
  rcases six hk with rfl | rfl | rfl | rfl | rfl | rfl
  · rw [s1_iff [] 90]
    simp (disch := omega) [sz_s, sz_0, gx_s, hx_r, hx_c, hx_b, hx_s, hx_i, hx_n, kx_s, kx_n, kx_i, cx_d, up_at, am_ctl, am_step, am_i1, am_i2, am_i2d, am_l1, am_l2, am_l2d, am_ldi, am_ldl, am_lda, am_sti, am_sta, am_stl, am_inc, am_i2l, am_l2i, am_lcmp, am_dup, am_dup2, am_pop1, am_fv, am_getf, am_putf, am_wr, am_ial, am_lal, am_bal, am_aal, am_ias, am_las, am_bas, am_alen, am_inst, am_cast, am_cpm, am_copy, am_tsw, am_pop, am_cat, am_cS, am_cI, am_cV, am_ri, am_rl, am_ra, am_rv, am_b1, am_b2, am_ent, am_en, am_isL, am_st1, am_st2, am_clr, am_cnd, cc_17, ac_17, nL_17, rb_17, np_20, ok_17_20, nL_20, vd_20_4, np_21, ok_17_21, nL_21, vd_21_4, tg_4_1, tg_4_2, tg_4_3, tg_4_4, List.getElem?_cons_succ, List.getElem?_cons_zero, nz_of, nzl_of, Int.toNat_add, Int.toNat_mul, tn_l, lt_t, lt_f, le_t, le_f, eq_t, eq_f, ltn_t, ltn_f, len_t, len_f, eqn_t, eqn_f, sh_73, sh_74, rf_73_1, e1]
  · rw [s1_iff [] 90]
    simp (disch := omega) [sz_s, sz_0, gx_s, hx_r, hx_c, hx_b, hx_s, hx_i, hx_n, kx_s, kx_n, kx_i, cx_d, up_at, am_ctl, am_step, am_i1, am_i2, am_i2d, am_l1, am_l2, am_l2d, am_ldi, am_ldl, am_lda, am_sti, am_sta, am_stl, am_inc, am_i2l, am_l2i, am_lcmp, am_dup, am_dup2, am_pop1, am_fv, am_getf, am_putf, am_wr, am_ial, am_lal, am_bal, am_aal, am_ias, am_las, am_bas, am_alen, am_inst, am_cast, am_cpm, am_copy, am_tsw, am_pop, am_cat, am_cS, am_cI, am_cV, am_ri, am_rl, am_ra, am_rv, am_b1, am_b2, am_ent, am_en, am_isL, am_st1, am_st2, am_clr, am_cnd, cc_17, ac_17, nL_17, rb_17, np_20, ok_17_20, nL_20, vd_20_4, np_21, ok_17_21, nL_21, vd_21_4, tg_4_1, tg_4_2, tg_4_3, tg_4_4, List.getElem?_cons_succ, List.getElem?_cons_zero, nz_of, nzl_of, Int.toNat_add, Int.toNat_mul, tn_l, lt_t, lt_f, le_t, le_f, eq_t, eq_f, ltn_t, ltn_f, len_t, len_f, eqn_t, eqn_f, sh_73, sh_75, rf_73_2, e2]
  · rw [s1_iff [] 90]
    simp (disch := omega) [sz_s, sz_0, gx_s, hx_r, hx_c, hx_b, hx_s, hx_i, hx_n, kx_s, kx_n, kx_i, cx_d, up_at, am_ctl, am_step, am_i1, am_i2, am_i2d, am_l1, am_l2, am_l2d, am_ldi, am_ldl, am_lda, am_sti, am_sta, am_stl, am_inc, am_i2l, am_l2i, am_lcmp, am_dup, am_dup2, am_pop1, am_fv, am_getf, am_putf, am_wr, am_ial, am_lal, am_bal, am_aal, am_ias, am_las, am_bas, am_alen, am_inst, am_cast, am_cpm, am_copy, am_tsw, am_pop, am_cat, am_cS, am_cI, am_cV, am_ri, am_rl, am_ra, am_rv, am_b1, am_b2, am_ent, am_en, am_isL, am_st1, am_st2, am_clr, am_cnd, cc_17, ac_17, nL_17, rb_17, np_20, ok_17_20, nL_20, vd_20_4, np_21, ok_17_21, nL_21, vd_21_4, tg_4_1, tg_4_2, tg_4_3, tg_4_4, List.getElem?_cons_succ, List.getElem?_cons_zero, nz_of, nzl_of, Int.toNat_add, Int.toNat_mul, tn_l, lt_t, lt_f, le_t, le_f, eq_t, eq_f, ltn_t, ltn_f, len_t, len_f, eqn_t, eqn_f, sh_73, sh_76, rf_73_3, e3]
  · rw [s1_iff [] 90]
    simp (disch := omega) [sz_s, sz_0, gx_s, hx_r, hx_c, hx_b, hx_s, hx_i, hx_n, kx_s, kx_n, kx_i, cx_d, up_at, am_ctl, am_step, am_i1, am_i2, am_i2d, am_l1, am_l2, am_l2d, am_ldi, am_ldl, am_lda, am_sti, am_sta, am_stl, am_inc, am_i2l, am_l2i, am_lcmp, am_dup, am_dup2, am_pop1, am_fv, am_getf, am_putf, am_wr, am_ial, am_lal, am_bal, am_aal, am_ias, am_las, am_bas, am_alen, am_inst, am_cast, am_cpm, am_copy, am_tsw, am_pop, am_cat, am_cS, am_cI, am_cV, am_ri, am_rl, am_ra, am_rv, am_b1, am_b2, am_ent, am_en, am_isL, am_st1, am_st2, am_clr, am_cnd, cc_17, ac_17, nL_17, rb_17, np_20, ok_17_20, nL_20, vd_20_4, np_21, ok_17_21, nL_21, vd_21_4, tg_4_1, tg_4_2, tg_4_3, tg_4_4, List.getElem?_cons_succ, List.getElem?_cons_zero, nz_of, nzl_of, Int.toNat_add, Int.toNat_mul, tn_l, lt_t, lt_f, le_t, le_f, eq_t, eq_f, ltn_t, ltn_f, len_t, len_f, eqn_t, eqn_f, sh_73, sh_77, rf_73_4, e4]
  · rw [s1_iff [] 90]
    simp (disch := omega) [sz_s, sz_0, gx_s, hx_r, hx_c, hx_b, hx_s, hx_i, hx_n, kx_s, kx_n, kx_i, cx_d, up_at, am_ctl, am_step, am_i1, am_i2, am_i2d, am_l1, am_l2, am_l2d, am_ldi, am_ldl, am_lda, am_sti, am_sta, am_stl, am_inc, am_i2l, am_l2i, am_lcmp, am_dup, am_dup2, am_pop1, am_fv, am_getf, am_putf, am_wr, am_ial, am_lal, am_bal, am_aal, am_ias, am_las, am_bas, am_alen, am_inst, am_cast, am_cpm, am_copy, am_tsw, am_pop, am_cat, am_cS, am_cI, am_cV, am_ri, am_rl, am_ra, am_rv, am_b1, am_b2, am_ent, am_en, am_isL, am_st1, am_st2, am_clr, am_cnd, cc_17, ac_17, nL_17, rb_17, np_20, ok_17_20, nL_20, vd_20_4, np_21, ok_17_21, nL_21, vd_21_4, tg_4_1, tg_4_2, tg_4_3, tg_4_4, List.getElem?_cons_succ, List.getElem?_cons_zero, nz_of, nzl_of, Int.toNat_add, Int.toNat_mul, tn_l, lt_t, lt_f, le_t, le_f, eq_t, eq_f, ltn_t, ltn_f, len_t, len_f, eqn_t, eqn_f, sh_73, wp_owedBy hL hB h h8]
  · rw [s1_iff [] 90]
    simp (disch := omega) [sz_s, sz_0, gx_s, hx_r, hx_c, hx_b, hx_s, hx_i, hx_n, kx_s, kx_n, kx_i, cx_d, up_at, am_ctl, am_step, am_i1, am_i2, am_i2d, am_l1, am_l2, am_l2d, am_ldi, am_ldl, am_lda, am_sti, am_sta, am_stl, am_inc, am_i2l, am_l2i, am_lcmp, am_dup, am_dup2, am_pop1, am_fv, am_getf, am_putf, am_wr, am_ial, am_lal, am_bal, am_aal, am_ias, am_las, am_bas, am_alen, am_inst, am_cast, am_cpm, am_copy, am_tsw, am_pop, am_cat, am_cS, am_cI, am_cV, am_ri, am_rl, am_ra, am_rv, am_b1, am_b2, am_ent, am_en, am_isL, am_st1, am_st2, am_clr, am_cnd, cc_17, ac_17, nL_17, rb_17, np_20, ok_17_20, nL_20, vd_20_4, np_21, ok_17_21, nL_21, vd_21_4, tg_4_1, tg_4_2, tg_4_3, tg_4_4, List.getElem?_cons_succ, List.getElem?_cons_zero, nz_of, nzl_of, Int.toNat_add, Int.toNat_mul, tn_l, lt_t, lt_f, le_t, le_f, eq_t, eq_f, ltn_t, ltn_f, len_t, len_f, eqn_t, eqn_f, sh_73, wp_owedTo hL hB h h8]
set_option maxRecDepth 100000 in
theorem wm_toldOf {B : Int} {μ : Nat → Nat → Int} (hL : LD B μ 73 0) (hB : B ≤ 1000000) {h : Nat} (hh : h < nW (μ 102)) (k : Int) (hk : 0 ≤ k ∧ k ≤ 5) (Φ : Option AV → ST → Prop) : wpM 181 [.inr (.inr (some 101)), .inl h, .inl k] (S μ) Φ ↔ Φ (some (.inl (figW (μ 102) h k))) (S μ) := by
  obtain ⟨-, -, -, -, -, h8⟩ := ld_h hL hh
  unfold wpM figW
  rcases six hk with rfl | rfl | rfl | rfl | rfl | rfl
  · rw [s1_iff [] 90]
    simp (disch := omega) [sz_s, sz_0, gx_s, hx_r, hx_c, hx_b, hx_s, hx_i, hx_n, kx_s, kx_n, kx_i, cx_d, up_at, am_ctl, am_step, am_i1, am_i2, am_i2d, am_l1, am_l2, am_l2d, am_ldi, am_ldl, am_lda, am_sti, am_sta, am_stl, am_inc, am_i2l, am_l2i, am_lcmp, am_dup, am_dup2, am_pop1, am_fv, am_getf, am_putf, am_wr, am_ial, am_lal, am_bal, am_aal, am_ias, am_las, am_bas, am_alen, am_inst, am_cast, am_cpm, am_copy, am_tsw, am_pop, am_cat, am_cS, am_cI, am_cV, am_ri, am_rl, am_ra, am_rv, am_b1, am_b2, am_ent, am_en, am_isL, am_st1, am_st2, am_clr, am_cnd, cc_181, ac_181, nL_181, rb_181, np_179, ok_181_179, nL_179, vd_179_12, np_180, ok_181_180, nL_180, vd_180_12, tg_12_0, List.getElem?_cons_succ, List.getElem?_cons_zero, nz_of, nzl_of, Int.toNat_add, Int.toNat_mul, tn_l, lt_t, lt_f, le_t, le_f, eq_t, eq_f, ltn_t, ltn_f, len_t, len_f, eqn_t, eqn_f, sh_101, sh_102, rf_101_0]
  · rw [s1_iff [] 90]
    simp (disch := omega) [sz_s, sz_0, gx_s, hx_r, hx_c, hx_b, hx_s, hx_i, hx_n, kx_s, kx_n, kx_i, cx_d, up_at, am_ctl, am_step, am_i1, am_i2, am_i2d, am_l1, am_l2, am_l2d, am_ldi, am_ldl, am_lda, am_sti, am_sta, am_stl, am_inc, am_i2l, am_l2i, am_lcmp, am_dup, am_dup2, am_pop1, am_fv, am_getf, am_putf, am_wr, am_ial, am_lal, am_bal, am_aal, am_ias, am_las, am_bas, am_alen, am_inst, am_cast, am_cpm, am_copy, am_tsw, am_pop, am_cat, am_cS, am_cI, am_cV, am_ri, am_rl, am_ra, am_rv, am_b1, am_b2, am_ent, am_en, am_isL, am_st1, am_st2, am_clr, am_cnd, cc_181, ac_181, nL_181, rb_181, np_179, ok_181_179, nL_179, vd_179_12, np_180, ok_181_180, nL_180, vd_180_12, tg_12_0, List.getElem?_cons_succ, List.getElem?_cons_zero, nz_of, nzl_of, Int.toNat_add, Int.toNat_mul, tn_l, lt_t, lt_f, le_t, le_f, eq_t, eq_f, ltn_t, ltn_f, len_t, len_f, eqn_t, eqn_f, sh_101, sh_102, rf_101_0]
  · rw [s1_iff [] 90]
    simp (disch := omega) [sz_s, sz_0, gx_s, hx_r, hx_c, hx_b, hx_s, hx_i, hx_n, kx_s, kx_n, kx_i, cx_d, up_at, am_ctl, am_step, am_i1, am_i2, am_i2d, am_l1, am_l2, am_l2d, am_ldi, am_ldl, am_lda, am_sti, am_sta, am_stl, am_inc, am_i2l, am_l2i, am_lcmp, am_dup, am_dup2, am_pop1, am_fv, am_getf, am_putf, am_wr, am_ial, am_lal, am_bal, am_aal, am_ias, am_las, am_bas, am_alen, am_inst, am_cast, am_cpm, am_copy, am_tsw, am_pop, am_cat, am_cS, am_cI, am_cV, am_ri, am_rl, am_ra, am_rv, am_b1, am_b2, am_ent, am_en, am_isL, am_st1, am_st2, am_clr, am_cnd, cc_181, ac_181, nL_181, rb_181, np_179, ok_181_179, nL_179, vd_179_12, np_180, ok_181_180, nL_180, vd_180_12, tg_12_0, List.getElem?_cons_succ, List.getElem?_cons_zero, nz_of, nzl_of, Int.toNat_add, Int.toNat_mul, tn_l, lt_t, lt_f, le_t, le_f, eq_t, eq_f, ltn_t, ltn_f, len_t, len_f, eqn_t, eqn_f, sh_101, sh_102, rf_101_0]
  · rw [s1_iff [] 90]
    simp (disch := omega) [sz_s, sz_0, gx_s, hx_r, hx_c, hx_b, hx_s, hx_i, hx_n, kx_s, kx_n, kx_i, cx_d, up_at, am_ctl, am_step, am_i1, am_i2, am_i2d, am_l1, am_l2, am_l2d, am_ldi, am_ldl, am_lda, am_sti, am_sta, am_stl, am_inc, am_i2l, am_l2i, am_lcmp, am_dup, am_dup2, am_pop1, am_fv, am_getf, am_putf, am_wr, am_ial, am_lal, am_bal, am_aal, am_ias, am_las, am_bas, am_alen, am_inst, am_cast, am_cpm, am_copy, am_tsw, am_pop, am_cat, am_cS, am_cI, am_cV, am_ri, am_rl, am_ra, am_rv, am_b1, am_b2, am_ent, am_en, am_isL, am_st1, am_st2, am_clr, am_cnd, cc_181, ac_181, nL_181, rb_181, np_179, ok_181_179, nL_179, vd_179_12, np_180, ok_181_180, nL_180, vd_180_12, tg_12_0, List.getElem?_cons_succ, List.getElem?_cons_zero, nz_of, nzl_of, Int.toNat_add, Int.toNat_mul, tn_l, lt_t, lt_f, le_t, le_f, eq_t, eq_f, ltn_t, ltn_f, len_t, len_f, eqn_t, eqn_f, sh_101, sh_102, rf_101_0]
  · rw [s1_iff [] 90]
    simp (disch := omega) [sz_s, sz_0, gx_s, hx_r, hx_c, hx_b, hx_s, hx_i, hx_n, kx_s, kx_n, kx_i, cx_d, up_at, am_ctl, am_step, am_i1, am_i2, am_i2d, am_l1, am_l2, am_l2d, am_ldi, am_ldl, am_lda, am_sti, am_sta, am_stl, am_inc, am_i2l, am_l2i, am_lcmp, am_dup, am_dup2, am_pop1, am_fv, am_getf, am_putf, am_wr, am_ial, am_lal, am_bal, am_aal, am_ias, am_las, am_bas, am_alen, am_inst, am_cast, am_cpm, am_copy, am_tsw, am_pop, am_cat, am_cS, am_cI, am_cV, am_ri, am_rl, am_ra, am_rv, am_b1, am_b2, am_ent, am_en, am_isL, am_st1, am_st2, am_clr, am_cnd, cc_181, ac_181, nL_181, rb_181, np_179, ok_181_179, nL_179, vd_179_12, np_180, ok_181_180, nL_180, vd_180_12, tg_12_0, List.getElem?_cons_succ, List.getElem?_cons_zero, nz_of, nzl_of, Int.toNat_add, Int.toNat_mul, tn_l, lt_t, lt_f, le_t, le_f, eq_t, eq_f, ltn_t, ltn_f, len_t, len_f, eqn_t, eqn_f, sh_101, wm_owes hL hB h h8]
  · rw [s1_iff [] 90]
    simp (disch := omega) [sz_s, sz_0, gx_s, hx_r, hx_c, hx_b, hx_s, hx_i, hx_n, kx_s, kx_n, kx_i, cx_d, up_at, am_ctl, am_step, am_i1, am_i2, am_i2d, am_l1, am_l2, am_l2d, am_ldi, am_ldl, am_lda, am_sti, am_sta, am_stl, am_inc, am_i2l, am_l2i, am_lcmp, am_dup, am_dup2, am_pop1, am_fv, am_getf, am_putf, am_wr, am_ial, am_lal, am_bal, am_aal, am_ias, am_las, am_bas, am_alen, am_inst, am_cast, am_cpm, am_copy, am_tsw, am_pop, am_cat, am_cS, am_cI, am_cV, am_ri, am_rl, am_ra, am_rv, am_b1, am_b2, am_ent, am_en, am_isL, am_st1, am_st2, am_clr, am_cnd, cc_181, ac_181, nL_181, rb_181, np_179, ok_181_179, nL_179, vd_179_12, np_180, ok_181_180, nL_180, vd_180_12, tg_12_0, List.getElem?_cons_succ, List.getElem?_cons_zero, nz_of, nzl_of, Int.toNat_add, Int.toNat_mul, tn_l, lt_t, lt_f, le_t, le_f, eq_t, eq_f, ltn_t, ltn_f, len_t, len_f, eqn_t, eqn_f, sh_101, wm_isOwed hL hB h h8]
set_option maxRecDepth 100000 in
theorem wp_house {B : Int} {μ : Nat → Nat → Int} (hL : LD B μ 73 0) (hB : B ≤ 1000000) (x k : Int) (Φ : Option AV → ST → Prop) : wpM 89 [.inr (.inr (some 0)), .inl x, .inl k] (S μ) Φ ↔ (if (0 ≤ x ∧ x < (nW (μ 102) : Int)) ∧ 0 ≤ k ∧ k < 6 then Φ (some (.inl 1)) (S (am_up μ 0 10 (figW (μ 102) x.toNat k))) else Φ (some (.inl (-1))) (S μ)) := by
  have e0 := (ld_n hL).1
  by_cases hx : (0 ≤ x ∧ x < (nW (μ 102) : Int)) ∧ 0 ≤ k ∧ k < 6
  · rw [if_pos hx]
    obtain ⟨q, rfl⟩ : ∃ q : Nat, x = q := ⟨x.toNat, by omega⟩
    have hq : q < nW (μ 102) := by omega
    rw [Int.toNat_natCast]
    unfold wpM
    rw [s1_iff [] 90]
    simp (disch := omega) [sz_s, sz_0, gx_s, hx_r, hx_c, hx_b, hx_s, hx_i, hx_n, kx_s, kx_n, kx_i, cx_d, up_at, am_ctl, am_step, am_i1, am_i2, am_i2d, am_l1, am_l2, am_l2d, am_ldi, am_ldl, am_lda, am_sti, am_sta, am_stl, am_inc, am_i2l, am_l2i, am_lcmp, am_dup, am_dup2, am_pop1, am_fv, am_getf, am_putf, am_wr, am_ial, am_lal, am_bal, am_aal, am_ias, am_las, am_bas, am_alen, am_inst, am_cast, am_cpm, am_copy, am_tsw, am_pop, am_cat, am_cS, am_cI, am_cV, am_ri, am_rl, am_ra, am_rv, am_b1, am_b2, am_ent, am_en, am_isL, am_st1, am_st2, am_clr, am_cnd, cc_89, ac_89, nL_89, rb_89, np_129, ok_89_129, nL_129, np_17, ok_89_17, nL_17, vd_17_4, np_134, ok_89_134, nL_134, vd_134_11, tg_11_2, tg_4_7, List.getElem?_cons_succ, List.getElem?_cons_zero, nz_of, nzl_of, Int.toNat_add, Int.toNat_mul, tn_l, lt_t, lt_f, le_t, le_f, eq_t, eq_f, ltn_t, ltn_f, len_t, len_f, eqn_t, eqn_f, sh_0, rf_0_2, sh_73, wp_within, e0, hq, hx.2, wp_figure hL hB hq k (by omega), wp_tell]
  · rw [if_neg hx]
    unfold wpM
    rw [s1_iff [] 90]
    simp (disch := omega) [sz_s, sz_0, gx_s, hx_r, hx_c, hx_b, hx_s, hx_i, hx_n, kx_s, kx_n, kx_i, cx_d, up_at, am_ctl, am_step, am_i1, am_i2, am_i2d, am_l1, am_l2, am_l2d, am_ldi, am_ldl, am_lda, am_sti, am_sta, am_stl, am_inc, am_i2l, am_l2i, am_lcmp, am_dup, am_dup2, am_pop1, am_fv, am_getf, am_putf, am_wr, am_ial, am_lal, am_bal, am_aal, am_ias, am_las, am_bas, am_alen, am_inst, am_cast, am_cpm, am_copy, am_tsw, am_pop, am_cat, am_cS, am_cI, am_cV, am_ri, am_rl, am_ra, am_rv, am_b1, am_b2, am_ent, am_en, am_isL, am_st1, am_st2, am_clr, am_cnd, cc_89, ac_89, nL_89, rb_89, np_129, ok_89_129, nL_129, np_17, ok_89_17, nL_17, vd_17_4, np_134, ok_89_134, nL_134, vd_134_11, tg_11_2, tg_4_7, List.getElem?_cons_succ, List.getElem?_cons_zero, nz_of, nzl_of, Int.toNat_add, Int.toNat_mul, tn_l, lt_t, lt_f, le_t, le_f, eq_t, eq_f, ltn_t, ltn_f, len_t, len_f, eqn_t, eqn_f, sh_0, rf_0_2, sh_73, wp_within, e0]
    intro h1 h2 h3 h4
    exact absurd ⟨⟨h1, h2⟩, h3, h4⟩ hx
set_option maxRecDepth 100000 in
theorem wm_house_ {B : Int} {μ : Nat → Nat → Int} (hL : LD B μ 73 0) (hB : B ≤ 1000000) (x k : Int) (Φ : Option AV → ST → Prop) : wpM 182 [.inr (.inr (some 101)), .inl x, .inl k] (S μ) Φ ↔ (if (0 ≤ x ∧ x < (nW (μ 102) : Int)) ∧ 0 ≤ k ∧ k < 6 then Φ (some (.inl 1)) (S (am_up μ 101 8 (figW (μ 102) x.toNat k))) else Φ (some (.inl (-1))) (S μ)) := by
  by_cases hx : (0 ≤ x ∧ x < (nW (μ 102) : Int)) ∧ 0 ≤ k ∧ k < 6
  · rw [if_pos hx]
    obtain ⟨q, rfl⟩ : ∃ q : Nat, x = q := ⟨x.toNat, by omega⟩
    have hq : q < nW (μ 102) := by omega
    rw [Int.toNat_natCast]
    unfold wpM
    rw [s1_iff [] 90]
    simp (disch := omega) [sz_s, sz_0, gx_s, hx_r, hx_c, hx_b, hx_s, hx_i, hx_n, kx_s, kx_n, kx_i, cx_d, up_at, am_ctl, am_step, am_i1, am_i2, am_i2d, am_l1, am_l2, am_l2d, am_ldi, am_ldl, am_lda, am_sti, am_sta, am_stl, am_inc, am_i2l, am_l2i, am_lcmp, am_dup, am_dup2, am_pop1, am_fv, am_getf, am_putf, am_wr, am_ial, am_lal, am_bal, am_aal, am_ias, am_las, am_bas, am_alen, am_inst, am_cast, am_cpm, am_copy, am_tsw, am_pop, am_cat, am_cS, am_cI, am_cV, am_ri, am_rl, am_ra, am_rv, am_b1, am_b2, am_ent, am_en, am_isL, am_st1, am_st2, am_clr, am_cnd, cc_182, ac_182, nL_182, rb_182, np_156, ok_182_156, nL_156, np_161, ok_182_161, nL_161, vd_161_12, np_178, ok_182_178, nL_178, vd_178_12, np_181, ok_182_181, nL_181, vd_181_12, List.getElem?_cons_succ, List.getElem?_cons_zero, nz_of, nzl_of, Int.toNat_add, Int.toNat_mul, tn_l, lt_t, lt_f, le_t, le_f, eq_t, eq_f, ltn_t, ltn_f, len_t, len_f, eqn_t, eqn_f, sh_101, wm_house hL, wm_in, hq, show 0 ≤ k ∧ k ≤ 5 by omega, wm_toldOf hL hB hq k (by omega), wm_tells]
  · rw [if_neg hx]
    unfold wpM
    rw [s1_iff [] 90]
    simp (disch := omega) [sz_s, sz_0, gx_s, hx_r, hx_c, hx_b, hx_s, hx_i, hx_n, kx_s, kx_n, kx_i, cx_d, up_at, am_ctl, am_step, am_i1, am_i2, am_i2d, am_l1, am_l2, am_l2d, am_ldi, am_ldl, am_lda, am_sti, am_sta, am_stl, am_inc, am_i2l, am_l2i, am_lcmp, am_dup, am_dup2, am_pop1, am_fv, am_getf, am_putf, am_wr, am_ial, am_lal, am_bal, am_aal, am_ias, am_las, am_bas, am_alen, am_inst, am_cast, am_cpm, am_copy, am_tsw, am_pop, am_cat, am_cS, am_cI, am_cV, am_ri, am_rl, am_ra, am_rv, am_b1, am_b2, am_ent, am_en, am_isL, am_st1, am_st2, am_clr, am_cnd, cc_182, ac_182, nL_182, rb_182, np_156, ok_182_156, nL_156, np_161, ok_182_161, nL_161, vd_161_12, np_178, ok_182_178, nL_178, vd_178_12, np_181, ok_182_181, nL_181, vd_181_12, List.getElem?_cons_succ, List.getElem?_cons_zero, nz_of, nzl_of, Int.toNat_add, Int.toNat_mul, tn_l, lt_t, lt_f, le_t, le_f, eq_t, eq_f, ltn_t, ltn_f, len_t, len_f, eqn_t, eqn_f, sh_101, wm_house hL, wm_in, show ¬ ((0 ≤ x ∧ x < (nW (μ 102) : Int)) ∧ 0 ≤ k ∧ k ≤ 5) by omega]
    intro h1 h2 h3 h4
    omega
theorem eq_house {B : Int} {μ : Nat → Nat → Int} (h : INV B μ) (hB : B ≤ 1000000) (x k : Int) : EQV B μ 89 182 [.inl x, .inl k] := by
  have hL : LD B μ 73 0 := h.2.2.2.1
  unfold EQV
  rw [wp_house hL hB]
  split
  · rename_i hx
    refine ⟨_, _, rfl, rfl, ?_⟩
    rw [wm_house_ (LD_up hL _ _ _ (by decide) (by decide)) hB, up_ne _ _ _ (by decide), if_pos hx]
    exact ⟨rfl, _, rfl, inv_tell h _⟩
  · rename_i hx
    refine ⟨_, _, rfl, rfl, ?_⟩
    rw [wm_house_ hL hB, if_neg hx]
    exact ⟨rfl, _, rfl, h⟩
theorem up_up {α : Type} (f : Nat → Nat → α) (a i : Nat) (v w : α) : am_up (am_up f a i v) a i w = am_up f a i w := by
  funext b j; unfold am_up; split <;> rfl
