/-! leads, led, lead, most: answered on both sides -/
def FB (μ ν : Nat → Nat → Int) : Prop := ∀ k, ¬ (119 ≤ k ∧ k ≤ 120) → ν k = μ k
def okW (μ : Nat → Nat → Int) (r b : Nat) : Nat → Nat → Bool := okZ (rwR μ r) (rwR μ b)
set_option maxHeartbeats 4000000 in
set_option maxRecDepth 100000 in
theorem wp_leads_ok {μ : Nat → Nat → Int} {r b n : Nat} (hr : r < 6) (hb : b < 6) (Rr : RW μ r) (Rb : RW μ b) (h : GB μ r b n) (Φ : Option AV → ST → Prop) (k : ∀ ν, FL μ ν → Φ (some (.inl 1)) (S (am_up (am_up ν 0 11 (BH (okW μ r b) n 0)) 0 12 1))) : wpM 116 [.inr (.inr (some 0)), .inl r, .inl b] (S μ) Φ := by
  unfold wpM
  rw [s1_iff [] 200]
  simp (disch := omega) [sz_s, sz_0, gx_s, hx_r, hx_c, hx_b, hx_s, hx_i, hx_n, kx_s, kx_n, kx_i, cx_d, up_at, am_ctl, am_step, am_i1, am_i2, am_i2d, am_l1, am_l2, am_l2d, am_ldi, am_ldl, am_lda, am_sti, am_sta, am_stl, am_inc, am_i2l, am_l2i, am_lcmp, am_dup, am_dup2, am_pop1, am_fv, am_getf, am_putf, am_wr, am_ial, am_lal, am_bal, am_aal, am_ias, am_las, am_bas, am_alen, am_inst, am_cast, am_cpm, am_copy, am_tsw, am_pop, am_cat, am_cS, am_cI, am_cV, am_ri, am_rl, am_ra, am_rv, am_b1, am_b2, am_ent, am_en, am_isL, am_st1, am_st2, am_clr, am_cnd, cc_116, ac_116, nL_116, rb_116, np_43, ok_116_43, nL_43, vd_43_5, np_135, ok_116_135, nL_135, vd_135_11, np_154, ok_116_154, nL_154, vd_154_11, tg_11_6, List.getElem?_cons_succ, List.getElem?_cons_zero, nz_of, nzl_of, Int.toNat_add, Int.toNat_mul, tn_l, lt_t, lt_f, le_t, le_f, eq_t, eq_f, ltn_t, ltn_f, len_t, len_f, eqn_t, eqn_f, up_ne, up_up, sh_0]
  refine wp_bL_ok hr hb Rr Rb h _ (fun ν f hA => ?_)
  replace k := k ν f
  have N := fun Φ => wp_numberL hA Φ
  have rr := BH_rng (ok := okW μ r b) (n := n) h.1.2.2 0
  have e : okZ (rwR μ r) (rwR μ b) = okW μ r b := rfl
  rw [e] at N
  obtain ⟨x, hx⟩ : ∃ x : Nat, BH (okW μ r b) n 0 = x := ⟨(BH (okW μ r b) n 0).toNat, by omega⟩
  rw [hx] at k N
  simp (disch := omega) [sz_s, sz_0, gx_s, hx_r, hx_c, hx_b, hx_s, hx_i, hx_n, kx_s, kx_n, kx_i, cx_d, up_at, am_ctl, am_step, am_i1, am_i2, am_i2d, am_l1, am_l2, am_l2d, am_ldi, am_ldl, am_lda, am_sti, am_sta, am_stl, am_inc, am_i2l, am_l2i, am_lcmp, am_dup, am_dup2, am_pop1, am_fv, am_getf, am_putf, am_wr, am_ial, am_lal, am_bal, am_aal, am_ias, am_las, am_bas, am_alen, am_inst, am_cast, am_cpm, am_copy, am_tsw, am_pop, am_cat, am_cS, am_cI, am_cV, am_ri, am_rl, am_ra, am_rv, am_b1, am_b2, am_ent, am_en, am_isL, am_st1, am_st2, am_clr, am_cnd, cc_116, ac_116, nL_116, rb_116, np_43, ok_116_43, nL_43, vd_43_5, np_135, ok_116_135, nL_135, vd_135_11, np_154, ok_116_154, nL_154, vd_154_11, tg_11_6, List.getElem?_cons_succ, List.getElem?_cons_zero, nz_of, nzl_of, Int.toNat_add, Int.toNat_mul, tn_l, lt_t, lt_f, le_t, le_f, eq_t, eq_f, ltn_t, ltn_f, len_t, len_f, eqn_t, eqn_f, up_ne, up_up, sh_0, rf_0_6, sh_38, N]
  refine wp_tellFraction x 1 (by omega) (by omega) ν _ ?_
  rw [Nat.gcd_one_left, Nat.div_one, Nat.div_one]
  simp (disch := omega) [sz_s, sz_0, gx_s, hx_r, hx_c, hx_b, hx_s, hx_i, hx_n, kx_s, kx_n, kx_i, cx_d, up_at, am_ctl, am_step, am_i1, am_i2, am_i2d, am_l1, am_l2, am_l2d, am_ldi, am_ldl, am_lda, am_sti, am_sta, am_stl, am_inc, am_i2l, am_l2i, am_lcmp, am_dup, am_dup2, am_pop1, am_fv, am_getf, am_putf, am_wr, am_ial, am_lal, am_bal, am_aal, am_ias, am_las, am_bas, am_alen, am_inst, am_cast, am_cpm, am_copy, am_tsw, am_pop, am_cat, am_cS, am_cI, am_cV, am_ri, am_rl, am_ra, am_rv, am_b1, am_b2, am_ent, am_en, am_isL, am_st1, am_st2, am_clr, am_cnd, cc_116, ac_116, nL_116, rb_116, np_43, ok_116_43, nL_43, vd_43_5, np_135, ok_116_135, nL_135, vd_135_11, np_154, ok_116_154, nL_154, vd_154_11, tg_11_6, List.getElem?_cons_succ, List.getElem?_cons_zero, nz_of, nzl_of, Int.toNat_add, Int.toNat_mul, tn_l, lt_t, lt_f, le_t, le_f, eq_t, eq_f, ltn_t, ltn_f, len_t, len_f, eqn_t, eqn_f, up_ne, up_up, sh_0]
  exact k
set_option maxHeartbeats 4000000 in
set_option maxRecDepth 100000 in
theorem wp_led_ok {μ : Nat → Nat → Int} {r b n : Nat} (hr : r < 6) (hb : b < 6) (Rr : RW μ r) (Rb : RW μ b) (h : GB μ r b n) (Φ : Option AV → ST → Prop) (k1 : BH (okW μ r b) n 0 = 0 → ∀ ν, FL μ ν → Φ (some (.inl (-3))) (S (xfind ν 4))) (k2 : 0 < BH (okW μ r b) n 0 → ∀ ν, FL μ ν → Φ (some (.inl (spZ (suQ (okW μ r b) n) n : Nat))) (S ν)) : wpM 117 [.inr (.inr (some 0)), .inl r, .inl b] (S μ) Φ := by
  unfold wpM
  rw [s1_iff [] 200]
  simp (disch := omega) [sz_s, sz_0, gx_s, hx_r, hx_c, hx_b, hx_s, hx_i, hx_n, kx_s, kx_n, kx_i, cx_d, up_at, am_ctl, am_step, am_i1, am_i2, am_i2d, am_l1, am_l2, am_l2d, am_ldi, am_ldl, am_lda, am_sti, am_sta, am_stl, am_inc, am_i2l, am_l2i, am_lcmp, am_dup, am_dup2, am_pop1, am_fv, am_getf, am_putf, am_wr, am_ial, am_lal, am_bal, am_aal, am_ias, am_las, am_bas, am_alen, am_inst, am_cast, am_cpm, am_copy, am_tsw, am_pop, am_cat, am_cS, am_cI, am_cV, am_ri, am_rl, am_ra, am_rv, am_b1, am_b2, am_ent, am_en, am_isL, am_st1, am_st2, am_clr, am_cnd, cc_117, ac_117, nL_117, rb_117, np_43, ok_117_43, nL_43, vd_43_5, np_44, ok_117_44, nL_44, vd_44_5, np_133, ok_117_133, nL_133, vd_133_11, np_154, ok_117_154, nL_154, vd_154_11, tg_11_6, List.getElem?_cons_succ, List.getElem?_cons_zero, nz_of, nzl_of, Int.toNat_add, Int.toNat_mul, tn_l, lt_t, lt_f, le_t, le_f, eq_t, eq_f, ltn_t, ltn_f, len_t, len_f, eqn_t, eqn_f, up_ne, up_up, sh_0]
  refine wp_bL_ok hr hb Rr Rb h _ (fun ν f hA => ?_)
  have N := fun Φ => wp_numberL hA Φ
  have rr := BH_rng (ok := okW μ r b) (n := n) h.1.2.2 0
  have e : okZ (rwR μ r) (rwR μ b) = okW μ r b := rfl
  rw [e] at N
  have last : ∀ Φ : Option AV → ST → Prop, Φ (some (.inl (-3))) (S (xfind ν 4)) → wpM 133 [.inr (.inr (some 0)), .inl 4] (S ν) Φ := fun Φ q => by
    rw [wp_find 4 (by decide)]
    exact q
  by_cases z : BH (okW μ r b) n 0 = 0
  · replace k1 := k1 z ν f
    rw [z] at N
    simp (disch := omega) [sz_s, sz_0, gx_s, hx_r, hx_c, hx_b, hx_s, hx_i, hx_n, kx_s, kx_n, kx_i, cx_d, up_at, am_ctl, am_step, am_i1, am_i2, am_i2d, am_l1, am_l2, am_l2d, am_ldi, am_ldl, am_lda, am_sti, am_sta, am_stl, am_inc, am_i2l, am_l2i, am_lcmp, am_dup, am_dup2, am_pop1, am_fv, am_getf, am_putf, am_wr, am_ial, am_lal, am_bal, am_aal, am_ias, am_las, am_bas, am_alen, am_inst, am_cast, am_cpm, am_copy, am_tsw, am_pop, am_cat, am_cS, am_cI, am_cV, am_ri, am_rl, am_ra, am_rv, am_b1, am_b2, am_ent, am_en, am_isL, am_st1, am_st2, am_clr, am_cnd, cc_117, ac_117, nL_117, rb_117, np_43, ok_117_43, nL_43, vd_43_5, np_44, ok_117_44, nL_44, vd_44_5, np_133, ok_117_133, nL_133, vd_133_11, np_154, ok_117_154, nL_154, vd_154_11, tg_11_6, List.getElem?_cons_succ, List.getElem?_cons_zero, nz_of, nzl_of, Int.toNat_add, Int.toNat_mul, tn_l, lt_t, lt_f, le_t, le_f, eq_t, eq_f, ltn_t, ltn_f, len_t, len_f, eqn_t, eqn_f, up_ne, up_up, sh_0, rf_0_6, sh_38, N]
    refine last _ ?_
    simp (disch := omega) [sz_s, sz_0, gx_s, hx_r, hx_c, hx_b, hx_s, hx_i, hx_n, kx_s, kx_n, kx_i, cx_d, up_at, am_ctl, am_step, am_i1, am_i2, am_i2d, am_l1, am_l2, am_l2d, am_ldi, am_ldl, am_lda, am_sti, am_sta, am_stl, am_inc, am_i2l, am_l2i, am_lcmp, am_dup, am_dup2, am_pop1, am_fv, am_getf, am_putf, am_wr, am_ial, am_lal, am_bal, am_aal, am_ias, am_las, am_bas, am_alen, am_inst, am_cast, am_cpm, am_copy, am_tsw, am_pop, am_cat, am_cS, am_cI, am_cV, am_ri, am_rl, am_ra, am_rv, am_b1, am_b2, am_ent, am_en, am_isL, am_st1, am_st2, am_clr, am_cnd, cc_117, ac_117, nL_117, rb_117, np_43, ok_117_43, nL_43, vd_43_5, np_44, ok_117_44, nL_44, vd_44_5, np_133, ok_117_133, nL_133, vd_133_11, np_154, ok_117_154, nL_154, vd_154_11, tg_11_6, List.getElem?_cons_succ, List.getElem?_cons_zero, nz_of, nzl_of, Int.toNat_add, Int.toNat_mul, tn_l, lt_t, lt_f, le_t, le_f, eq_t, eq_f, ltn_t, ltn_f, len_t, len_f, eqn_t, eqn_f, up_ne, up_up]
    exact k1
  · replace k2 := k2 (by omega)
    simp (disch := omega) [sz_s, sz_0, gx_s, hx_r, hx_c, hx_b, hx_s, hx_i, hx_n, kx_s, kx_n, kx_i, cx_d, up_at, am_ctl, am_step, am_i1, am_i2, am_i2d, am_l1, am_l2, am_l2d, am_ldi, am_ldl, am_lda, am_sti, am_sta, am_stl, am_inc, am_i2l, am_l2i, am_lcmp, am_dup, am_dup2, am_pop1, am_fv, am_getf, am_putf, am_wr, am_ial, am_lal, am_bal, am_aal, am_ias, am_las, am_bas, am_alen, am_inst, am_cast, am_cpm, am_copy, am_tsw, am_pop, am_cat, am_cS, am_cI, am_cV, am_ri, am_rl, am_ra, am_rv, am_b1, am_b2, am_ent, am_en, am_isL, am_st1, am_st2, am_clr, am_cnd, cc_117, ac_117, nL_117, rb_117, np_43, ok_117_43, nL_43, vd_43_5, np_44, ok_117_44, nL_44, vd_44_5, np_133, ok_117_133, nL_133, vd_133_11, np_154, ok_117_154, nL_154, vd_154_11, tg_11_6, List.getElem?_cons_succ, List.getElem?_cons_zero, nz_of, nzl_of, Int.toNat_add, Int.toNat_mul, tn_l, lt_t, lt_f, le_t, le_f, eq_t, eq_f, ltn_t, ltn_f, len_t, len_f, eqn_t, eqn_f, up_ne, up_up, sh_0, rf_0_6, sh_38, N, z]
    refine wp_sureSpoons hA (by rw [e]; omega) _ (fun ρ r1 => ?_)
    replace k2 := k2 ρ (fun k hk => by rw [r1 k (by omega)]; exact f k hk)
    rw [e]
    generalize spZ (suQ (okW μ r b) n) n = T at *
    simp (disch := omega) [sz_s, sz_0, gx_s, hx_r, hx_c, hx_b, hx_s, hx_i, hx_n, kx_s, kx_n, kx_i, cx_d, up_at, am_ctl, am_step, am_i1, am_i2, am_i2d, am_l1, am_l2, am_l2d, am_ldi, am_ldl, am_lda, am_sti, am_sta, am_stl, am_inc, am_i2l, am_l2i, am_lcmp, am_dup, am_dup2, am_pop1, am_fv, am_getf, am_putf, am_wr, am_ial, am_lal, am_bal, am_aal, am_ias, am_las, am_bas, am_alen, am_inst, am_cast, am_cpm, am_copy, am_tsw, am_pop, am_cat, am_cS, am_cI, am_cV, am_ri, am_rl, am_ra, am_rv, am_b1, am_b2, am_ent, am_en, am_isL, am_st1, am_st2, am_clr, am_cnd, cc_117, ac_117, nL_117, rb_117, np_43, ok_117_43, nL_43, vd_43_5, np_44, ok_117_44, nL_44, vd_44_5, np_133, ok_117_133, nL_133, vd_133_11, np_154, ok_117_154, nL_154, vd_154_11, tg_11_6, List.getElem?_cons_succ, List.getElem?_cons_zero, nz_of, nzl_of, Int.toNat_add, Int.toNat_mul, tn_l, lt_t, lt_f, le_t, le_f, eq_t, eq_f, ltn_t, ltn_f, len_t, len_f, eqn_t, eqn_f, up_ne, up_up]
    exact k2
set_option maxHeartbeats 4000000 in
set_option maxRecDepth 100000 in
theorem wp_most_ok {μ : Nat → Nat → Int} {r b n : Nat} (hr : r < 6) (hb : b < 6) (Rr : RW μ r) (Rb : RW μ b) (h : GB μ r b n) (Φ : Option AV → ST → Prop) (k : ∀ ν, FL μ ν → Φ (some (.inl (mfZ (okW μ r b) n n (2 ^ n - 1)))) (S ν)) : wpM 119 [.inr (.inr (some 0)), .inl r, .inl b] (S μ) Φ := by
  unfold wpM
  rw [s1_iff [] 200]
  simp (disch := omega) [sz_s, sz_0, gx_s, hx_r, hx_c, hx_b, hx_s, hx_i, hx_n, kx_s, kx_n, kx_i, cx_d, up_at, am_ctl, am_step, am_i1, am_i2, am_i2d, am_l1, am_l2, am_l2d, am_ldi, am_ldl, am_lda, am_sti, am_sta, am_stl, am_inc, am_i2l, am_l2i, am_lcmp, am_dup, am_dup2, am_pop1, am_fv, am_getf, am_putf, am_wr, am_ial, am_lal, am_bal, am_aal, am_ias, am_las, am_bas, am_alen, am_inst, am_cast, am_cpm, am_copy, am_tsw, am_pop, am_cat, am_cS, am_cI, am_cV, am_ri, am_rl, am_ra, am_rv, am_b1, am_b2, am_ent, am_en, am_isL, am_st1, am_st2, am_clr, am_cnd, cc_119, ac_119, nL_119, rb_119, np_47, ok_119_47, nL_47, vd_47_5, np_154, ok_119_154, nL_154, vd_154_11, tg_11_6, List.getElem?_cons_succ, List.getElem?_cons_zero, nz_of, nzl_of, Int.toNat_add, Int.toNat_mul, tn_l, lt_t, lt_f, le_t, le_f, eq_t, eq_f, ltn_t, ltn_f, len_t, len_f, eqn_t, eqn_f, up_ne, up_up, sh_0]
  refine wp_bL_ok hr hb Rr Rb h _ (fun ν f hA => ?_)
  have e : okZ (rwR μ r) (rwR μ b) = okW μ r b := rfl
  simp (disch := omega) [sz_s, sz_0, gx_s, hx_r, hx_c, hx_b, hx_s, hx_i, hx_n, kx_s, kx_n, kx_i, cx_d, up_at, am_ctl, am_step, am_i1, am_i2, am_i2d, am_l1, am_l2, am_l2d, am_ldi, am_ldl, am_lda, am_sti, am_sta, am_stl, am_inc, am_i2l, am_l2i, am_lcmp, am_dup, am_dup2, am_pop1, am_fv, am_getf, am_putf, am_wr, am_ial, am_lal, am_bal, am_aal, am_ias, am_las, am_bas, am_alen, am_inst, am_cast, am_cpm, am_copy, am_tsw, am_pop, am_cat, am_cS, am_cI, am_cV, am_ri, am_rl, am_ra, am_rv, am_b1, am_b2, am_ent, am_en, am_isL, am_st1, am_st2, am_clr, am_cnd, cc_119, ac_119, nL_119, rb_119, np_47, ok_119_47, nL_47, vd_47_5, np_154, ok_119_154, nL_154, vd_154_11, tg_11_6, List.getElem?_cons_succ, List.getElem?_cons_zero, nz_of, nzl_of, Int.toNat_add, Int.toNat_mul, tn_l, lt_t, lt_f, le_t, le_f, eq_t, eq_f, ltn_t, ltn_f, len_t, len_f, eqn_t, eqn_f, up_ne, up_up, sh_0, rf_0_6, sh_38]
  refine wp_mostSpoons hA.1 _ (fun ρ r1 => ?_)
  replace k := k ρ (fun k hk => by rw [r1 k (by omega)]; exact f k hk)
  rw [e, most_eq h.1.2.2]
  generalize mfZ (okW μ r b) n n (2 ^ n - 1) = T at *
  simp (disch := omega) [sz_s, sz_0, gx_s, hx_r, hx_c, hx_b, hx_s, hx_i, hx_n, kx_s, kx_n, kx_i, cx_d, up_at, am_ctl, am_step, am_i1, am_i2, am_i2d, am_l1, am_l2, am_l2d, am_ldi, am_ldl, am_lda, am_sti, am_sta, am_stl, am_inc, am_i2l, am_l2i, am_lcmp, am_dup, am_dup2, am_pop1, am_fv, am_getf, am_putf, am_wr, am_ial, am_lal, am_bal, am_aal, am_ias, am_las, am_bas, am_alen, am_inst, am_cast, am_cpm, am_copy, am_tsw, am_pop, am_cat, am_cS, am_cI, am_cV, am_ri, am_rl, am_ra, am_rv, am_b1, am_b2, am_ent, am_en, am_isL, am_st1, am_st2, am_clr, am_cnd, cc_119, ac_119, nL_119, rb_119, np_47, ok_119_47, nL_47, vd_47_5, np_154, ok_119_154, nL_154, vd_154_11, tg_11_6, List.getElem?_cons_succ, List.getElem?_cons_zero, nz_of, nzl_of, Int.toNat_add, Int.toNat_mul, tn_l, lt_t, lt_f, le_t, le_f, eq_t, eq_f, ltn_t, ltn_f, len_t, len_f, eqn_t, eqn_f, up_ne, up_up]
  exact k
/-- the class has written the way into row t -/
def FT (μ ν : Nat → Nat → Int) (t n : Nat) (v : Nat → Nat) : Prop := (∀ k, ¬ (38 ≤ k ∧ k ≤ 43) → ¬ k = 46 + 2 * t → ¬ k = 47 + 2 * t → ν k = μ k) ∧ ν (46 + 2 * t) 1 = n ∧ ∀ i, i < n → ν (47 + 2 * t) i = (v i : Nat)
set_option maxHeartbeats 4000000 in
set_option maxRecDepth 100000 in
theorem wp_lead_ok {μ : Nat → Nat → Int} {r b n : Nat} (hr : r < 6) (hb : b < 6) (Rr : RW μ r) (Rb : RW μ b) (h : GB μ r b n) (t : Nat) (ht : t < 6) (Φ : Option AV → ST → Prop) (k1 : BH (okW μ r b) n 0 = 0 → ∀ ν, FL μ ν → Φ (some (.inl (-3))) (S (xfind ν 4))) (k2 : 0 < BH (okW μ r b) n 0 → ∀ ν, FT μ ν t n (chM (okW μ r b) n) → Φ (some (.inl 1)) (S ν)) : wpM 118 [.inr (.inr (some 0)), .inl r, .inl b, .inl t] (S μ) Φ := by
  obtain ⟨g1, g2, g3, g4⟩ := g_row t ht
  unfold wpM
  rw [s1_iff [] 200]
  simp (disch := omega) [sz_s, sz_0, gx_s, hx_r, hx_c, hx_b, hx_s, hx_i, hx_n, kx_s, kx_n, kx_i, cx_d, up_at, am_ctl, am_step, am_i1, am_i2, am_i2d, am_l1, am_l2, am_l2d, am_ldi, am_ldl, am_lda, am_sti, am_sta, am_stl, am_inc, am_i2l, am_l2i, am_lcmp, am_dup, am_dup2, am_pop1, am_fv, am_getf, am_putf, am_wr, am_ial, am_lal, am_bal, am_aal, am_ias, am_las, am_bas, am_alen, am_inst, am_cast, am_cpm, am_copy, am_tsw, am_pop, am_cat, am_cS, am_cI, am_cV, am_ri, am_rl, am_ra, am_rv, am_b1, am_b2, am_ent, am_en, am_isL, am_st1, am_st2, am_clr, am_cnd, cc_118, ac_118, nL_118, rb_118, np_129, ok_118_129, nL_129, np_43, ok_118_43, nL_43, vd_43_5, np_46, ok_118_46, nL_46, vd_46_5, np_57, ok_118_57, nL_57, vd_57_8, np_133, ok_118_133, nL_133, vd_133_11, np_154, ok_118_154, nL_154, vd_154_11, tg_11_6, tg_11_0, tg_5_5, tg_8_0, List.getElem?_cons_succ, List.getElem?_cons_zero, nz_of, nzl_of, Int.toNat_add, Int.toNat_mul, tn_l, lt_t, lt_f, le_t, le_f, eq_t, eq_f, ltn_t, ltn_f, len_t, len_f, eqn_t, eqn_f, up_ne, up_up, sh_0, wp_within, ht]
  refine wp_bL_ok hr hb Rr Rb h _ (fun ν f hA => ?_)
  have N := fun Φ => wp_numberL hA Φ
  have rr := BH_rng (ok := okW μ r b) (n := n) h.1.2.2 0
  have e : okZ (rwR μ r) (rwR μ b) = okW μ r b := rfl
  rw [e] at N
  have last : ∀ Φ : Option AV → ST → Prop, Φ (some (.inl (-3))) (S (xfind ν 4)) → wpM 133 [.inr (.inr (some 0)), .inl 4] (S ν) Φ := fun Φ q => by
    rw [wp_find 4 (by decide)]
    exact q
  by_cases z : BH (okW μ r b) n 0 = 0
  · replace k1 := k1 z ν f
    rw [z] at N
    simp (disch := omega) [sz_s, sz_0, gx_s, hx_r, hx_c, hx_b, hx_s, hx_i, hx_n, kx_s, kx_n, kx_i, cx_d, up_at, am_ctl, am_step, am_i1, am_i2, am_i2d, am_l1, am_l2, am_l2d, am_ldi, am_ldl, am_lda, am_sti, am_sta, am_stl, am_inc, am_i2l, am_l2i, am_lcmp, am_dup, am_dup2, am_pop1, am_fv, am_getf, am_putf, am_wr, am_ial, am_lal, am_bal, am_aal, am_ias, am_las, am_bas, am_alen, am_inst, am_cast, am_cpm, am_copy, am_tsw, am_pop, am_cat, am_cS, am_cI, am_cV, am_ri, am_rl, am_ra, am_rv, am_b1, am_b2, am_ent, am_en, am_isL, am_st1, am_st2, am_clr, am_cnd, cc_118, ac_118, nL_118, rb_118, np_129, ok_118_129, nL_129, np_43, ok_118_43, nL_43, vd_43_5, np_46, ok_118_46, nL_46, vd_46_5, np_57, ok_118_57, nL_57, vd_57_8, np_133, ok_118_133, nL_133, vd_133_11, np_154, ok_118_154, nL_154, vd_154_11, tg_11_6, tg_11_0, tg_5_5, tg_8_0, List.getElem?_cons_succ, List.getElem?_cons_zero, nz_of, nzl_of, Int.toNat_add, Int.toNat_mul, tn_l, lt_t, lt_f, le_t, le_f, eq_t, eq_f, ltn_t, ltn_f, len_t, len_f, eqn_t, eqn_f, up_ne, up_up, sh_0, rf_0_6, sh_38, N]
    refine last _ ?_
    simp (disch := omega) [sz_s, sz_0, gx_s, hx_r, hx_c, hx_b, hx_s, hx_i, hx_n, kx_s, kx_n, kx_i, cx_d, up_at, am_ctl, am_step, am_i1, am_i2, am_i2d, am_l1, am_l2, am_l2d, am_ldi, am_ldl, am_lda, am_sti, am_sta, am_stl, am_inc, am_i2l, am_l2i, am_lcmp, am_dup, am_dup2, am_pop1, am_fv, am_getf, am_putf, am_wr, am_ial, am_lal, am_bal, am_aal, am_ias, am_las, am_bas, am_alen, am_inst, am_cast, am_cpm, am_copy, am_tsw, am_pop, am_cat, am_cS, am_cI, am_cV, am_ri, am_rl, am_ra, am_rv, am_b1, am_b2, am_ent, am_en, am_isL, am_st1, am_st2, am_clr, am_cnd, cc_118, ac_118, nL_118, rb_118, np_129, ok_118_129, nL_129, np_43, ok_118_43, nL_43, vd_43_5, np_46, ok_118_46, nL_46, vd_46_5, np_57, ok_118_57, nL_57, vd_57_8, np_133, ok_118_133, nL_133, vd_133_11, np_154, ok_118_154, nL_154, vd_154_11, tg_11_6, tg_11_0, tg_5_5, tg_8_0, List.getElem?_cons_succ, List.getElem?_cons_zero, nz_of, nzl_of, Int.toNat_add, Int.toNat_mul, tn_l, lt_t, lt_f, le_t, le_f, eq_t, eq_f, ltn_t, ltn_f, len_t, len_f, eqn_t, eqn_f, up_ne, up_up]
    exact k1
  · replace k2 := k2 (by omega)
    have v5 := hA.1.1.1
    have BE := fun Φ => wp_begin (46 + 2 * t) 60 n 0 (by omega) g2 (by rw [g3]; congr 1; omega) (by rw [← g4]; congr 1; omega) (by decide) ν Φ
    have hA2 : LA (fl (am_up ν (46 + 2 * t) 1 n) (46 + 2 * t + 1) 60 0) n (rwR μ r) (rwR μ b) := LA_as hA (fun k hk => by rw [fl_ne _ _ _ _ _ (by omega), up_ne _ _ _ (by omega)])
    have WF := fun Φ k => wp_writeFirst hA2 (by rw [e]; omega) (47 + 2 * t) g4 (by omega) Φ k
    rw [e] at WF
    have fr : ∀ k, ¬ k = 46 + 2 * t → ¬ k = 47 + 2 * t → fl (am_up ν (46 + 2 * t) 1 n) (46 + 2 * t + 1) 60 0 k = ν k := fun k h1 h2 => by
      rw [fl_ne _ _ _ _ _ (by omega), up_ne _ _ _ h1]
    have f1 : fl (am_up ν (46 + 2 * t) 1 n) (46 + 2 * t + 1) 60 0 (46 + 2 * t) 1 = n := by
      rw [fl_ne _ _ _ _ _ (by omega), up_at, if_pos ⟨rfl, rfl⟩]
    generalize hτ : fl (am_up ν (46 + 2 * t) 1 n) (46 + 2 * t + 1) 60 0 = τ at *
    simp (disch := omega) [sz_s, sz_0, gx_s, hx_r, hx_c, hx_b, hx_s, hx_i, hx_n, kx_s, kx_n, kx_i, cx_d, up_at, am_ctl, am_step, am_i1, am_i2, am_i2d, am_l1, am_l2, am_l2d, am_ldi, am_ldl, am_lda, am_sti, am_sta, am_stl, am_inc, am_i2l, am_l2i, am_lcmp, am_dup, am_dup2, am_pop1, am_fv, am_getf, am_putf, am_wr, am_ial, am_lal, am_bal, am_aal, am_ias, am_las, am_bas, am_alen, am_inst, am_cast, am_cpm, am_copy, am_tsw, am_pop, am_cat, am_cS, am_cI, am_cV, am_ri, am_rl, am_ra, am_rv, am_b1, am_b2, am_ent, am_en, am_isL, am_st1, am_st2, am_clr, am_cnd, cc_118, ac_118, nL_118, rb_118, np_129, ok_118_129, nL_129, np_43, ok_118_43, nL_43, vd_43_5, np_46, ok_118_46, nL_46, vd_46_5, np_57, ok_118_57, nL_57, vd_57_8, np_133, ok_118_133, nL_133, vd_133_11, np_154, ok_118_154, nL_154, vd_154_11, tg_11_6, tg_11_0, tg_5_5, tg_8_0, List.getElem?_cons_succ, List.getElem?_cons_zero, nz_of, nzl_of, Int.toNat_add, Int.toNat_mul, tn_l, lt_t, lt_f, le_t, le_f, eq_t, eq_f, ltn_t, ltn_f, len_t, len_f, eqn_t, eqn_f, up_ne, up_up, sh_0, sh_1, rf_0_0, rf_0_6, sh_38, N, z, sh_38, v5, g1, g2, g3, BE]
    refine WF _ (fun ρ r1 r2 => ?_)
    replace k2 := k2 ρ ⟨fun k h1 h2 h3 => by rw [r1 k h3, fr k h2 h3]; exact f k h1, by rw [r1 _ (by omega)]; exact f1, r2⟩
    simp (disch := omega) [sz_s, sz_0, gx_s, hx_r, hx_c, hx_b, hx_s, hx_i, hx_n, kx_s, kx_n, kx_i, cx_d, up_at, am_ctl, am_step, am_i1, am_i2, am_i2d, am_l1, am_l2, am_l2d, am_ldi, am_ldl, am_lda, am_sti, am_sta, am_stl, am_inc, am_i2l, am_l2i, am_lcmp, am_dup, am_dup2, am_pop1, am_fv, am_getf, am_putf, am_wr, am_ial, am_lal, am_bal, am_aal, am_ias, am_las, am_bas, am_alen, am_inst, am_cast, am_cpm, am_copy, am_tsw, am_pop, am_cat, am_cS, am_cI, am_cV, am_ri, am_rl, am_ra, am_rv, am_b1, am_b2, am_ent, am_en, am_isL, am_st1, am_st2, am_clr, am_cnd, cc_118, ac_118, nL_118, rb_118, np_129, ok_118_129, nL_129, np_43, ok_118_43, nL_43, vd_43_5, np_46, ok_118_46, nL_46, vd_46_5, np_57, ok_118_57, nL_57, vd_57_8, np_133, ok_118_133, nL_133, vd_133_11, np_154, ok_118_154, nL_154, vd_154_11, tg_11_6, tg_11_0, tg_5_5, tg_8_0, List.getElem?_cons_succ, List.getElem?_cons_zero, nz_of, nzl_of, Int.toNat_add, Int.toNat_mul, tn_l, lt_t, lt_f, le_t, le_f, eq_t, eq_f, ltn_t, ltn_f, len_t, len_f, eqn_t, eqn_f, up_ne, up_up]
    exact k2
set_option maxHeartbeats 4000000 in
set_option maxRecDepth 100000 in
theorem wm_leads_ok {μ : Nat → Nat → Int} {r b n : Nat} (hr : r < 6) (hb : b < 6) (h : GB μ r b n) (Φ : Option AV → ST → Prop) (k : ∀ ν, FB μ ν → Φ (some (.inl 1)) (S (am_up (am_up ν 101 9 (BH (okW μ r b) n 0)) 101 10 1))) : wpM 231 [.inr (.inr (some 101)), .inl r, .inl b] (S μ) Φ := by
  have e : okZ (rwR μ r) (rwR μ b) = okW μ r b := rfl
  have hM := GB_MW hr hb h
  unfold wpM
  rw [s1_iff [] 200]
  simp (disch := omega) [sz_s, sz_0, gx_s, hx_r, hx_c, hx_b, hx_s, hx_i, hx_n, kx_s, kx_n, kx_i, cx_d, up_at, am_ctl, am_step, am_i1, am_i2, am_i2d, am_l1, am_l2, am_l2d, am_ldi, am_ldl, am_lda, am_sti, am_sta, am_stl, am_inc, am_i2l, am_l2i, am_lcmp, am_dup, am_dup2, am_pop1, am_fv, am_getf, am_putf, am_wr, am_ial, am_lal, am_bal, am_aal, am_ias, am_las, am_bas, am_alen, am_inst, am_cast, am_cpm, am_copy, am_tsw, am_pop, am_cat, am_cS, am_cI, am_cV, am_ri, am_rl, am_ra, am_rv, am_b1, am_b2, am_ent, am_en, am_isL, am_st1, am_st2, am_clr, am_cnd, cc_231, ac_231, nL_231, rb_231, np_163, ok_231_163, nL_163, np_160, ok_231_160, nL_160, vd_160_12, np_228, ok_231_228, nL_228, vd_228_12, np_230, ok_231_230, nL_230, vd_230_12, tg_12_24, List.getElem?_cons_succ, List.getElem?_cons_zero, nz_of, nzl_of, Int.toNat_add, Int.toNat_mul, tn_l, lt_t, lt_f, le_t, le_f, eq_t, eq_f, ltn_t, ltn_f, len_t, len_f, eqn_t, eqn_f, up_ne, up_up, sh_101, wm_isRow, hr, hb, show r ≤ 5 by omega, show b ≤ 5 by omega]
  refine wm_ag_ok hr hb h _ ?_
  simp (disch := omega) [sz_s, sz_0, gx_s, hx_r, hx_c, hx_b, hx_s, hx_i, hx_n, kx_s, kx_n, kx_i, cx_d, up_at, am_ctl, am_step, am_i1, am_i2, am_i2d, am_l1, am_l2, am_l2d, am_ldi, am_ldl, am_lda, am_sti, am_sta, am_stl, am_inc, am_i2l, am_l2i, am_lcmp, am_dup, am_dup2, am_pop1, am_fv, am_getf, am_putf, am_wr, am_ial, am_lal, am_bal, am_aal, am_ias, am_las, am_bas, am_alen, am_inst, am_cast, am_cpm, am_copy, am_tsw, am_pop, am_cat, am_cS, am_cI, am_cV, am_ri, am_rl, am_ra, am_rv, am_b1, am_b2, am_ent, am_en, am_isL, am_st1, am_st2, am_clr, am_cnd, cc_231, ac_231, nL_231, rb_231, np_163, ok_231_163, nL_163, np_160, ok_231_160, nL_160, vd_160_12, np_228, ok_231_228, nL_228, vd_228_12, np_230, ok_231_230, nL_230, vd_230_12, tg_12_24, List.getElem?_cons_succ, List.getElem?_cons_zero, nz_of, nzl_of, Int.toNat_add, Int.toNat_mul, tn_l, lt_t, lt_f, le_t, le_f, eq_t, eq_f, ltn_t, ltn_f, len_t, len_f, eqn_t, eqn_f, up_ne, up_up, sh_101]
  refine wm_findLeads hM _ (fun ν t1 t2 => ?_)
  have v := t2 0 (Nat.two_pow_pos n)
  rw [e] at v
  replace k := k ν (fun k hk => t1 k (by omega))
  have rr := BH_rng (ok := okW μ r b) (n := n) h.1.2.2 0
  generalize BH (okW μ r b) n 0 = x at *
  simp (disch := omega) [sz_s, sz_0, gx_s, hx_r, hx_c, hx_b, hx_s, hx_i, hx_n, kx_s, kx_n, kx_i, cx_d, up_at, am_ctl, am_step, am_i1, am_i2, am_i2d, am_l1, am_l2, am_l2d, am_ldi, am_ldl, am_lda, am_sti, am_sta, am_stl, am_inc, am_i2l, am_l2i, am_lcmp, am_dup, am_dup2, am_pop1, am_fv, am_getf, am_putf, am_wr, am_ial, am_lal, am_bal, am_aal, am_ias, am_las, am_bas, am_alen, am_inst, am_cast, am_cpm, am_copy, am_tsw, am_pop, am_cat, am_cS, am_cI, am_cV, am_ri, am_rl, am_ra, am_rv, am_b1, am_b2, am_ent, am_en, am_isL, am_st1, am_st2, am_clr, am_cnd, cc_231, ac_231, nL_231, rb_231, np_163, ok_231_163, nL_163, np_160, ok_231_160, nL_160, vd_160_12, np_228, ok_231_228, nL_228, vd_228_12, np_230, ok_231_230, nL_230, vd_230_12, tg_12_24, List.getElem?_cons_succ, List.getElem?_cons_zero, nz_of, nzl_of, Int.toNat_add, Int.toNat_mul, tn_l, lt_t, lt_f, le_t, le_f, eq_t, eq_f, ltn_t, ltn_f, len_t, len_f, eqn_t, eqn_f, up_ne, up_up, sh_101, sh_119, rf_101_24, v]
  exact k
set_option maxHeartbeats 4000000 in
set_option maxRecDepth 100000 in
theorem wm_led_ok {μ : Nat → Nat → Int} {r b n : Nat} (hr : r < 6) (hb : b < 6) (h : GB μ r b n) (Φ : Option AV → ST → Prop) (k1 : BH (okW μ r b) n 0 = 0 → ∀ ν, FB μ ν → Φ (some (.inl (-3))) (S (mfind ν 4))) (k2 : 0 < BH (okW μ r b) n 0 → ∀ ν, FB μ ν → Φ (some (.inl (spZ (suQ (okW μ r b) n) n : Nat))) (S ν)) : wpM 234 [.inr (.inr (some 101)), .inl r, .inl b] (S μ) Φ := by
  have e : okZ (rwR μ r) (rwR μ b) = okW μ r b := rfl
  have hM := GB_MW hr hb h
  have hn := h.1.2.2
  unfold wpM
  rw [s1_iff [68] 200]
  simp (disch := omega) [sz_s, sz_0, gx_s, hx_r, hx_c, hx_b, hx_s, hx_i, hx_n, kx_s, kx_n, kx_i, cx_d, up_at, am_ctl, am_step, am_i1, am_i2, am_i2d, am_l1, am_l2, am_l2d, am_ldi, am_ldl, am_lda, am_sti, am_sta, am_stl, am_inc, am_i2l, am_l2i, am_lcmp, am_dup, am_dup2, am_pop1, am_fv, am_getf, am_putf, am_wr, am_ial, am_lal, am_bal, am_aal, am_ias, am_las, am_bas, am_alen, am_inst, am_cast, am_cpm, am_copy, am_tsw, am_pop, am_cat, am_cS, am_cI, am_cV, am_ri, am_rl, am_ra, am_rv, am_b1, am_b2, am_ent, am_en, am_isL, am_st1, am_st2, am_clr, am_cnd, cc_234, ac_234, nL_234, rb_234, np_163, ok_234_163, nL_163, np_160, ok_234_160, nL_160, vd_160_12, np_228, ok_234_228, nL_228, vd_228_12, np_230, ok_234_230, nL_230, vd_230_12, np_232, ok_234_232, nL_232, vd_232_12, np_233, ok_234_233, nL_233, vd_233_12, tg_12_24, tg_12_3, tg_12_25, List.getElem?_cons_succ, List.getElem?_cons_zero, nz_of, nzl_of, Int.toNat_add, Int.toNat_mul, tn_l, lt_t, lt_f, le_t, le_f, eq_t, eq_f, ltn_t, ltn_f, len_t, len_f, eqn_t, eqn_f, up_ne, up_up, sh_101, wm_isRow, hr, hb, show r ≤ 5 by omega, show b ≤ 5 by omega]
  refine wm_ag_ok hr hb h _ ?_
  simp (disch := omega) [sz_s, sz_0, gx_s, hx_r, hx_c, hx_b, hx_s, hx_i, hx_n, kx_s, kx_n, kx_i, cx_d, up_at, am_ctl, am_step, am_i1, am_i2, am_i2d, am_l1, am_l2, am_l2d, am_ldi, am_ldl, am_lda, am_sti, am_sta, am_stl, am_inc, am_i2l, am_l2i, am_lcmp, am_dup, am_dup2, am_pop1, am_fv, am_getf, am_putf, am_wr, am_ial, am_lal, am_bal, am_aal, am_ias, am_las, am_bas, am_alen, am_inst, am_cast, am_cpm, am_copy, am_tsw, am_pop, am_cat, am_cS, am_cI, am_cV, am_ri, am_rl, am_ra, am_rv, am_b1, am_b2, am_ent, am_en, am_isL, am_st1, am_st2, am_clr, am_cnd, cc_234, ac_234, nL_234, rb_234, np_163, ok_234_163, nL_163, np_160, ok_234_160, nL_160, vd_160_12, np_228, ok_234_228, nL_228, vd_228_12, np_230, ok_234_230, nL_230, vd_230_12, np_232, ok_234_232, nL_232, vd_232_12, np_233, ok_234_233, nL_233, vd_233_12, tg_12_24, tg_12_3, tg_12_25, List.getElem?_cons_succ, List.getElem?_cons_zero, nz_of, nzl_of, Int.toNat_add, Int.toNat_mul, tn_l, lt_t, lt_f, le_t, le_f, eq_t, eq_f, ltn_t, ltn_f, len_t, len_f, eqn_t, eqn_f, up_ne, up_up, sh_101]
  refine wm_findLeads hM _ (fun ν t1 t2 => ?_)
  have v := t2 0 (Nat.two_pow_pos n)
  have rr := BH_rng (ok := okW μ r b) (n := n) h.1.2.2 0
  rw [e] at v
  by_cases z : BH (okW μ r b) n 0 = 0
  · replace k1 := k1 z ν (fun k hk => t1 k (by omega))
    have last : ∀ Φ : Option AV → ST → Prop, Φ (some (.inl (-3))) (S (mfind ν 4)) → wpM 160 [.inr (.inr (some 101)), .inl 4] (S ν) Φ := fun Φ q => by
      rw [wm_met 4 (by decide)]
      exact q
    rw [z] at v
    simp (disch := omega) [sz_s, sz_0, gx_s, hx_r, hx_c, hx_b, hx_s, hx_i, hx_n, kx_s, kx_n, kx_i, cx_d, up_at, am_ctl, am_step, am_i1, am_i2, am_i2d, am_l1, am_l2, am_l2d, am_ldi, am_ldl, am_lda, am_sti, am_sta, am_stl, am_inc, am_i2l, am_l2i, am_lcmp, am_dup, am_dup2, am_pop1, am_fv, am_getf, am_putf, am_wr, am_ial, am_lal, am_bal, am_aal, am_ias, am_las, am_bas, am_alen, am_inst, am_cast, am_cpm, am_copy, am_tsw, am_pop, am_cat, am_cS, am_cI, am_cV, am_ri, am_rl, am_ra, am_rv, am_b1, am_b2, am_ent, am_en, am_isL, am_st1, am_st2, am_clr, am_cnd, cc_234, ac_234, nL_234, rb_234, np_163, ok_234_163, nL_163, np_160, ok_234_160, nL_160, vd_160_12, np_228, ok_234_228, nL_228, vd_228_12, np_230, ok_234_230, nL_230, vd_230_12, np_232, ok_234_232, nL_232, vd_232_12, np_233, ok_234_233, nL_233, vd_233_12, tg_12_24, tg_12_3, tg_12_25, List.getElem?_cons_succ, List.getElem?_cons_zero, nz_of, nzl_of, Int.toNat_add, Int.toNat_mul, tn_l, lt_t, lt_f, le_t, le_f, eq_t, eq_f, ltn_t, ltn_f, len_t, len_f, eqn_t, eqn_f, up_ne, up_up, sh_101, sh_119, rf_101_24, v, am_cmp]
    refine last _ ?_
    simp (disch := omega) [sz_s, sz_0, gx_s, hx_r, hx_c, hx_b, hx_s, hx_i, hx_n, kx_s, kx_n, kx_i, cx_d, up_at, am_ctl, am_step, am_i1, am_i2, am_i2d, am_l1, am_l2, am_l2d, am_ldi, am_ldl, am_lda, am_sti, am_sta, am_stl, am_inc, am_i2l, am_l2i, am_lcmp, am_dup, am_dup2, am_pop1, am_fv, am_getf, am_putf, am_wr, am_ial, am_lal, am_bal, am_aal, am_ias, am_las, am_bas, am_alen, am_inst, am_cast, am_cpm, am_copy, am_tsw, am_pop, am_cat, am_cS, am_cI, am_cV, am_ri, am_rl, am_ra, am_rv, am_b1, am_b2, am_ent, am_en, am_isL, am_st1, am_st2, am_clr, am_cnd, cc_234, ac_234, nL_234, rb_234, np_163, ok_234_163, nL_163, np_160, ok_234_160, nL_160, vd_160_12, np_228, ok_234_228, nL_228, vd_228_12, np_230, ok_234_230, nL_230, vd_230_12, np_232, ok_234_232, nL_232, vd_232_12, np_233, ok_234_233, nL_233, vd_233_12, tg_12_24, tg_12_3, tg_12_25, List.getElem?_cons_succ, List.getElem?_cons_zero, nz_of, nzl_of, Int.toNat_add, Int.toNat_mul, tn_l, lt_t, lt_f, le_t, le_f, eq_t, eq_f, ltn_t, ltn_f, len_t, len_f, eqn_t, eqn_f, up_ne, up_up]
    exact k1
  · replace k2 := k2 (by omega)
    have hM2 := MW_as hM (fun k hk => t1 k (by omega))
    have goal2 : ∀ Φ' : Option AV → ST → Prop, (∀ ρ : Nat → Nat → Int, (∀ k, ¬ k = 120 → ρ k = ν k) → (∀ i, i < n → ρ 120 i = (chM (okW μ r b) n i : Nat)) → Φ' none (S ρ)) → wpM 232 [.inr (.inr (some 101)), .inl r, .inl b] (S ν) Φ' := fun Φ' q => wm_choose hM2 t2 (by rw [e]; omega) Φ' (by rw [e]; exact q)
    simp (disch := omega) [sz_s, sz_0, gx_s, hx_r, hx_c, hx_b, hx_s, hx_i, hx_n, kx_s, kx_n, kx_i, cx_d, up_at, am_ctl, am_step, am_i1, am_i2, am_i2d, am_l1, am_l2, am_l2d, am_ldi, am_ldl, am_lda, am_sti, am_sta, am_stl, am_inc, am_i2l, am_l2i, am_lcmp, am_dup, am_dup2, am_pop1, am_fv, am_getf, am_putf, am_wr, am_ial, am_lal, am_bal, am_aal, am_ias, am_las, am_bas, am_alen, am_inst, am_cast, am_cpm, am_copy, am_tsw, am_pop, am_cat, am_cS, am_cI, am_cV, am_ri, am_rl, am_ra, am_rv, am_b1, am_b2, am_ent, am_en, am_isL, am_st1, am_st2, am_clr, am_cnd, cc_234, ac_234, nL_234, rb_234, np_163, ok_234_163, nL_163, np_160, ok_234_160, nL_160, vd_160_12, np_228, ok_234_228, nL_228, vd_228_12, np_230, ok_234_230, nL_230, vd_230_12, np_232, ok_234_232, nL_232, vd_232_12, np_233, ok_234_233, nL_233, vd_233_12, tg_12_24, tg_12_3, tg_12_25, List.getElem?_cons_succ, List.getElem?_cons_zero, nz_of, nzl_of, Int.toNat_add, Int.toNat_mul, tn_l, lt_t, lt_f, le_t, le_f, eq_t, eq_f, ltn_t, ltn_f, len_t, len_f, eqn_t, eqn_f, up_ne, up_up, sh_101, sh_119, rf_101_24, v, am_cmp, z, show ¬ BH (okW μ r b) n 0 < 0 by omega]
    refine goal2 _ (fun ρ r1 r2 => ?_)
    have key := up_to (fun (i : Nat) (τ : Nat → Nat → Int) => wpS 234 68 [some (.inr (.inr (some 101))), some (.inl r), some (.inl b), some (.inl 0), some (.inl (spZ (suQ (okW μ r b) n) i : Nat)), some (.inl i)] [] (S τ) Φ) (fun i τ => FB μ τ ∧ ∀ i, i < n → τ 120 i = (chM (okW μ r b) n i : Nat)) n (fun i τ hi hI hs' => by
      try dsimp only at hI hs' ⊢
      obtain ⟨i1, i2⟩ := hI
      have hM3 := MW_as hM (fun k hk => i1 k (by omega))
      have v105 := hM3.1.1
      have ci := i2 i hi
      have lt := spZ_lt (q := suQ (okW μ r b) n) i (by omega)
      have bo := bit_o (spZ (suQ (okW μ r b) n) i) lt i (by omega)
      have b0 := bit_0 _ lt
      obtain ⟨c1, c2, c3, c4⟩ := ch_ok (ok := okW μ r b) hn (by omega) i (by omega)
      obtain ⟨m1, m2, m3⟩ := ch_m (ok := okW μ r b) hn hi c1 c2 c3
      have AL := fun Φ k => wm_isAlways hM3 i (chM (okW μ r b) n i) hi m2 Φ k
      rw [e] at AL
      rw [spZ] at hs'
      have sq : suQ (okW μ r b) n i = decide (smZ (okW μ r b) n i (chM (okW μ r b) n i) = BH (okW μ r b) n 0) := rfl
      generalize hT : spZ (suQ (okW μ r b) n) i = T at *
      generalize hm0 : chM (okW μ r b) n i = m0 at *
      rw [s1_iff [68] 200]
      simp (disch := omega) [sz_s, sz_0, gx_s, hx_r, hx_c, hx_b, hx_s, hx_i, hx_n, kx_s, kx_n, kx_i, cx_d, up_at, am_ctl, am_step, am_i1, am_i2, am_i2d, am_l1, am_l2, am_l2d, am_ldi, am_ldl, am_lda, am_sti, am_sta, am_stl, am_inc, am_i2l, am_l2i, am_lcmp, am_dup, am_dup2, am_pop1, am_fv, am_getf, am_putf, am_wr, am_ial, am_lal, am_bal, am_aal, am_ias, am_las, am_bas, am_alen, am_inst, am_cast, am_cpm, am_copy, am_tsw, am_pop, am_cat, am_cS, am_cI, am_cV, am_ri, am_rl, am_ra, am_rv, am_b1, am_b2, am_ent, am_en, am_isL, am_st1, am_st2, am_clr, am_cnd, cc_234, ac_234, nL_234, rb_234, np_163, ok_234_163, nL_163, np_160, ok_234_160, nL_160, vd_160_12, np_228, ok_234_228, nL_228, vd_228_12, np_230, ok_234_230, nL_230, vd_230_12, np_232, ok_234_232, nL_232, vd_232_12, np_233, ok_234_233, nL_233, vd_233_12, tg_12_24, tg_12_3, tg_12_25, List.getElem?_cons_succ, List.getElem?_cons_zero, nz_of, nzl_of, Int.toNat_add, Int.toNat_mul, tn_l, lt_t, lt_f, le_t, le_f, eq_t, eq_f, ltn_t, ltn_f, len_t, len_f, eqn_t, eqn_f, up_ne, up_up, sh_101, sh_105, sh_120, rf_101_3, rf_101_25, v105, hi, ci]
      refine AL _ (fun υ u1 u2 => ?_)
      have fr : FB μ υ ∧ ∀ i, i < n → υ 120 i = (chM (okW μ r b) n i : Nat) := ⟨fun k hk => by rw [u1 k (by omega)]; exact i1 k hk, fun j hj => by rw [u1 120 (by decide)]; exact i2 j hj⟩
      by_cases y : smZ (okW μ r b) n i m0 = BH (okW μ r b) n 0
      · rw [if_pos (by rw [sq]; simp [y])] at hs'
        rw [if_pos y]
        have q := hs' υ fr
        simp (disch := omega) [sz_s, sz_0, gx_s, hx_r, hx_c, hx_b, hx_s, hx_i, hx_n, kx_s, kx_n, kx_i, cx_d, up_at, am_ctl, am_step, am_i1, am_i2, am_i2d, am_l1, am_l2, am_l2d, am_ldi, am_ldl, am_lda, am_sti, am_sta, am_stl, am_inc, am_i2l, am_l2i, am_lcmp, am_dup, am_dup2, am_pop1, am_fv, am_getf, am_putf, am_wr, am_ial, am_lal, am_bal, am_aal, am_ias, am_las, am_bas, am_alen, am_inst, am_cast, am_cpm, am_copy, am_tsw, am_pop, am_cat, am_cS, am_cI, am_cV, am_ri, am_rl, am_ra, am_rv, am_b1, am_b2, am_ent, am_en, am_isL, am_st1, am_st2, am_clr, am_cnd, cc_234, ac_234, nL_234, rb_234, np_163, ok_234_163, nL_163, np_160, ok_234_160, nL_160, vd_160_12, np_228, ok_234_228, nL_228, vd_228_12, np_230, ok_234_230, nL_230, vd_230_12, np_232, ok_234_232, nL_232, vd_232_12, np_233, ok_234_233, nL_233, vd_233_12, tg_12_24, tg_12_3, tg_12_25, List.getElem?_cons_succ, List.getElem?_cons_zero, nz_of, nzl_of, Int.toNat_add, Int.toNat_mul, tn_l, lt_t, lt_f, le_t, le_f, eq_t, eq_f, ltn_t, ltn_f, len_t, len_f, eqn_t, eqn_f, up_ne, up_up, sh_101, bo]
        simpa using q
      · rw [if_neg (by rw [sq]; simp [y])] at hs'
        rw [if_neg y]
        have q := hs' υ fr
        simp (disch := omega) [sz_s, sz_0, gx_s, hx_r, hx_c, hx_b, hx_s, hx_i, hx_n, kx_s, kx_n, kx_i, cx_d, up_at, am_ctl, am_step, am_i1, am_i2, am_i2d, am_l1, am_l2, am_l2d, am_ldi, am_ldl, am_lda, am_sti, am_sta, am_stl, am_inc, am_i2l, am_l2i, am_lcmp, am_dup, am_dup2, am_pop1, am_fv, am_getf, am_putf, am_wr, am_ial, am_lal, am_bal, am_aal, am_ias, am_las, am_bas, am_alen, am_inst, am_cast, am_cpm, am_copy, am_tsw, am_pop, am_cat, am_cS, am_cI, am_cV, am_ri, am_rl, am_ra, am_rv, am_b1, am_b2, am_ent, am_en, am_isL, am_st1, am_st2, am_clr, am_cnd, cc_234, ac_234, nL_234, rb_234, np_163, ok_234_163, nL_163, np_160, ok_234_160, nL_160, vd_160_12, np_228, ok_234_228, nL_228, vd_228_12, np_230, ok_234_230, nL_230, vd_230_12, np_232, ok_234_232, nL_232, vd_232_12, np_233, ok_234_233, nL_233, vd_233_12, tg_12_24, tg_12_3, tg_12_25, List.getElem?_cons_succ, List.getElem?_cons_zero, nz_of, nzl_of, Int.toNat_add, Int.toNat_mul, tn_l, lt_t, lt_f, le_t, le_f, eq_t, eq_f, ltn_t, ltn_f, len_t, len_f, eqn_t, eqn_f, up_ne, up_up, sh_101, b0]
        simpa using q) (fun τ hI => by
      try dsimp only at hI ⊢
      obtain ⟨i1, i2⟩ := hI
      have hM3 := MW_as hM (fun k hk => i1 k (by omega))
      have v105 := hM3.1.1
      replace k2 := k2 τ i1
      generalize spZ (suQ (okW μ r b) n) n = T at *
      rw [s1_iff [68] 200]
      simp (disch := omega) [sz_s, sz_0, gx_s, hx_r, hx_c, hx_b, hx_s, hx_i, hx_n, kx_s, kx_n, kx_i, cx_d, up_at, am_ctl, am_step, am_i1, am_i2, am_i2d, am_l1, am_l2, am_l2d, am_ldi, am_ldl, am_lda, am_sti, am_sta, am_stl, am_inc, am_i2l, am_l2i, am_lcmp, am_dup, am_dup2, am_pop1, am_fv, am_getf, am_putf, am_wr, am_ial, am_lal, am_bal, am_aal, am_ias, am_las, am_bas, am_alen, am_inst, am_cast, am_cpm, am_copy, am_tsw, am_pop, am_cat, am_cS, am_cI, am_cV, am_ri, am_rl, am_ra, am_rv, am_b1, am_b2, am_ent, am_en, am_isL, am_st1, am_st2, am_clr, am_cnd, cc_234, ac_234, nL_234, rb_234, np_163, ok_234_163, nL_163, np_160, ok_234_160, nL_160, vd_160_12, np_228, ok_234_228, nL_228, vd_228_12, np_230, ok_234_230, nL_230, vd_230_12, np_232, ok_234_232, nL_232, vd_232_12, np_233, ok_234_233, nL_233, vd_233_12, tg_12_24, tg_12_3, tg_12_25, List.getElem?_cons_succ, List.getElem?_cons_zero, nz_of, nzl_of, Int.toNat_add, Int.toNat_mul, tn_l, lt_t, lt_f, le_t, le_f, eq_t, eq_f, ltn_t, ltn_f, len_t, len_f, eqn_t, eqn_f, up_ne, up_up, sh_101, sh_105, rf_101_3, v105]
      exact k2) ρ ⟨fun k hk => by rw [r1 k (by omega), t1 k (by omega)], r2⟩
    have e0 : spZ (suQ (okW μ r b) n) 0 = 0 := rfl
    rw [e0] at key
    simp (disch := omega) [sz_s, sz_0, gx_s, hx_r, hx_c, hx_b, hx_s, hx_i, hx_n, kx_s, kx_n, kx_i, cx_d, up_at, am_ctl, am_step, am_i1, am_i2, am_i2d, am_l1, am_l2, am_l2d, am_ldi, am_ldl, am_lda, am_sti, am_sta, am_stl, am_inc, am_i2l, am_l2i, am_lcmp, am_dup, am_dup2, am_pop1, am_fv, am_getf, am_putf, am_wr, am_ial, am_lal, am_bal, am_aal, am_ias, am_las, am_bas, am_alen, am_inst, am_cast, am_cpm, am_copy, am_tsw, am_pop, am_cat, am_cS, am_cI, am_cV, am_ri, am_rl, am_ra, am_rv, am_b1, am_b2, am_ent, am_en, am_isL, am_st1, am_st2, am_clr, am_cnd, cc_234, ac_234, nL_234, rb_234, np_163, ok_234_163, nL_163, np_160, ok_234_160, nL_160, vd_160_12, np_228, ok_234_228, nL_228, vd_228_12, np_230, ok_234_230, nL_230, vd_230_12, np_232, ok_234_232, nL_232, vd_232_12, np_233, ok_234_233, nL_233, vd_233_12, tg_12_24, tg_12_3, tg_12_25, List.getElem?_cons_succ, List.getElem?_cons_zero, nz_of, nzl_of, Int.toNat_add, Int.toNat_mul, tn_l, lt_t, lt_f, le_t, le_f, eq_t, eq_f, ltn_t, ltn_f, len_t, len_f, eqn_t, eqn_f, up_ne, up_up, sh_101]
    simpa using key
set_option maxHeartbeats 4000000 in
set_option maxRecDepth 100000 in
theorem wm_most_ok {μ : Nat → Nat → Int} {r b n : Nat} (hr : r < 6) (hb : b < 6) (h : GB μ r b n) (Φ : Option AV → ST → Prop) (k : ∀ ν, FB μ ν → Φ (some (.inl (mfZ (okW μ r b) n n (2 ^ n - 1)))) (S ν)) : wpM 236 [.inr (.inr (some 101)), .inl r, .inl b] (S μ) Φ := by
  have e : okZ (rwR μ r) (rwR μ b) = okW μ r b := rfl
  have hM := GB_MW hr hb h
  have v105 := hM.1.1
  have L := fun l5 l6 l7 l8 Φ k => wm_mostL hM l5 l6 l7 l8 Φ k
  rw [e] at L
  unfold wpM
  rw [s1_iff [44] 200]
  simp (disch := omega) [sz_s, sz_0, gx_s, hx_r, hx_c, hx_b, hx_s, hx_i, hx_n, kx_s, kx_n, kx_i, cx_d, up_at, am_ctl, am_step, am_i1, am_i2, am_i2d, am_l1, am_l2, am_l2d, am_ldi, am_ldl, am_lda, am_sti, am_sta, am_stl, am_inc, am_i2l, am_l2i, am_lcmp, am_dup, am_dup2, am_pop1, am_fv, am_getf, am_putf, am_wr, am_ial, am_lal, am_bal, am_aal, am_ias, am_las, am_bas, am_alen, am_inst, am_cast, am_cpm, am_copy, am_tsw, am_pop, am_cat, am_cS, am_cI, am_cV, am_ri, am_rl, am_ra, am_rv, am_b1, am_b2, am_ent, am_en, am_isL, am_st1, am_st2, am_clr, am_cnd, cc_236, ac_236, nL_236, rb_236, np_157, ok_236_157, nL_157, np_163, ok_236_163, nL_163, np_160, ok_236_160, nL_160, vd_160_12, np_228, ok_236_228, nL_228, vd_228_12, np_229, ok_236_229, nL_229, vd_229_12, tg_12_3, tg_12_24, List.getElem?_cons_succ, List.getElem?_cons_zero, nz_of, nzl_of, Int.toNat_add, Int.toNat_mul, tn_l, lt_t, lt_f, le_t, le_f, eq_t, eq_f, ltn_t, ltn_f, len_t, len_f, eqn_t, eqn_f, up_ne, up_up, sh_101, wm_isRow, hr, hb, show r ≤ 5 by omega, show b ≤ 5 by omega]
  refine wm_ag_ok hr hb h _ ?_
  simp (disch := omega) [sz_s, sz_0, gx_s, hx_r, hx_c, hx_b, hx_s, hx_i, hx_n, kx_s, kx_n, kx_i, cx_d, up_at, am_ctl, am_step, am_i1, am_i2, am_i2d, am_l1, am_l2, am_l2d, am_ldi, am_ldl, am_lda, am_sti, am_sta, am_stl, am_inc, am_i2l, am_l2i, am_lcmp, am_dup, am_dup2, am_pop1, am_fv, am_getf, am_putf, am_wr, am_ial, am_lal, am_bal, am_aal, am_ias, am_las, am_bas, am_alen, am_inst, am_cast, am_cpm, am_copy, am_tsw, am_pop, am_cat, am_cS, am_cI, am_cV, am_ri, am_rl, am_ra, am_rv, am_b1, am_b2, am_ent, am_en, am_isL, am_st1, am_st2, am_clr, am_cnd, cc_236, ac_236, nL_236, rb_236, np_157, ok_236_157, nL_157, np_163, ok_236_163, nL_163, np_160, ok_236_160, nL_160, vd_160_12, np_228, ok_236_228, nL_228, vd_228_12, np_229, ok_236_229, nL_229, vd_229_12, tg_12_3, tg_12_24, List.getElem?_cons_succ, List.getElem?_cons_zero, nz_of, nzl_of, Int.toNat_add, Int.toNat_mul, tn_l, lt_t, lt_f, le_t, le_f, eq_t, eq_f, ltn_t, ltn_f, len_t, len_f, eqn_t, eqn_f, up_ne, up_up, sh_101, sh_105, rf_101_3, v105]
  have q := L none none none none Φ (fun ν t1 => k ν (fun k hk => t1 k (by omega)))
  simpa using q
/-- the reference has written the way into row t -/
def FU (μ ν : Nat → Nat → Int) (t n : Nat) (v : Nat → Nat) : Prop := (∀ k i, ¬ (119 ≤ k ∧ k ≤ 120) → ¬ (k = 105 ∧ i = t) → ¬ (k = 104 ∧ 60 * t ≤ i ∧ i < 60 * t + n) → ν k i = μ k i) ∧ ν 105 t = n ∧ ∀ i, i < n → ν 104 (60 * t + i) = (v i : Nat)
set_option maxHeartbeats 4000000 in
set_option maxRecDepth 100000 in
theorem wm_lead_ok {μ : Nat → Nat → Int} {r b n : Nat} (hr : r < 6) (hb : b < 6) (h : GB μ r b n) (t : Nat) (ht : t < 6) (Φ : Option AV → ST → Prop) (k1 : BH (okW μ r b) n 0 = 0 → ∀ ν, FB μ ν → Φ (some (.inl (-3))) (S (mfind ν 4))) (k2 : 0 < BH (okW μ r b) n 0 → ∀ ν, FU μ ν t n (chM (okW μ r b) n) → Φ (some (.inl 1)) (S ν)) : wpM 235 [.inr (.inr (some 101)), .inl r, .inl b, .inl t] (S μ) Φ := by
  have e : okZ (rwR μ r) (rwR μ b) = okW μ r b := rfl
  have hM := GB_MW hr hb h
  have hn := h.1.2.2
  unfold wpM
  rw [s1_iff [91] 200]
  simp (disch := omega) [sz_s, sz_0, gx_s, hx_r, hx_c, hx_b, hx_s, hx_i, hx_n, kx_s, kx_n, kx_i, cx_d, up_at, am_ctl, am_step, am_i1, am_i2, am_i2d, am_l1, am_l2, am_l2d, am_ldi, am_ldl, am_lda, am_sti, am_sta, am_stl, am_inc, am_i2l, am_l2i, am_lcmp, am_dup, am_dup2, am_pop1, am_fv, am_getf, am_putf, am_wr, am_ial, am_lal, am_bal, am_aal, am_ias, am_las, am_bas, am_alen, am_inst, am_cast, am_cpm, am_copy, am_tsw, am_pop, am_cat, am_cS, am_cI, am_cV, am_ri, am_rl, am_ra, am_rv, am_b1, am_b2, am_ent, am_en, am_isL, am_st1, am_st2, am_clr, am_cnd, cc_235, ac_235, nL_235, rb_235, np_163, ok_235_163, nL_163, np_160, ok_235_160, nL_160, vd_160_12, np_228, ok_235_228, nL_228, vd_228_12, np_230, ok_235_230, nL_230, vd_230_12, np_232, ok_235_232, nL_232, vd_232_12, tg_12_24, tg_12_3, tg_12_2, tg_12_25, List.getElem?_cons_succ, List.getElem?_cons_zero, nz_of, nzl_of, Int.toNat_add, Int.toNat_mul, tn_l, lt_t, lt_f, le_t, le_f, eq_t, eq_f, ltn_t, ltn_f, len_t, len_f, eqn_t, eqn_f, up_ne, up_up, sh_101, wm_isRow, hr, hb, ht, show r ≤ 5 by omega, show b ≤ 5 by omega, show t ≤ 5 by omega]
  refine wm_ag_ok hr hb h _ ?_
  simp (disch := omega) [sz_s, sz_0, gx_s, hx_r, hx_c, hx_b, hx_s, hx_i, hx_n, kx_s, kx_n, kx_i, cx_d, up_at, am_ctl, am_step, am_i1, am_i2, am_i2d, am_l1, am_l2, am_l2d, am_ldi, am_ldl, am_lda, am_sti, am_sta, am_stl, am_inc, am_i2l, am_l2i, am_lcmp, am_dup, am_dup2, am_pop1, am_fv, am_getf, am_putf, am_wr, am_ial, am_lal, am_bal, am_aal, am_ias, am_las, am_bas, am_alen, am_inst, am_cast, am_cpm, am_copy, am_tsw, am_pop, am_cat, am_cS, am_cI, am_cV, am_ri, am_rl, am_ra, am_rv, am_b1, am_b2, am_ent, am_en, am_isL, am_st1, am_st2, am_clr, am_cnd, cc_235, ac_235, nL_235, rb_235, np_163, ok_235_163, nL_163, np_160, ok_235_160, nL_160, vd_160_12, np_228, ok_235_228, nL_228, vd_228_12, np_230, ok_235_230, nL_230, vd_230_12, np_232, ok_235_232, nL_232, vd_232_12, tg_12_24, tg_12_3, tg_12_2, tg_12_25, List.getElem?_cons_succ, List.getElem?_cons_zero, nz_of, nzl_of, Int.toNat_add, Int.toNat_mul, tn_l, lt_t, lt_f, le_t, le_f, eq_t, eq_f, ltn_t, ltn_f, len_t, len_f, eqn_t, eqn_f, up_ne, up_up, sh_101]
  refine wm_findLeads hM _ (fun ν t1 t2 => ?_)
  have v := t2 0 (Nat.two_pow_pos n)
  have rr := BH_rng (ok := okW μ r b) (n := n) h.1.2.2 0
  rw [e] at v
  by_cases z : BH (okW μ r b) n 0 = 0
  · replace k1 := k1 z ν (fun k hk => t1 k (by omega))
    have last : ∀ Φ : Option AV → ST → Prop, Φ (some (.inl (-3))) (S (mfind ν 4)) → wpM 160 [.inr (.inr (some 101)), .inl 4] (S ν) Φ := fun Φ q => by
      rw [wm_met 4 (by decide)]
      exact q
    rw [z] at v
    simp (disch := omega) [sz_s, sz_0, gx_s, hx_r, hx_c, hx_b, hx_s, hx_i, hx_n, kx_s, kx_n, kx_i, cx_d, up_at, am_ctl, am_step, am_i1, am_i2, am_i2d, am_l1, am_l2, am_l2d, am_ldi, am_ldl, am_lda, am_sti, am_sta, am_stl, am_inc, am_i2l, am_l2i, am_lcmp, am_dup, am_dup2, am_pop1, am_fv, am_getf, am_putf, am_wr, am_ial, am_lal, am_bal, am_aal, am_ias, am_las, am_bas, am_alen, am_inst, am_cast, am_cpm, am_copy, am_tsw, am_pop, am_cat, am_cS, am_cI, am_cV, am_ri, am_rl, am_ra, am_rv, am_b1, am_b2, am_ent, am_en, am_isL, am_st1, am_st2, am_clr, am_cnd, cc_235, ac_235, nL_235, rb_235, np_163, ok_235_163, nL_163, np_160, ok_235_160, nL_160, vd_160_12, np_228, ok_235_228, nL_228, vd_228_12, np_230, ok_235_230, nL_230, vd_230_12, np_232, ok_235_232, nL_232, vd_232_12, tg_12_24, tg_12_3, tg_12_2, tg_12_25, List.getElem?_cons_succ, List.getElem?_cons_zero, nz_of, nzl_of, Int.toNat_add, Int.toNat_mul, tn_l, lt_t, lt_f, le_t, le_f, eq_t, eq_f, ltn_t, ltn_f, len_t, len_f, eqn_t, eqn_f, up_ne, up_up, sh_101, sh_119, rf_101_24, v, am_cmp]
    refine last _ ?_
    simp (disch := omega) [sz_s, sz_0, gx_s, hx_r, hx_c, hx_b, hx_s, hx_i, hx_n, kx_s, kx_n, kx_i, cx_d, up_at, am_ctl, am_step, am_i1, am_i2, am_i2d, am_l1, am_l2, am_l2d, am_ldi, am_ldl, am_lda, am_sti, am_sta, am_stl, am_inc, am_i2l, am_l2i, am_lcmp, am_dup, am_dup2, am_pop1, am_fv, am_getf, am_putf, am_wr, am_ial, am_lal, am_bal, am_aal, am_ias, am_las, am_bas, am_alen, am_inst, am_cast, am_cpm, am_copy, am_tsw, am_pop, am_cat, am_cS, am_cI, am_cV, am_ri, am_rl, am_ra, am_rv, am_b1, am_b2, am_ent, am_en, am_isL, am_st1, am_st2, am_clr, am_cnd, cc_235, ac_235, nL_235, rb_235, np_163, ok_235_163, nL_163, np_160, ok_235_160, nL_160, vd_160_12, np_228, ok_235_228, nL_228, vd_228_12, np_230, ok_235_230, nL_230, vd_230_12, np_232, ok_235_232, nL_232, vd_232_12, tg_12_24, tg_12_3, tg_12_2, tg_12_25, List.getElem?_cons_succ, List.getElem?_cons_zero, nz_of, nzl_of, Int.toNat_add, Int.toNat_mul, tn_l, lt_t, lt_f, le_t, le_f, eq_t, eq_f, ltn_t, ltn_f, len_t, len_f, eqn_t, eqn_f, up_ne, up_up]
    exact k1
  · replace k2 := k2 (by omega)
    have hM2 := MW_as hM (fun k hk => t1 k (by omega))
    have goal2 : ∀ Φ' : Option AV → ST → Prop, (∀ ρ : Nat → Nat → Int, (∀ k, ¬ k = 120 → ρ k = ν k) → (∀ i, i < n → ρ 120 i = (chM (okW μ r b) n i : Nat)) → Φ' none (S ρ)) → wpM 232 [.inr (.inr (some 101)), .inl r, .inl b] (S ν) Φ' := fun Φ' q => wm_choose hM2 t2 (by rw [e]; omega) Φ' (by rw [e]; exact q)
    simp (disch := omega) [sz_s, sz_0, gx_s, hx_r, hx_c, hx_b, hx_s, hx_i, hx_n, kx_s, kx_n, kx_i, cx_d, up_at, am_ctl, am_step, am_i1, am_i2, am_i2d, am_l1, am_l2, am_l2d, am_ldi, am_ldl, am_lda, am_sti, am_sta, am_stl, am_inc, am_i2l, am_l2i, am_lcmp, am_dup, am_dup2, am_pop1, am_fv, am_getf, am_putf, am_wr, am_ial, am_lal, am_bal, am_aal, am_ias, am_las, am_bas, am_alen, am_inst, am_cast, am_cpm, am_copy, am_tsw, am_pop, am_cat, am_cS, am_cI, am_cV, am_ri, am_rl, am_ra, am_rv, am_b1, am_b2, am_ent, am_en, am_isL, am_st1, am_st2, am_clr, am_cnd, cc_235, ac_235, nL_235, rb_235, np_163, ok_235_163, nL_163, np_160, ok_235_160, nL_160, vd_160_12, np_228, ok_235_228, nL_228, vd_228_12, np_230, ok_235_230, nL_230, vd_230_12, np_232, ok_235_232, nL_232, vd_232_12, tg_12_24, tg_12_3, tg_12_2, tg_12_25, List.getElem?_cons_succ, List.getElem?_cons_zero, nz_of, nzl_of, Int.toNat_add, Int.toNat_mul, tn_l, lt_t, lt_f, le_t, le_f, eq_t, eq_f, ltn_t, ltn_f, len_t, len_f, eqn_t, eqn_f, up_ne, up_up, sh_101, sh_119, rf_101_24, v, am_cmp, z, show ¬ BH (okW μ r b) n 0 < 0 by omega]
    refine goal2 _ (fun ρ r1 r2 => ?_)
    have v105 : ρ 105 r = n := by rw [r1 105 (by decide), t1 105 (by decide)]; exact h.1.1
    have fr : ∀ k, ¬ (119 ≤ k ∧ k ≤ 120) → ρ k = μ k := fun k hk => by rw [r1 k (by omega), t1 k (by omega)]
    have key := up_to (fun (i : Nat) (τ : Nat → Nat → Int) => wpS 235 91 [some (.inr (.inr (some 101))), some (.inl r), some (.inl b), some (.inl t), some (.inl 0), some (.inl n), some (.inl i)] [] (S τ) Φ) (fun i τ => (∀ k i', ¬ (119 ≤ k ∧ k ≤ 120) → ¬ (k = 105 ∧ i' = t) → ¬ (k = 104 ∧ 60 * t ≤ i' ∧ i' < 60 * t + i) → τ k i' = μ k i') ∧ τ 105 t = n ∧ (∀ j, j < i → τ 104 (60 * t + j) = (chM (okW μ r b) n j : Nat)) ∧ ∀ j, j < n → τ 120 j = (chM (okW μ r b) n j : Nat)) n (fun i τ hi hI hs' => by
      try dsimp only at hI hs' ⊢
      obtain ⟨i1, i2, i3, i4⟩ := hI
      have ci := i4 i hi
      have z1 : (60 * (t : Int) + (i : Int)).toNat = 60 * t + i := by omega
      have q := hs' (am_up τ 104 (60 * t + i) (chM (okW μ r b) n i : Nat)) ⟨fun k i' h1 h2 h3 => by
        rw [up_at, if_neg (fun q => by omega)]
        exact i1 k i' h1 h2 (by omega), by rw [up_ne _ _ _ (by decide)]; exact i2, fun j hj => by
        rw [up_at]
        by_cases e : j = i
        · subst e; rw [if_pos ⟨rfl, rfl⟩]
        · rw [if_neg (fun q => by omega)]; exact i3 j (by omega), fun j hj => by rw [up_ne _ _ _ (by decide)]; exact i4 j hj⟩
      clear hs' i3 i4
      generalize chM (okW μ r b) n i = m0 at *
      rw [s1_iff [91] 200]
      simp (disch := omega) [sz_s, sz_0, gx_s, hx_r, hx_c, hx_b, hx_s, hx_i, hx_n, kx_s, kx_n, kx_i, cx_d, up_at, am_ctl, am_step, am_i1, am_i2, am_i2d, am_l1, am_l2, am_l2d, am_ldi, am_ldl, am_lda, am_sti, am_sta, am_stl, am_inc, am_i2l, am_l2i, am_lcmp, am_dup, am_dup2, am_pop1, am_fv, am_getf, am_putf, am_wr, am_ial, am_lal, am_bal, am_aal, am_ias, am_las, am_bas, am_alen, am_inst, am_cast, am_cpm, am_copy, am_tsw, am_pop, am_cat, am_cS, am_cI, am_cV, am_ri, am_rl, am_ra, am_rv, am_b1, am_b2, am_ent, am_en, am_isL, am_st1, am_st2, am_clr, am_cnd, cc_235, ac_235, nL_235, rb_235, np_163, ok_235_163, nL_163, np_160, ok_235_160, nL_160, vd_160_12, np_228, ok_235_228, nL_228, vd_228_12, np_230, ok_235_230, nL_230, vd_230_12, np_232, ok_235_232, nL_232, vd_232_12, tg_12_24, tg_12_3, tg_12_2, tg_12_25, List.getElem?_cons_succ, List.getElem?_cons_zero, nz_of, nzl_of, Int.toNat_add, Int.toNat_mul, tn_l, lt_t, lt_f, le_t, le_f, eq_t, eq_f, ltn_t, ltn_f, len_t, len_f, eqn_t, eqn_f, up_ne, up_up, sh_101, sh_104, sh_120, rf_101_2, rf_101_25, ci, z1]
      simpa using q) (fun τ hI => by
      try dsimp only at hI ⊢
      obtain ⟨i1, i2, i3, i4⟩ := hI
      replace k2 := k2 τ ⟨i1, i2, i3⟩
      rw [s1_iff [91] 200]
      simp (disch := omega) [sz_s, sz_0, gx_s, hx_r, hx_c, hx_b, hx_s, hx_i, hx_n, kx_s, kx_n, kx_i, cx_d, up_at, am_ctl, am_step, am_i1, am_i2, am_i2d, am_l1, am_l2, am_l2d, am_ldi, am_ldl, am_lda, am_sti, am_sta, am_stl, am_inc, am_i2l, am_l2i, am_lcmp, am_dup, am_dup2, am_pop1, am_fv, am_getf, am_putf, am_wr, am_ial, am_lal, am_bal, am_aal, am_ias, am_las, am_bas, am_alen, am_inst, am_cast, am_cpm, am_copy, am_tsw, am_pop, am_cat, am_cS, am_cI, am_cV, am_ri, am_rl, am_ra, am_rv, am_b1, am_b2, am_ent, am_en, am_isL, am_st1, am_st2, am_clr, am_cnd, cc_235, ac_235, nL_235, rb_235, np_163, ok_235_163, nL_163, np_160, ok_235_160, nL_160, vd_160_12, np_228, ok_235_228, nL_228, vd_228_12, np_230, ok_235_230, nL_230, vd_230_12, np_232, ok_235_232, nL_232, vd_232_12, tg_12_24, tg_12_3, tg_12_2, tg_12_25, List.getElem?_cons_succ, List.getElem?_cons_zero, nz_of, nzl_of, Int.toNat_add, Int.toNat_mul, tn_l, lt_t, lt_f, le_t, le_f, eq_t, eq_f, ltn_t, ltn_f, len_t, len_f, eqn_t, eqn_f, up_ne, up_up, sh_101]
      exact k2) (am_up ρ 105 t n) ⟨fun k i' h1 h2 h3 => by
        rw [up_at, if_neg h2, fr k h1], by rw [up_at, if_pos ⟨rfl, rfl⟩], fun j hj => absurd hj (by omega), fun j hj => by rw [up_ne _ _ _ (by decide)]; exact r2 j hj⟩
    try dsimp only at key
    simp (disch := omega) [sz_s, sz_0, gx_s, hx_r, hx_c, hx_b, hx_s, hx_i, hx_n, kx_s, kx_n, kx_i, cx_d, up_at, am_ctl, am_step, am_i1, am_i2, am_i2d, am_l1, am_l2, am_l2d, am_ldi, am_ldl, am_lda, am_sti, am_sta, am_stl, am_inc, am_i2l, am_l2i, am_lcmp, am_dup, am_dup2, am_pop1, am_fv, am_getf, am_putf, am_wr, am_ial, am_lal, am_bal, am_aal, am_ias, am_las, am_bas, am_alen, am_inst, am_cast, am_cpm, am_copy, am_tsw, am_pop, am_cat, am_cS, am_cI, am_cV, am_ri, am_rl, am_ra, am_rv, am_b1, am_b2, am_ent, am_en, am_isL, am_st1, am_st2, am_clr, am_cnd, cc_235, ac_235, nL_235, rb_235, np_163, ok_235_163, nL_163, np_160, ok_235_160, nL_160, vd_160_12, np_228, ok_235_228, nL_228, vd_228_12, np_230, ok_235_230, nL_230, vd_230_12, np_232, ok_235_232, nL_232, vd_232_12, tg_12_24, tg_12_3, tg_12_2, tg_12_25, List.getElem?_cons_succ, List.getElem?_cons_zero, nz_of, nzl_of, Int.toNat_add, Int.toNat_mul, tn_l, lt_t, lt_f, le_t, le_f, eq_t, eq_f, ltn_t, ltn_f, len_t, len_f, eqn_t, eqn_f, up_ne, up_up, sh_101, sh_105, rf_101_3, v105]
    simpa using key
