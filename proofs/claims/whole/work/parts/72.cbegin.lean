/-! leading: how it begins, or is refused, on both sides -/
def FL (μ ν : Nat → Nat → Int) : Prop := ∀ k, ¬ (38 ≤ k ∧ k ≤ 43) → ν k = μ k
def GB (μ : Nat → Nat → Int) (r b n : Nat) : Prop := (μ 105 r = n ∧ μ 105 b = n ∧ n ≤ 8) ∧ IN (rwR μ r) n ∧ IN (rwR μ b) n
def RB (μ : Nat → Nat → Int) (r b f : Nat) : Prop := (f = 1 ∧ (μ 105 r = -1 ∨ μ 105 b = -1)) ∨ (f = 5 ∧ ¬ (μ 105 r = -1 ∨ μ 105 b = -1) ∧ (8 < μ 105 r ∨ ¬ μ 105 r = μ 105 b)) ∨ (f = 3 ∧ ∃ n : Nat, (μ 105 r = n ∧ μ 105 b = n ∧ n ≤ 8) ∧ ¬ (IN (rwR μ r) n ∧ IN (rwR μ b) n))
theorem RB_as {μ ν : Nat → Nat → Int} {r b f : Nat} (h : RB μ r b f) (e : ∀ k, k = 104 ∨ k = 105 → ν k = μ k) : RB ν r b f := by
  unfold RB rwR at h ⊢
  rw [e 104 (by omega), e 105 (by omega)]
  exact h
theorem GB_as {μ ν : Nat → Nat → Int} {r b n : Nat} (h : GB μ r b n) (e : ∀ k, k = 104 ∨ k = 105 → ν k = μ k) : GB ν r b n := by
  unfold GB rwR at h ⊢
  rw [e 104 (by omega), e 105 (by omega)]
  exact h
theorem RB_or {μ : Nat → Nat → Int} {r b : Nat} (h1 : -1 ≤ μ 105 r) (h2 : -1 ≤ μ 105 b) : (∃ f, (0 < f ∧ f < 6) ∧ RB μ r b f) ∨ ∃ n, GB μ r b n := by
  by_cases z1 : μ 105 r = -1 ∨ μ 105 b = -1
  · exact Or.inl ⟨1, by omega, Or.inl ⟨rfl, z1⟩⟩
  · by_cases z2 : 8 < μ 105 r ∨ ¬ μ 105 r = μ 105 b
    · exact Or.inl ⟨5, by omega, Or.inr (Or.inl ⟨rfl, z1, z2⟩)⟩
    · obtain ⟨n, hn⟩ : ∃ n : Nat, μ 105 r = n := ⟨(μ 105 r).toNat, by omega⟩
      by_cases z3 : IN (rwR μ r) n ∧ IN (rwR μ b) n
      · exact Or.inr ⟨n, ⟨hn, by omega, by omega⟩, z3⟩
      · exact Or.inl ⟨3, by omega, Or.inr (Or.inr ⟨rfl, n, ⟨hn, by omega, by omega⟩, z3⟩)⟩
theorem GB_MW {μ : Nat → Nat → Int} {r b n : Nat} (hr : r < 6) (hb : b < 6) (h : GB μ r b n) : MW μ r b n (rwR μ r) (rwR μ b) :=
  ⟨⟨h.1.1, h.1.2.2, hr, hb⟩, fun i hi => ⟨⟨rfl, rfl⟩, h.2.1 i hi, h.2.2 i hi⟩⟩
theorem wm_ag_no {μ : Nat → Nat → Int} {r b f : Nat} (hr : r < 6) (hb : b < 6) (b1 : -1 ≤ μ 105 r ∧ μ 105 r ≤ 60) (b2 : -1 ≤ μ 105 b ∧ μ 105 b ≤ 60) (h : RB μ r b f) (Φ : Option AV → ST → Prop) (k : Φ (some (.inl f)) (S μ)) : wpM 228 [.inr (.inr (some 101)), .inl r, .inl b] (S μ) Φ := by
  rcases h with ⟨rfl, h⟩ | ⟨rfl, h, h'⟩ | ⟨rfl, m, h, h'⟩
  · refine wm_against r b hr hb b1 b2 Φ (fun _ => k) (fun q _ => absurd h q) (fun n e1 e2 _ _ => by omega) (fun n e1 e2 _ _ _ => by omega)
  · refine wm_against r b hr hb b1 b2 Φ (fun q => absurd q h) (fun _ _ => k) (fun n e1 e2 _ _ => by omega) (fun n e1 e2 _ _ _ => by omega)
  · refine wm_against r b hr hb b1 b2 Φ (fun q => by omega) (fun _ q => by omega) (fun n e1 e2 _ q => k) (fun n e1 e2 _ q1 q2 => ?_)
    obtain rfl : n = m := by omega
    exact absurd ⟨q1, q2⟩ h'
theorem wm_ag_ok {μ : Nat → Nat → Int} {r b n : Nat} (hr : r < 6) (hb : b < 6) (h : GB μ r b n) (Φ : Option AV → ST → Prop) (k : Φ (some (.inl 0)) (S μ)) : wpM 228 [.inr (.inr (some 101)), .inl r, .inl b] (S μ) Φ := by
  obtain ⟨⟨h1, h2, h3⟩, h4, h5⟩ := h
  refine wm_against r b hr hb (by omega) (by omega) Φ (fun q => by omega) (fun _ q => by omega) (fun m e1 e2 _ q => ?_) (fun n e1 e2 _ q1 q2 => k)
  obtain rfl : n = m := by omega
  exact absurd ⟨h4, h5⟩ q
set_option maxHeartbeats 4000000 in
set_option maxRecDepth 100000 in
theorem wp_bL_no {μ : Nat → Nat → Int} {r b f : Nat} (hr : r < 6) (hb : b < 6) (Rr : RW μ r) (Rb : RW μ b) (h : RB μ r b f) (Φ : Option AV → ST → Prop) (k : Φ (some (.inl (-3))) (S (xfind μ f))) : wpM 154 [.inr (.inr (some 0)), .inl r, .inl b] (S μ) Φ := by
  obtain ⟨b1, b2, b3⟩ := id Rr
  obtain ⟨c1, c2, c3⟩ := id Rb
  obtain ⟨g1, g2, g3, g4⟩ := g_row r hr
  obtain ⟨f1, f2, f3, f4⟩ := g_row b hb
  have T1 := wp_isThere (46 + 2 * r) (by omega) g2
  have T2 := wp_isThere (46 + 2 * b) (by omega) f2
  rcases h with ⟨rfl, h⟩ | ⟨rfl, h, h'⟩ | ⟨rfl, n, h, h'⟩
  · by_cases z : μ 105 r = -1
    · unfold wpM
      rw [s1_iff [] 200]
      simp (disch := omega) [sz_s, sz_0, gx_s, hx_r, hx_c, hx_b, hx_s, hx_i, hx_n, kx_s, kx_n, kx_i, cx_d, up_at, am_ctl, am_step, am_i1, am_i2, am_i2d, am_l1, am_l2, am_l2d, am_ldi, am_ldl, am_lda, am_sti, am_sta, am_stl, am_inc, am_i2l, am_l2i, am_lcmp, am_dup, am_dup2, am_pop1, am_fv, am_getf, am_putf, am_wr, am_ial, am_lal, am_bal, am_aal, am_ias, am_las, am_bas, am_alen, am_inst, am_cast, am_cpm, am_copy, am_tsw, am_pop, am_cat, am_cS, am_cI, am_cV, am_ri, am_rl, am_ra, am_rv, am_b1, am_b2, am_ent, am_en, am_isL, am_st1, am_st2, am_clr, am_cnd, cc_154, ac_154, nL_154, rb_154, np_129, ok_154_129, nL_129, np_38, ok_154_38, nL_38, vd_38_5, np_56, ok_154_56, nL_56, vd_56_8, np_59, ok_154_59, nL_59, vd_59_8, np_133, ok_154_133, nL_133, vd_133_11, tg_11_0, tg_8_1, tg_11_6, List.getElem?_cons_succ, List.getElem?_cons_zero, nz_of, nzl_of, Int.toNat_add, Int.toNat_mul, tn_l, lt_t, lt_f, le_t, le_f, eq_t, eq_f, ltn_t, ltn_f, len_t, len_f, eqn_t, eqn_f, up_ne, up_up, sh_0, sh_1, rf_0_0, wp_within, hr, hb, g1, g2, f1, f2, T1, T2, b2, c2, z, wp_find 1 (by decide)]
      simpa [xfind] using k
    · have z2 : μ 105 b = -1 := h.resolve_left z
      unfold wpM
      rw [s1_iff [] 200]
      simp (disch := omega) [sz_s, sz_0, gx_s, hx_r, hx_c, hx_b, hx_s, hx_i, hx_n, kx_s, kx_n, kx_i, cx_d, up_at, am_ctl, am_step, am_i1, am_i2, am_i2d, am_l1, am_l2, am_l2d, am_ldi, am_ldl, am_lda, am_sti, am_sta, am_stl, am_inc, am_i2l, am_l2i, am_lcmp, am_dup, am_dup2, am_pop1, am_fv, am_getf, am_putf, am_wr, am_ial, am_lal, am_bal, am_aal, am_ias, am_las, am_bas, am_alen, am_inst, am_cast, am_cpm, am_copy, am_tsw, am_pop, am_cat, am_cS, am_cI, am_cV, am_ri, am_rl, am_ra, am_rv, am_b1, am_b2, am_ent, am_en, am_isL, am_st1, am_st2, am_clr, am_cnd, cc_154, ac_154, nL_154, rb_154, np_129, ok_154_129, nL_129, np_38, ok_154_38, nL_38, vd_38_5, np_56, ok_154_56, nL_56, vd_56_8, np_59, ok_154_59, nL_59, vd_59_8, np_133, ok_154_133, nL_133, vd_133_11, tg_11_0, tg_8_1, tg_11_6, List.getElem?_cons_succ, List.getElem?_cons_zero, nz_of, nzl_of, Int.toNat_add, Int.toNat_mul, tn_l, lt_t, lt_f, le_t, le_f, eq_t, eq_f, ltn_t, ltn_f, len_t, len_f, eqn_t, eqn_f, up_ne, up_up, sh_0, sh_1, rf_0_0, wp_within, hr, hb, g1, g2, f1, f2, T1, T2, b2, c2, z, z2, wp_find 1 (by decide)]
      simpa [xfind] using k
  · obtain ⟨n, hn⟩ : ∃ n : Nat, μ 105 r = n := ⟨(μ 105 r).toNat, by omega⟩
    obtain ⟨m, hm⟩ : ∃ n : Nat, μ 105 b = n := ⟨(μ 105 b).toNat, by omega⟩
    rw [hn] at b2
    rw [hm] at c2
    by_cases z : 8 < n
    · unfold wpM
      rw [s1_iff [] 200]
      simp (disch := omega) [sz_s, sz_0, gx_s, hx_r, hx_c, hx_b, hx_s, hx_i, hx_n, kx_s, kx_n, kx_i, cx_d, up_at, am_ctl, am_step, am_i1, am_i2, am_i2d, am_l1, am_l2, am_l2d, am_ldi, am_ldl, am_lda, am_sti, am_sta, am_stl, am_inc, am_i2l, am_l2i, am_lcmp, am_dup, am_dup2, am_pop1, am_fv, am_getf, am_putf, am_wr, am_ial, am_lal, am_bal, am_aal, am_ias, am_las, am_bas, am_alen, am_inst, am_cast, am_cpm, am_copy, am_tsw, am_pop, am_cat, am_cS, am_cI, am_cV, am_ri, am_rl, am_ra, am_rv, am_b1, am_b2, am_ent, am_en, am_isL, am_st1, am_st2, am_clr, am_cnd, cc_154, ac_154, nL_154, rb_154, np_129, ok_154_129, nL_129, np_38, ok_154_38, nL_38, vd_38_5, np_56, ok_154_56, nL_56, vd_56_8, np_59, ok_154_59, nL_59, vd_59_8, np_133, ok_154_133, nL_133, vd_133_11, tg_11_0, tg_8_1, tg_11_6, List.getElem?_cons_succ, List.getElem?_cons_zero, nz_of, nzl_of, Int.toNat_add, Int.toNat_mul, tn_l, lt_t, lt_f, le_t, le_f, eq_t, eq_f, ltn_t, ltn_f, len_t, len_f, eqn_t, eqn_f, up_ne, up_up, sh_0, sh_1, rf_0_0, wp_within, hr, hb, g1, g2, f1, f2, T1, T2, b2, c2, wp_find 5 (by decide)]
      simpa [xfind] using k
    · have z2 : ¬ n = m := by omega
      unfold wpM
      rw [s1_iff [] 200]
      simp (disch := omega) [sz_s, sz_0, gx_s, hx_r, hx_c, hx_b, hx_s, hx_i, hx_n, kx_s, kx_n, kx_i, cx_d, up_at, am_ctl, am_step, am_i1, am_i2, am_i2d, am_l1, am_l2, am_l2d, am_ldi, am_ldl, am_lda, am_sti, am_sta, am_stl, am_inc, am_i2l, am_l2i, am_lcmp, am_dup, am_dup2, am_pop1, am_fv, am_getf, am_putf, am_wr, am_ial, am_lal, am_bal, am_aal, am_ias, am_las, am_bas, am_alen, am_inst, am_cast, am_cpm, am_copy, am_tsw, am_pop, am_cat, am_cS, am_cI, am_cV, am_ri, am_rl, am_ra, am_rv, am_b1, am_b2, am_ent, am_en, am_isL, am_st1, am_st2, am_clr, am_cnd, cc_154, ac_154, nL_154, rb_154, np_129, ok_154_129, nL_129, np_38, ok_154_38, nL_38, vd_38_5, np_56, ok_154_56, nL_56, vd_56_8, np_59, ok_154_59, nL_59, vd_59_8, np_133, ok_154_133, nL_133, vd_133_11, tg_11_0, tg_8_1, tg_11_6, List.getElem?_cons_succ, List.getElem?_cons_zero, nz_of, nzl_of, Int.toNat_add, Int.toNat_mul, tn_l, lt_t, lt_f, le_t, le_f, eq_t, eq_f, ltn_t, ltn_f, len_t, len_f, eqn_t, eqn_f, up_ne, up_up, sh_0, sh_1, rf_0_0, wp_within, hr, hb, g1, g2, f1, f2, T1, T2, b2, c2, z2, wp_find 5 (by decide)]
      simpa [xfind] using k
  · obtain ⟨h1, h2, h3⟩ := h
    rw [h1] at b2
    rw [h2] at c2
    have d1 : ∀ i, i < n → μ (47 + 2 * r) i = rwR μ r i := fun i hi => (b3 i (by omega)).1
    have d2 : ∀ i, i < n → μ (47 + 2 * b) i = rwR μ b i := fun i hi => (c3 i (by omega)).1
    have last : ∀ Φ : Option AV → ST → Prop, Φ (some (.inl (-3))) (S (xfind μ 3)) → wpM 133 [.inr (.inr (some 0)), .inl 3] (S μ) Φ := fun Φ q => by
      rw [wp_find 3 (by decide)]
      exact q
    unfold wpM
    rw [s1_iff [] 200]
    simp (disch := omega) [sz_s, sz_0, gx_s, hx_r, hx_c, hx_b, hx_s, hx_i, hx_n, kx_s, kx_n, kx_i, cx_d, up_at, am_ctl, am_step, am_i1, am_i2, am_i2d, am_l1, am_l2, am_l2d, am_ldi, am_ldl, am_lda, am_sti, am_sta, am_stl, am_inc, am_i2l, am_l2i, am_lcmp, am_dup, am_dup2, am_pop1, am_fv, am_getf, am_putf, am_wr, am_ial, am_lal, am_bal, am_aal, am_ias, am_las, am_bas, am_alen, am_inst, am_cast, am_cpm, am_copy, am_tsw, am_pop, am_cat, am_cS, am_cI, am_cV, am_ri, am_rl, am_ra, am_rv, am_b1, am_b2, am_ent, am_en, am_isL, am_st1, am_st2, am_clr, am_cnd, cc_154, ac_154, nL_154, rb_154, np_129, ok_154_129, nL_129, np_38, ok_154_38, nL_38, vd_38_5, np_56, ok_154_56, nL_56, vd_56_8, np_59, ok_154_59, nL_59, vd_59_8, np_133, ok_154_133, nL_133, vd_133_11, tg_11_0, tg_8_1, tg_11_6, List.getElem?_cons_succ, List.getElem?_cons_zero, nz_of, nzl_of, Int.toNat_add, Int.toNat_mul, tn_l, lt_t, lt_f, le_t, le_f, eq_t, eq_f, ltn_t, ltn_f, len_t, len_f, eqn_t, eqn_f, up_ne, up_up, sh_0, sh_1, rf_0_0, wp_within, hr, hb, g1, g2, f1, f2, T1, T2, b2, c2, h3]
    refine wp_allIn r n hr (rwR μ r) b2 h3 d1 _ (fun i1 => ?_) (fun i1 => ?_)
    · simp (disch := omega) [sz_s, sz_0, gx_s, hx_r, hx_c, hx_b, hx_s, hx_i, hx_n, kx_s, kx_n, kx_i, cx_d, up_at, am_ctl, am_step, am_i1, am_i2, am_i2d, am_l1, am_l2, am_l2d, am_ldi, am_ldl, am_lda, am_sti, am_sta, am_stl, am_inc, am_i2l, am_l2i, am_lcmp, am_dup, am_dup2, am_pop1, am_fv, am_getf, am_putf, am_wr, am_ial, am_lal, am_bal, am_aal, am_ias, am_las, am_bas, am_alen, am_inst, am_cast, am_cpm, am_copy, am_tsw, am_pop, am_cat, am_cS, am_cI, am_cV, am_ri, am_rl, am_ra, am_rv, am_b1, am_b2, am_ent, am_en, am_isL, am_st1, am_st2, am_clr, am_cnd, cc_154, ac_154, nL_154, rb_154, np_129, ok_154_129, nL_129, np_38, ok_154_38, nL_38, vd_38_5, np_56, ok_154_56, nL_56, vd_56_8, np_59, ok_154_59, nL_59, vd_59_8, np_133, ok_154_133, nL_133, vd_133_11, tg_11_0, tg_8_1, tg_11_6, List.getElem?_cons_succ, List.getElem?_cons_zero, nz_of, nzl_of, Int.toNat_add, Int.toNat_mul, tn_l, lt_t, lt_f, le_t, le_f, eq_t, eq_f, ltn_t, ltn_f, len_t, len_f, eqn_t, eqn_f, up_ne, up_up, sh_0, g2, f2]
      refine wp_allIn b n hb (rwR μ b) c2 h3 d2 _ (fun i2 => absurd ⟨i1, i2⟩ h') (fun i2 => ?_)
      simp (disch := omega) [sz_s, sz_0, gx_s, hx_r, hx_c, hx_b, hx_s, hx_i, hx_n, kx_s, kx_n, kx_i, cx_d, up_at, am_ctl, am_step, am_i1, am_i2, am_i2d, am_l1, am_l2, am_l2d, am_ldi, am_ldl, am_lda, am_sti, am_sta, am_stl, am_inc, am_i2l, am_l2i, am_lcmp, am_dup, am_dup2, am_pop1, am_fv, am_getf, am_putf, am_wr, am_ial, am_lal, am_bal, am_aal, am_ias, am_las, am_bas, am_alen, am_inst, am_cast, am_cpm, am_copy, am_tsw, am_pop, am_cat, am_cS, am_cI, am_cV, am_ri, am_rl, am_ra, am_rv, am_b1, am_b2, am_ent, am_en, am_isL, am_st1, am_st2, am_clr, am_cnd, cc_154, ac_154, nL_154, rb_154, np_129, ok_154_129, nL_129, np_38, ok_154_38, nL_38, vd_38_5, np_56, ok_154_56, nL_56, vd_56_8, np_59, ok_154_59, nL_59, vd_59_8, np_133, ok_154_133, nL_133, vd_133_11, tg_11_0, tg_8_1, tg_11_6, List.getElem?_cons_succ, List.getElem?_cons_zero, nz_of, nzl_of, Int.toNat_add, Int.toNat_mul, tn_l, lt_t, lt_f, le_t, le_f, eq_t, eq_f, ltn_t, ltn_f, len_t, len_f, eqn_t, eqn_f, up_ne, up_up, sh_0, g2, f2]
      refine last _ ?_
      simp (disch := omega) [sz_s, sz_0, gx_s, hx_r, hx_c, hx_b, hx_s, hx_i, hx_n, kx_s, kx_n, kx_i, cx_d, up_at, am_ctl, am_step, am_i1, am_i2, am_i2d, am_l1, am_l2, am_l2d, am_ldi, am_ldl, am_lda, am_sti, am_sta, am_stl, am_inc, am_i2l, am_l2i, am_lcmp, am_dup, am_dup2, am_pop1, am_fv, am_getf, am_putf, am_wr, am_ial, am_lal, am_bal, am_aal, am_ias, am_las, am_bas, am_alen, am_inst, am_cast, am_cpm, am_copy, am_tsw, am_pop, am_cat, am_cS, am_cI, am_cV, am_ri, am_rl, am_ra, am_rv, am_b1, am_b2, am_ent, am_en, am_isL, am_st1, am_st2, am_clr, am_cnd, cc_154, ac_154, nL_154, rb_154, np_129, ok_154_129, nL_129, np_38, ok_154_38, nL_38, vd_38_5, np_56, ok_154_56, nL_56, vd_56_8, np_59, ok_154_59, nL_59, vd_59_8, np_133, ok_154_133, nL_133, vd_133_11, tg_11_0, tg_8_1, tg_11_6, List.getElem?_cons_succ, List.getElem?_cons_zero, nz_of, nzl_of, Int.toNat_add, Int.toNat_mul, tn_l, lt_t, lt_f, le_t, le_f, eq_t, eq_f, ltn_t, ltn_f, len_t, len_f, eqn_t, eqn_f, up_ne, up_up, sh_0, g2, f2]
      exact k
    · simp (disch := omega) [sz_s, sz_0, gx_s, hx_r, hx_c, hx_b, hx_s, hx_i, hx_n, kx_s, kx_n, kx_i, cx_d, up_at, am_ctl, am_step, am_i1, am_i2, am_i2d, am_l1, am_l2, am_l2d, am_ldi, am_ldl, am_lda, am_sti, am_sta, am_stl, am_inc, am_i2l, am_l2i, am_lcmp, am_dup, am_dup2, am_pop1, am_fv, am_getf, am_putf, am_wr, am_ial, am_lal, am_bal, am_aal, am_ias, am_las, am_bas, am_alen, am_inst, am_cast, am_cpm, am_copy, am_tsw, am_pop, am_cat, am_cS, am_cI, am_cV, am_ri, am_rl, am_ra, am_rv, am_b1, am_b2, am_ent, am_en, am_isL, am_st1, am_st2, am_clr, am_cnd, cc_154, ac_154, nL_154, rb_154, np_129, ok_154_129, nL_129, np_38, ok_154_38, nL_38, vd_38_5, np_56, ok_154_56, nL_56, vd_56_8, np_59, ok_154_59, nL_59, vd_59_8, np_133, ok_154_133, nL_133, vd_133_11, tg_11_0, tg_8_1, tg_11_6, List.getElem?_cons_succ, List.getElem?_cons_zero, nz_of, nzl_of, Int.toNat_add, Int.toNat_mul, tn_l, lt_t, lt_f, le_t, le_f, eq_t, eq_f, ltn_t, ltn_f, len_t, len_f, eqn_t, eqn_f, up_ne, up_up, sh_0, g2, f2]
      refine last _ ?_
      simp (disch := omega) [sz_s, sz_0, gx_s, hx_r, hx_c, hx_b, hx_s, hx_i, hx_n, kx_s, kx_n, kx_i, cx_d, up_at, am_ctl, am_step, am_i1, am_i2, am_i2d, am_l1, am_l2, am_l2d, am_ldi, am_ldl, am_lda, am_sti, am_sta, am_stl, am_inc, am_i2l, am_l2i, am_lcmp, am_dup, am_dup2, am_pop1, am_fv, am_getf, am_putf, am_wr, am_ial, am_lal, am_bal, am_aal, am_ias, am_las, am_bas, am_alen, am_inst, am_cast, am_cpm, am_copy, am_tsw, am_pop, am_cat, am_cS, am_cI, am_cV, am_ri, am_rl, am_ra, am_rv, am_b1, am_b2, am_ent, am_en, am_isL, am_st1, am_st2, am_clr, am_cnd, cc_154, ac_154, nL_154, rb_154, np_129, ok_154_129, nL_129, np_38, ok_154_38, nL_38, vd_38_5, np_56, ok_154_56, nL_56, vd_56_8, np_59, ok_154_59, nL_59, vd_59_8, np_133, ok_154_133, nL_133, vd_133_11, tg_11_0, tg_8_1, tg_11_6, List.getElem?_cons_succ, List.getElem?_cons_zero, nz_of, nzl_of, Int.toNat_add, Int.toNat_mul, tn_l, lt_t, lt_f, le_t, le_f, eq_t, eq_f, ltn_t, ltn_f, len_t, len_f, eqn_t, eqn_f, up_ne, up_up, sh_0, g2, f2]
      exact k
set_option maxHeartbeats 4000000 in
set_option maxRecDepth 100000 in
theorem wp_bL_ok {μ : Nat → Nat → Int} {r b n : Nat} (hr : r < 6) (hb : b < 6) (Rr : RW μ r) (Rb : RW μ b) (h : GB μ r b n) (Φ : Option AV → ST → Prop) (k : ∀ ν, FL μ ν → LA ν n (rwR μ r) (rwR μ b) → Φ (some (.inl 1)) (S ν)) : wpM 154 [.inr (.inr (some 0)), .inl r, .inl b] (S μ) Φ := by
  obtain ⟨b1, b2, b3⟩ := id Rr
  obtain ⟨c1, c2, c3⟩ := id Rb
  obtain ⟨⟨h1, h2, h3⟩, i1, i2⟩ := h
  obtain ⟨g1, g2, g3, g4⟩ := g_row r hr
  obtain ⟨f1, f2, f3, f4⟩ := g_row b hb
  have T1 := wp_isThere (46 + 2 * r) (by omega) g2
  have T2 := wp_isThere (46 + 2 * b) (by omega) f2
  rw [h1] at b2
  rw [h2] at c2
  have d1 : ∀ i, i < n → μ (47 + 2 * r) i = rwR μ r i := fun i hi => (b3 i (by omega)).1
  have d2 : ∀ i, i < n → μ (47 + 2 * b) i = rwR μ b i := fun i hi => (c3 i (by omega)).1
  unfold wpM
  rw [s1_iff [] 200]
  simp (disch := omega) [sz_s, sz_0, gx_s, hx_r, hx_c, hx_b, hx_s, hx_i, hx_n, kx_s, kx_n, kx_i, cx_d, up_at, am_ctl, am_step, am_i1, am_i2, am_i2d, am_l1, am_l2, am_l2d, am_ldi, am_ldl, am_lda, am_sti, am_sta, am_stl, am_inc, am_i2l, am_l2i, am_lcmp, am_dup, am_dup2, am_pop1, am_fv, am_getf, am_putf, am_wr, am_ial, am_lal, am_bal, am_aal, am_ias, am_las, am_bas, am_alen, am_inst, am_cast, am_cpm, am_copy, am_tsw, am_pop, am_cat, am_cS, am_cI, am_cV, am_ri, am_rl, am_ra, am_rv, am_b1, am_b2, am_ent, am_en, am_isL, am_st1, am_st2, am_clr, am_cnd, cc_154, ac_154, nL_154, rb_154, np_129, ok_154_129, nL_129, np_38, ok_154_38, nL_38, vd_38_5, np_56, ok_154_56, nL_56, vd_56_8, np_59, ok_154_59, nL_59, vd_59_8, np_133, ok_154_133, nL_133, vd_133_11, tg_11_0, tg_8_1, tg_11_6, List.getElem?_cons_succ, List.getElem?_cons_zero, nz_of, nzl_of, Int.toNat_add, Int.toNat_mul, tn_l, lt_t, lt_f, le_t, le_f, eq_t, eq_f, ltn_t, ltn_f, len_t, len_f, eqn_t, eqn_f, up_ne, up_up, sh_0, sh_1, rf_0_0, wp_within, hr, hb, g1, g2, f1, f2, T1, T2, b2, c2, h3]
  refine wp_allIn r n hr (rwR μ r) b2 h3 d1 _ (fun _ => ?_) (fun q => absurd i1 q)
  simp (disch := omega) [sz_s, sz_0, gx_s, hx_r, hx_c, hx_b, hx_s, hx_i, hx_n, kx_s, kx_n, kx_i, cx_d, up_at, am_ctl, am_step, am_i1, am_i2, am_i2d, am_l1, am_l2, am_l2d, am_ldi, am_ldl, am_lda, am_sti, am_sta, am_stl, am_inc, am_i2l, am_l2i, am_lcmp, am_dup, am_dup2, am_pop1, am_fv, am_getf, am_putf, am_wr, am_ial, am_lal, am_bal, am_aal, am_ias, am_las, am_bas, am_alen, am_inst, am_cast, am_cpm, am_copy, am_tsw, am_pop, am_cat, am_cS, am_cI, am_cV, am_ri, am_rl, am_ra, am_rv, am_b1, am_b2, am_ent, am_en, am_isL, am_st1, am_st2, am_clr, am_cnd, cc_154, ac_154, nL_154, rb_154, np_129, ok_154_129, nL_129, np_38, ok_154_38, nL_38, vd_38_5, np_56, ok_154_56, nL_56, vd_56_8, np_59, ok_154_59, nL_59, vd_59_8, np_133, ok_154_133, nL_133, vd_133_11, tg_11_0, tg_8_1, tg_11_6, List.getElem?_cons_succ, List.getElem?_cons_zero, nz_of, nzl_of, Int.toNat_add, Int.toNat_mul, tn_l, lt_t, lt_f, le_t, le_f, eq_t, eq_f, ltn_t, ltn_f, len_t, len_f, eqn_t, eqn_f, up_ne, up_up, sh_0, g2, f2]
  refine wp_allIn b n hb (rwR μ b) c2 h3 d2 _ (fun _ => ?_) (fun q => absurd i2 q)
  simp (disch := omega) [sz_s, sz_0, gx_s, hx_r, hx_c, hx_b, hx_s, hx_i, hx_n, kx_s, kx_n, kx_i, cx_d, up_at, am_ctl, am_step, am_i1, am_i2, am_i2d, am_l1, am_l2, am_l2d, am_ldi, am_ldl, am_lda, am_sti, am_sta, am_stl, am_inc, am_i2l, am_l2i, am_lcmp, am_dup, am_dup2, am_pop1, am_fv, am_getf, am_putf, am_wr, am_ial, am_lal, am_bal, am_aal, am_ias, am_las, am_bas, am_alen, am_inst, am_cast, am_cpm, am_copy, am_tsw, am_pop, am_cat, am_cS, am_cI, am_cV, am_ri, am_rl, am_ra, am_rv, am_b1, am_b2, am_ent, am_en, am_isL, am_st1, am_st2, am_clr, am_cnd, cc_154, ac_154, nL_154, rb_154, np_129, ok_154_129, nL_129, np_38, ok_154_38, nL_38, vd_38_5, np_56, ok_154_56, nL_56, vd_56_8, np_59, ok_154_59, nL_59, vd_59_8, np_133, ok_154_133, nL_133, vd_133_11, tg_11_0, tg_8_1, tg_11_6, List.getElem?_cons_succ, List.getElem?_cons_zero, nz_of, nzl_of, Int.toNat_add, Int.toNat_mul, tn_l, lt_t, lt_f, le_t, le_f, eq_t, eq_f, ltn_t, ltn_f, len_t, len_f, eqn_t, eqn_f, up_ne, up_up, sh_0, rf_0_6, sh_38, g2, f2]
  refine wp_beginL r b n hr hb (rwR μ r) (rwR μ b) b2 c2 h3 d1 d2 i1 i2 _ (fun ν t1 t2 t3 t4 => ?_)
  replace k := k ν (fun k hk => t1 k (by omega)) ⟨t2, t3, t4⟩
  simp (disch := omega) [sz_s, sz_0, gx_s, hx_r, hx_c, hx_b, hx_s, hx_i, hx_n, kx_s, kx_n, kx_i, cx_d, up_at, am_ctl, am_step, am_i1, am_i2, am_i2d, am_l1, am_l2, am_l2d, am_ldi, am_ldl, am_lda, am_sti, am_sta, am_stl, am_inc, am_i2l, am_l2i, am_lcmp, am_dup, am_dup2, am_pop1, am_fv, am_getf, am_putf, am_wr, am_ial, am_lal, am_bal, am_aal, am_ias, am_las, am_bas, am_alen, am_inst, am_cast, am_cpm, am_copy, am_tsw, am_pop, am_cat, am_cS, am_cI, am_cV, am_ri, am_rl, am_ra, am_rv, am_b1, am_b2, am_ent, am_en, am_isL, am_st1, am_st2, am_clr, am_cnd, cc_154, ac_154, nL_154, rb_154, np_129, ok_154_129, nL_129, np_38, ok_154_38, nL_38, vd_38_5, np_56, ok_154_56, nL_56, vd_56_8, np_59, ok_154_59, nL_59, vd_59_8, np_133, ok_154_133, nL_133, vd_133_11, tg_11_0, tg_8_1, tg_11_6, List.getElem?_cons_succ, List.getElem?_cons_zero, nz_of, nzl_of, Int.toNat_add, Int.toNat_mul, tn_l, lt_t, lt_f, le_t, le_f, eq_t, eq_f, ltn_t, ltn_f, len_t, len_f, eqn_t, eqn_f, up_ne, up_up, sh_0, g2, f2]
  exact k
set_option maxRecDepth 100000 in
theorem wp_bL_bad (x y : Int) (hx : ¬ ((0 ≤ x ∧ x < 6) ∧ 0 ≤ y ∧ y < 6)) (μ : Nat → Nat → Int) (Φ : Option AV → ST → Prop) : wpM 154 [.inr (.inr (some 0)), .inl x, .inl y] (S μ) Φ ↔ Φ (some (.inl (-1))) (S μ) := by
  unfold wpM
  by_cases a : 0 ≤ x ∧ x < 6
  · rw [s1_iff [] 200]
    simp (disch := omega) [sz_s, sz_0, gx_s, hx_r, hx_c, hx_b, hx_s, hx_i, hx_n, kx_s, kx_n, kx_i, cx_d, up_at, am_ctl, am_step, am_i1, am_i2, am_i2d, am_l1, am_l2, am_l2d, am_ldi, am_ldl, am_lda, am_sti, am_sta, am_stl, am_inc, am_i2l, am_l2i, am_lcmp, am_dup, am_dup2, am_pop1, am_fv, am_getf, am_putf, am_wr, am_ial, am_lal, am_bal, am_aal, am_ias, am_las, am_bas, am_alen, am_inst, am_cast, am_cpm, am_copy, am_tsw, am_pop, am_cat, am_cS, am_cI, am_cV, am_ri, am_rl, am_ra, am_rv, am_b1, am_b2, am_ent, am_en, am_isL, am_st1, am_st2, am_clr, am_cnd, cc_154, ac_154, nL_154, rb_154, np_129, ok_154_129, nL_129, np_38, ok_154_38, nL_38, vd_38_5, np_56, ok_154_56, nL_56, vd_56_8, np_59, ok_154_59, nL_59, vd_59_8, np_133, ok_154_133, nL_133, vd_133_11, tg_11_0, tg_8_1, tg_11_6, List.getElem?_cons_succ, List.getElem?_cons_zero, nz_of, nzl_of, Int.toNat_add, Int.toNat_mul, tn_l, lt_t, lt_f, le_t, le_f, eq_t, eq_f, ltn_t, ltn_f, len_t, len_f, eqn_t, eqn_f, up_ne, up_up, wp_within, a, show ¬ (0 ≤ y ∧ y < 6) by omega]
  · rw [s1_iff [] 200]
    simp (disch := omega) [sz_s, sz_0, gx_s, hx_r, hx_c, hx_b, hx_s, hx_i, hx_n, kx_s, kx_n, kx_i, cx_d, up_at, am_ctl, am_step, am_i1, am_i2, am_i2d, am_l1, am_l2, am_l2d, am_ldi, am_ldl, am_lda, am_sti, am_sta, am_stl, am_inc, am_i2l, am_l2i, am_lcmp, am_dup, am_dup2, am_pop1, am_fv, am_getf, am_putf, am_wr, am_ial, am_lal, am_bal, am_aal, am_ias, am_las, am_bas, am_alen, am_inst, am_cast, am_cpm, am_copy, am_tsw, am_pop, am_cat, am_cS, am_cI, am_cV, am_ri, am_rl, am_ra, am_rv, am_b1, am_b2, am_ent, am_en, am_isL, am_st1, am_st2, am_clr, am_cnd, cc_154, ac_154, nL_154, rb_154, np_129, ok_154_129, nL_129, np_38, ok_154_38, nL_38, vd_38_5, np_56, ok_154_56, nL_56, vd_56_8, np_59, ok_154_59, nL_59, vd_59_8, np_133, ok_154_133, nL_133, vd_133_11, tg_11_0, tg_8_1, tg_11_6, List.getElem?_cons_succ, List.getElem?_cons_zero, nz_of, nzl_of, Int.toNat_add, Int.toNat_mul, tn_l, lt_t, lt_f, le_t, le_f, eq_t, eq_f, ltn_t, ltn_f, len_t, len_f, eqn_t, eqn_f, up_ne, up_up, wp_within, a]
