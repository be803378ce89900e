/-! next: equal on both sides -/
def lgW (w : Nat → Int) (p k : Nat) : Int := sumZ (fun t => w (101 + (3 * t + p))) k
def nxW (w : Nat → Int) (p n : Nat) : Int := 2 * w (101 + (3 * (n - 1) + p)) - w (101 + (3 * (n - 2) + p))
set_option maxRecDepth 100000 in
theorem wp_next_no (x : Int) (hx : ¬ (0 ≤ x ∧ x < 3)) (μ : Nat → Nat → Int) (Φ : Option AV → ST → Prop) : wpM 120 [.inr (.inr (some 0)), .inl x] (S μ) Φ ↔ Φ (some (.inl (-1))) (S μ) := by
  unfold wpM
  rw [s1_iff [] 200]
  simp (disch := omega) [sz_s, sz_0, gx_s, hx_r, hx_c, hx_b, hx_s, hx_i, hx_n, kx_s, kx_n, kx_i, cx_d, up_at, am_ctl, am_step, am_i1, am_i2, am_i2d, am_l1, am_l2, am_l2d, am_ldi, am_ldl, am_lda, am_sti, am_sta, am_stl, am_inc, am_i2l, am_l2i, am_lcmp, am_dup, am_dup2, am_pop1, am_fv, am_getf, am_putf, am_wr, am_ial, am_lal, am_bal, am_aal, am_ias, am_las, am_bas, am_alen, am_inst, am_cast, am_cpm, am_copy, am_tsw, am_pop, am_cat, am_cS, am_cI, am_cV, am_ri, am_rl, am_ra, am_rv, am_b1, am_b2, am_ent, am_en, am_isL, am_st1, am_st2, am_clr, am_cnd, cc_120, ac_120, nL_120, rb_120, np_129, ok_120_129, nL_129, np_35, ok_120_35, nL_35, vd_35_4, np_134, ok_120_134, nL_134, vd_134_11, np_135, ok_120_135, nL_135, vd_135_11, tg_11_2, tg_4_9, List.getElem?_cons_succ, List.getElem?_cons_zero, nz_of, nzl_of, Int.toNat_add, Int.toNat_mul, tn_l, lt_t, lt_f, le_t, le_f, eq_t, eq_f, ltn_t, ltn_f, len_t, len_f, eqn_t, eqn_f, up_ne, up_up, sh_0, wp_within, hx]
set_option maxRecDepth 100000 in
theorem wm_next_no (x : Int) (hx : ¬ (0 ≤ x ∧ x < 3)) (μ : Nat → Nat → Int) (Φ : Option AV → ST → Prop) : wpM 237 [.inr (.inr (some 101)), .inl x] (S μ) Φ ↔ Φ (some (.inl (-1))) (S μ) := by
  unfold wpM
  rw [s1_iff [] 200]
  simp (disch := omega) [sz_s, sz_0, gx_s, hx_r, hx_c, hx_b, hx_s, hx_i, hx_n, kx_s, kx_n, kx_i, cx_d, up_at, am_ctl, am_step, am_i1, am_i2, am_i2d, am_l1, am_l2, am_l2d, am_ldi, am_ldl, am_lda, am_sti, am_sta, am_stl, am_inc, am_i2l, am_l2i, am_lcmp, am_dup, am_dup2, am_pop1, am_fv, am_getf, am_putf, am_wr, am_ial, am_lal, am_bal, am_aal, am_ias, am_las, am_bas, am_alen, am_inst, am_cast, am_cpm, am_copy, am_tsw, am_pop, am_cat, am_cS, am_cI, am_cV, am_ri, am_rl, am_ra, am_rv, am_b1, am_b2, am_ent, am_en, am_isL, am_st1, am_st2, am_clr, am_cnd, cc_237, ac_237, nL_237, rb_237, np_207, ok_237_207, nL_207, np_161, ok_237_161, nL_161, vd_161_12, np_162, ok_237_162, nL_162, vd_162_12, tg_12_0, List.getElem?_cons_succ, List.getElem?_cons_zero, nz_of, nzl_of, Int.toNat_add, Int.toNat_mul, tn_l, lt_t, lt_f, le_t, le_f, eq_t, eq_f, ltn_t, ltn_f, len_t, len_f, eqn_t, eqn_f, up_ne, up_up, sh_101, wm_isProvince, show ¬ (0 ≤ x ∧ x ≤ 2) by omega]
theorem lg_rng {B : Int} {μ : Nat → Nat → Int} (hL : LD B μ 73 0) {p k : Nat} (hp : p < 3) (hk : (k : Int) ≤ μ 102 2) : 0 * (k : Int) ≤ lgW (μ 102) p k ∧ lgW (μ 102) p k ≤ 400 * (k : Int) :=
  sumZ_rng (fun i hi => (ld_g hL (j := 3 * i + p) (by omega)).2)
set_option maxRecDepth 100000 in
theorem wp_next {B : Int} {μ : Nat → Nat → Int} (hL : LD B μ 73 0) {p : Nat} (hp : p < 3) (Φ : Option AV → ST → Prop) (k1 : μ 102 2 < 2 → Φ (some (.inl (-4))) (S μ)) (k2 : ∀ n x : Nat, μ 102 2 = n → 2 ≤ n → lgW (μ 102) p n = x → Φ (some (.inl 1)) (S (am_up (am_up (am_up μ 0 11 (x / Nat.gcd n x : Nat)) 0 12 (n / Nat.gcd n x : Nat)) 0 10 (nxW (μ 102) p n)))) : wpM 120 [.inr (.inr (some 0)), .inl p] (S μ) Φ := by
  have l0 := ld_0 hL
  by_cases c : μ 102 2 < 2
  · have k1 := k1 c
    unfold wpM
    rw [s1_iff [] 200]
    simp (disch := omega) [sz_s, sz_0, gx_s, hx_r, hx_c, hx_b, hx_s, hx_i, hx_n, kx_s, kx_n, kx_i, cx_d, up_at, am_ctl, am_step, am_i1, am_i2, am_i2d, am_l1, am_l2, am_l2d, am_ldi, am_ldl, am_lda, am_sti, am_sta, am_stl, am_inc, am_i2l, am_l2i, am_lcmp, am_dup, am_dup2, am_pop1, am_fv, am_getf, am_putf, am_wr, am_ial, am_lal, am_bal, am_aal, am_ias, am_las, am_bas, am_alen, am_inst, am_cast, am_cpm, am_copy, am_tsw, am_pop, am_cat, am_cS, am_cI, am_cV, am_ri, am_rl, am_ra, am_rv, am_b1, am_b2, am_ent, am_en, am_isL, am_st1, am_st2, am_clr, am_cnd, cc_120, ac_120, nL_120, rb_120, np_129, ok_120_129, nL_129, np_35, ok_120_35, nL_35, vd_35_4, np_134, ok_120_134, nL_134, vd_134_11, np_135, ok_120_135, nL_135, vd_135_11, tg_11_2, tg_4_9, List.getElem?_cons_succ, List.getElem?_cons_zero, nz_of, nzl_of, Int.toNat_add, Int.toNat_mul, tn_l, lt_t, lt_f, le_t, le_f, eq_t, eq_f, ltn_t, ltn_f, len_t, len_f, eqn_t, eqn_f, up_ne, up_up, sh_0, rf_0_2, sh_73, wp_within, l0.2.2.1, hp]
    exact k1
  · obtain ⟨n, hn⟩ : ∃ n : Nat, μ 102 2 = n := ⟨(μ 102 2).toNat, by omega⟩
    have step : ∀ t, t < n → ((fun t : Nat => wpS 120 28 [some (.inr (.inr (some 0))), some (.inl p), some (.inl (lgW (μ 102) p t)), some (.inl t)] [] (S μ) Φ) t ↔ (fun t : Nat => wpS 120 28 [some (.inr (.inr (some 0))), some (.inl p), some (.inl (lgW (μ 102) p t)), some (.inl t)] [] (S μ) Φ) (t + 1)) := by
      intro t ht
      have r1 := lg_rng hL hp (k := t) (by omega)
      have g := (ld_g hL (j := 3 * t + p) (by omega)).2
      have e : lgW (μ 102) p (t + 1) = lgW (μ 102) p t + μ 102 (101 + (3 * t + p)) := rfl
      have K := wp_logged hL t p (by omega) hp
      dsimp only
      rw [e]
      rw [s1_iff [28] 200]
      simp (disch := omega) [sz_s, sz_0, gx_s, hx_r, hx_c, hx_b, hx_s, hx_i, hx_n, kx_s, kx_n, kx_i, cx_d, up_at, am_ctl, am_step, am_i1, am_i2, am_i2d, am_l1, am_l2, am_l2d, am_ldi, am_ldl, am_lda, am_sti, am_sta, am_stl, am_inc, am_i2l, am_l2i, am_lcmp, am_dup, am_dup2, am_pop1, am_fv, am_getf, am_putf, am_wr, am_ial, am_lal, am_bal, am_aal, am_ias, am_las, am_bas, am_alen, am_inst, am_cast, am_cpm, am_copy, am_tsw, am_pop, am_cat, am_cS, am_cI, am_cV, am_ri, am_rl, am_ra, am_rv, am_b1, am_b2, am_ent, am_en, am_isL, am_st1, am_st2, am_clr, am_cnd, cc_120, ac_120, nL_120, rb_120, np_129, ok_120_129, nL_129, np_35, ok_120_35, nL_35, vd_35_4, np_134, ok_120_134, nL_134, vd_134_11, np_135, ok_120_135, nL_135, vd_135_11, tg_11_2, tg_4_9, List.getElem?_cons_succ, List.getElem?_cons_zero, nz_of, nzl_of, Int.toNat_add, Int.toNat_mul, tn_l, lt_t, lt_f, le_t, le_f, eq_t, eq_f, ltn_t, ltn_f, len_t, len_f, eqn_t, eqn_f, up_ne, up_up, sh_0, rf_0_2, sh_73, l0.2.2.1, hn, ht, K]
    have s0 := up_iff _ n step
    have rn := lg_rng hL hp (k := n) (by omega)
    obtain ⟨x, hx⟩ : ∃ x : Nat, lgW (μ 102) p n = x := ⟨(lgW (μ 102) p n).toNat, by omega⟩
    have k2 := k2 n x hn (by omega) hx
    have e0 : lgW (μ 102) p 0 = 0 := rfl
    rw [e0] at s0
    unfold wpM
    rw [s1_iff [28] 200]
    simp (disch := omega) [sz_s, sz_0, gx_s, hx_r, hx_c, hx_b, hx_s, hx_i, hx_n, kx_s, kx_n, kx_i, cx_d, up_at, am_ctl, am_step, am_i1, am_i2, am_i2d, am_l1, am_l2, am_l2d, am_ldi, am_ldl, am_lda, am_sti, am_sta, am_stl, am_inc, am_i2l, am_l2i, am_lcmp, am_dup, am_dup2, am_pop1, am_fv, am_getf, am_putf, am_wr, am_ial, am_lal, am_bal, am_aal, am_ias, am_las, am_bas, am_alen, am_inst, am_cast, am_cpm, am_copy, am_tsw, am_pop, am_cat, am_cS, am_cI, am_cV, am_ri, am_rl, am_ra, am_rv, am_b1, am_b2, am_ent, am_en, am_isL, am_st1, am_st2, am_clr, am_cnd, cc_120, ac_120, nL_120, rb_120, np_129, ok_120_129, nL_129, np_35, ok_120_35, nL_35, vd_35_4, np_134, ok_120_134, nL_134, vd_134_11, np_135, ok_120_135, nL_135, vd_135_11, tg_11_2, tg_4_9, List.getElem?_cons_succ, List.getElem?_cons_zero, nz_of, nzl_of, Int.toNat_add, Int.toNat_mul, tn_l, lt_t, lt_f, le_t, le_f, eq_t, eq_f, ltn_t, ltn_f, len_t, len_f, eqn_t, eqn_f, up_ne, up_up, sh_0, rf_0_2, sh_73, wp_within, l0.2.2.1, hp]
    refine s0.mpr ?_
    rw [hx]
    rw [s1_iff [28] 200]
    simp (disch := omega) [sz_s, sz_0, gx_s, hx_r, hx_c, hx_b, hx_s, hx_i, hx_n, kx_s, kx_n, kx_i, cx_d, up_at, am_ctl, am_step, am_i1, am_i2, am_i2d, am_l1, am_l2, am_l2d, am_ldi, am_ldl, am_lda, am_sti, am_sta, am_stl, am_inc, am_i2l, am_l2i, am_lcmp, am_dup, am_dup2, am_pop1, am_fv, am_getf, am_putf, am_wr, am_ial, am_lal, am_bal, am_aal, am_ias, am_las, am_bas, am_alen, am_inst, am_cast, am_cpm, am_copy, am_tsw, am_pop, am_cat, am_cS, am_cI, am_cV, am_ri, am_rl, am_ra, am_rv, am_b1, am_b2, am_ent, am_en, am_isL, am_st1, am_st2, am_clr, am_cnd, cc_120, ac_120, nL_120, rb_120, np_129, ok_120_129, nL_129, np_35, ok_120_35, nL_35, vd_35_4, np_134, ok_120_134, nL_134, vd_134_11, np_135, ok_120_135, nL_135, vd_135_11, tg_11_2, tg_4_9, List.getElem?_cons_succ, List.getElem?_cons_zero, nz_of, nzl_of, Int.toNat_add, Int.toNat_mul, tn_l, lt_t, lt_f, le_t, le_f, eq_t, eq_f, ltn_t, ltn_f, len_t, len_f, eqn_t, eqn_f, up_ne, up_up, sh_0, rf_0_2, sh_73, l0.2.2.1, hn]
    refine wp_tellFraction x n (by omega) (by omega) μ _ ?_
    generalize x / Nat.gcd n x = u at *
    generalize n / Nat.gcd n x = v at *
    have L2 := LD_up (LD_up hL 0 11 (u : Int) (by decide) (by decide)) 0 12 (v : Int) (by decide) (by decide)
    have q2 : ∀ k : Nat, (am_up (am_up μ 0 11 (u : Int)) 0 12 (v : Int)) 102 k = μ 102 k := fun k => by rw [up_ne _ _ _ (by decide), up_ne _ _ _ (by decide)]
    obtain ⟨m, rfl⟩ : ∃ m, n = m + 2 := ⟨n - 2, by omega⟩
    have K1 := wp_logged L2 (m + 1) p (by rw [q2]; omega) hp
    have K2 := wp_logged L2 m p (by rw [q2]; omega) hp
    rw [q2] at K1 K2
    simp only [Int.natCast_add, Int.natCast_one] at K1
    have g1 := (ld_g hL (j := 3 * (m + 1) + p) (by omega)).2
    have g2 := (ld_g hL (j := 3 * m + p) (by omega)).2
    have nx : nxW (μ 102) p (m + 2) = 2 * μ 102 (101 + (3 * (m + 1) + p)) - μ 102 (101 + (3 * m + p)) := rfl
    rw [nx] at k2
    have z1 : (m : Int) + 2 - 1 = m + 1 := by omega
    have z2 : (m : Int) + 2 - 2 = m := by omega
    simp (disch := omega) [sz_s, sz_0, gx_s, hx_r, hx_c, hx_b, hx_s, hx_i, hx_n, kx_s, kx_n, kx_i, cx_d, up_at, am_ctl, am_step, am_i1, am_i2, am_i2d, am_l1, am_l2, am_l2d, am_ldi, am_ldl, am_lda, am_sti, am_sta, am_stl, am_inc, am_i2l, am_l2i, am_lcmp, am_dup, am_dup2, am_pop1, am_fv, am_getf, am_putf, am_wr, am_ial, am_lal, am_bal, am_aal, am_ias, am_las, am_bas, am_alen, am_inst, am_cast, am_cpm, am_copy, am_tsw, am_pop, am_cat, am_cS, am_cI, am_cV, am_ri, am_rl, am_ra, am_rv, am_b1, am_b2, am_ent, am_en, am_isL, am_st1, am_st2, am_clr, am_cnd, cc_120, ac_120, nL_120, rb_120, np_129, ok_120_129, nL_129, np_35, ok_120_35, nL_35, vd_35_4, np_134, ok_120_134, nL_134, vd_134_11, np_135, ok_120_135, nL_135, vd_135_11, tg_11_2, tg_4_9, List.getElem?_cons_succ, List.getElem?_cons_zero, nz_of, nzl_of, Int.toNat_add, Int.toNat_mul, tn_l, lt_t, lt_f, le_t, le_f, eq_t, eq_f, ltn_t, ltn_f, len_t, len_f, eqn_t, eqn_f, up_ne, up_up, sh_0, rf_0_2, sh_73, l0.2.2.1, hn, z1, z2, K1, K2, wp_tell]
    exact k2
set_option maxRecDepth 100000 in
theorem wm_next {B : Int} {μ : Nat → Nat → Int} (hL : LD B μ 73 0) {p : Nat} (hp : p < 3) (Φ : Option AV → ST → Prop) (k1 : μ 102 2 < 2 → Φ (some (.inl (-4))) (S μ)) (k2 : ∀ n x : Nat, μ 102 2 = n → 2 ≤ n → lgW (μ 102) p n = x → Φ (some (.inl 1)) (S (am_up (am_up (am_up μ 101 9 (x / Nat.gcd n x : Nat)) 101 10 (n / Nat.gcd n x : Nat)) 101 8 (nxW (μ 102) p n)))) : wpM 237 [.inr (.inr (some 101)), .inl p] (S μ) Φ := by
  have l0 := ld_0 hL
  by_cases c : μ 102 2 < 2
  · have k1 := k1 c
    unfold wpM
    rw [s1_iff [] 200]
    simp (disch := omega) [sz_s, sz_0, gx_s, hx_r, hx_c, hx_b, hx_s, hx_i, hx_n, kx_s, kx_n, kx_i, cx_d, up_at, am_ctl, am_step, am_i1, am_i2, am_i2d, am_l1, am_l2, am_l2d, am_ldi, am_ldl, am_lda, am_sti, am_sta, am_stl, am_inc, am_i2l, am_l2i, am_lcmp, am_dup, am_dup2, am_pop1, am_fv, am_getf, am_putf, am_wr, am_ial, am_lal, am_bal, am_aal, am_ias, am_las, am_bas, am_alen, am_inst, am_cast, am_cpm, am_copy, am_tsw, am_pop, am_cat, am_cS, am_cI, am_cV, am_ri, am_rl, am_ra, am_rv, am_b1, am_b2, am_ent, am_en, am_isL, am_st1, am_st2, am_clr, am_cnd, cc_237, ac_237, nL_237, rb_237, np_207, ok_237_207, nL_207, np_161, ok_237_161, nL_161, vd_161_12, np_162, ok_237_162, nL_162, vd_162_12, tg_12_0, List.getElem?_cons_succ, List.getElem?_cons_zero, nz_of, nzl_of, Int.toNat_add, Int.toNat_mul, tn_l, lt_t, lt_f, le_t, le_f, eq_t, eq_f, ltn_t, ltn_f, len_t, len_f, eqn_t, eqn_f, up_ne, up_up, sh_101, sh_102, rf_101_0, wm_isProvince]
    exact k1
  · obtain ⟨n, hn⟩ : ∃ n : Nat, μ 102 2 = n := ⟨(μ 102 2).toNat, by omega⟩
    have step : ∀ t, t < n → ((fun t : Nat => wpS 237 29 [some (.inr (.inr (some 101))), some (.inl p), some (.inl n), some (.inr (.inl (lgW (μ 102) p t))), none, some (.inl t)] [] (S μ) Φ) t ↔ (fun t : Nat => wpS 237 29 [some (.inr (.inr (some 101))), some (.inl p), some (.inl n), some (.inr (.inl (lgW (μ 102) p t))), none, some (.inl t)] [] (S μ) Φ) (t + 1)) := by
      intro t ht
      have r1 := lg_rng hL hp (k := t) (by omega)
      have g := (ld_g hL (j := 3 * t + p) (by omega)).2
      have e : lgW (μ 102) p (t + 1) = lgW (μ 102) p t + μ 102 (101 + (3 * t + p)) := rfl
      dsimp only
      rw [e]
      rw [s1_iff [29] 200]
      simp (disch := omega) [sz_s, sz_0, gx_s, hx_r, hx_c, hx_b, hx_s, hx_i, hx_n, kx_s, kx_n, kx_i, cx_d, up_at, am_ctl, am_step, am_i1, am_i2, am_i2d, am_l1, am_l2, am_l2d, am_ldi, am_ldl, am_lda, am_sti, am_sta, am_stl, am_inc, am_i2l, am_l2i, am_lcmp, am_dup, am_dup2, am_pop1, am_fv, am_getf, am_putf, am_wr, am_ial, am_lal, am_bal, am_aal, am_ias, am_las, am_bas, am_alen, am_inst, am_cast, am_cpm, am_copy, am_tsw, am_pop, am_cat, am_cS, am_cI, am_cV, am_ri, am_rl, am_ra, am_rv, am_b1, am_b2, am_ent, am_en, am_isL, am_st1, am_st2, am_clr, am_cnd, cc_237, ac_237, nL_237, rb_237, np_207, ok_237_207, nL_207, np_161, ok_237_161, nL_161, vd_161_12, np_162, ok_237_162, nL_162, vd_162_12, tg_12_0, List.getElem?_cons_succ, List.getElem?_cons_zero, nz_of, nzl_of, Int.toNat_add, Int.toNat_mul, tn_l, lt_t, lt_f, le_t, le_f, eq_t, eq_f, ltn_t, ltn_f, len_t, len_f, eqn_t, eqn_f, up_ne, up_up, sh_101, sh_102, rf_101_0, ht, Nat.add_assoc]
    have s0 := up_iff _ n step
    have rn := lg_rng hL hp (k := n) (by omega)
    obtain ⟨x, hx⟩ : ∃ x : Nat, lgW (μ 102) p n = x := ⟨(lgW (μ 102) p n).toNat, by omega⟩
    have k2 := k2 n x hn (by omega) hx
    have e0 : lgW (μ 102) p 0 = 0 := rfl
    rw [e0] at s0
    unfold wpM
    rw [s1_iff [29] 200]
    simp (disch := omega) [sz_s, sz_0, gx_s, hx_r, hx_c, hx_b, hx_s, hx_i, hx_n, kx_s, kx_n, kx_i, cx_d, up_at, am_ctl, am_step, am_i1, am_i2, am_i2d, am_l1, am_l2, am_l2d, am_ldi, am_ldl, am_lda, am_sti, am_sta, am_stl, am_inc, am_i2l, am_l2i, am_lcmp, am_dup, am_dup2, am_pop1, am_fv, am_getf, am_putf, am_wr, am_ial, am_lal, am_bal, am_aal, am_ias, am_las, am_bas, am_alen, am_inst, am_cast, am_cpm, am_copy, am_tsw, am_pop, am_cat, am_cS, am_cI, am_cV, am_ri, am_rl, am_ra, am_rv, am_b1, am_b2, am_ent, am_en, am_isL, am_st1, am_st2, am_clr, am_cnd, cc_237, ac_237, nL_237, rb_237, np_207, ok_237_207, nL_207, np_161, ok_237_161, nL_161, vd_161_12, np_162, ok_237_162, nL_162, vd_162_12, tg_12_0, List.getElem?_cons_succ, List.getElem?_cons_zero, nz_of, nzl_of, Int.toNat_add, Int.toNat_mul, tn_l, lt_t, lt_f, le_t, le_f, eq_t, eq_f, ltn_t, ltn_f, len_t, len_f, eqn_t, eqn_f, up_ne, up_up, sh_101, sh_102, rf_101_0, wm_isProvince, hn]
    refine s0.mpr ?_
    rw [hx]
    rw [s1_iff [29] 200]
    simp (disch := omega) [sz_s, sz_0, gx_s, hx_r, hx_c, hx_b, hx_s, hx_i, hx_n, kx_s, kx_n, kx_i, cx_d, up_at, am_ctl, am_step, am_i1, am_i2, am_i2d, am_l1, am_l2, am_l2d, am_ldi, am_ldl, am_lda, am_sti, am_sta, am_stl, am_inc, am_i2l, am_l2i, am_lcmp, am_dup, am_dup2, am_pop1, am_fv, am_getf, am_putf, am_wr, am_ial, am_lal, am_bal, am_aal, am_ias, am_las, am_bas, am_alen, am_inst, am_cast, am_cpm, am_copy, am_tsw, am_pop, am_cat, am_cS, am_cI, am_cV, am_ri, am_rl, am_ra, am_rv, am_b1, am_b2, am_ent, am_en, am_isL, am_st1, am_st2, am_clr, am_cnd, cc_237, ac_237, nL_237, rb_237, np_207, ok_237_207, nL_207, np_161, ok_237_161, nL_161, vd_161_12, np_162, ok_237_162, nL_162, vd_162_12, tg_12_0, List.getElem?_cons_succ, List.getElem?_cons_zero, nz_of, nzl_of, Int.toNat_add, Int.toNat_mul, tn_l, lt_t, lt_f, le_t, le_f, eq_t, eq_f, ltn_t, ltn_f, len_t, len_f, eqn_t, eqn_f, up_ne, up_up, sh_101]
    refine wm_share x n (by omega) (by omega) μ _ ?_
    generalize x / Nat.gcd n x = u at *
    generalize n / Nat.gcd n x = v at *
    obtain ⟨m, rfl⟩ : ∃ m, n = m + 2 := ⟨n - 2, by omega⟩
    have g1 := (ld_g hL (j := 3 * (m + 1) + p) (by omega)).2
    have g2 := (ld_g hL (j := 3 * m + p) (by omega)).2
    have nx : nxW (μ 102) p (m + 2) = 2 * μ 102 (101 + (3 * (m + 1) + p)) - μ 102 (101 + (3 * m + p)) := rfl
    rw [nx] at k2
    have z1 : (m : Int) + 2 - 1 = ((m + 1 : Nat) : Int) := by omega
    have z2 : (m : Int) + 2 - 2 = m := by omega
    have z3 : ∀ q : Nat, (101 + 3 * (q : Int) + (p : Int)).toNat = 101 + (3 * q + p) := fun q => by omega
    have z4 : (101 + 3 * ((m : Int) + 1) + (p : Int)).toNat = 101 + (3 * (m + 1) + p) := by omega
    simp (disch := omega) [sz_s, sz_0, gx_s, hx_r, hx_c, hx_b, hx_s, hx_i, hx_n, kx_s, kx_n, kx_i, cx_d, up_at, am_ctl, am_step, am_i1, am_i2, am_i2d, am_l1, am_l2, am_l2d, am_ldi, am_ldl, am_lda, am_sti, am_sta, am_stl, am_inc, am_i2l, am_l2i, am_lcmp, am_dup, am_dup2, am_pop1, am_fv, am_getf, am_putf, am_wr, am_ial, am_lal, am_bal, am_aal, am_ias, am_las, am_bas, am_alen, am_inst, am_cast, am_cpm, am_copy, am_tsw, am_pop, am_cat, am_cS, am_cI, am_cV, am_ri, am_rl, am_ra, am_rv, am_b1, am_b2, am_ent, am_en, am_isL, am_st1, am_st2, am_clr, am_cnd, cc_237, ac_237, nL_237, rb_237, np_207, ok_237_207, nL_207, np_161, ok_237_161, nL_161, vd_161_12, np_162, ok_237_162, nL_162, vd_162_12, tg_12_0, List.getElem?_cons_succ, List.getElem?_cons_zero, nz_of, nzl_of, Int.toNat_add, Int.toNat_mul, tn_l, lt_t, lt_f, le_t, le_f, eq_t, eq_f, ltn_t, ltn_f, len_t, len_f, eqn_t, eqn_f, up_ne, up_up, sh_101, sh_102, rf_101_0, z1, z2, z3, z4, wm_tells, Nat.add_assoc]
    simpa [Nat.add_assoc] using k2
theorem eq_next {B : Int} {μ : Nat → Nat → Int} (h : INV B μ) (x : Int) : EQV B μ 120 237 [.inl x] := by
  have hL : LD B μ 73 0 := h.2.2.2.1
  unfold EQV
  by_cases hx : 0 ≤ x ∧ x < 3
  · obtain ⟨p, rfl⟩ : ∃ p : Nat, x = p := ⟨x.toNat, by omega⟩
    refine wp_next hL (by omega) _ (fun c => ⟨_, _, rfl, rfl, ?_⟩) (fun n x hn h2 hxx => ⟨_, _, rfl, rfl, ?_⟩)
    · exact wm_next hL (by omega) _ (fun _ => ⟨rfl, _, rfl, h⟩) (fun n x hn h2 _ => absurd c (by omega))
    · have q : (am_up (am_up (am_up μ 0 11 (x / Nat.gcd n x : Nat)) 0 12 (n / Nat.gcd n x : Nat)) 0 10 (nxW (μ 102) p n)) 102 = μ 102 := by
        simp (disch := omega) only [up_ne]
      refine wm_next (LD_up (LD_up (LD_up hL _ _ _ (by decide) (by decide)) _ _ _ (by decide) (by decide)) _ _ _ (by decide) (by decide)) (by omega) _ (fun c => ?_) (fun n' x' hn' h2' hx' => ?_)
      · rw [q] at c; omega
      · rw [q] at hn' hx' ⊢
        obtain rfl : n = n' := by omega
        obtain rfl : x = x' := by omega
        exact ⟨rfl, _, rfl, INV_told3 h _ _ _⟩
  · rw [wp_next_no x hx]
    refine ⟨_, _, rfl, rfl, ?_⟩
    rw [wm_next_no x hx]
    exact ⟨rfl, _, rfl, h⟩
