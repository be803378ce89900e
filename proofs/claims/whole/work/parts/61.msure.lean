/-! ways, odds, span, sure of the reference -/
theorem GF_FM {p : Int} {μ ν : Nat → Nat → Int} (h : GF p μ ν) : FM μ ν := h.1
set_option maxHeartbeats 4000000 in
set_option maxRecDepth 100000 in
theorem wm_ways {μ : Nat → Nat → Int} (hW : WR (μ 102)) (p : Int) (n : Nat) (hp : 0 ≤ p ∧ p < 3) (hn : n ≤ 99) (Φ : Option AV → ST → Prop) (k1 : 5 < gS (μ 102) p → ∀ ν, FM μ ν → Φ (some (.inl (-6))) (S ν)) (k2 : gS (μ 102) p ≤ 5 → ∀ ν, FM μ ν → Φ (some (.inl 1)) (S (am_up (am_up ν 101 9 (dW tt_ (gC (μ 102) p) (gS (μ 102) p) n)) 101 10 1))) : wpM 217 [.inr (.inr (some 101)), .inl p, .inl n] (S μ) Φ := by
  have hp1 := hp.1
  have hp2 := hp.2
  unfold wpM
  rw [s1_iff [] 200]
  simp (disch := omega) [sz_s, sz_0, gx_s, hx_r, hx_c, hx_b, hx_s, hx_i, hx_n, kx_s, kx_n, kx_i, cx_d, up_at, am_ctl, am_step, am_i1, am_i2, am_i2d, am_l1, am_l2, am_l2d, am_ldi, am_ldl, am_lda, am_sti, am_sta, am_stl, am_inc, am_i2l, am_l2i, am_lcmp, am_dup, am_dup2, am_pop1, am_fv, am_getf, am_putf, am_wr, am_ial, am_lal, am_bal, am_aal, am_ias, am_las, am_bas, am_alen, am_inst, am_cast, am_cpm, am_copy, am_tsw, am_pop, am_cat, am_cS, am_cI, am_cV, am_ri, am_rl, am_ra, am_rv, am_b1, am_b2, am_ent, am_en, am_isL, am_st1, am_st2, am_clr, am_cnd, cc_217, ac_217, nL_217, rb_217, np_213, ok_217_213, nL_213, vd_213_12, np_214, ok_217_214, nL_214, vd_214_12, np_215, ok_217_215, nL_215, vd_215_12, tg_12_17, tg_12_18, List.getElem?_cons_succ, List.getElem?_cons_zero, nz_of, nzl_of, Int.toNat_add, Int.toNat_mul, tn_l, lt_t, lt_f, le_t, le_f, eq_t, eq_f, ltn_t, ltn_f, len_t, len_f, eqn_t, eqn_f, up_ne, up_up, sh_101, wm_isAsked, hp1, hp2]
  refine wm_gather hW p _ (fun ν i1 i2 i3 => ?_)
  have hg : GF p μ ν := ⟨fun k i h1 h2 => i1 k i (by omega) h2, i2, i3⟩
  by_cases h5 : gS (μ 102) p ≤ 5
  · replace k2 := k2 h5
    simp (disch := omega) [sz_s, sz_0, gx_s, hx_r, hx_c, hx_b, hx_s, hx_i, hx_n, kx_s, kx_n, kx_i, cx_d, up_at, am_ctl, am_step, am_i1, am_i2, am_i2d, am_l1, am_l2, am_l2d, am_ldi, am_ldl, am_lda, am_sti, am_sta, am_stl, am_inc, am_i2l, am_l2i, am_lcmp, am_dup, am_dup2, am_pop1, am_fv, am_getf, am_putf, am_wr, am_ial, am_lal, am_bal, am_aal, am_ias, am_las, am_bas, am_alen, am_inst, am_cast, am_cpm, am_copy, am_tsw, am_pop, am_cat, am_cS, am_cI, am_cV, am_ri, am_rl, am_ra, am_rv, am_b1, am_b2, am_ent, am_en, am_isL, am_st1, am_st2, am_clr, am_cnd, cc_217, ac_217, nL_217, rb_217, np_213, ok_217_213, nL_213, vd_213_12, np_214, ok_217_214, nL_214, vd_214_12, np_215, ok_217_215, nL_215, vd_215_12, tg_12_17, tg_12_18, List.getElem?_cons_succ, List.getElem?_cons_zero, nz_of, nzl_of, Int.toNat_add, Int.toNat_mul, tn_l, lt_t, lt_f, le_t, le_f, eq_t, eq_f, ltn_t, ltn_f, len_t, len_f, eqn_t, eqn_f, up_ne, up_up, sh_101, i2]
    refine wm_fwa hW hg h5 _ (fun ρ r1 r2 => ?_)
    replace k2 := k2 ρ r1.1
    have v := (r2 n (by omega)).1
    generalize dW tt_ (gC (μ 102) p) (gS (μ 102) p) n = X at *
    simp (disch := omega) [sz_s, sz_0, gx_s, hx_r, hx_c, hx_b, hx_s, hx_i, hx_n, kx_s, kx_n, kx_i, cx_d, up_at, am_ctl, am_step, am_i1, am_i2, am_i2d, am_l1, am_l2, am_l2d, am_ldi, am_ldl, am_lda, am_sti, am_sta, am_stl, am_inc, am_i2l, am_l2i, am_lcmp, am_dup, am_dup2, am_pop1, am_fv, am_getf, am_putf, am_wr, am_ial, am_lal, am_bal, am_aal, am_ias, am_las, am_bas, am_alen, am_inst, am_cast, am_cpm, am_copy, am_tsw, am_pop, am_cat, am_cS, am_cI, am_cV, am_ri, am_rl, am_ra, am_rv, am_b1, am_b2, am_ent, am_en, am_isL, am_st1, am_st2, am_clr, am_cnd, cc_217, ac_217, nL_217, rb_217, np_213, ok_217_213, nL_213, vd_213_12, np_214, ok_217_214, nL_214, vd_214_12, np_215, ok_217_215, nL_215, vd_215_12, tg_12_17, tg_12_18, List.getElem?_cons_succ, List.getElem?_cons_zero, nz_of, nzl_of, Int.toNat_add, Int.toNat_mul, tn_l, lt_t, lt_f, le_t, le_f, eq_t, eq_f, ltn_t, ltn_f, len_t, len_f, eqn_t, eqn_f, up_ne, up_up, sh_101, sh_113, rf_101_18, v]
    exact k2
  · replace k1 := k1 (by omega) ν hg.1
    simp (disch := omega) [sz_s, sz_0, gx_s, hx_r, hx_c, hx_b, hx_s, hx_i, hx_n, kx_s, kx_n, kx_i, cx_d, up_at, am_ctl, am_step, am_i1, am_i2, am_i2d, am_l1, am_l2, am_l2d, am_ldi, am_ldl, am_lda, am_sti, am_sta, am_stl, am_inc, am_i2l, am_l2i, am_lcmp, am_dup, am_dup2, am_pop1, am_fv, am_getf, am_putf, am_wr, am_ial, am_lal, am_bal, am_aal, am_ias, am_las, am_bas, am_alen, am_inst, am_cast, am_cpm, am_copy, am_tsw, am_pop, am_cat, am_cS, am_cI, am_cV, am_ri, am_rl, am_ra, am_rv, am_b1, am_b2, am_ent, am_en, am_isL, am_st1, am_st2, am_clr, am_cnd, cc_217, ac_217, nL_217, rb_217, np_213, ok_217_213, nL_213, vd_213_12, np_214, ok_217_214, nL_214, vd_214_12, np_215, ok_217_215, nL_215, vd_215_12, tg_12_17, tg_12_18, List.getElem?_cons_succ, List.getElem?_cons_zero, nz_of, nzl_of, Int.toNat_add, Int.toNat_mul, tn_l, lt_t, lt_f, le_t, le_f, eq_t, eq_f, ltn_t, ltn_f, len_t, len_f, eqn_t, eqn_f, up_ne, up_up, sh_101, i2]
    exact k1
set_option maxHeartbeats 4000000 in
set_option maxRecDepth 100000 in
theorem wm_span {μ : Nat → Nat → Int} (hW : WR (μ 102)) (p : Int) (n : Nat) (hp : 0 ≤ p ∧ p < 3) (hn : n ≤ 99) (Φ : Option AV → ST → Prop) (k1 : 5 < gS (μ 102) p → ∀ ν, FM μ ν → Φ (some (.inl (-6))) (S ν)) (k2 : gS (μ 102) p ≤ 5 → dW tt_ (gC (μ 102) p) (gS (μ 102) p) n = 0 → ∀ ν, FM μ ν → Φ (some (.inl (-3))) (S (mfind ν 4))) (k3 : gS (μ 102) p ≤ 5 → ¬ dW tt_ (gC (μ 102) p) (gS (μ 102) p) n = 0 → ∀ ν lo hi, FM μ ν → AT tt_ (gC (μ 102) p) (gS (μ 102) p) n lo → AT tt_ (gC (μ 102) p) (gS (μ 102) p) n hi → (∀ u, AT tt_ (gC (μ 102) p) (gS (μ 102) p) n u → lo ≤ u ∧ u ≤ hi) → Φ (some (.inl lo)) (S (am_up ν 101 8 hi))) : wpM 216 [.inr (.inr (some 101)), .inl p, .inl n] (S μ) Φ := by
  have hp1 := hp.1
  have hp2 := hp.2
  unfold wpM
  rw [s1_iff [] 200]
  simp (disch := omega) [sz_s, sz_0, gx_s, hx_r, hx_c, hx_b, hx_s, hx_i, hx_n, kx_s, kx_n, kx_i, cx_d, up_at, am_ctl, am_step, am_i1, am_i2, am_i2d, am_l1, am_l2, am_l2d, am_ldi, am_ldl, am_lda, am_sti, am_sta, am_stl, am_inc, am_i2l, am_l2i, am_lcmp, am_dup, am_dup2, am_pop1, am_fv, am_getf, am_putf, am_wr, am_ial, am_lal, am_bal, am_aal, am_ias, am_las, am_bas, am_alen, am_inst, am_cast, am_cpm, am_copy, am_tsw, am_pop, am_cat, am_cS, am_cI, am_cV, am_ri, am_rl, am_ra, am_rv, am_b1, am_b2, am_ent, am_en, am_isL, am_st1, am_st2, am_clr, am_cnd, cc_216, ac_216, nL_216, rb_216, np_160, ok_216_160, nL_160, vd_160_12, np_213, ok_216_213, nL_213, vd_213_12, np_214, ok_216_214, nL_214, vd_214_12, np_215, ok_216_215, nL_215, vd_215_12, tg_12_17, tg_12_18, tg_12_22, tg_12_20, List.getElem?_cons_succ, List.getElem?_cons_zero, nz_of, nzl_of, Int.toNat_add, Int.toNat_mul, tn_l, lt_t, lt_f, le_t, le_f, eq_t, eq_f, ltn_t, ltn_f, len_t, len_f, eqn_t, eqn_f, up_ne, up_up, sh_101, wm_isAsked, hp1, hp2]
  refine wm_gather hW p _ (fun ν i1 i2 i3 => ?_)
  have hg : GF p μ ν := ⟨fun k i h1 h2 => i1 k i (by omega) h2, i2, i3⟩
  by_cases h5 : gS (μ 102) p ≤ 5
  · replace k2 := k2 h5
    replace k3 := k3 h5
    simp (disch := omega) [sz_s, sz_0, gx_s, hx_r, hx_c, hx_b, hx_s, hx_i, hx_n, kx_s, kx_n, kx_i, cx_d, up_at, am_ctl, am_step, am_i1, am_i2, am_i2d, am_l1, am_l2, am_l2d, am_ldi, am_ldl, am_lda, am_sti, am_sta, am_stl, am_inc, am_i2l, am_l2i, am_lcmp, am_dup, am_dup2, am_pop1, am_fv, am_getf, am_putf, am_wr, am_ial, am_lal, am_bal, am_aal, am_ias, am_las, am_bas, am_alen, am_inst, am_cast, am_cpm, am_copy, am_tsw, am_pop, am_cat, am_cS, am_cI, am_cV, am_ri, am_rl, am_ra, am_rv, am_b1, am_b2, am_ent, am_en, am_isL, am_st1, am_st2, am_clr, am_cnd, cc_216, ac_216, nL_216, rb_216, np_160, ok_216_160, nL_160, vd_160_12, np_213, ok_216_213, nL_213, vd_213_12, np_214, ok_216_214, nL_214, vd_214_12, np_215, ok_216_215, nL_215, vd_215_12, tg_12_17, tg_12_18, tg_12_22, tg_12_20, List.getElem?_cons_succ, List.getElem?_cons_zero, nz_of, nzl_of, Int.toNat_add, Int.toNat_mul, tn_l, lt_t, lt_f, le_t, le_f, eq_t, eq_f, ltn_t, ltn_f, len_t, len_f, eqn_t, eqn_f, up_ne, up_up, sh_101, i2]
    refine wm_fwa hW hg h5 _ (fun ρ r1 r2 => ?_)
    obtain ⟨v, w⟩ := r2 n (by omega)
    have dp := dW_le (a := tt_) (c := gC (μ 102) p) h5 (n : Int)
    by_cases z : dW tt_ (gC (μ 102) p) (gS (μ 102) p) n = 0
    · replace k2 := k2 z ρ r1.1
      unfold mfind at k2
      rw [z] at v
      simp (disch := omega) [sz_s, sz_0, gx_s, hx_r, hx_c, hx_b, hx_s, hx_i, hx_n, kx_s, kx_n, kx_i, cx_d, up_at, am_ctl, am_step, am_i1, am_i2, am_i2d, am_l1, am_l2, am_l2d, am_ldi, am_ldl, am_lda, am_sti, am_sta, am_stl, am_inc, am_i2l, am_l2i, am_lcmp, am_dup, am_dup2, am_pop1, am_fv, am_getf, am_putf, am_wr, am_ial, am_lal, am_bal, am_aal, am_ias, am_las, am_bas, am_alen, am_inst, am_cast, am_cpm, am_copy, am_tsw, am_pop, am_cat, am_cS, am_cI, am_cV, am_ri, am_rl, am_ra, am_rv, am_b1, am_b2, am_ent, am_en, am_isL, am_st1, am_st2, am_clr, am_cnd, cc_216, ac_216, nL_216, rb_216, np_160, ok_216_160, nL_160, vd_160_12, np_213, ok_216_213, nL_213, vd_213_12, np_214, ok_216_214, nL_214, vd_214_12, np_215, ok_216_215, nL_215, vd_215_12, tg_12_17, tg_12_18, tg_12_22, tg_12_20, List.getElem?_cons_succ, List.getElem?_cons_zero, nz_of, nzl_of, Int.toNat_add, Int.toNat_mul, tn_l, lt_t, lt_f, le_t, le_f, eq_t, eq_f, ltn_t, ltn_f, len_t, len_f, eqn_t, eqn_f, up_ne, up_up, sh_101, sh_113, rf_101_18, am_cmp, v, wm_met 4 (by decide)]
      simpa using k2
    · obtain ⟨w1, w2, w3⟩ := w (by omega)
      replace k3 := k3 z ρ _ _ r1.1 w1 w2 w3
      generalize dW tt_ (gC (μ 102) p) (gS (μ 102) p) n = X at *
      simp (disch := omega) [sz_s, sz_0, gx_s, hx_r, hx_c, hx_b, hx_s, hx_i, hx_n, kx_s, kx_n, kx_i, cx_d, up_at, am_ctl, am_step, am_i1, am_i2, am_i2d, am_l1, am_l2, am_l2d, am_ldi, am_ldl, am_lda, am_sti, am_sta, am_stl, am_inc, am_i2l, am_l2i, am_lcmp, am_dup, am_dup2, am_pop1, am_fv, am_getf, am_putf, am_wr, am_ial, am_lal, am_bal, am_aal, am_ias, am_las, am_bas, am_alen, am_inst, am_cast, am_cpm, am_copy, am_tsw, am_pop, am_cat, am_cS, am_cI, am_cV, am_ri, am_rl, am_ra, am_rv, am_b1, am_b2, am_ent, am_en, am_isL, am_st1, am_st2, am_clr, am_cnd, cc_216, ac_216, nL_216, rb_216, np_160, ok_216_160, nL_160, vd_160_12, np_213, ok_216_213, nL_213, vd_213_12, np_214, ok_216_214, nL_214, vd_214_12, np_215, ok_216_215, nL_215, vd_215_12, tg_12_17, tg_12_18, tg_12_22, tg_12_20, List.getElem?_cons_succ, List.getElem?_cons_zero, nz_of, nzl_of, Int.toNat_add, Int.toNat_mul, tn_l, lt_t, lt_f, le_t, le_f, eq_t, eq_f, ltn_t, ltn_f, len_t, len_f, eqn_t, eqn_f, up_ne, up_up, sh_101, sh_113, sh_115, sh_117, rf_101_18, rf_101_20, rf_101_22, am_cmp, v, z]
      exact k3
  · replace k1 := k1 (by omega) ν hg.1
    simp (disch := omega) [sz_s, sz_0, gx_s, hx_r, hx_c, hx_b, hx_s, hx_i, hx_n, kx_s, kx_n, kx_i, cx_d, up_at, am_ctl, am_step, am_i1, am_i2, am_i2d, am_l1, am_l2, am_l2d, am_ldi, am_ldl, am_lda, am_sti, am_sta, am_stl, am_inc, am_i2l, am_l2i, am_lcmp, am_dup, am_dup2, am_pop1, am_fv, am_getf, am_putf, am_wr, am_ial, am_lal, am_bal, am_aal, am_ias, am_las, am_bas, am_alen, am_inst, am_cast, am_cpm, am_copy, am_tsw, am_pop, am_cat, am_cS, am_cI, am_cV, am_ri, am_rl, am_ra, am_rv, am_b1, am_b2, am_ent, am_en, am_isL, am_st1, am_st2, am_clr, am_cnd, cc_216, ac_216, nL_216, rb_216, np_160, ok_216_160, nL_160, vd_160_12, np_213, ok_216_213, nL_213, vd_213_12, np_214, ok_216_214, nL_214, vd_214_12, np_215, ok_216_215, nL_215, vd_215_12, tg_12_17, tg_12_18, tg_12_22, tg_12_20, List.getElem?_cons_succ, List.getElem?_cons_zero, nz_of, nzl_of, Int.toNat_add, Int.toNat_mul, tn_l, lt_t, lt_f, le_t, le_f, eq_t, eq_f, ltn_t, ltn_f, len_t, len_f, eqn_t, eqn_f, up_ne, up_up, sh_101, i2]
    exact k1
theorem wn_isHouse {μ : Nat → Nat → Int} (hW : WR (μ 102)) (x : Int) (Φ : Option AV → ST → Prop) : wpM 178 [.inr (.inr (some 101)), .inl x] (S μ) Φ ↔ Φ (some (.inl (if 0 ≤ x ∧ x < (nW (μ 102) : Int) then 1 else 0))) (S μ) := by
  have e := wr_n hW
  rw [wm_isHouse]
  refine an_iff ?_
  rw [nz_of (by omega) (by omega)]
  (repeat' split) <;> first | rfl | (exfalso; omega)
set_option maxHeartbeats 4000000 in
set_option maxRecDepth 100000 in
theorem wm_odds {μ : Nat → Nat → Int} (hW : WR (μ 102)) {h n m : Nat} (hh : h < nW (μ 102)) (hn : n ≤ 99) (hm : m ≤ 9) (p : Int) (hp : μ 102 (13 + h) = p) (i0 : Nat) (hi0 : i0 = gN (μ 102) p h) (Φ : Option AV → ST → Prop) (k1 : 5 < gS (μ 102) p → ∀ ν, FM μ ν → Φ (some (.inl (-6))) (S ν)) (k2 : gS (μ 102) p ≤ 5 → dW tt_ (gC (μ 102) p) (gS (μ 102) p) n = 0 → ∀ ν, FM μ ν → Φ (some (.inl (-3))) (S (mfind ν 4))) (k3 : gS (μ 102) p ≤ 5 → ∀ X Y : Nat, dW tt_ (gC (μ 102) p) (gS (μ 102) p) n = Y → 0 < Y → dW (on_ i0 m) (gC (μ 102) p) (gS (μ 102) p) n = X → ∀ ν, FM μ ν → Φ (some (.inl 1)) (S (am_up (am_up ν 101 9 (X / Nat.gcd Y X : Nat)) 101 10 (Y / Nat.gcd Y X : Nat)))) : wpM 218 [.inr (.inr (some 101)), .inl h, .inl n, .inl m] (S μ) Φ := by
  have e0 := wr_n hW
  have n0 := e0.2.1
  obtain ⟨g1, g2⟩ := gH_of (μ 102) p (nW (μ 102)) h hh hp
  rw [← hi0] at g1 g2
  have H := fun x Φ => wn_isHouse hW x Φ
  unfold wpM
  rw [s1_iff [] 200]
  simp (disch := omega) [sz_s, sz_0, gx_s, hx_r, hx_c, hx_b, hx_s, hx_i, hx_n, kx_s, kx_n, kx_i, cx_d, up_at, am_ctl, am_step, am_i1, am_i2, am_i2d, am_l1, am_l2, am_l2d, am_ldi, am_ldl, am_lda, am_sti, am_sta, am_stl, am_inc, am_i2l, am_l2i, am_lcmp, am_dup, am_dup2, am_pop1, am_fv, am_getf, am_putf, am_wr, am_ial, am_lal, am_bal, am_aal, am_ias, am_las, am_bas, am_alen, am_inst, am_cast, am_cpm, am_copy, am_tsw, am_pop, am_cat, am_cS, am_cI, am_cV, am_ri, am_rl, am_ra, am_rv, am_b1, am_b2, am_ent, am_en, am_isL, am_st1, am_st2, am_clr, am_cnd, cc_218, ac_218, nL_218, rb_218, np_156, ok_218_156, nL_156, np_160, ok_218_160, nL_160, vd_160_12, np_162, ok_218_162, nL_162, vd_162_12, np_178, ok_218_178, nL_178, vd_178_12, np_213, ok_218_213, nL_213, vd_213_12, np_214, ok_218_214, nL_214, vd_214_12, tg_12_0, tg_12_17, tg_12_18, List.getElem?_cons_succ, List.getElem?_cons_zero, nz_of, nzl_of, Int.toNat_add, Int.toNat_mul, tn_l, lt_t, lt_f, le_t, le_f, eq_t, eq_f, ltn_t, ltn_f, len_t, len_f, eqn_t, eqn_f, up_ne, up_up, sh_101, sh_102, rf_101_0, wm_in, H, hh, hp]
  refine wm_gather hW p _ (fun ν i1 i2 i3 => ?_)
  have hg : GF p μ ν := ⟨fun k i h1 h2 => i1 k i (by omega) h2, i2, i3⟩
  by_cases h5 : gS (μ 102) p ≤ 5
  · replace k2 := k2 h5
    replace k3 := k3 h5
    simp (disch := omega) [sz_s, sz_0, gx_s, hx_r, hx_c, hx_b, hx_s, hx_i, hx_n, kx_s, kx_n, kx_i, cx_d, up_at, am_ctl, am_step, am_i1, am_i2, am_i2d, am_l1, am_l2, am_l2d, am_ldi, am_ldl, am_lda, am_sti, am_sta, am_stl, am_inc, am_i2l, am_l2i, am_lcmp, am_dup, am_dup2, am_pop1, am_fv, am_getf, am_putf, am_wr, am_ial, am_lal, am_bal, am_aal, am_ias, am_las, am_bas, am_alen, am_inst, am_cast, am_cpm, am_copy, am_tsw, am_pop, am_cat, am_cS, am_cI, am_cV, am_ri, am_rl, am_ra, am_rv, am_b1, am_b2, am_ent, am_en, am_isL, am_st1, am_st2, am_clr, am_cnd, cc_218, ac_218, nL_218, rb_218, np_156, ok_218_156, nL_156, np_160, ok_218_160, nL_160, vd_160_12, np_162, ok_218_162, nL_162, vd_162_12, np_178, ok_218_178, nL_178, vd_178_12, np_213, ok_218_213, nL_213, vd_213_12, np_214, ok_218_214, nL_214, vd_214_12, tg_12_0, tg_12_17, tg_12_18, List.getElem?_cons_succ, List.getElem?_cons_zero, nz_of, nzl_of, Int.toNat_add, Int.toNat_mul, tn_l, lt_t, lt_f, le_t, le_f, eq_t, eq_f, ltn_t, ltn_f, len_t, len_f, eqn_t, eqn_f, up_ne, up_up, sh_101, i2]
    refine wm_fwa hW hg h5 _ (fun ρ r1 r2 => ?_)
    have v := (r2 n (by omega)).1
    have dy := dW_le (a := tt_) (c := gC (μ 102) p) h5 (n : Int)
    have dx := dW_le (a := on_ i0 m) (c := gC (μ 102) p) h5 (n : Int)
    by_cases z : dW tt_ (gC (μ 102) p) (gS (μ 102) p) n = 0
    · replace k2 := k2 z ρ r1.1
      unfold mfind at k2
      rw [z] at v
      simp (disch := omega) [sz_s, sz_0, gx_s, hx_r, hx_c, hx_b, hx_s, hx_i, hx_n, kx_s, kx_n, kx_i, cx_d, up_at, am_ctl, am_step, am_i1, am_i2, am_i2d, am_l1, am_l2, am_l2d, am_ldi, am_ldl, am_lda, am_sti, am_sta, am_stl, am_inc, am_i2l, am_l2i, am_lcmp, am_dup, am_dup2, am_pop1, am_fv, am_getf, am_putf, am_wr, am_ial, am_lal, am_bal, am_aal, am_ias, am_las, am_bas, am_alen, am_inst, am_cast, am_cpm, am_copy, am_tsw, am_pop, am_cat, am_cS, am_cI, am_cV, am_ri, am_rl, am_ra, am_rv, am_b1, am_b2, am_ent, am_en, am_isL, am_st1, am_st2, am_clr, am_cnd, cc_218, ac_218, nL_218, rb_218, np_156, ok_218_156, nL_156, np_160, ok_218_160, nL_160, vd_160_12, np_162, ok_218_162, nL_162, vd_162_12, np_178, ok_218_178, nL_178, vd_178_12, np_213, ok_218_213, nL_213, vd_213_12, np_214, ok_218_214, nL_214, vd_214_12, tg_12_0, tg_12_17, tg_12_18, List.getElem?_cons_succ, List.getElem?_cons_zero, nz_of, nzl_of, Int.toNat_add, Int.toNat_mul, tn_l, lt_t, lt_f, le_t, le_f, eq_t, eq_f, ltn_t, ltn_f, len_t, len_f, eqn_t, eqn_f, up_ne, up_up, sh_101, sh_113, rf_101_18, am_cmp, v, wm_met 4 (by decide)]
      simpa using k2
    · obtain ⟨Y, hY⟩ : ∃ Y : Nat, dW tt_ (gC (μ 102) p) (gS (μ 102) p) n = Y := ⟨(dW tt_ (gC (μ 102) p) (gS (μ 102) p) n).toNat, by omega⟩
      obtain ⟨X, hX⟩ : ∃ X : Nat, dW (on_ i0 m) (gC (μ 102) p) (gS (μ 102) p) n = X := ⟨(dW (on_ i0 m) (gC (μ 102) p) (gS (μ 102) p) n).toNat, by omega⟩
      replace k3 := k3 X Y hY (by omega) hX
      rw [hY] at v z
      have z2 : ¬ (Y : Int) = 0 := z
      have z3 : ¬ Y = 0 := by omega
      simp (disch := omega) [sz_s, sz_0, gx_s, hx_r, hx_c, hx_b, hx_s, hx_i, hx_n, kx_s, kx_n, kx_i, cx_d, up_at, am_ctl, am_step, am_i1, am_i2, am_i2d, am_l1, am_l2, am_l2d, am_ldi, am_ldl, am_lda, am_sti, am_sta, am_stl, am_inc, am_i2l, am_l2i, am_lcmp, am_dup, am_dup2, am_pop1, am_fv, am_getf, am_putf, am_wr, am_ial, am_lal, am_bal, am_aal, am_ias, am_las, am_bas, am_alen, am_inst, am_cast, am_cpm, am_copy, am_tsw, am_pop, am_cat, am_cS, am_cI, am_cV, am_ri, am_rl, am_ra, am_rv, am_b1, am_b2, am_ent, am_en, am_isL, am_st1, am_st2, am_clr, am_cnd, cc_218, ac_218, nL_218, rb_218, np_156, ok_218_156, nL_156, np_160, ok_218_160, nL_160, vd_160_12, np_162, ok_218_162, nL_162, vd_162_12, np_178, ok_218_178, nL_178, vd_178_12, np_213, ok_218_213, nL_213, vd_213_12, np_214, ok_218_214, nL_214, vd_214_12, tg_12_0, tg_12_17, tg_12_18, List.getElem?_cons_succ, List.getElem?_cons_zero, nz_of, nzl_of, Int.toNat_add, Int.toNat_mul, tn_l, lt_t, lt_f, le_t, le_f, eq_t, eq_f, ltn_t, ltn_f, len_t, len_f, eqn_t, eqn_f, up_ne, up_up, sh_101, sh_113, rf_101_18, am_cmp, v, z2, z3]
      have FO := fun Φ k => wm_fwo hW r1 h5 i0 m g2 Φ k
      rw [g1] at FO
      refine FO _ (fun τ t1 t2 => ?_)
      have v2 := (t2 n (by omega)).1
      rw [hX] at v2
      replace k3 := k3 τ t1.1
      simp (disch := omega) [sz_s, sz_0, gx_s, hx_r, hx_c, hx_b, hx_s, hx_i, hx_n, kx_s, kx_n, kx_i, cx_d, up_at, am_ctl, am_step, am_i1, am_i2, am_i2d, am_l1, am_l2, am_l2d, am_ldi, am_ldl, am_lda, am_sti, am_sta, am_stl, am_inc, am_i2l, am_l2i, am_lcmp, am_dup, am_dup2, am_pop1, am_fv, am_getf, am_putf, am_wr, am_ial, am_lal, am_bal, am_aal, am_ias, am_las, am_bas, am_alen, am_inst, am_cast, am_cpm, am_copy, am_tsw, am_pop, am_cat, am_cS, am_cI, am_cV, am_ri, am_rl, am_ra, am_rv, am_b1, am_b2, am_ent, am_en, am_isL, am_st1, am_st2, am_clr, am_cnd, cc_218, ac_218, nL_218, rb_218, np_156, ok_218_156, nL_156, np_160, ok_218_160, nL_160, vd_160_12, np_162, ok_218_162, nL_162, vd_162_12, np_178, ok_218_178, nL_178, vd_178_12, np_213, ok_218_213, nL_213, vd_213_12, np_214, ok_218_214, nL_214, vd_214_12, tg_12_0, tg_12_17, tg_12_18, List.getElem?_cons_succ, List.getElem?_cons_zero, nz_of, nzl_of, Int.toNat_add, Int.toNat_mul, tn_l, lt_t, lt_f, le_t, le_f, eq_t, eq_f, ltn_t, ltn_f, len_t, len_f, eqn_t, eqn_f, up_ne, up_up, sh_101, sh_113, rf_101_18, v2]
      refine wm_share X Y (by omega) (by omega) τ _ ?_
      generalize X / Nat.gcd Y X = u at *
      generalize Y / Nat.gcd Y X = w at *
      simp (disch := omega) [sz_s, sz_0, gx_s, hx_r, hx_c, hx_b, hx_s, hx_i, hx_n, kx_s, kx_n, kx_i, cx_d, up_at, am_ctl, am_step, am_i1, am_i2, am_i2d, am_l1, am_l2, am_l2d, am_ldi, am_ldl, am_lda, am_sti, am_sta, am_stl, am_inc, am_i2l, am_l2i, am_lcmp, am_dup, am_dup2, am_pop1, am_fv, am_getf, am_putf, am_wr, am_ial, am_lal, am_bal, am_aal, am_ias, am_las, am_bas, am_alen, am_inst, am_cast, am_cpm, am_copy, am_tsw, am_pop, am_cat, am_cS, am_cI, am_cV, am_ri, am_rl, am_ra, am_rv, am_b1, am_b2, am_ent, am_en, am_isL, am_st1, am_st2, am_clr, am_cnd, cc_218, ac_218, nL_218, rb_218, np_156, ok_218_156, nL_156, np_160, ok_218_160, nL_160, vd_160_12, np_162, ok_218_162, nL_162, vd_162_12, np_178, ok_218_178, nL_178, vd_178_12, np_213, ok_218_213, nL_213, vd_213_12, np_214, ok_218_214, nL_214, vd_214_12, tg_12_0, tg_12_17, tg_12_18, List.getElem?_cons_succ, List.getElem?_cons_zero, nz_of, nzl_of, Int.toNat_add, Int.toNat_mul, tn_l, lt_t, lt_f, le_t, le_f, eq_t, eq_f, ltn_t, ltn_f, len_t, len_f, eqn_t, eqn_f, up_ne, up_up, sh_101]
      exact k3
  · replace k1 := k1 (by omega) ν hg.1
    simp (disch := omega) [sz_s, sz_0, gx_s, hx_r, hx_c, hx_b, hx_s, hx_i, hx_n, kx_s, kx_n, kx_i, cx_d, up_at, am_ctl, am_step, am_i1, am_i2, am_i2d, am_l1, am_l2, am_l2d, am_ldi, am_ldl, am_lda, am_sti, am_sta, am_stl, am_inc, am_i2l, am_l2i, am_lcmp, am_dup, am_dup2, am_pop1, am_fv, am_getf, am_putf, am_wr, am_ial, am_lal, am_bal, am_aal, am_ias, am_las, am_bas, am_alen, am_inst, am_cast, am_cpm, am_copy, am_tsw, am_pop, am_cat, am_cS, am_cI, am_cV, am_ri, am_rl, am_ra, am_rv, am_b1, am_b2, am_ent, am_en, am_isL, am_st1, am_st2, am_clr, am_cnd, cc_218, ac_218, nL_218, rb_218, np_156, ok_218_156, nL_156, np_160, ok_218_160, nL_160, vd_160_12, np_162, ok_218_162, nL_162, vd_162_12, np_178, ok_218_178, nL_178, vd_178_12, np_213, ok_218_213, nL_213, vd_213_12, np_214, ok_218_214, nL_214, vd_214_12, tg_12_0, tg_12_17, tg_12_18, List.getElem?_cons_succ, List.getElem?_cons_zero, nz_of, nzl_of, Int.toNat_add, Int.toNat_mul, tn_l, lt_t, lt_f, le_t, le_f, eq_t, eq_f, ltn_t, ltn_f, len_t, len_f, eqn_t, eqn_f, up_ne, up_up, sh_101, i2]
    exact k1
set_option maxHeartbeats 8000000 in
set_option maxRecDepth 100000 in
theorem wm_sure {μ : Nat → Nat → Int} (hW : WR (μ 102)) (p : Int) (n : Nat) (hp : 0 ≤ p ∧ p < 3) (hn : n ≤ 99) (Φ : Option AV → ST → Prop) (k1 : 5 < gS (μ 102) p → ∀ ν, FM μ ν → Φ (some (.inl (-6))) (S ν)) (k2 : gS (μ 102) p ≤ 5 → dW tt_ (gC (μ 102) p) (gS (μ 102) p) n = 0 → ∀ ν, FM μ ν → Φ (some (.inl (-3))) (S (mfind ν 4))) (k3 : gS (μ 102) p ≤ 5 → ¬ dW tt_ (gC (μ 102) p) (gS (μ 102) p) n = 0 → ∀ ν, FM μ ν → Φ (some (.inl (suZ (fun i m => decide (dW (on_ i m) (gC (μ 102) p) (gS (μ 102) p) n = dW tt_ (gC (μ 102) p) (gS (μ 102) p) n)) (gH (μ 102) p (nW (μ 102))) (gS (μ 102) p) : Nat))) (S ν)) : wpM 219 [.inr (.inr (some 101)), .inl p, .inl n] (S μ) Φ := by
  have hp1 := hp.1
  have hp2 := hp.2
  unfold wpM
  rw [s1_iff [58] 200]
  simp (disch := omega) [sz_s, sz_0, gx_s, hx_r, hx_c, hx_b, hx_s, hx_i, hx_n, kx_s, kx_n, kx_i, cx_d, up_at, am_ctl, am_step, am_i1, am_i2, am_i2d, am_l1, am_l2, am_l2d, am_ldi, am_ldl, am_lda, am_sti, am_sta, am_stl, am_inc, am_i2l, am_l2i, am_lcmp, am_dup, am_dup2, am_pop1, am_fv, am_getf, am_putf, am_wr, am_ial, am_lal, am_bal, am_aal, am_ias, am_las, am_bas, am_alen, am_inst, am_cast, am_cpm, am_copy, am_tsw, am_pop, am_cat, am_cS, am_cI, am_cV, am_ri, am_rl, am_ra, am_rv, am_b1, am_b2, am_ent, am_en, am_isL, am_st1, am_st2, am_clr, am_cnd, cc_219, ac_219, nL_219, rb_219, np_160, ok_219_160, nL_160, vd_160_12, np_213, ok_219_213, nL_213, vd_213_12, np_214, ok_219_214, nL_214, vd_214_12, np_215, ok_219_215, nL_215, vd_215_12, tg_12_17, tg_12_18, tg_12_16, List.getElem?_cons_succ, List.getElem?_cons_zero, nz_of, nzl_of, Int.toNat_add, Int.toNat_mul, tn_l, lt_t, lt_f, le_t, le_f, eq_t, eq_f, ltn_t, ltn_f, len_t, len_f, eqn_t, eqn_f, up_ne, up_up, sh_101, wm_isAsked, hp1, hp2]
  refine wm_gather hW p _ (fun ν i1 i2 i3 => ?_)
  have hg : GF p μ ν := ⟨fun k i h1 h2 => i1 k i (by omega) h2, i2, i3⟩
  by_cases h5 : gS (μ 102) p ≤ 5
  · replace k2 := k2 h5
    replace k3 := k3 h5
    simp (disch := omega) [sz_s, sz_0, gx_s, hx_r, hx_c, hx_b, hx_s, hx_i, hx_n, kx_s, kx_n, kx_i, cx_d, up_at, am_ctl, am_step, am_i1, am_i2, am_i2d, am_l1, am_l2, am_l2d, am_ldi, am_ldl, am_lda, am_sti, am_sta, am_stl, am_inc, am_i2l, am_l2i, am_lcmp, am_dup, am_dup2, am_pop1, am_fv, am_getf, am_putf, am_wr, am_ial, am_lal, am_bal, am_aal, am_ias, am_las, am_bas, am_alen, am_inst, am_cast, am_cpm, am_copy, am_tsw, am_pop, am_cat, am_cS, am_cI, am_cV, am_ri, am_rl, am_ra, am_rv, am_b1, am_b2, am_ent, am_en, am_isL, am_st1, am_st2, am_clr, am_cnd, cc_219, ac_219, nL_219, rb_219, np_160, ok_219_160, nL_160, vd_160_12, np_213, ok_219_213, nL_213, vd_213_12, np_214, ok_219_214, nL_214, vd_214_12, np_215, ok_219_215, nL_215, vd_215_12, tg_12_17, tg_12_18, tg_12_16, List.getElem?_cons_succ, List.getElem?_cons_zero, nz_of, nzl_of, Int.toNat_add, Int.toNat_mul, tn_l, lt_t, lt_f, le_t, le_f, eq_t, eq_f, ltn_t, ltn_f, len_t, len_f, eqn_t, eqn_f, up_ne, up_up, sh_101, i2]
    refine wm_fwa hW hg h5 _ (fun ρ r1 r2 => ?_)
    have v := (r2 n (by omega)).1
    have dy := dW_le (a := tt_) (c := gC (μ 102) p) h5 (n : Int)
    by_cases z : dW tt_ (gC (μ 102) p) (gS (μ 102) p) n = 0
    · replace k2 := k2 z ρ r1.1
      unfold mfind at k2
      rw [z] at v
      simp (disch := omega) [sz_s, sz_0, gx_s, hx_r, hx_c, hx_b, hx_s, hx_i, hx_n, kx_s, kx_n, kx_i, cx_d, up_at, am_ctl, am_step, am_i1, am_i2, am_i2d, am_l1, am_l2, am_l2d, am_ldi, am_ldl, am_lda, am_sti, am_sta, am_stl, am_inc, am_i2l, am_l2i, am_lcmp, am_dup, am_dup2, am_pop1, am_fv, am_getf, am_putf, am_wr, am_ial, am_lal, am_bal, am_aal, am_ias, am_las, am_bas, am_alen, am_inst, am_cast, am_cpm, am_copy, am_tsw, am_pop, am_cat, am_cS, am_cI, am_cV, am_ri, am_rl, am_ra, am_rv, am_b1, am_b2, am_ent, am_en, am_isL, am_st1, am_st2, am_clr, am_cnd, cc_219, ac_219, nL_219, rb_219, np_160, ok_219_160, nL_160, vd_160_12, np_213, ok_219_213, nL_213, vd_213_12, np_214, ok_219_214, nL_214, vd_214_12, np_215, ok_219_215, nL_215, vd_215_12, tg_12_17, tg_12_18, tg_12_16, List.getElem?_cons_succ, List.getElem?_cons_zero, nz_of, nzl_of, Int.toNat_add, Int.toNat_mul, tn_l, lt_t, lt_f, le_t, le_f, eq_t, eq_f, ltn_t, ltn_f, len_t, len_f, eqn_t, eqn_f, up_ne, up_up, sh_101, sh_113, rf_101_18, am_cmp, v, wm_met 4 (by decide)]
      simpa using k2
    · replace k3 := k3 z
      have dx := fun i m => dW_le (a := on_ i m) (c := gC (μ 102) p) h5 (n : Int)
      obtain ⟨Y, hY⟩ : ∃ Y : Nat, dW tt_ (gC (μ 102) p) (gS (μ 102) p) n = Y := ⟨(dW tt_ (gC (μ 102) p) (gS (μ 102) p) n).toNat, by omega⟩
      rw [hY] at v z k3
      have z2 : ¬ (Y : Int) = 0 := z
      have z3 : ¬ Y = 0 := by omega
      obtain ⟨q, hq⟩ : ∃ q : Nat → Nat → Bool, q = (fun i m => decide (dW (on_ i m) (gC (μ 102) p) (gS (μ 102) p) n = (Y : Int))) := ⟨_, rfl⟩
      rw [← hq] at k3
      have key := up_to (fun (i : Nat) (s : (Nat → Nat → Int) × Option AV) => wpS 219 58 [some (.inr (.inr (some 101))), some (.inl p), some (.inl n), some (.inr (.inl Y)), none, some (.inl (suZ q (gH (μ 102) p (nW (μ 102))) i : Nat)), some (.inl i), s.2] [] (S s.1) Φ) (fun i s => GF p μ s.1) (gS (μ 102) p) (fun i s hi hI hs' => by
        obtain ⟨τ, l⟩ := s
        try dsimp only at hI hs' ⊢
        obtain ⟨f1, f2, f3⟩ := gS_in hW hi
        have hl := suZ_lt (q := q) (hs := gH (μ 102) p (nW (μ 102))) i (fun j hj => (gS_in hW (by omega)).2.1)
        have inner := up_to (fun (m : Nat) (τ : Nat → Nat → Int) => wpS 219 70 [some (.inr (.inr (some 101))), some (.inl p), some (.inl n), some (.inr (.inl Y)), none, some (.inl (suM (q i) (gH (μ 102) p (nW (μ 102)) i) m (suZ q (gH (μ 102) p (nW (μ 102))) i) : Nat)), some (.inl i), some (.inl m)] [] (S τ) Φ) (fun m τ => GF p μ τ) 10 (fun m τ hm hI hs'' => by
          try dsimp only at hI hs'' ⊢
          have hm2 := suM_lt (q := q i) f2 m _ hl
          have v112 := hI.2.2 i hi
          have v17 := hI.2.1
          have dx := dx i m
          have qv : q i m = decide (dW (on_ i m) (gC (μ 102) p) (gS (μ 102) p) n = (Y : Int)) := by rw [hq]
          rw [suM] at hs''
          have bo := bit_o (suM (q i) (gH (μ 102) p (nW (μ 102)) i) m (suZ q (gH (μ 102) p (nW (μ 102))) i)) hm2 _ f2
          have b0 := bit_0 _ hm2
          have FO := fun Φ k => wm_fwo hW hI h5 i m hi Φ k
          generalize suM (q i) (gH (μ 102) p (nW (μ 102)) i) m (suZ q (gH (μ 102) p (nW (μ 102))) i) = T at *
          generalize hH : gH (μ 102) p (nW (μ 102)) i = H at *
          rw [s1_iff [58, 70] 200]
          simp (disch := omega) [sz_s, sz_0, gx_s, hx_r, hx_c, hx_b, hx_s, hx_i, hx_n, kx_s, kx_n, kx_i, cx_d, up_at, am_ctl, am_step, am_i1, am_i2, am_i2d, am_l1, am_l2, am_l2d, am_ldi, am_ldl, am_lda, am_sti, am_sta, am_stl, am_inc, am_i2l, am_l2i, am_lcmp, am_dup, am_dup2, am_pop1, am_fv, am_getf, am_putf, am_wr, am_ial, am_lal, am_bal, am_aal, am_ias, am_las, am_bas, am_alen, am_inst, am_cast, am_cpm, am_copy, am_tsw, am_pop, am_cat, am_cS, am_cI, am_cV, am_ri, am_rl, am_ra, am_rv, am_b1, am_b2, am_ent, am_en, am_isL, am_st1, am_st2, am_clr, am_cnd, cc_219, ac_219, nL_219, rb_219, np_160, ok_219_160, nL_160, vd_160_12, np_213, ok_219_213, nL_213, vd_213_12, np_214, ok_219_214, nL_214, vd_214_12, np_215, ok_219_215, nL_215, vd_215_12, tg_12_17, tg_12_18, tg_12_16, List.getElem?_cons_succ, List.getElem?_cons_zero, nz_of, nzl_of, Int.toNat_add, Int.toNat_mul, tn_l, lt_t, lt_f, le_t, le_f, eq_t, eq_f, ltn_t, ltn_f, len_t, len_f, eqn_t, eqn_f, up_ne, up_up, sh_101, sh_112, rf_101_16, v112]
          refine FO _ (fun υ t1 t2 => ?_)
          have q' := hs'' υ t1
          have v2 := (t2 n (by omega)).1
          have w112 := t1.2.2 i hi
          rw [hH] at w112
          generalize dW (on_ i m) (gC (μ 102) p) (gS (μ 102) p) n = X at *
          rcases Int.lt_trichotomy X Y with e | e | e
          · rw [qv, if_neg (by simp; omega)] at q'
            simp (disch := omega) [sz_s, sz_0, gx_s, hx_r, hx_c, hx_b, hx_s, hx_i, hx_n, kx_s, kx_n, kx_i, cx_d, up_at, am_ctl, am_step, am_i1, am_i2, am_i2d, am_l1, am_l2, am_l2d, am_ldi, am_ldl, am_lda, am_sti, am_sta, am_stl, am_inc, am_i2l, am_l2i, am_lcmp, am_dup, am_dup2, am_pop1, am_fv, am_getf, am_putf, am_wr, am_ial, am_lal, am_bal, am_aal, am_ias, am_las, am_bas, am_alen, am_inst, am_cast, am_cpm, am_copy, am_tsw, am_pop, am_cat, am_cS, am_cI, am_cV, am_ri, am_rl, am_ra, am_rv, am_b1, am_b2, am_ent, am_en, am_isL, am_st1, am_st2, am_clr, am_cnd, cc_219, ac_219, nL_219, rb_219, np_160, ok_219_160, nL_160, vd_160_12, np_213, ok_219_213, nL_213, vd_213_12, np_214, ok_219_214, nL_214, vd_214_12, np_215, ok_219_215, nL_215, vd_215_12, tg_12_17, tg_12_18, tg_12_16, List.getElem?_cons_succ, List.getElem?_cons_zero, nz_of, nzl_of, Int.toNat_add, Int.toNat_mul, tn_l, lt_t, lt_f, le_t, le_f, eq_t, eq_f, ltn_t, ltn_f, len_t, len_f, eqn_t, eqn_f, up_ne, up_up, sh_101, sh_112, sh_113, rf_101_16, rf_101_18, am_cmp, v2, w112, e, b0]
            simpa using q'
          · rw [qv, if_pos (by simp [e])] at q'
            rw [e] at v2
            simp (disch := omega) [sz_s, sz_0, gx_s, hx_r, hx_c, hx_b, hx_s, hx_i, hx_n, kx_s, kx_n, kx_i, cx_d, up_at, am_ctl, am_step, am_i1, am_i2, am_i2d, am_l1, am_l2, am_l2d, am_ldi, am_ldl, am_lda, am_sti, am_sta, am_stl, am_inc, am_i2l, am_l2i, am_lcmp, am_dup, am_dup2, am_pop1, am_fv, am_getf, am_putf, am_wr, am_ial, am_lal, am_bal, am_aal, am_ias, am_las, am_bas, am_alen, am_inst, am_cast, am_cpm, am_copy, am_tsw, am_pop, am_cat, am_cS, am_cI, am_cV, am_ri, am_rl, am_ra, am_rv, am_b1, am_b2, am_ent, am_en, am_isL, am_st1, am_st2, am_clr, am_cnd, cc_219, ac_219, nL_219, rb_219, np_160, ok_219_160, nL_160, vd_160_12, np_213, ok_219_213, nL_213, vd_213_12, np_214, ok_219_214, nL_214, vd_214_12, np_215, ok_219_215, nL_215, vd_215_12, tg_12_17, tg_12_18, tg_12_16, List.getElem?_cons_succ, List.getElem?_cons_zero, nz_of, nzl_of, Int.toNat_add, Int.toNat_mul, tn_l, lt_t, lt_f, le_t, le_f, eq_t, eq_f, ltn_t, ltn_f, len_t, len_f, eqn_t, eqn_f, up_ne, up_up, sh_101, sh_112, sh_113, rf_101_16, rf_101_18, am_cmp, v2, w112, bo]
            simpa using q'
          · rw [qv, if_neg (by simp; omega)] at q'
            simp (disch := omega) [sz_s, sz_0, gx_s, hx_r, hx_c, hx_b, hx_s, hx_i, hx_n, kx_s, kx_n, kx_i, cx_d, up_at, am_ctl, am_step, am_i1, am_i2, am_i2d, am_l1, am_l2, am_l2d, am_ldi, am_ldl, am_lda, am_sti, am_sta, am_stl, am_inc, am_i2l, am_l2i, am_lcmp, am_dup, am_dup2, am_pop1, am_fv, am_getf, am_putf, am_wr, am_ial, am_lal, am_bal, am_aal, am_ias, am_las, am_bas, am_alen, am_inst, am_cast, am_cpm, am_copy, am_tsw, am_pop, am_cat, am_cS, am_cI, am_cV, am_ri, am_rl, am_ra, am_rv, am_b1, am_b2, am_ent, am_en, am_isL, am_st1, am_st2, am_clr, am_cnd, cc_219, ac_219, nL_219, rb_219, np_160, ok_219_160, nL_160, vd_160_12, np_213, ok_219_213, nL_213, vd_213_12, np_214, ok_219_214, nL_214, vd_214_12, np_215, ok_219_215, nL_215, vd_215_12, tg_12_17, tg_12_18, tg_12_16, List.getElem?_cons_succ, List.getElem?_cons_zero, nz_of, nzl_of, Int.toNat_add, Int.toNat_mul, tn_l, lt_t, lt_f, le_t, le_f, eq_t, eq_f, ltn_t, ltn_f, len_t, len_f, eqn_t, eqn_f, up_ne, up_up, sh_101, sh_112, sh_113, rf_101_16, rf_101_18, am_cmp, v2, w112, e, show ¬ X = Y by omega, b0]
            simpa using q') (fun τ hI => by
          try dsimp only at hI ⊢
          have q' := hs' (τ, some (.inl 10)) hI
          rw [suZ] at q'
          rw [s1_iff [58, 70] 200]
          simp (disch := omega) [sz_s, sz_0, gx_s, hx_r, hx_c, hx_b, hx_s, hx_i, hx_n, kx_s, kx_n, kx_i, cx_d, up_at, am_ctl, am_step, am_i1, am_i2, am_i2d, am_l1, am_l2, am_l2d, am_ldi, am_ldl, am_lda, am_sti, am_sta, am_stl, am_inc, am_i2l, am_l2i, am_lcmp, am_dup, am_dup2, am_pop1, am_fv, am_getf, am_putf, am_wr, am_ial, am_lal, am_bal, am_aal, am_ias, am_las, am_bas, am_alen, am_inst, am_cast, am_cpm, am_copy, am_tsw, am_pop, am_cat, am_cS, am_cI, am_cV, am_ri, am_rl, am_ra, am_rv, am_b1, am_b2, am_ent, am_en, am_isL, am_st1, am_st2, am_clr, am_cnd, cc_219, ac_219, nL_219, rb_219, np_160, ok_219_160, nL_160, vd_160_12, np_213, ok_219_213, nL_213, vd_213_12, np_214, ok_219_214, nL_214, vd_214_12, np_215, ok_219_215, nL_215, vd_215_12, tg_12_17, tg_12_18, tg_12_16, List.getElem?_cons_succ, List.getElem?_cons_zero, nz_of, nzl_of, Int.toNat_add, Int.toNat_mul, tn_l, lt_t, lt_f, le_t, le_f, eq_t, eq_f, ltn_t, ltn_f, len_t, len_f, eqn_t, eqn_f, up_ne, up_up, sh_101]
          simpa using q') τ hI
        have v17 := hI.2.1
        try dsimp only at inner
        rw [s1_iff [58, 70] 200]
        simp (disch := omega) [sz_s, sz_0, gx_s, hx_r, hx_c, hx_b, hx_s, hx_i, hx_n, kx_s, kx_n, kx_i, cx_d, up_at, am_ctl, am_step, am_i1, am_i2, am_i2d, am_l1, am_l2, am_l2d, am_ldi, am_ldl, am_lda, am_sti, am_sta, am_stl, am_inc, am_i2l, am_l2i, am_lcmp, am_dup, am_dup2, am_pop1, am_fv, am_getf, am_putf, am_wr, am_ial, am_lal, am_bal, am_aal, am_ias, am_las, am_bas, am_alen, am_inst, am_cast, am_cpm, am_copy, am_tsw, am_pop, am_cat, am_cS, am_cI, am_cV, am_ri, am_rl, am_ra, am_rv, am_b1, am_b2, am_ent, am_en, am_isL, am_st1, am_st2, am_clr, am_cnd, cc_219, ac_219, nL_219, rb_219, np_160, ok_219_160, nL_160, vd_160_12, np_213, ok_219_213, nL_213, vd_213_12, np_214, ok_219_214, nL_214, vd_214_12, np_215, ok_219_215, nL_215, vd_215_12, tg_12_17, tg_12_18, tg_12_16, List.getElem?_cons_succ, List.getElem?_cons_zero, nz_of, nzl_of, Int.toNat_add, Int.toNat_mul, tn_l, lt_t, lt_f, le_t, le_f, eq_t, eq_f, ltn_t, ltn_f, len_t, len_f, eqn_t, eqn_f, up_ne, up_up, sh_101, v17, hi]
        simpa [suM] using inner) (fun s hI => by
        obtain ⟨τ, l⟩ := s
        try dsimp only at hI ⊢
        have v17 := hI.2.1
        replace k3 := k3 τ hI.1
        rw [s1_iff [58, 70] 200]
        simp (disch := omega) [sz_s, sz_0, gx_s, hx_r, hx_c, hx_b, hx_s, hx_i, hx_n, kx_s, kx_n, kx_i, cx_d, up_at, am_ctl, am_step, am_i1, am_i2, am_i2d, am_l1, am_l2, am_l2d, am_ldi, am_ldl, am_lda, am_sti, am_sta, am_stl, am_inc, am_i2l, am_l2i, am_lcmp, am_dup, am_dup2, am_pop1, am_fv, am_getf, am_putf, am_wr, am_ial, am_lal, am_bal, am_aal, am_ias, am_las, am_bas, am_alen, am_inst, am_cast, am_cpm, am_copy, am_tsw, am_pop, am_cat, am_cS, am_cI, am_cV, am_ri, am_rl, am_ra, am_rv, am_b1, am_b2, am_ent, am_en, am_isL, am_st1, am_st2, am_clr, am_cnd, cc_219, ac_219, nL_219, rb_219, np_160, ok_219_160, nL_160, vd_160_12, np_213, ok_219_213, nL_213, vd_213_12, np_214, ok_219_214, nL_214, vd_214_12, np_215, ok_219_215, nL_215, vd_215_12, tg_12_17, tg_12_18, tg_12_16, List.getElem?_cons_succ, List.getElem?_cons_zero, nz_of, nzl_of, Int.toNat_add, Int.toNat_mul, tn_l, lt_t, lt_f, le_t, le_f, eq_t, eq_f, ltn_t, ltn_f, len_t, len_f, eqn_t, eqn_f, up_ne, up_up, sh_101, v17]
        simpa using k3) (ρ, none) r1
      simp (disch := omega) [sz_s, sz_0, gx_s, hx_r, hx_c, hx_b, hx_s, hx_i, hx_n, kx_s, kx_n, kx_i, cx_d, up_at, am_ctl, am_step, am_i1, am_i2, am_i2d, am_l1, am_l2, am_l2d, am_ldi, am_ldl, am_lda, am_sti, am_sta, am_stl, am_inc, am_i2l, am_l2i, am_lcmp, am_dup, am_dup2, am_pop1, am_fv, am_getf, am_putf, am_wr, am_ial, am_lal, am_bal, am_aal, am_ias, am_las, am_bas, am_alen, am_inst, am_cast, am_cpm, am_copy, am_tsw, am_pop, am_cat, am_cS, am_cI, am_cV, am_ri, am_rl, am_ra, am_rv, am_b1, am_b2, am_ent, am_en, am_isL, am_st1, am_st2, am_clr, am_cnd, cc_219, ac_219, nL_219, rb_219, np_160, ok_219_160, nL_160, vd_160_12, np_213, ok_219_213, nL_213, vd_213_12, np_214, ok_219_214, nL_214, vd_214_12, np_215, ok_219_215, nL_215, vd_215_12, tg_12_17, tg_12_18, tg_12_16, List.getElem?_cons_succ, List.getElem?_cons_zero, nz_of, nzl_of, Int.toNat_add, Int.toNat_mul, tn_l, lt_t, lt_f, le_t, le_f, eq_t, eq_f, ltn_t, ltn_f, len_t, len_f, eqn_t, eqn_f, up_ne, up_up, sh_101, sh_113, rf_101_18, am_cmp, v, z2, z3]
      simpa [suZ] using key
  · replace k1 := k1 (by omega) ν hg.1
    simp (disch := omega) [sz_s, sz_0, gx_s, hx_r, hx_c, hx_b, hx_s, hx_i, hx_n, kx_s, kx_n, kx_i, cx_d, up_at, am_ctl, am_step, am_i1, am_i2, am_i2d, am_l1, am_l2, am_l2d, am_ldi, am_ldl, am_lda, am_sti, am_sta, am_stl, am_inc, am_i2l, am_l2i, am_lcmp, am_dup, am_dup2, am_pop1, am_fv, am_getf, am_putf, am_wr, am_ial, am_lal, am_bal, am_aal, am_ias, am_las, am_bas, am_alen, am_inst, am_cast, am_cpm, am_copy, am_tsw, am_pop, am_cat, am_cS, am_cI, am_cV, am_ri, am_rl, am_ra, am_rv, am_b1, am_b2, am_ent, am_en, am_isL, am_st1, am_st2, am_clr, am_cnd, cc_219, ac_219, nL_219, rb_219, np_160, ok_219_160, nL_160, vd_160_12, np_213, ok_219_213, nL_213, vd_213_12, np_214, ok_219_214, nL_214, vd_214_12, np_215, ok_219_215, nL_215, vd_215_12, tg_12_17, tg_12_18, tg_12_16, List.getElem?_cons_succ, List.getElem?_cons_zero, nz_of, nzl_of, Int.toNat_add, Int.toNat_mul, tn_l, lt_t, lt_f, le_t, le_f, eq_t, eq_f, ltn_t, ltn_f, len_t, len_f, eqn_t, eqn_f, up_ne, up_up, sh_101, i2]
    exact k1
