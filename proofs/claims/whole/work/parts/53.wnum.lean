/-! ways of the class: numbers -/
/-- the class's ways stand written down -/
def WN (ν : Nat → Nat → Int) (s : Nat) (c : Nat → Nat → Int) : Prop := WC ν s c ∧ (∀ i, i ≤ s → ∀ z : Nat, z ≤ 50 → ν (18 + i) z = dW tt_ c i z) ∧ (∀ i, i ≤ s → ∀ z : Nat, z ≤ 50 → ν (25 + i) z = dW tt_ (rv c s) (s - i) z)
set_option maxRecDepth 100000 in
theorem wp_number {ν : Nat → Nat → Int} {s : Nat} {c : Nat → Nat → Int} (h : WN ν s c) (n : Nat) (Φ : Option AV → ST → Prop) : wpM 71 [.inr (.inr (some 9)), .inl n] (S ν) Φ ↔ Φ (some (.inl (dW tt_ c s n))) (S ν) := by
  obtain ⟨⟨w1, w2, w3⟩, h2, h3⟩ := h
  obtain ⟨⟨a1, a2⟩, -, -⟩ := g_way6 s (by omega)
  unfold wpM
  by_cases q : n ≤ 50
  · have v := h2 s (Nat.le_refl _) n q
    rw [s1_iff [] 200]
    simp (disch := omega) [sz_s, sz_0, gx_s, hx_r, hx_c, hx_b, hx_s, hx_i, hx_n, kx_s, kx_n, kx_i, cx_d, up_at, am_ctl, am_step, am_i1, am_i2, am_i2d, am_l1, am_l2, am_l2d, am_ldi, am_ldl, am_lda, am_sti, am_sta, am_stl, am_inc, am_i2l, am_l2i, am_lcmp, am_dup, am_dup2, am_pop1, am_fv, am_getf, am_putf, am_wr, am_ial, am_lal, am_bal, am_aal, am_ias, am_las, am_bas, am_alen, am_inst, am_cast, am_cpm, am_copy, am_tsw, am_pop, am_cat, am_cS, am_cI, am_cV, am_ri, am_rl, am_ra, am_rv, am_b1, am_b2, am_ent, am_en, am_isL, am_st1, am_st2, am_clr, am_cnd, cc_71, ac_71, nL_71, rb_71, tg_10_2, tg_10_5, List.getElem?_cons_succ, List.getElem?_cons_zero, nz_of, nzl_of, Int.toNat_add, Int.toNat_mul, tn_l, lt_t, lt_f, le_t, le_f, eq_t, eq_f, ltn_t, ltn_f, len_t, len_f, eqn_t, eqn_f, up_ne, up_up, sh_9, rf_9_2, sh_17, w1, a1, a2, v]
  · rw [dW_big (WC_CB ⟨w1, w2, w3⟩) s n (Nat.le_refl _) (by omega)]
    rw [s1_iff [] 200]
    simp (disch := omega) [sz_s, sz_0, gx_s, hx_r, hx_c, hx_b, hx_s, hx_i, hx_n, kx_s, kx_n, kx_i, cx_d, up_at, am_ctl, am_step, am_i1, am_i2, am_i2d, am_l1, am_l2, am_l2d, am_ldi, am_ldl, am_lda, am_sti, am_sta, am_stl, am_inc, am_i2l, am_l2i, am_lcmp, am_dup, am_dup2, am_pop1, am_fv, am_getf, am_putf, am_wr, am_ial, am_lal, am_bal, am_aal, am_ias, am_las, am_bas, am_alen, am_inst, am_cast, am_cpm, am_copy, am_tsw, am_pop, am_cat, am_cS, am_cI, am_cV, am_ri, am_rl, am_ra, am_rv, am_b1, am_b2, am_ent, am_en, am_isL, am_st1, am_st2, am_clr, am_cnd, cc_71, ac_71, nL_71, rb_71, tg_10_2, tg_10_5, List.getElem?_cons_succ, List.getElem?_cons_zero, nz_of, nzl_of, Int.toNat_add, Int.toNat_mul, tn_l, lt_t, lt_f, le_t, le_f, eq_t, eq_f, ltn_t, ltn_f, len_t, len_f, eqn_t, eqn_f, up_ne, up_up, sh_9]
theorem prod_le {ok : Nat → Nat → Int} {s i : Nat} (x y : Int) (hi : i + 1 ≤ s) (hs : s ≤ 5) {X Y : Int} (hX : 0 ≤ X ∧ X ≤ 10 ^ i) (hY : 0 ≤ Y ∧ Y ≤ 10 ^ (s - (i + 1))) : 0 ≤ X * Y ∧ X * Y ≤ 10000 := by
  refine ⟨Int.mul_nonneg hX.1 hY.1, ?_⟩
  have h1 : X * Y ≤ 10 ^ i * 10 ^ (s - (i + 1)) := Int.mul_le_mul hX.2 hY.2 hY.1 (by have := hX.1; have := hX.2; omega)
  rw [← Int.pow_add] at h1
  have h2 : (10 : Int) ^ (i + (s - (i + 1))) ≤ 10000 := by
    have : i + (s - (i + 1)) = 0 ∨ i + (s - (i + 1)) = 1 ∨ i + (s - (i + 1)) = 2 ∨ i + (s - (i + 1)) = 3 ∨ i + (s - (i + 1)) = 4 := by omega
    rcases this with q | q | q | q | q <;> rw [q] <;> decide
  omega
set_option maxHeartbeats 4000000 in
set_option maxRecDepth 100000 in
theorem wp_numberWith {ν : Nat → Nat → Int} {s : Nat} {c : Nat → Nat → Int} (h : WN ν s c) (i m n : Nat) (hi : i < s) (hm : m < 10) (hn : n ≤ 99) (Φ : Option AV → ST → Prop) : wpM 72 [.inr (.inr (some 9)), .inl i, .inl m, .inl n] (S ν) Φ ↔ Φ (some (.inl (dW (on_ i m) c s n))) (S ν) := by
  obtain ⟨⟨w1, w2, w3⟩, h2, h3⟩ := h
  have hCB := WC_CB ⟨w1, w2, w3⟩
  obtain ⟨g1, g2⟩ := g_way i (by omega)
  obtain ⟨⟨a1, a2⟩, -, -⟩ := g_way6 i (by omega)
  obtain ⟨-, ⟨b1, b2⟩, -⟩ := g_way6 (i + 1) (by omega)
  obtain ⟨v, c0, c1⟩ := w3 i hi m hm
  by_cases far : (n : Int) - c i m > 50
  · rw [dW_big hCB s n (Nat.le_refl _) (by omega)]
    unfold wpM
    rw [s1_iff [] 200]
    simp (disch := omega) [sz_s, sz_0, gx_s, hx_r, hx_c, hx_b, hx_s, hx_i, hx_n, kx_s, kx_n, kx_i, cx_d, up_at, am_ctl, am_step, am_i1, am_i2, am_i2d, am_l1, am_l2, am_l2d, am_ldi, am_ldl, am_lda, am_sti, am_sta, am_stl, am_inc, am_i2l, am_l2i, am_lcmp, am_dup, am_dup2, am_pop1, am_fv, am_getf, am_putf, am_wr, am_ial, am_lal, am_bal, am_aal, am_ias, am_las, am_bas, am_alen, am_inst, am_cast, am_cpm, am_copy, am_tsw, am_pop, am_cat, am_cS, am_cI, am_cV, am_ri, am_rl, am_ra, am_rv, am_b1, am_b2, am_ent, am_en, am_isL, am_st1, am_st2, am_clr, am_cnd, cc_72, ac_72, nL_72, rb_72, tg_10_1, tg_10_2, tg_10_3, List.getElem?_cons_succ, List.getElem?_cons_zero, nz_of, nzl_of, Int.toNat_add, Int.toNat_mul, tn_l, lt_t, lt_f, le_t, le_f, eq_t, eq_f, ltn_t, ltn_f, len_t, len_f, eqn_t, eqn_f, up_ne, up_up, sh_9, rf_9_1, sh_11, g1, g2, v]
  · rw [dW_on' hCB i m hi hm n]
    by_cases neg : (n : Int) - c i m < 0
    · rw [show ((n : Int) - c i m + 1).toNat = 0 by omega, sumZ_0]
      unfold wpM
      rw [s1_iff [] 200]
      simp (disch := omega) [sz_s, sz_0, gx_s, hx_r, hx_c, hx_b, hx_s, hx_i, hx_n, kx_s, kx_n, kx_i, cx_d, up_at, am_ctl, am_step, am_i1, am_i2, am_i2d, am_l1, am_l2, am_l2d, am_ldi, am_ldl, am_lda, am_sti, am_sta, am_stl, am_inc, am_i2l, am_l2i, am_lcmp, am_dup, am_dup2, am_pop1, am_fv, am_getf, am_putf, am_wr, am_ial, am_lal, am_bal, am_aal, am_ias, am_las, am_bas, am_alen, am_inst, am_cast, am_cpm, am_copy, am_tsw, am_pop, am_cat, am_cS, am_cI, am_cV, am_ri, am_rl, am_ra, am_rv, am_b1, am_b2, am_ent, am_en, am_isL, am_st1, am_st2, am_clr, am_cnd, cc_72, ac_72, nL_72, rb_72, tg_10_1, tg_10_2, tg_10_3, List.getElem?_cons_succ, List.getElem?_cons_zero, nz_of, nzl_of, Int.toNat_add, Int.toNat_mul, tn_l, lt_t, lt_f, le_t, le_f, eq_t, eq_f, ltn_t, ltn_f, len_t, len_f, eqn_t, eqn_f, up_ne, up_up, sh_9, rf_9_1, sh_11, g1, g2, v]
    · obtain ⟨r, hr⟩ : ∃ r : Nat, (n : Int) - c i m = r := ⟨((n : Int) - c i m).toNat, by omega⟩
      rw [hr, show ((r : Int) + 1).toNat = r + 1 by omega]
      have pr : ∀ b : Nat, 0 ≤ dW tt_ c i (b : Int) * dW tt_ (rv c s) (s - (i + 1)) ((r : Int) - b) ∧ dW tt_ c i (b : Int) * dW tt_ (rv c s) (s - (i + 1)) ((r : Int) - b) ≤ 10000 := fun b => prod_le (ok := c) 0 0 hi w2 (dW_rng _ _ _ _) (dW_rng _ _ _ _)
      have step : ∀ b, b < r + 1 → ((fun b : Nat => wpS 72 27 [some (.inr (.inr (some 9))), some (.inl i), some (.inl m), some (.inl n), some (.inl r), some (.inl (sumZ (fun b => dW tt_ c i (b : Int) * dW tt_ (rv c s) (s - (i + 1)) ((r : Int) - b)) b)), some (.inl b)] [] (S ν) Φ) b ↔ (fun b : Nat => wpS 72 27 [some (.inr (.inr (some 9))), some (.inl i), some (.inl m), some (.inl n), some (.inl r), some (.inl (sumZ (fun b => dW tt_ c i (b : Int) * dW tt_ (rv c s) (s - (i + 1)) ((r : Int) - b)) b)), some (.inl b)] [] (S ν) Φ) (b + 1)) := by
        intro b hb
        obtain ⟨d, hd⟩ : ∃ d : Nat, (r : Int) - b = d := ⟨r - b, by omega⟩
        have x1 := h2 i (by omega) b (by omega)
        have x2 := h3 (i + 1) (by omega) d (by omega)
        have p1 := pr b
        have r1 := sumZ_rng (n := b) (fun b _ => pr b)
        dsimp only
        rw [sumZ_s]
        rw [hd] at p1 ⊢
        generalize sumZ (fun b => dW tt_ c i (b : Int) * dW tt_ (rv c s) (s - (i + 1)) ((r : Int) - b)) b = z at *
        generalize hm : dW tt_ c i (b : Int) * dW tt_ (rv c s) (s - (i + 1)) (d : Int) = q at *
        rw [s1_iff [27] 200]
        simp (disch := omega) [sz_s, sz_0, gx_s, hx_r, hx_c, hx_b, hx_s, hx_i, hx_n, kx_s, kx_n, kx_i, cx_d, up_at, am_ctl, am_step, am_i1, am_i2, am_i2d, am_l1, am_l2, am_l2d, am_ldi, am_ldl, am_lda, am_sti, am_sta, am_stl, am_inc, am_i2l, am_l2i, am_lcmp, am_dup, am_dup2, am_pop1, am_fv, am_getf, am_putf, am_wr, am_ial, am_lal, am_bal, am_aal, am_ias, am_las, am_bas, am_alen, am_inst, am_cast, am_cpm, am_copy, am_tsw, am_pop, am_cat, am_cS, am_cI, am_cV, am_ri, am_rl, am_ra, am_rv, am_b1, am_b2, am_ent, am_en, am_isL, am_st1, am_st2, am_clr, am_cnd, cc_72, ac_72, nL_72, rb_72, tg_10_1, tg_10_2, tg_10_3, List.getElem?_cons_succ, List.getElem?_cons_zero, nz_of, nzl_of, Int.toNat_add, Int.toNat_mul, tn_l, lt_t, lt_f, le_t, le_f, eq_t, eq_f, ltn_t, ltn_f, len_t, len_f, eqn_t, eqn_f, up_ne, up_up, sh_9, rf_9_2, rf_9_3, sh_17, sh_24, a1, a2, b1, b2, x1, x2, hd, hm]
      have s0 := up_iff _ (r + 1) step
      rw [sumZ_0] at s0
      unfold wpM
      rw [s1_iff [27] 200]
      simp (disch := omega) [sz_s, sz_0, gx_s, hx_r, hx_c, hx_b, hx_s, hx_i, hx_n, kx_s, kx_n, kx_i, cx_d, up_at, am_ctl, am_step, am_i1, am_i2, am_i2d, am_l1, am_l2, am_l2d, am_ldi, am_ldl, am_lda, am_sti, am_sta, am_stl, am_inc, am_i2l, am_l2i, am_lcmp, am_dup, am_dup2, am_pop1, am_fv, am_getf, am_putf, am_wr, am_ial, am_lal, am_bal, am_aal, am_ias, am_las, am_bas, am_alen, am_inst, am_cast, am_cpm, am_copy, am_tsw, am_pop, am_cat, am_cS, am_cI, am_cV, am_ri, am_rl, am_ra, am_rv, am_b1, am_b2, am_ent, am_en, am_isL, am_st1, am_st2, am_clr, am_cnd, cc_72, ac_72, nL_72, rb_72, tg_10_1, tg_10_2, tg_10_3, List.getElem?_cons_succ, List.getElem?_cons_zero, nz_of, nzl_of, Int.toNat_add, Int.toNat_mul, tn_l, lt_t, lt_f, le_t, le_f, eq_t, eq_f, ltn_t, ltn_f, len_t, len_f, eqn_t, eqn_f, up_ne, up_up, sh_9, rf_9_1, sh_11, g1, g2, v, hr]
      refine s0.trans ?_
      rw [s1_iff [27] 200]
      simp (disch := omega) [sz_s, sz_0, gx_s, hx_r, hx_c, hx_b, hx_s, hx_i, hx_n, kx_s, kx_n, kx_i, cx_d, up_at, am_ctl, am_step, am_i1, am_i2, am_i2d, am_l1, am_l2, am_l2d, am_ldi, am_ldl, am_lda, am_sti, am_sta, am_stl, am_inc, am_i2l, am_l2i, am_lcmp, am_dup, am_dup2, am_pop1, am_fv, am_getf, am_putf, am_wr, am_ial, am_lal, am_bal, am_aal, am_ias, am_las, am_bas, am_alen, am_inst, am_cast, am_cpm, am_copy, am_tsw, am_pop, am_cat, am_cS, am_cI, am_cV, am_ri, am_rl, am_ra, am_rv, am_b1, am_b2, am_ent, am_en, am_isL, am_st1, am_st2, am_clr, am_cnd, cc_72, ac_72, nL_72, rb_72, tg_10_1, tg_10_2, tg_10_3, List.getElem?_cons_succ, List.getElem?_cons_zero, nz_of, nzl_of, Int.toNat_add, Int.toNat_mul, tn_l, lt_t, lt_f, le_t, le_f, eq_t, eq_f, ltn_t, ltn_f, len_t, len_f, eqn_t, eqn_f, up_ne, up_up, sh_9]
