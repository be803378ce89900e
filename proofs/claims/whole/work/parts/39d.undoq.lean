/-! undo: equal on both sides, the end -/
set_option maxRecDepth 100000 in
theorem wp_undo_no {μ : Nat → Nat → Int} (h : μ 4 5 = 0) (Φ : Option AV → ST → Prop) : wpM 98 [.inr (.inr (some 0))] (S μ) Φ ↔ Φ (some (.inl (-4))) (S μ) := by
  have T : ∀ Ψ : Option AV → ST → Prop, wpM 5 [.inr (.inr (some 4))] (S μ) Ψ ↔ Ψ (some (.inl (-1))) (S μ) := fun Ψ => by
    unfold wpM
    rw [s1_iff [] 200]
    simp (disch := omega) [sz_s, sz_0, gx_s, hx_r, hx_c, hx_b, hx_s, hx_i, hx_n, kx_s, kx_n, kx_i, cx_d, up_at, am_ctl, am_step, am_i1, am_i2, am_i2d, am_l1, am_l2, am_l2d, am_ldi, am_ldl, am_lda, am_sti, am_sta, am_stl, am_inc, am_i2l, am_l2i, am_lcmp, am_dup, am_dup2, am_pop1, am_fv, am_getf, am_putf, am_wr, am_ial, am_lal, am_bal, am_aal, am_ias, am_las, am_bas, am_alen, am_inst, am_cast, am_cpm, am_copy, am_tsw, am_pop, am_cat, am_cS, am_cI, am_cV, am_ri, am_rl, am_ra, am_rv, am_b1, am_b2, am_ent, am_en, am_isL, am_st1, am_st2, am_clr, am_cnd, cc_5, ac_5, nL_5, rb_5, tg_1_5, tg_1_4, List.getElem?_cons_succ, List.getElem?_cons_zero, nz_of, nzl_of, Int.toNat_add, Int.toNat_mul, tn_l, lt_t, lt_f, le_t, le_f, eq_t, eq_f, ltn_t, ltn_f, len_t, len_f, eqn_t, eqn_f, up_ne, up_up, sh_4, h]
  unfold wpM
  rw [s1_iff [] 200]
  simp (disch := omega) [sz_s, sz_0, gx_s, hx_r, hx_c, hx_b, hx_s, hx_i, hx_n, kx_s, kx_n, kx_i, cx_d, up_at, am_ctl, am_step, am_i1, am_i2, am_i2d, am_l1, am_l2, am_l2d, am_ldi, am_ldl, am_lda, am_sti, am_sta, am_stl, am_inc, am_i2l, am_l2i, am_lcmp, am_dup, am_dup2, am_pop1, am_fv, am_getf, am_putf, am_wr, am_ial, am_lal, am_bal, am_aal, am_ias, am_las, am_bas, am_alen, am_inst, am_cast, am_cpm, am_copy, am_tsw, am_pop, am_cat, am_cS, am_cI, am_cV, am_ri, am_rl, am_ra, am_rv, am_b1, am_b2, am_ent, am_en, am_isL, am_st1, am_st2, am_clr, am_cnd, cc_98, ac_98, nL_98, rb_98, np_5, ok_98_5, nL_5, vd_5_1, np_19, ok_98_19, nL_19, vd_19_4, np_23, ok_98_23, nL_23, vd_23_4, tg_11_4, tg_1_1, tg_1_2, tg_1_3, tg_1_0, tg_11_2, tg_4_4, tg_4_3, tg_4_9, List.getElem?_cons_succ, List.getElem?_cons_zero, nz_of, nzl_of, Int.toNat_add, Int.toNat_mul, tn_l, lt_t, lt_f, le_t, le_f, eq_t, eq_f, ltn_t, ltn_f, len_t, len_f, eqn_t, eqn_f, up_ne, up_up, sh_0, rf_0_4, sh_4, T]
set_option maxRecDepth 100000 in
theorem wm_undo_no {μ : Nat → Nat → Int} (h : μ 101 12 = 0) (Φ : Option AV → ST → Prop) : wpM 203 [.inr (.inr (some 101))] (S μ) Φ ↔ Φ (some (.inl (-4))) (S μ) := by
  unfold wpM
  rw [s1_iff [] 200]
  simp (disch := omega) [sz_s, sz_0, gx_s, hx_r, hx_c, hx_b, hx_s, hx_i, hx_n, kx_s, kx_n, kx_i, cx_d, up_at, am_ctl, am_step, am_i1, am_i2, am_i2d, am_l1, am_l2, am_l2d, am_ldi, am_ldl, am_lda, am_sti, am_sta, am_stl, am_inc, am_i2l, am_l2i, am_lcmp, am_dup, am_dup2, am_pop1, am_fv, am_getf, am_putf, am_wr, am_ial, am_lal, am_bal, am_aal, am_ias, am_las, am_bas, am_alen, am_inst, am_cast, am_cpm, am_copy, am_tsw, am_pop, am_cat, am_cS, am_cI, am_cV, am_ri, am_rl, am_ra, am_rv, am_b1, am_b2, am_ent, am_en, am_isL, am_st1, am_st2, am_clr, am_cnd, cc_203, ac_203, nL_203, rb_203, np_193, ok_203_193, nL_193, vd_193_12, tg_12_12, tg_12_11, tg_12_0, List.getElem?_cons_succ, List.getElem?_cons_zero, nz_of, nzl_of, Int.toNat_add, Int.toNat_mul, tn_l, lt_t, lt_f, le_t, le_f, eq_t, eq_f, ltn_t, ltn_f, len_t, len_f, eqn_t, eqn_f, up_ne, up_up, sh_101, h]
theorem eq_undo0 {B : Int} {μ : Nat → Nat → Int} (h : INV B μ) (hB : B ≤ 1000000) {M E : Nat} (hM : μ 101 12 = (M : Int) + 1) (hE : μ 4 4 = E) (a b : Nat) (n : Int) (hs : μ 109 (4 * M) = 0) (h1 : μ 109 (4 * M + 1) = a) (ha : (a : Int) < μ 102 0) (h2 : μ 109 (4 * M + 2) = b) (hb : (b : Int) < μ 102 0) (hab : ¬ a = b) (h3 : μ 109 (4 * M + 3) = n) (hn : 1 ≤ n ∧ n ≤ 9) : EQV B μ 98 203 [] := by
  have hL : LD B μ 73 0 := h.2.2.2.1
  have n8 := ld_0 hL
  obtain ⟨M60, E60, d45, d5, d6, d7, d8, -, hc⟩ := last_deed h hM hE
  have rg := CH_rg hc
  rw [hs] at d5 d8
  rw [h1] at d6
  have la := ld_h hL (h := a) (by unfold nW; omega)
  have a1 := la.1.2.2.1
  have a2 := la.1.2.2.2
  have ra := rg.2.2.1 a
  rw [h2] at d7
  have lb := ld_h hL (h := b) (by unfold nW; omega)
  have b1 := lb.1.2.2.1
  have b2 := lb.1.2.2.2
  have rb := rg.2.2.1 b
  have dd := ld_d hL (j := 8 * a + b) (by omega)
  have d1 := dd.1
  have rd := rg.2.2.2 (8 * a + b) (by omega)
  rw [h3] at d8
  have d8 := d8 (by decide)
  simp (disch := omega) only [hs, h1, h2, h3, UD, eq_t, eq_f, if_true, if_false, Int.toNat_natCast] at ra rb rd
  simp (disch := omega) only [ad, eqn_t, eqn_f, if_true, if_false] at ra rb rd
  have ra := ra ha
  have rb := rb hb
  have L1 := LD_sp hL b (μ 77 b - n) hb (by omega)
  have L2 := LD_sp L1 a (μ 77 a + n) (by simp (disch := omega) only [up_at, eqn_f, and_false, false_and, if_false]; exact ha) (by omega)
  have L9 := LD_de L2 (8 * a + b) (μ 78 (8 * a + b) + -n) (by omega) (by omega)
  unfold EQV
  rw [wp_undo0 d45 hE M60 E60 d5 a b n d6 (by omega) (by omega) d7 (by omega) (by omega) hab (by omega) d8 hn]
  refine ⟨_, _, rfl, rfl, ?_⟩
  rw [wm_undo0 (by simp (disch := omega) only [up_ne]; exact hM) M60 (by simp (disch := omega) only [up_ne]; exact hs) a b n (by simp (disch := omega) only [up_ne]; exact h1) (by omega) (by simp (disch := omega) only [up_ne]; omega) (by simp (disch := omega) only [up_ne]; exact h2) (by omega) (by simp (disch := omega) only [up_ne]; omega) hab (by simp (disch := omega) only [up_ne]; omega) (by simp (disch := omega) only [up_ne]; exact h3) hn]
  refine ⟨rfl, _, rfl, INV_undo h hM hE (LD_of L9 (fun i => ?_) (fun k i hk => ?_)) (fun j => ?_) ?_ ?_ ?_ (fun k i hk => ?_) (fun k i k1 k2 k3 k4 k5 => ?_)⟩
  · simp only [up_at, true_and, show ¬ (102 : Nat) = 4 by decide, show ¬ (102 : Nat) = 73 by decide, show ¬ (102 : Nat) = 76 by decide, show ¬ (102 : Nat) = 77 by decide, show ¬ (102 : Nat) = 78 by decide, show ¬ (102 : Nat) = 101 by decide, false_and, if_false, a2, b2, d1]
  · clear hc rg
    have k4 : ¬ k = 4 := by omega
    have k101 : ¬ k = 101 := by omega
    have k102 : ¬ k = 102 := by omega
    simp only [up_at, k4, k101, k102, false_and, if_false]
  · simp (disch := omega) only [hs, h1, h2, h3, UD, eq_t, eq_f, if_true, if_false, Int.toNat_natCast]
    simp (disch := omega) only [ad, up_at, true_and, eqn_f, false_and, if_false]
    all_goals (repeat' split) <;> first | omega | (subst_vars; omega) | (simp_all; try omega)
  · simp (disch := omega) only [up_ne]
    simp (disch := omega) only [up_at, eqn_f, eqn_t, and_false, and_true, true_and, and_self, if_true, if_false]
  · simp (disch := omega) only [up_ne]
    simp (disch := omega) only [up_at, eqn_f, eqn_t, and_false, and_true, true_and, and_self, if_true, if_false]
  · simp (disch := omega) only [up_ne]
    simp (disch := omega) only [up_at, eqn_f, eqn_t, and_false, and_true, true_and, and_self, if_true, if_false]
  · simp only [up_at]
    repeat rw [if_neg (by omega)]
  · simp only [up_at]
    repeat rw [if_neg (by omega)]
theorem eq_undo1 {B : Int} {μ : Nat → Nat → Int} (h : INV B μ) (hB : B ≤ 1000000) {M E : Nat} (hM : μ 101 12 = (M : Int) + 1) (hE : μ 4 4 = E) (a b : Nat) (n : Int) (hs : μ 109 (4 * M) = 1) (h1 : μ 109 (4 * M + 1) = a) (ha : (a : Int) < μ 102 0) (h2 : μ 109 (4 * M + 2) = b) (hb : (b : Int) < μ 102 0) (hab : ¬ a = b) (h3 : μ 109 (4 * M + 3) = n) (hn : 1 ≤ n ∧ n ≤ 9) : EQV B μ 98 203 [] := by
  have hL : LD B μ 73 0 := h.2.2.2.1
  have n8 := ld_0 hL
  obtain ⟨M60, E60, d45, d5, d6, d7, d8, -, hc⟩ := last_deed h hM hE
  have rg := CH_rg hc
  rw [hs] at d5 d8
  rw [h1] at d6
  have la := ld_h hL (h := a) (by unfold nW; omega)
  have a1 := la.1.2.2.1
  have a2 := la.1.2.2.2
  have ra := rg.2.2.1 a
  rw [h2] at d7
  have lb := ld_h hL (h := b) (by unfold nW; omega)
  have b1 := lb.1.2.2.1
  have b2 := lb.1.2.2.2
  have rb := rg.2.2.1 b
  have dd := ld_d hL (j := 8 * a + b) (by omega)
  have d1 := dd.1
  have rd := rg.2.2.2 (8 * a + b) (by omega)
  rw [h3] at d8
  have d8 := d8 (by decide)
  simp (disch := omega) only [hs, h1, h2, h3, UD, eq_t, eq_f, if_true, if_false, Int.toNat_natCast] at ra rb rd
  simp (disch := omega) only [ad, eqn_t, eqn_f, if_true, if_false] at ra rb rd
  have ra := ra ha
  have rb := rb hb
  have L1 := LD_sp hL a (μ 77 a - n) ha (by omega)
  have L2 := LD_sp L1 b (μ 77 b + n) (by simp (disch := omega) only [up_at, eqn_f, and_false, false_and, if_false]; exact hb) (by omega)
  have L9 := LD_de L2 (8 * a + b) (μ 78 (8 * a + b) + n) (by omega) (by omega)
  unfold EQV
  rw [wp_undo1 d45 hE M60 E60 d5 a b n d6 (by omega) (by omega) d7 (by omega) (by omega) hab (by omega) d8 hn]
  refine ⟨_, _, rfl, rfl, ?_⟩
  rw [wm_undo1 (by simp (disch := omega) only [up_ne]; exact hM) M60 (by simp (disch := omega) only [up_ne]; exact hs) a b n (by simp (disch := omega) only [up_ne]; exact h1) (by omega) (by simp (disch := omega) only [up_ne]; omega) (by simp (disch := omega) only [up_ne]; exact h2) (by omega) (by simp (disch := omega) only [up_ne]; omega) hab (by simp (disch := omega) only [up_ne]; omega) (by simp (disch := omega) only [up_ne]; exact h3) hn]
  refine ⟨rfl, _, rfl, INV_undo h hM hE (LD_of L9 (fun i => ?_) (fun k i hk => ?_)) (fun j => ?_) ?_ ?_ ?_ (fun k i hk => ?_) (fun k i k1 k2 k3 k4 k5 => ?_)⟩
  · simp only [up_at, true_and, show ¬ (102 : Nat) = 4 by decide, show ¬ (102 : Nat) = 73 by decide, show ¬ (102 : Nat) = 76 by decide, show ¬ (102 : Nat) = 77 by decide, show ¬ (102 : Nat) = 78 by decide, show ¬ (102 : Nat) = 101 by decide, false_and, if_false, a2, b2, d1]
  · clear hc rg
    have k4 : ¬ k = 4 := by omega
    have k101 : ¬ k = 101 := by omega
    have k102 : ¬ k = 102 := by omega
    simp only [up_at, k4, k101, k102, false_and, if_false]
  · simp (disch := omega) only [hs, h1, h2, h3, UD, eq_t, eq_f, if_true, if_false, Int.toNat_natCast]
    simp (disch := omega) only [ad, up_at, true_and, eqn_f, false_and, if_false]
    all_goals (repeat' split) <;> first | omega | (subst_vars; omega) | (simp_all; try omega)
  · simp (disch := omega) only [up_ne]
    simp (disch := omega) only [up_at, eqn_f, eqn_t, and_false, and_true, true_and, and_self, if_true, if_false]
  · simp (disch := omega) only [up_ne]
    simp (disch := omega) only [up_at, eqn_f, eqn_t, and_false, and_true, true_and, and_self, if_true, if_false]
  · simp (disch := omega) only [up_ne]
    simp (disch := omega) only [up_at, eqn_f, eqn_t, and_false, and_true, true_and, and_self, if_true, if_false]
  · simp only [up_at]
    repeat rw [if_neg (by omega)]
  · simp only [up_at]
    repeat rw [if_neg (by omega)]
theorem eq_undo2 {B : Int} {μ : Nat → Nat → Int} (h : INV B μ) (hB : B ≤ 1000000) {M E : Nat} (hM : μ 101 12 = (M : Int) + 1) (hE : μ 4 4 = E) (a : Nat) (n : Int) (hs : μ 109 (4 * M) = 2) (h1 : μ 109 (4 * M + 1) = a) (ha : (a : Int) < μ 102 0) (h3 : μ 109 (4 * M + 3) = n) (hn : 1 ≤ n ∧ n ≤ 9) : EQV B μ 98 203 [] := by
  have hL : LD B μ 73 0 := h.2.2.2.1
  have n8 := ld_0 hL
  obtain ⟨M60, E60, d45, d5, d6, d7, d8, -, hc⟩ := last_deed h hM hE
  have rg := CH_rg hc
  rw [hs] at d5 d8
  rw [h1] at d6
  have la := ld_h hL (h := a) (by unfold nW; omega)
  have a1 := la.1.2.2.1
  have a2 := la.1.2.2.2
  have ra := rg.2.2.1 a
  rw [h3] at d8
  have d8 := d8 (by decide)
  simp (disch := omega) only [hs, h1, h3, UD, eq_t, eq_f, if_true, if_false, Int.toNat_natCast] at ra
  simp (disch := omega) only [ad, eqn_t, eqn_f, if_true, if_false] at ra
  have ra := ra ha
  have L9 := LD_sp hL a (μ 77 a + n) ha (by omega)
  unfold EQV
  rw [wp_undo2 d45 hE M60 E60 d5 a n d6 (by omega) (by omega) d8 hn]
  refine ⟨_, _, rfl, rfl, ?_⟩
  rw [wm_undo2 (by simp (disch := omega) only [up_ne]; exact hM) M60 (by simp (disch := omega) only [up_ne]; exact hs) a n (by simp (disch := omega) only [up_ne]; exact h1) (by omega) (by simp (disch := omega) only [up_ne]; omega) (by simp (disch := omega) only [up_ne]; exact h3) hn]
  refine ⟨rfl, _, rfl, INV_undo h hM hE (LD_of L9 (fun i => ?_) (fun k i hk => ?_)) (fun j => ?_) ?_ ?_ ?_ (fun k i hk => ?_) (fun k i k1 k2 k3 k4 k5 => ?_)⟩
  · simp only [up_at, true_and, show ¬ (102 : Nat) = 4 by decide, show ¬ (102 : Nat) = 73 by decide, show ¬ (102 : Nat) = 76 by decide, show ¬ (102 : Nat) = 77 by decide, show ¬ (102 : Nat) = 78 by decide, show ¬ (102 : Nat) = 101 by decide, false_and, if_false, a2]
  · clear hc rg
    have k4 : ¬ k = 4 := by omega
    have k101 : ¬ k = 101 := by omega
    have k102 : ¬ k = 102 := by omega
    simp only [up_at, k4, k101, k102, false_and, if_false]
  · simp (disch := omega) only [hs, h1, h3, UD, eq_t, eq_f, if_true, if_false, Int.toNat_natCast]
    simp (disch := omega) only [ad, up_at, true_and, eqn_f, false_and, if_false]
    all_goals (repeat' split) <;> first | omega | (subst_vars; omega) | (simp_all; try omega)
  · simp (disch := omega) only [up_ne]
    simp (disch := omega) only [up_at, eqn_f, eqn_t, and_false, and_true, true_and, and_self, if_true, if_false]
  · simp (disch := omega) only [up_ne]
    simp (disch := omega) only [up_at, eqn_f, eqn_t, and_false, and_true, true_and, and_self, if_true, if_false]
  · simp (disch := omega) only [up_ne]
    simp (disch := omega) only [up_at, eqn_f, eqn_t, and_false, and_true, true_and, and_self, if_true, if_false]
  · simp only [up_at]
    repeat rw [if_neg (by omega)]
  · simp only [up_at]
    repeat rw [if_neg (by omega)]
theorem eq_undo3 {B : Int} {μ : Nat → Nat → Int} (h : INV B μ) (hB : B ≤ 1000000) {M E : Nat} (hM : μ 101 12 = (M : Int) + 1) (hE : μ 4 4 = E) (a : Nat) (hs : μ 109 (4 * M) = 3) (h1 : μ 109 (4 * M + 1) = a) (ha : (a : Int) < μ 102 0) : EQV B μ 98 203 [] := by
  have hL : LD B μ 73 0 := h.2.2.2.1
  have n8 := ld_0 hL
  obtain ⟨M60, E60, d45, d5, d6, d7, d8, -, hc⟩ := last_deed h hM hE
  have rg := CH_rg hc
  rw [hs] at d5 d8
  rw [h1] at d6
  have la := ld_h hL (h := a) (by unfold nW; omega)
  have a1 := la.1.2.2.1
  have a2 := la.1.2.2.2
  have ra := rg.2.2.1 a
  simp (disch := omega) only [hs, h1, UD, eq_t, eq_f, if_true, if_false, Int.toNat_natCast] at ra
  simp (disch := omega) only [ad, eqn_t, eqn_f, if_true, if_false] at ra
  have ra := ra ha
  have L1 := LD_mo hL a (μ 76 a - 1) ha (by omega)
  have L9 := LD_sp L1 a (μ 77 a - 1) (by simp (disch := omega) only [up_at, eqn_f, and_false, false_and, if_false]; exact ha) (by omega)
  unfold EQV
  rw [wp_undo3 d45 hE M60 E60 d5 a d6 (by omega) (by omega)]
  refine ⟨_, _, rfl, rfl, ?_⟩
  rw [wm_undo3 (by simp (disch := omega) only [up_ne]; exact hM) M60 (by simp (disch := omega) only [up_ne]; exact hs) a (by simp (disch := omega) only [up_ne]; exact h1) (by omega) (by simp (disch := omega) only [up_ne]; omega)]
  refine ⟨rfl, _, rfl, INV_undo h hM hE (LD_of L9 (fun i => ?_) (fun k i hk => ?_)) (fun j => ?_) ?_ ?_ ?_ (fun k i hk => ?_) (fun k i k1 k2 k3 k4 k5 => ?_)⟩
  · simp only [up_at, true_and, show ¬ (102 : Nat) = 4 by decide, show ¬ (102 : Nat) = 73 by decide, show ¬ (102 : Nat) = 76 by decide, show ¬ (102 : Nat) = 77 by decide, show ¬ (102 : Nat) = 78 by decide, show ¬ (102 : Nat) = 101 by decide, false_and, if_false, a1, a2]
  · clear hc rg
    have k4 : ¬ k = 4 := by omega
    have k101 : ¬ k = 101 := by omega
    have k102 : ¬ k = 102 := by omega
    simp only [up_at, k4, k101, k102, false_and, if_false]
  · simp (disch := omega) only [hs, h1, UD, eq_t, eq_f, if_true, if_false, Int.toNat_natCast]
    simp (disch := omega) only [ad, up_at, true_and, eqn_f, false_and, if_false]
    all_goals (repeat' split) <;> first | omega | (subst_vars; omega) | (simp_all; try omega)
  · simp (disch := omega) only [up_ne]
    simp (disch := omega) only [up_at, eqn_f, eqn_t, and_false, and_true, true_and, and_self, if_true, if_false]
  · simp (disch := omega) only [up_ne]
    simp (disch := omega) only [up_at, eqn_f, eqn_t, and_false, and_true, true_and, and_self, if_true, if_false]
  · simp (disch := omega) only [up_ne]
    simp (disch := omega) only [up_at, eqn_f, eqn_t, and_false, and_true, true_and, and_self, if_true, if_false]
  · simp only [up_at]
    repeat rw [if_neg (by omega)]
  · simp only [up_at]
    repeat rw [if_neg (by omega)]
theorem eq_undo4 {B : Int} {μ : Nat → Nat → Int} (h : INV B μ) (hB : B ≤ 1000000) {M E : Nat} (hM : μ 101 12 = (M : Int) + 1) (hE : μ 4 4 = E) (a : Nat) (hs : μ 109 (4 * M) = 4) (h1 : μ 109 (4 * M + 1) = a) (ha : (a : Int) < μ 102 0) : EQV B μ 98 203 [] := by
  have hL : LD B μ 73 0 := h.2.2.2.1
  have n8 := ld_0 hL
  obtain ⟨M60, E60, d45, d5, d6, d7, d8, -, hc⟩ := last_deed h hM hE
  have rg := CH_rg hc
  rw [hs] at d5 d8
  rw [h1] at d6
  have la := ld_h hL (h := a) (by unfold nW; omega)
  have a1 := la.1.2.2.1
  have a2 := la.1.2.2.2
  have ra := rg.2.2.1 a
  simp (disch := omega) only [hs, h1, UD, eq_t, eq_f, if_true, if_false, Int.toNat_natCast] at ra
  simp (disch := omega) only [ad, eqn_t, eqn_f, if_true, if_false] at ra
  have ra := ra ha
  have L9 := LD_mo hL a (μ 76 a + 1) ha (by omega)
  unfold EQV
  rw [wp_undo4 d45 hE M60 E60 d5 a d6 (by omega) (by omega)]
  refine ⟨_, _, rfl, rfl, ?_⟩
  rw [wm_undo4 (by simp (disch := omega) only [up_ne]; exact hM) M60 (by simp (disch := omega) only [up_ne]; exact hs) a (by simp (disch := omega) only [up_ne]; exact h1) (by omega) (by simp (disch := omega) only [up_ne]; omega)]
  refine ⟨rfl, _, rfl, INV_undo h hM hE (LD_of L9 (fun i => ?_) (fun k i hk => ?_)) (fun j => ?_) ?_ ?_ ?_ (fun k i hk => ?_) (fun k i k1 k2 k3 k4 k5 => ?_)⟩
  · simp only [up_at, true_and, show ¬ (102 : Nat) = 4 by decide, show ¬ (102 : Nat) = 73 by decide, show ¬ (102 : Nat) = 76 by decide, show ¬ (102 : Nat) = 77 by decide, show ¬ (102 : Nat) = 78 by decide, show ¬ (102 : Nat) = 101 by decide, false_and, if_false, a1]
  · clear hc rg
    have k4 : ¬ k = 4 := by omega
    have k101 : ¬ k = 101 := by omega
    have k102 : ¬ k = 102 := by omega
    simp only [up_at, k4, k101, k102, false_and, if_false]
  · simp (disch := omega) only [hs, h1, UD, eq_t, eq_f, if_true, if_false, Int.toNat_natCast]
    simp (disch := omega) only [ad, up_at, true_and, eqn_f, false_and, if_false]
    all_goals (repeat' split) <;> first | omega | (subst_vars; omega) | (simp_all; try omega)
  · simp (disch := omega) only [up_ne]
    simp (disch := omega) only [up_at, eqn_f, eqn_t, and_false, and_true, true_and, and_self, if_true, if_false]
  · simp (disch := omega) only [up_ne]
    simp (disch := omega) only [up_at, eqn_f, eqn_t, and_false, and_true, true_and, and_self, if_true, if_false]
  · simp (disch := omega) only [up_ne]
    simp (disch := omega) only [up_at, eqn_f, eqn_t, and_false, and_true, true_and, and_self, if_true, if_false]
  · simp only [up_at]
    repeat rw [if_neg (by omega)]
  · simp only [up_at]
    repeat rw [if_neg (by omega)]
theorem eq_undo5 {B : Int} {μ : Nat → Nat → Int} (h : INV B μ) (hB : B ≤ 1000000) {M E : Nat} (hM : μ 101 12 = (M : Int) + 1) (hE : μ 4 4 = E)  (hs : μ 109 (4 * M) = 5) : EQV B μ 98 203 [] := by
  have hL : LD B μ 73 0 := h.2.2.2.1
  have n8 := ld_0 hL
  obtain ⟨M60, E60, d45, d5, d6, d7, d8, -, hc⟩ := last_deed h hM hE
  have rg := CH_rg hc
  rw [hs] at d5 d8
  have rn := rg.2.1
  simp (disch := omega) only [hs, UD, eq_t, eq_f, if_true, if_false, Int.toNat_natCast] at rn
  simp (disch := omega) only [ad, eqn_t, eqn_f, if_true, if_false] at rn
  have L9 := LD_nt hL (μ 73 9 - 1) (by omega)
  unfold EQV
  rw [wp_undo5 d45 hE M60 E60 d5 (by omega)]
  refine ⟨_, _, rfl, rfl, ?_⟩
  rw [wm_undo5 (by simp (disch := omega) only [up_ne]; exact hM) M60 (by simp (disch := omega) only [up_ne]; exact hs) (by simp (disch := omega) only [up_ne]; omega)]
  refine ⟨rfl, _, rfl, INV_undo h hM hE (LD_of L9 (fun i => ?_) (fun k i hk => ?_)) (fun j => ?_) ?_ ?_ ?_ (fun k i hk => ?_) (fun k i k1 k2 k3 k4 k5 => ?_)⟩
  · simp only [up_at, true_and, show ¬ (102 : Nat) = 4 by decide, show ¬ (102 : Nat) = 73 by decide, show ¬ (102 : Nat) = 76 by decide, show ¬ (102 : Nat) = 77 by decide, show ¬ (102 : Nat) = 78 by decide, show ¬ (102 : Nat) = 101 by decide, false_and, if_false, n8.2.2.1]
  · clear hc rg
    have k4 : ¬ k = 4 := by omega
    have k101 : ¬ k = 101 := by omega
    have k102 : ¬ k = 102 := by omega
    simp only [up_at, k4, k101, k102, false_and, if_false]
  · simp (disch := omega) only [hs, UD, eq_t, eq_f, if_true, if_false, Int.toNat_natCast]
    simp (disch := omega) only [ad, up_at, true_and, eqn_f, false_and, if_false]
    all_goals (repeat' split) <;> first | omega | (subst_vars; omega) | (simp_all; try omega)
  · simp (disch := omega) only [up_ne]
    simp (disch := omega) only [up_at, eqn_f, eqn_t, and_false, and_true, true_and, and_self, if_true, if_false]
  · simp (disch := omega) only [up_ne]
    simp (disch := omega) only [up_at, eqn_f, eqn_t, and_false, and_true, true_and, and_self, if_true, if_false]
  · simp (disch := omega) only [up_ne]
    simp (disch := omega) only [up_at, eqn_f, eqn_t, and_false, and_true, true_and, and_self, if_true, if_false]
  · simp only [up_at]
    repeat rw [if_neg (by omega)]
  · simp only [up_at]
    repeat rw [if_neg (by omega)]
theorem eq_undo {B : Int} {μ : Nat → Nat → Int} (h : INV B μ) (hB : B ≤ 1000000) : EQV B μ 98 203 [] := by
  have h12 := I_12 h
  obtain ⟨-, e2, e3, -⟩ := h.2.2.2.2.2.2
  by_cases c : μ 101 12 = 0
  · unfold EQV
    rw [wp_undo_no (by omega)]
    refine ⟨_, _, rfl, rfl, ?_⟩
    rw [wm_undo_no c]
    exact ⟨rfl, _, rfl, h⟩
  · obtain ⟨M, hM⟩ : ∃ M : Nat, μ 101 12 = (M : Int) + 1 := ⟨(μ 101 12 - 1).toNat, by omega⟩
    obtain ⟨E, hE⟩ : ∃ E : Nat, μ 4 4 = E := ⟨(μ 4 4).toNat, by omega⟩
    obtain ⟨-, -, -, -, -, -, -, ⟨v1, v2, v3, v4⟩, -⟩ := last_deed h hM hE
    have s6 := six v1
    generalize hs : μ 109 (4 * M) = s at *
    generalize h1 : μ 109 (4 * M + 1) = a at *
    generalize h2 : μ 109 (4 * M + 2) = b at *
    generalize h3 : μ 109 (4 * M + 3) = n at *
    rcases s6 with q | q | q | q | q | q <;> subst q
    · have w2 := v2 (by decide)
      have w3 := v3 (by decide)
      have w4 := v4 (by decide)
      obtain ⟨x, rfl⟩ : ∃ x : Nat, a = x := ⟨a.toNat, by omega⟩
      obtain ⟨y, rfl⟩ : ∃ y : Nat, b = y := ⟨b.toNat, by omega⟩
      exact eq_undo0 h hB hM hE x y n hs h1 (by omega) h2 (by omega) (by omega) h3 w4
    · have w2 := v2 (by decide)
      have w3 := v3 (by decide)
      have w4 := v4 (by decide)
      obtain ⟨x, rfl⟩ : ∃ x : Nat, a = x := ⟨a.toNat, by omega⟩
      obtain ⟨y, rfl⟩ : ∃ y : Nat, b = y := ⟨b.toNat, by omega⟩
      exact eq_undo1 h hB hM hE x y n hs h1 (by omega) h2 (by omega) (by omega) h3 w4
    · have w2 := v2 (by decide)
      have w4 := v4 (by decide)
      obtain ⟨x, rfl⟩ : ∃ x : Nat, a = x := ⟨a.toNat, by omega⟩
      exact eq_undo2 h hB hM hE x n hs h1 (by omega) h3 w4
    · have w2 := v2 (by decide)
      obtain ⟨x, rfl⟩ : ∃ x : Nat, a = x := ⟨a.toNat, by omega⟩
      exact eq_undo3 h hB hM hE x hs h1 (by omega)
    · have w2 := v2 (by decide)
      obtain ⟨x, rfl⟩ : ∃ x : Nat, a = x := ⟨a.toNat, by omega⟩
      exact eq_undo4 h hB hM hE x hs h1 (by omega)
    · exact eq_undo5 h hB hM hE hs
