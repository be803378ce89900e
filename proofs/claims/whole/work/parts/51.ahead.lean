/-! ways of the class: ahead and behind -/
def WC (μ : Nat → Nat → Int) (s : Nat) (c : Nat → Nat → Int) : Prop := μ 9 5 = s ∧ s ≤ 5 ∧ ∀ i, i < s → ∀ m, m < 10 → μ (12 + i) m = c i m ∧ 0 ≤ c i m ∧ c i m ≤ 10
theorem WC_CB {μ : Nat → Nat → Int} {s : Nat} {c : Nat → Nat → Int} (h : WC μ s c) : CB c s := fun i hi m hm => (h.2.2 i hi m hm).2
theorem WC_as {μ ν : Nat → Nat → Int} {s : Nat} {c : Nat → Nat → Int} (h : WC μ s c) (e : ∀ k, k = 9 ∨ (12 ≤ k ∧ k ≤ 16) → ν k = μ k) : WC ν s c := by
  obtain ⟨h1, h2, h3⟩ := h
  exact ⟨by rw [e 9 (Or.inl rfl)]; exact h1, h2, fun i hi m hm => by rw [e (12 + i) (by omega)]; exact h3 i hi m hm⟩
theorem dW_4 {a : Nat → Nat → Bool} {c : Nat → Nat → Int} {i : Nat} (h : i ≤ 4) (z : Int) : 0 ≤ dW a c i z ∧ dW a c i z ≤ 10000 := by
  have h1 := dW_rng a c i z
  have h2 : (10 : Int) ^ i ≤ 10000 := by
    have : i = 0 ∨ i = 1 ∨ i = 2 ∨ i = 3 ∨ i = 4 := by omega
    rcases this with rfl | rfl | rfl | rfl | rfl <;> decide
  omega
theorem dW_tt (c : Nat → Nat → Int) (i : Nat) (z : Int) : dW tt_ c (i + 1) z = sumZ (fun m => dW tt_ c i (z - c i m)) 10 := by
  rw [dW]; exact sumZ_congr (fun m _ => by simp [tt_])
theorem fl_ne (μ : Nat → Nat → Int) (k n : Nat) (v : Int) (b : Nat) (h : ¬ b = k) : fl μ k n v b = μ b := by
  funext j; rw [fl_at, if_neg (fun q => h q.1)]
theorem fl_in (μ : Nat → Nat → Int) (k n : Nat) (v : Int) (j : Nat) (h : j < n) : fl μ k n v k j = v := by
  rw [fl_at, if_pos ⟨rfl, h⟩]
set_option maxHeartbeats 4000000 in
set_option maxRecDepth 100000 in
theorem wp_ahead {μ : Nat → Nat → Int} {s : Nat} {c : Nat → Nat → Int} (hW : WC μ s c) (Φ : Option AV → ST → Prop) (k : ∀ ν, (∀ k, ¬ (18 ≤ k ∧ k ≤ 23) → ν k = μ k) → (∀ i, i ≤ s → ∀ z : Nat, z ≤ 50 → ν (18 + i) z = dW tt_ c i z) → Φ none (S ν)) : wpM 67 [.inr (.inr (some 9))] (S μ) Φ := by
  have hs := hW.2.1
  have hCB := WC_CB hW
  obtain ⟨⟨g1, g2⟩, -, -⟩ := g_way6 0 (by omega)
  have key := up_to (fun (i : Nat) (ν : Nat → Nat → Int) => wpS 67 21 [some (.inr (.inr (some 9))), some (.inl i)] [] (S ν) Φ) (fun i ν => (∀ k, ¬ (18 ≤ k ∧ k ≤ 23) → ν k = μ k) ∧ ∀ j, j ≤ i → ∀ z : Nat, z ≤ 50 → ν (18 + j) z = dW tt_ c j z) s (fun i ν hi hI hs' => by
    try dsimp only at hI hs' ⊢
    obtain ⟨i1, i2⟩ := hI
    have v5 : ν 9 5 = s := by rw [i1 9 (by omega)]; exact hW.1
    obtain ⟨⟨a1, a2⟩, -, -⟩ := g_way6 i (by omega)
    obtain ⟨⟨b1, b2⟩, -, -⟩ := g_way6 (i + 1) (by omega)
    have F := wp_fill (18 + (i + 1)) 51 0 (by omega) b2 (by decide) ν
    rw [s1_iff [21] 200]
    simp (disch := omega) [sz_s, sz_0, gx_s, hx_r, hx_c, hx_b, hx_s, hx_i, hx_n, kx_s, kx_n, kx_i, cx_d, up_at, am_ctl, am_step, am_i1, am_i2, am_i2d, am_l1, am_l2, am_l2d, am_ldi, am_ldl, am_lda, am_sti, am_sta, am_stl, am_inc, am_i2l, am_l2i, am_lcmp, am_dup, am_dup2, am_pop1, am_fv, am_getf, am_putf, am_wr, am_ial, am_lal, am_bal, am_aal, am_ias, am_las, am_bas, am_alen, am_inst, am_cast, am_cpm, am_copy, am_tsw, am_pop, am_cat, am_cS, am_cI, am_cV, am_ri, am_rl, am_ra, am_rv, am_b1, am_b2, am_ent, am_en, am_isL, am_st1, am_st2, am_clr, am_cnd, cc_67, ac_67, nL_67, rb_67, np_249, ok_67_249, nL_249, np_69, ok_67_69, nL_69, vd_69_10, tg_10_2, tg_10_5, List.getElem?_cons_succ, List.getElem?_cons_zero, nz_of, nzl_of, Int.toNat_add, Int.toNat_mul, tn_l, lt_t, lt_f, le_t, le_f, eq_t, eq_f, ltn_t, ltn_f, len_t, len_f, eqn_t, eqn_f, up_ne, up_up, sh_9, rf_9_2, sh_17, v5, hi, a1, b1, F]
    refine wp_addHouse i (18 + i) (18 + (i + 1)) (dW tt_ c i) (c i) (by omega) a2 b2 (by omega) (by omega) (by omega) (fun m hm => by rw [fl_ne _ _ _ _ _ (by omega), i1 (12 + i) (by omega)]; exact hW.2.2 i hi m hm) (fun z hz => by rw [fl_ne _ _ _ _ _ (by omega)]; exact i2 i (Nat.le_refl _) z hz) (fun z => dW_4 (by omega) z) (fun z hz => dW_neg hCB i z (by omega) hz) (fun z hz => fl_in _ _ _ _ _ (by omega)) _ (fun ρ r1 r2 => ?_)
    have q := hs' ρ ⟨fun k hk => by rw [r1 k (by omega), fl_ne _ _ _ _ _ (by omega)]; exact i1 k hk, fun j hj z hz => by
      by_cases e : j = i + 1
      · subst e; rw [r2 z hz, dW_tt]
      · rw [r1 (18 + j) (by omega), fl_ne _ _ _ _ _ (by omega)]; exact i2 j (by omega) z hz⟩
    simp (disch := omega) [sz_s, sz_0, gx_s, hx_r, hx_c, hx_b, hx_s, hx_i, hx_n, kx_s, kx_n, kx_i, cx_d, up_at, am_ctl, am_step, am_i1, am_i2, am_i2d, am_l1, am_l2, am_l2d, am_ldi, am_ldl, am_lda, am_sti, am_sta, am_stl, am_inc, am_i2l, am_l2i, am_lcmp, am_dup, am_dup2, am_pop1, am_fv, am_getf, am_putf, am_wr, am_ial, am_lal, am_bal, am_aal, am_ias, am_las, am_bas, am_alen, am_inst, am_cast, am_cpm, am_copy, am_tsw, am_pop, am_cat, am_cS, am_cI, am_cV, am_ri, am_rl, am_ra, am_rv, am_b1, am_b2, am_ent, am_en, am_isL, am_st1, am_st2, am_clr, am_cnd, cc_67, ac_67, nL_67, rb_67, np_249, ok_67_249, nL_249, np_69, ok_67_69, nL_69, vd_69_10, tg_10_2, tg_10_5, List.getElem?_cons_succ, List.getElem?_cons_zero, nz_of, nzl_of, Int.toNat_add, Int.toNat_mul, tn_l, lt_t, lt_f, le_t, le_f, eq_t, eq_f, ltn_t, ltn_f, len_t, len_f, eqn_t, eqn_f, up_ne, up_up, sh_9]
    simpa using q) (fun ν hI => by
    try dsimp only at hI ⊢
    have v5 : ν 9 5 = s := by rw [hI.1 9 (by omega)]; exact hW.1
    have k := k ν hI.1 hI.2
    rw [s1_iff [21] 200]
    simp (disch := omega) [sz_s, sz_0, gx_s, hx_r, hx_c, hx_b, hx_s, hx_i, hx_n, kx_s, kx_n, kx_i, cx_d, up_at, am_ctl, am_step, am_i1, am_i2, am_i2d, am_l1, am_l2, am_l2d, am_ldi, am_ldl, am_lda, am_sti, am_sta, am_stl, am_inc, am_i2l, am_l2i, am_lcmp, am_dup, am_dup2, am_pop1, am_fv, am_getf, am_putf, am_wr, am_ial, am_lal, am_bal, am_aal, am_ias, am_las, am_bas, am_alen, am_inst, am_cast, am_cpm, am_copy, am_tsw, am_pop, am_cat, am_cS, am_cI, am_cV, am_ri, am_rl, am_ra, am_rv, am_b1, am_b2, am_ent, am_en, am_isL, am_st1, am_st2, am_clr, am_cnd, cc_67, ac_67, nL_67, rb_67, np_249, ok_67_249, nL_249, np_69, ok_67_69, nL_69, vd_69_10, tg_10_2, tg_10_5, List.getElem?_cons_succ, List.getElem?_cons_zero, nz_of, nzl_of, Int.toNat_add, Int.toNat_mul, tn_l, lt_t, lt_f, le_t, le_f, eq_t, eq_f, ltn_t, ltn_f, len_t, len_f, eqn_t, eqn_f, up_ne, up_up, sh_9, v5]
    exact k)
  have F := wp_fill 18 51 0 (by omega) g2 (by decide) μ
  have q := key (am_up (fl μ 18 51 0) 18 0 1) ⟨fun k hk => by rw [up_ne _ _ _ (by omega), fl_ne _ _ _ _ _ (by omega)], fun j hj z hz => by
    obtain rfl : j = 0 := by omega
    rw [up_at, dW]
    by_cases e : z = 0
    · subst e; simp
    · rw [if_neg (fun q => e q.2), if_neg (by omega)]; exact fl_in _ _ _ _ _ (by omega)⟩
  unfold wpM
  rw [s1_iff [21] 200]
  simp (disch := omega) [sz_s, sz_0, gx_s, hx_r, hx_c, hx_b, hx_s, hx_i, hx_n, kx_s, kx_n, kx_i, cx_d, up_at, am_ctl, am_step, am_i1, am_i2, am_i2d, am_l1, am_l2, am_l2d, am_ldi, am_ldl, am_lda, am_sti, am_sta, am_stl, am_inc, am_i2l, am_l2i, am_lcmp, am_dup, am_dup2, am_pop1, am_fv, am_getf, am_putf, am_wr, am_ial, am_lal, am_bal, am_aal, am_ias, am_las, am_bas, am_alen, am_inst, am_cast, am_cpm, am_copy, am_tsw, am_pop, am_cat, am_cS, am_cI, am_cV, am_ri, am_rl, am_ra, am_rv, am_b1, am_b2, am_ent, am_en, am_isL, am_st1, am_st2, am_clr, am_cnd, cc_67, ac_67, nL_67, rb_67, np_249, ok_67_249, nL_249, np_69, ok_67_69, nL_69, vd_69_10, tg_10_2, tg_10_5, List.getElem?_cons_succ, List.getElem?_cons_zero, nz_of, nzl_of, Int.toNat_add, Int.toNat_mul, tn_l, lt_t, lt_f, le_t, le_f, eq_t, eq_f, ltn_t, ltn_f, len_t, len_f, eqn_t, eqn_f, up_ne, up_up, sh_9, rf_9_2, sh_17, sh_18, rf_17_0, F]
  simpa using q
set_option maxHeartbeats 4000000 in
set_option maxRecDepth 100000 in
theorem wp_behind {μ : Nat → Nat → Int} {s : Nat} {c : Nat → Nat → Int} (hW : WC μ s c) (Φ : Option AV → ST → Prop) (k : ∀ ν, (∀ k, ¬ (25 ≤ k ∧ k ≤ 30) → ν k = μ k) → (∀ i, i ≤ s → ∀ z : Nat, z ≤ 50 → ν (25 + i) z = dW tt_ (rv c s) (s - i) z) → Φ none (S ν)) : wpM 68 [.inr (.inr (some 9))] (S μ) Φ := by
  have hs := hW.2.1
  have hCB := rv_CB (WC_CB hW)
  obtain ⟨-, ⟨g1, g2⟩, -⟩ := g_way6 s (by omega)
  have key := up_to (fun (t : Nat) (ν : Nat → Nat → Int) => wpS 68 32 [some (.inr (.inr (some 9))), some (.inl ((s : Int) - 1 - t))] [] (S ν) Φ) (fun t ν => (∀ k, ¬ (25 ≤ k ∧ k ≤ 30) → ν k = μ k) ∧ ∀ j, j ≤ t → ∀ z : Nat, z ≤ 50 → ν (25 + (s - j)) z = dW tt_ (rv c s) j z) s (fun t ν ht hI hs' => by
    try dsimp only at hI hs' ⊢
    obtain ⟨i1, i2⟩ := hI
    obtain ⟨i, hi⟩ : ∃ i, s = i + 1 + t := ⟨s - 1 - t, by omega⟩
    have ei : (s : Int) - 1 - t = i := by omega
    have en : (s : Int) - 1 - ((t + 1 : Nat) : Int) = (i : Int) - 1 := by omega
    rw [en] at hs'
    rw [ei]
    obtain ⟨-, ⟨a1, a2⟩, -⟩ := g_way6 i (by omega)
    obtain ⟨-, ⟨b1, b2⟩, -⟩ := g_way6 (i + 1) (by omega)
    have F := wp_fill (25 + i) 51 0 (by omega) a2 (by decide) ν
    have hm1 : (i : Int) + -1 = (i : Int) - 1 := by omega
    rw [s1_iff [32] 200]
    simp (disch := omega) [sz_s, sz_0, gx_s, hx_r, hx_c, hx_b, hx_s, hx_i, hx_n, kx_s, kx_n, kx_i, cx_d, up_at, am_ctl, am_step, am_i1, am_i2, am_i2d, am_l1, am_l2, am_l2d, am_ldi, am_ldl, am_lda, am_sti, am_sta, am_stl, am_inc, am_i2l, am_l2i, am_lcmp, am_dup, am_dup2, am_pop1, am_fv, am_getf, am_putf, am_wr, am_ial, am_lal, am_bal, am_aal, am_ias, am_las, am_bas, am_alen, am_inst, am_cast, am_cpm, am_copy, am_tsw, am_pop, am_cat, am_cS, am_cI, am_cV, am_ri, am_rl, am_ra, am_rv, am_b1, am_b2, am_ent, am_en, am_isL, am_st1, am_st2, am_clr, am_cnd, cc_68, ac_68, nL_68, rb_68, np_249, ok_68_249, nL_249, np_69, ok_68_69, nL_69, vd_69_10, tg_10_3, tg_10_5, List.getElem?_cons_succ, List.getElem?_cons_zero, nz_of, nzl_of, Int.toNat_add, Int.toNat_mul, tn_l, lt_t, lt_f, le_t, le_f, eq_t, eq_f, ltn_t, ltn_f, len_t, len_f, eqn_t, eqn_f, up_ne, up_up, sh_9, rf_9_3, sh_24, a1, b1, F]
    refine wp_addHouse i (25 + (i + 1)) (25 + i) (dW tt_ (rv c s) t) (c i) (by omega) b2 a2 (by omega) (by omega) (by omega) (fun m hm => by rw [fl_ne _ _ _ _ _ (by omega), i1 (12 + i) (by omega)]; exact hW.2.2 i (by omega) m hm) (fun z hz => by
      rw [fl_ne _ _ _ _ _ (by omega)]
      have := i2 t (Nat.le_refl _) z hz
      rw [show s - t = i + 1 by omega] at this
      exact this) (fun z => dW_4 (by omega) z) (fun z hz => dW_neg hCB t z (by omega) hz) (fun z hz => fl_in _ _ _ _ _ (by omega)) _ (fun ρ r1 r2 => ?_)
    have q := hs' ρ ⟨fun k hk => by rw [r1 k (by omega), fl_ne _ _ _ _ _ (by omega)]; exact i1 k hk, fun j hj z hz => by
      by_cases e : j = t + 1
      · subst e
        rw [show s - (t + 1) = i by omega, r2 z hz, dW_tt]
        have : rv c s t = c i := by funext m; unfold rv; rw [show s - 1 - t = i by omega]
        rw [this]
      · rw [r1 (25 + (s - j)) (by omega), fl_ne _ _ _ _ _ (by omega)]; exact i2 j (by omega) z hz⟩
    simp (disch := omega) [sz_s, sz_0, gx_s, hx_r, hx_c, hx_b, hx_s, hx_i, hx_n, kx_s, kx_n, kx_i, cx_d, up_at, am_ctl, am_step, am_i1, am_i2, am_i2d, am_l1, am_l2, am_l2d, am_ldi, am_ldl, am_lda, am_sti, am_sta, am_stl, am_inc, am_i2l, am_l2i, am_lcmp, am_dup, am_dup2, am_pop1, am_fv, am_getf, am_putf, am_wr, am_ial, am_lal, am_bal, am_aal, am_ias, am_las, am_bas, am_alen, am_inst, am_cast, am_cpm, am_copy, am_tsw, am_pop, am_cat, am_cS, am_cI, am_cV, am_ri, am_rl, am_ra, am_rv, am_b1, am_b2, am_ent, am_en, am_isL, am_st1, am_st2, am_clr, am_cnd, cc_68, ac_68, nL_68, rb_68, np_249, ok_68_249, nL_249, np_69, ok_68_69, nL_69, vd_69_10, tg_10_3, tg_10_5, List.getElem?_cons_succ, List.getElem?_cons_zero, nz_of, nzl_of, Int.toNat_add, Int.toNat_mul, tn_l, lt_t, lt_f, le_t, le_f, eq_t, eq_f, ltn_t, ltn_f, len_t, len_f, eqn_t, eqn_f, up_ne, up_up, sh_9, hm1]
    simpa using q) (fun ν hI => by
    try dsimp only at hI ⊢
    have k := k ν hI.1 (fun i hi z hz => by
      have := hI.2 (s - i) (by omega) z hz
      rw [show s - (s - i) = i by omega] at this
      exact this)
    rw [s1_iff [32] 200]
    simp (disch := omega) [sz_s, sz_0, gx_s, hx_r, hx_c, hx_b, hx_s, hx_i, hx_n, kx_s, kx_n, kx_i, cx_d, up_at, am_ctl, am_step, am_i1, am_i2, am_i2d, am_l1, am_l2, am_l2d, am_ldi, am_ldl, am_lda, am_sti, am_sta, am_stl, am_inc, am_i2l, am_l2i, am_lcmp, am_dup, am_dup2, am_pop1, am_fv, am_getf, am_putf, am_wr, am_ial, am_lal, am_bal, am_aal, am_ias, am_las, am_bas, am_alen, am_inst, am_cast, am_cpm, am_copy, am_tsw, am_pop, am_cat, am_cS, am_cI, am_cV, am_ri, am_rl, am_ra, am_rv, am_b1, am_b2, am_ent, am_en, am_isL, am_st1, am_st2, am_clr, am_cnd, cc_68, ac_68, nL_68, rb_68, np_249, ok_68_249, nL_249, np_69, ok_68_69, nL_69, vd_69_10, tg_10_3, tg_10_5, List.getElem?_cons_succ, List.getElem?_cons_zero, nz_of, nzl_of, Int.toNat_add, Int.toNat_mul, tn_l, lt_t, lt_f, le_t, le_f, eq_t, eq_f, ltn_t, ltn_f, len_t, len_f, eqn_t, eqn_f, up_ne, up_up, sh_9]
    exact k)
  have F := wp_fill (25 + s) 51 0 (by omega) g2 (by decide) μ
  have q := key (am_up (fl μ (25 + s) 51 0) (25 + s) 0 1) ⟨fun k hk => by rw [up_ne _ _ _ (by omega), fl_ne _ _ _ _ _ (by omega)], fun j hj z hz => by
    obtain rfl : j = 0 := by omega
    rw [Nat.sub_zero, up_at, dW]
    by_cases e : z = 0
    · subst e; simp
    · rw [if_neg (fun q => e q.2), if_neg (by omega)]; exact fl_in _ _ _ _ _ (by omega)⟩
  have v5 := hW.1
  unfold wpM
  rw [s1_iff [32] 200]
  simp (disch := omega) [sz_s, sz_0, gx_s, hx_r, hx_c, hx_b, hx_s, hx_i, hx_n, kx_s, kx_n, kx_i, cx_d, up_at, am_ctl, am_step, am_i1, am_i2, am_i2d, am_l1, am_l2, am_l2d, am_ldi, am_ldl, am_lda, am_sti, am_sta, am_stl, am_inc, am_i2l, am_l2i, am_lcmp, am_dup, am_dup2, am_pop1, am_fv, am_getf, am_putf, am_wr, am_ial, am_lal, am_bal, am_aal, am_ias, am_las, am_bas, am_alen, am_inst, am_cast, am_cpm, am_copy, am_tsw, am_pop, am_cat, am_cS, am_cI, am_cV, am_ri, am_rl, am_ra, am_rv, am_b1, am_b2, am_ent, am_en, am_isL, am_st1, am_st2, am_clr, am_cnd, cc_68, ac_68, nL_68, rb_68, np_249, ok_68_249, nL_249, np_69, ok_68_69, nL_69, vd_69_10, tg_10_3, tg_10_5, List.getElem?_cons_succ, List.getElem?_cons_zero, nz_of, nzl_of, Int.toNat_add, Int.toNat_mul, tn_l, lt_t, lt_f, le_t, le_f, eq_t, eq_f, ltn_t, ltn_f, len_t, len_f, eqn_t, eqn_f, up_ne, up_up, sh_9, rf_9_3, sh_24, g1, g2, v5, F, fl_ne]
  simpa using q
