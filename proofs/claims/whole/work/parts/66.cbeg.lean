/-! leading of the class: sets behind; how it begins -/
set_option maxHeartbeats 8000000 in
set_option maxRecDepth 100000 in
theorem wp_addBehind {μ : Nat → Nat → Int} {n : Nat} {R M : Nat → Int} (h : LW μ n R M) (Φ : Option AV → ST → Prop) (k : ∀ ν, (∀ k, ¬ k = 42 → ν k = μ k) → (∀ t, t < 2 ^ n → ν 42 t = BH (okZ R M) n t) → Φ none (S ν)) : wpM 42 [.inr (.inr (some 38))] (S μ) Φ := by
  have hn := h.1.2
  have p8 := pow8 hn
  have p0 := Nat.two_pow_pos n
  obtain ⟨al, hal⟩ : ∃ al, al = 2 ^ n - 1 := ⟨_, rfl⟩
  generalize hok : okZ R M = ok at *
  have key := up_to (fun (j : Nat) (s : (Nat → Nat → Int) × Option AV × Option AV) => wpS 42 25 [some (.inr (.inr (some 38))), some (.inl ((al : Int) - 1 - j)), s.2.1, s.2.2] [] (S s.1) Φ) (fun j s => (∀ k, ¬ k = 42 → s.1 k = μ k) ∧ ∀ t, t < 2 ^ n → s.1 42 t = if al - j ≤ t then BH ok n t else 0) al (fun j s hj hI hs' => by
    obtain ⟨ν, l2, l3⟩ := s
    try dsimp only at hI hs' ⊢
    obtain ⟨i1, i2⟩ := hI
    obtain ⟨T, hT⟩ : ∃ T, T + j + 1 = al := ⟨al - 1 - j, by omega⟩
    have e1 : (al : Int) - 1 - j = T := by omega
    have e2 : (al : Int) - 1 - ((j + 1 : Nat) : Int) = (T : Int) - 1 := by omega
    rw [e2] at hs'
    rw [e1]
    have hν : LW ν n R M := LW_as h (fun k hk => i1 k (by omega))
    have pl := pN_lt hn (t := T) (by omega) (by omega)
    have bs := BH_s (ok := ok) hn (t := T) (by omega) (by omega)
    have rT : ∀ m, m ≤ n → 0 ≤ sumZ (fun m => if T.testBit m = false ∧ ok (pN T) m = true then BH ok n (T ||| 2 ^ m) else 0) m ∧ sumZ (fun m => if T.testBit m = false ∧ ok (pN T) m = true then BH ok n (T ||| 2 ^ m) else 0) m ≤ 134217728 := fun m hm => by
      have := @sumZ_rng (fun m => if T.testBit m = false ∧ ok (pN T) m = true then BH ok n (T ||| 2 ^ m) else 0) 0 16777216 m (fun i _ => by
        have := BH_rng (ok := ok) hn (T ||| 2 ^ i)
        try dsimp only
        split <;> omega)
      omega
    have inner := up_to (fun (m : Nat) (ν : Nat → Nat → Int) => wpS 42 36 [some (.inr (.inr (some 38))), some (.inl T), some (.inl (pN T : Nat)), some (.inl m)] [] (S ν) Φ) (fun m ν => (∀ k, ¬ k = 42 → ν k = μ k) ∧ (∀ t, t < 2 ^ n → ¬ t = T → ν 42 t = if al - j ≤ t then BH ok n t else 0) ∧ ν 42 T = sumZ (fun m => if T.testBit m = false ∧ ok (pN T) m = true then BH ok n (T ||| 2 ^ m) else 0) m) n (fun m ν hm hI hs'' => by
      try dsimp only at hI hs'' ⊢
      obtain ⟨j1, j2, j3⟩ := hI
      have hν : LW ν n R M := LW_as h (fun k hk => j1 k (by omega))
      have v5 := hν.1.1
      have C := fun Φ => wp_canLead hν (pN T) m T pl hm (by omega) Φ
      rw [hok] at C
      have r1 := rT m (by omega)
      have r2 := rT (m + 1) (by omega)
      rw [sumZ_s] at hs'' r2
      by_cases c : T.testBit m = false ∧ ok (pN T) m = true
      · rw [if_pos c] at hs'' r2
        have bo := bit_o T (by omega) m (by omega)
        have lt1 := or_lt_n (S := T) (n := n) (h := m) (by omega) hm
        have gt1 := or_gt T (by omega) m (by omega) c.1
        have f2 := j2 _ lt1 (by omega)
        rw [if_pos (by omega)] at f2
        rw [if_pos c] at C
        generalize hu : T ||| 2 ^ m = u at *
        generalize sumZ (fun m => if T.testBit m = false ∧ ok (pN T) m = true then BH ok n (T ||| 2 ^ m) else 0) m = x at *
        have q := hs'' (am_up ν 42 T (x + BH ok n u)) ⟨fun k hk => by rw [up_ne _ _ _ hk]; exact j1 k hk, fun t ht hne => by
          rw [up_at, if_neg (fun q => hne q.2)]; exact j2 t ht hne, by rw [up_at, if_pos ⟨rfl, rfl⟩]⟩
        have r3 := BH_rng (ok := ok) hn u
        clear hs'' j2 bs rT
        generalize BH ok n u = y at *
        rw [s1_iff [36] 200]
        simp (disch := omega) [sz_s, sz_0, gx_s, hx_r, hx_c, hx_b, hx_s, hx_i, hx_n, kx_s, kx_n, kx_i, cx_d, up_at, am_ctl, am_step, am_i1, am_i2, am_i2d, am_l1, am_l2, am_l2d, am_ldi, am_ldl, am_lda, am_sti, am_sta, am_stl, am_inc, am_i2l, am_l2i, am_lcmp, am_dup, am_dup2, am_pop1, am_fv, am_getf, am_putf, am_wr, am_ial, am_lal, am_bal, am_aal, am_ias, am_las, am_bas, am_alen, am_inst, am_cast, am_cpm, am_copy, am_tsw, am_pop, am_cat, am_cS, am_cI, am_cV, am_ri, am_rl, am_ra, am_rv, am_b1, am_b2, am_ent, am_en, am_isL, am_st1, am_st2, am_clr, am_cnd, cc_42, ac_42, nL_42, rb_42, np_249, ok_42_249, nL_249, np_253, ok_42_253, nL_253, np_39, ok_42_39, nL_39, vd_39_5, np_40, ok_42_40, nL_40, vd_40_5, tg_5_3, tg_5_5, List.getElem?_cons_succ, List.getElem?_cons_zero, nz_of, nzl_of, Int.toNat_add, Int.toNat_mul, tn_l, lt_t, lt_f, le_t, le_f, eq_t, eq_f, ltn_t, ltn_f, len_t, len_f, eqn_t, eqn_f, up_ne, up_up, sh_38, sh_42, rf_38_3, v5, C, bo, j3, f2]
        simpa using q
      · rw [if_neg c, Int.add_zero] at hs''
        have q := hs'' ν ⟨j1, j2, j3⟩
        rw [if_neg c] at C
        rw [s1_iff [36] 200]
        simp (disch := omega) [sz_s, sz_0, gx_s, hx_r, hx_c, hx_b, hx_s, hx_i, hx_n, kx_s, kx_n, kx_i, cx_d, up_at, am_ctl, am_step, am_i1, am_i2, am_i2d, am_l1, am_l2, am_l2d, am_ldi, am_ldl, am_lda, am_sti, am_sta, am_stl, am_inc, am_i2l, am_l2i, am_lcmp, am_dup, am_dup2, am_pop1, am_fv, am_getf, am_putf, am_wr, am_ial, am_lal, am_bal, am_aal, am_ias, am_las, am_bas, am_alen, am_inst, am_cast, am_cpm, am_copy, am_tsw, am_pop, am_cat, am_cS, am_cI, am_cV, am_ri, am_rl, am_ra, am_rv, am_b1, am_b2, am_ent, am_en, am_isL, am_st1, am_st2, am_clr, am_cnd, cc_42, ac_42, nL_42, rb_42, np_249, ok_42_249, nL_249, np_253, ok_42_253, nL_253, np_39, ok_42_39, nL_39, vd_39_5, np_40, ok_42_40, nL_40, vd_40_5, tg_5_3, tg_5_5, List.getElem?_cons_succ, List.getElem?_cons_zero, nz_of, nzl_of, Int.toNat_add, Int.toNat_mul, tn_l, lt_t, lt_f, le_t, le_f, eq_t, eq_f, ltn_t, ltn_f, len_t, len_f, eqn_t, eqn_f, up_ne, up_up, sh_38, v5, C]
        simpa using q) (fun ν hI => by
      try dsimp only at hI ⊢
      obtain ⟨j1, j2, j3⟩ := hI
      have hν : LW ν n R M := LW_as h (fun k hk => j1 k (by omega))
      have v5 := hν.1.1
      have q := hs' (ν, some (.inl (pN T : Nat)), some (.inl n)) ⟨j1, fun t ht => by
        try dsimp only
        by_cases e : t = T
        · subst e; rw [if_pos (by omega), j3, bs]
        · rw [j2 t ht e]
          exact if_iff (by omega) _ _⟩
      have hm1 : (T : Int) + -1 = (T : Int) - 1 := by omega
      rw [s1_iff [25, 36] 200]
      simp (disch := omega) [sz_s, sz_0, gx_s, hx_r, hx_c, hx_b, hx_s, hx_i, hx_n, kx_s, kx_n, kx_i, cx_d, up_at, am_ctl, am_step, am_i1, am_i2, am_i2d, am_l1, am_l2, am_l2d, am_ldi, am_ldl, am_lda, am_sti, am_sta, am_stl, am_inc, am_i2l, am_l2i, am_lcmp, am_dup, am_dup2, am_pop1, am_fv, am_getf, am_putf, am_wr, am_ial, am_lal, am_bal, am_aal, am_ias, am_las, am_bas, am_alen, am_inst, am_cast, am_cpm, am_copy, am_tsw, am_pop, am_cat, am_cS, am_cI, am_cV, am_ri, am_rl, am_ra, am_rv, am_b1, am_b2, am_ent, am_en, am_isL, am_st1, am_st2, am_clr, am_cnd, cc_42, ac_42, nL_42, rb_42, np_249, ok_42_249, nL_249, np_253, ok_42_253, nL_253, np_39, ok_42_39, nL_39, vd_39_5, np_40, ok_42_40, nL_40, vd_40_5, tg_5_3, tg_5_5, List.getElem?_cons_succ, List.getElem?_cons_zero, nz_of, nzl_of, Int.toNat_add, Int.toNat_mul, tn_l, lt_t, lt_f, le_t, le_f, eq_t, eq_f, ltn_t, ltn_f, len_t, len_f, eqn_t, eqn_f, up_ne, up_up, sh_38, v5, hm1]
      simpa using q) ν ⟨i1, fun t ht _ => i2 t ht, by
        rw [i2 T (by omega), if_neg (by omega), sumZ_0]⟩
    try dsimp only at inner
    rw [s1_iff [25, 36] 200]
    simp (disch := omega) [sz_s, sz_0, gx_s, hx_r, hx_c, hx_b, hx_s, hx_i, hx_n, kx_s, kx_n, kx_i, cx_d, up_at, am_ctl, am_step, am_i1, am_i2, am_i2d, am_l1, am_l2, am_l2d, am_ldi, am_ldl, am_lda, am_sti, am_sta, am_stl, am_inc, am_i2l, am_l2i, am_lcmp, am_dup, am_dup2, am_pop1, am_fv, am_getf, am_putf, am_wr, am_ial, am_lal, am_bal, am_aal, am_ias, am_las, am_bas, am_alen, am_inst, am_cast, am_cpm, am_copy, am_tsw, am_pop, am_cat, am_cS, am_cI, am_cV, am_ri, am_rl, am_ra, am_rv, am_b1, am_b2, am_ent, am_en, am_isL, am_st1, am_st2, am_clr, am_cnd, cc_42, ac_42, nL_42, rb_42, np_249, ok_42_249, nL_249, np_253, ok_42_253, nL_253, np_39, ok_42_39, nL_39, vd_39_5, np_40, ok_42_40, nL_40, vd_40_5, tg_5_3, tg_5_5, List.getElem?_cons_succ, List.getElem?_cons_zero, nz_of, nzl_of, Int.toNat_add, Int.toNat_mul, tn_l, lt_t, lt_f, le_t, le_f, eq_t, eq_f, ltn_t, ltn_f, len_t, len_f, eqn_t, eqn_f, up_ne, up_up, sh_38, wp_bitN T (by omega)]
    simpa using inner) (fun s hI => by
    obtain ⟨ν, l2, l3⟩ := s
    try dsimp only at hI ⊢
    obtain ⟨i1, i2⟩ := hI
    replace k := k ν i1 (fun t ht => by rw [i2 t ht, if_pos (by omega)])
    have e1 : (al : Int) - 1 - al = -1 := by omega
    rw [e1]
    rw [s1_iff [25] 200]
    simp (disch := omega) [sz_s, sz_0, gx_s, hx_r, hx_c, hx_b, hx_s, hx_i, hx_n, kx_s, kx_n, kx_i, cx_d, up_at, am_ctl, am_step, am_i1, am_i2, am_i2d, am_l1, am_l2, am_l2d, am_ldi, am_ldl, am_lda, am_sti, am_sta, am_stl, am_inc, am_i2l, am_l2i, am_lcmp, am_dup, am_dup2, am_pop1, am_fv, am_getf, am_putf, am_wr, am_ial, am_lal, am_bal, am_aal, am_ias, am_las, am_bas, am_alen, am_inst, am_cast, am_cpm, am_copy, am_tsw, am_pop, am_cat, am_cS, am_cI, am_cV, am_ri, am_rl, am_ra, am_rv, am_b1, am_b2, am_ent, am_en, am_isL, am_st1, am_st2, am_clr, am_cnd, cc_42, ac_42, nL_42, rb_42, np_249, ok_42_249, nL_249, np_253, ok_42_253, nL_253, np_39, ok_42_39, nL_39, vd_39_5, np_40, ok_42_40, nL_40, vd_40_5, tg_5_3, tg_5_5, List.getElem?_cons_succ, List.getElem?_cons_zero, nz_of, nzl_of, Int.toNat_add, Int.toNat_mul, tn_l, lt_t, lt_f, le_t, le_f, eq_t, eq_f, ltn_t, ltn_f, len_t, len_f, eqn_t, eqn_f, up_ne, up_up, sh_38]
    exact k)
  have F := wp_fill 42 256 0 (by omega) sh_42 (by decide) μ
  have q := key (am_up (fl μ 42 256 0) 42 al 1, none, none) ⟨fun k hk => by (try dsimp only); rw [up_ne _ _ _ hk, fl_ne _ _ _ _ _ hk], fun t ht => by
    try dsimp only
    rw [up_at]
    by_cases e : t = al
    · subst e; rw [if_pos ⟨rfl, rfl⟩, if_pos (by omega), hal, BH_all hn]
    · rw [if_neg (fun q => e q.2), fl_in _ _ _ _ _ (by omega), if_neg (by omega)]⟩
  try dsimp only at q
  have A := fun (ν : Nat → Nat → Int) (e : ν 38 = μ 38) Φ => wp_allM (μ := ν) (n := n) (by rw [e]; exact h.1.1) hn al hal Φ
  have A1 := A (fl μ 42 256 0) (fl_ne _ _ _ _ _ (by decide))
  have A2 := A (am_up (fl μ 42 256 0) 42 al 1) (by rw [up_ne _ _ _ (by decide), fl_ne _ _ _ _ _ (by decide)])
  unfold wpM
  rw [s1_iff [25] 200]
  simp (disch := omega) [sz_s, sz_0, gx_s, hx_r, hx_c, hx_b, hx_s, hx_i, hx_n, kx_s, kx_n, kx_i, cx_d, up_at, am_ctl, am_step, am_i1, am_i2, am_i2d, am_l1, am_l2, am_l2d, am_ldi, am_ldl, am_lda, am_sti, am_sta, am_stl, am_inc, am_i2l, am_l2i, am_lcmp, am_dup, am_dup2, am_pop1, am_fv, am_getf, am_putf, am_wr, am_ial, am_lal, am_bal, am_aal, am_ias, am_las, am_bas, am_alen, am_inst, am_cast, am_cpm, am_copy, am_tsw, am_pop, am_cat, am_cS, am_cI, am_cV, am_ri, am_rl, am_ra, am_rv, am_b1, am_b2, am_ent, am_en, am_isL, am_st1, am_st2, am_clr, am_cnd, cc_42, ac_42, nL_42, rb_42, np_249, ok_42_249, nL_249, np_253, ok_42_253, nL_253, np_39, ok_42_39, nL_39, vd_39_5, np_40, ok_42_40, nL_40, vd_40_5, tg_5_3, tg_5_5, List.getElem?_cons_succ, List.getElem?_cons_zero, nz_of, nzl_of, Int.toNat_add, Int.toNat_mul, tn_l, lt_t, lt_f, le_t, le_f, eq_t, eq_f, ltn_t, ltn_f, len_t, len_f, eqn_t, eqn_f, up_ne, up_up, sh_38, sh_42, rf_38_3, F, A1, A2]
  simpa using q
def IN (f : Nat → Int) (n : Nat) : Prop := ∀ i, i < n → 0 ≤ f i ∧ f i ≤ 9
set_option maxRecDepth 100000 in
theorem wp_allIn {μ : Nat → Nat → Int} (r n : Nat) (hr : r < 6) (f : Nat → Int) (hn : μ (46 + 2 * r) 1 = n) (hn8 : n ≤ 8) (hf : ∀ i, i < n → μ (47 + 2 * r) i = f i) (Φ : Option AV → ST → Prop) (k1 : IN f n → Φ (some (.inl 1)) (S μ)) (k2 : ¬ IN f n → Φ (some (.inl 0)) (S μ)) : wpM 59 [.inr (.inr (some (46 + 2 * r))), .inl 10] (S μ) Φ := by
  obtain ⟨g1, g2, g3, g4⟩ := g_row r hr
  have key := up_to (fun (i : Nat) (_ : Unit) => wpS 59 2 [some (.inr (.inr (some (46 + 2 * r)))), some (.inl 10), some (.inl i)] [] (S μ) Φ) (fun i _ => IN f i) n (fun i _ hi hI hs' => by
    try dsimp only at hI hs' ⊢
    have v := hf i hi
    by_cases c : 0 ≤ f i ∧ f i < 10
    · have q := hs' () (fun j hj => by
        by_cases e : j = i
        · subst e; omega
        · exact hI j (by omega))
      rw [s1_iff [2] 200]
      simp (disch := omega) [sz_s, sz_0, gx_s, hx_r, hx_c, hx_b, hx_s, hx_i, hx_n, kx_s, kx_n, kx_i, cx_d, up_at, am_ctl, am_step, am_i1, am_i2, am_i2d, am_l1, am_l2, am_l2d, am_ldi, am_ldl, am_lda, am_sti, am_sta, am_stl, am_inc, am_i2l, am_l2i, am_lcmp, am_dup, am_dup2, am_pop1, am_fv, am_getf, am_putf, am_wr, am_ial, am_lal, am_bal, am_aal, am_ias, am_las, am_bas, am_alen, am_inst, am_cast, am_cpm, am_copy, am_tsw, am_pop, am_cat, am_cS, am_cI, am_cV, am_ri, am_rl, am_ra, am_rv, am_b1, am_b2, am_ent, am_en, am_isL, am_st1, am_st2, am_clr, am_cnd, cc_59, ac_59, nL_59, rb_59, np_129, ok_59_129, nL_129, tg_8_1, tg_8_0, List.getElem?_cons_succ, List.getElem?_cons_zero, nz_of, nzl_of, Int.toNat_add, Int.toNat_mul, tn_l, lt_t, lt_f, le_t, le_f, eq_t, eq_f, ltn_t, ltn_f, len_t, len_f, eqn_t, eqn_f, up_ne, up_up, g2, g3, g4, hn, hi, v, wp_within, c]
      simpa using q
    · replace k2 := k2 (fun h => c (by have := h i hi; omega))
      rw [s1_iff [2] 200]
      simp (disch := omega) [sz_s, sz_0, gx_s, hx_r, hx_c, hx_b, hx_s, hx_i, hx_n, kx_s, kx_n, kx_i, cx_d, up_at, am_ctl, am_step, am_i1, am_i2, am_i2d, am_l1, am_l2, am_l2d, am_ldi, am_ldl, am_lda, am_sti, am_sta, am_stl, am_inc, am_i2l, am_l2i, am_lcmp, am_dup, am_dup2, am_pop1, am_fv, am_getf, am_putf, am_wr, am_ial, am_lal, am_bal, am_aal, am_ias, am_las, am_bas, am_alen, am_inst, am_cast, am_cpm, am_copy, am_tsw, am_pop, am_cat, am_cS, am_cI, am_cV, am_ri, am_rl, am_ra, am_rv, am_b1, am_b2, am_ent, am_en, am_isL, am_st1, am_st2, am_clr, am_cnd, cc_59, ac_59, nL_59, rb_59, np_129, ok_59_129, nL_129, tg_8_1, tg_8_0, List.getElem?_cons_succ, List.getElem?_cons_zero, nz_of, nzl_of, Int.toNat_add, Int.toNat_mul, tn_l, lt_t, lt_f, le_t, le_f, eq_t, eq_f, ltn_t, ltn_f, len_t, len_f, eqn_t, eqn_f, up_ne, up_up, g2, g3, g4, hn, hi, v, wp_within, c]
      exact k2) (fun _ hI => by
    replace k1 := k1 hI
    rw [s1_iff [2] 200]
    simp (disch := omega) [sz_s, sz_0, gx_s, hx_r, hx_c, hx_b, hx_s, hx_i, hx_n, kx_s, kx_n, kx_i, cx_d, up_at, am_ctl, am_step, am_i1, am_i2, am_i2d, am_l1, am_l2, am_l2d, am_ldi, am_ldl, am_lda, am_sti, am_sta, am_stl, am_inc, am_i2l, am_l2i, am_lcmp, am_dup, am_dup2, am_pop1, am_fv, am_getf, am_putf, am_wr, am_ial, am_lal, am_bal, am_aal, am_ias, am_las, am_bas, am_alen, am_inst, am_cast, am_cpm, am_copy, am_tsw, am_pop, am_cat, am_cS, am_cI, am_cV, am_ri, am_rl, am_ra, am_rv, am_b1, am_b2, am_ent, am_en, am_isL, am_st1, am_st2, am_clr, am_cnd, cc_59, ac_59, nL_59, rb_59, np_129, ok_59_129, nL_129, tg_8_1, tg_8_0, List.getElem?_cons_succ, List.getElem?_cons_zero, nz_of, nzl_of, Int.toNat_add, Int.toNat_mul, tn_l, lt_t, lt_f, le_t, le_f, eq_t, eq_f, ltn_t, ltn_f, len_t, len_f, eqn_t, eqn_f, up_ne, up_up, g2, g3, g4, hn]
    exact k1) () (fun i hi => absurd hi (by omega))
  unfold wpM
  rw [s1_iff [2] 200]
  simp (disch := omega) [sz_s, sz_0, gx_s, hx_r, hx_c, hx_b, hx_s, hx_i, hx_n, kx_s, kx_n, kx_i, cx_d, up_at, am_ctl, am_step, am_i1, am_i2, am_i2d, am_l1, am_l2, am_l2d, am_ldi, am_ldl, am_lda, am_sti, am_sta, am_stl, am_inc, am_i2l, am_l2i, am_lcmp, am_dup, am_dup2, am_pop1, am_fv, am_getf, am_putf, am_wr, am_ial, am_lal, am_bal, am_aal, am_ias, am_las, am_bas, am_alen, am_inst, am_cast, am_cpm, am_copy, am_tsw, am_pop, am_cat, am_cS, am_cI, am_cV, am_ri, am_rl, am_ra, am_rv, am_b1, am_b2, am_ent, am_en, am_isL, am_st1, am_st2, am_clr, am_cnd, cc_59, ac_59, nL_59, rb_59, np_129, ok_59_129, nL_129, tg_8_1, tg_8_0, List.getElem?_cons_succ, List.getElem?_cons_zero, nz_of, nzl_of, Int.toNat_add, Int.toNat_mul, tn_l, lt_t, lt_f, le_t, le_f, eq_t, eq_f, ltn_t, ltn_f, len_t, len_f, eqn_t, eqn_f, up_ne, up_up]
  simpa using key
set_option maxHeartbeats 4000000 in
set_option maxRecDepth 100000 in
theorem wp_beginL {μ : Nat → Nat → Int} (r b n : Nat) (hr : r < 6) (hb : b < 6) (R M : Nat → Int) (h1 : μ (46 + 2 * r) 1 = n) (h2 : μ (46 + 2 * b) 1 = n) (hn : n ≤ 8) (hR : ∀ i, i < n → μ (47 + 2 * r) i = R i) (hM : ∀ i, i < n → μ (47 + 2 * b) i = M i) (iR : IN R n) (iM : IN M n) (Φ : Option AV → ST → Prop) (k : ∀ ν, (∀ k, ¬ (38 ≤ k ∧ k ≤ 42) → ν k = μ k) → LW ν n R M → (∀ t, t < 2 ^ n → ν 41 t = FW (okZ R M) n t) → (∀ t, t < 2 ^ n → ν 42 t = BH (okZ R M) n t) → Φ none (S ν)) : wpM 38 [.inr (.inr (some 38)), .inr (.inr (some (46 + 2 * r))), .inr (.inr (some (46 + 2 * b)))] (S μ) Φ := by
  obtain ⟨g1, g2, g3, g4⟩ := g_row r hr
  obtain ⟨f1, f2, f3, f4⟩ := g_row b hb
  have hL : LW (rfz (rfz (am_up μ 38 5 n) 39 0 n (fun k => μ (47 + 2 * r) k)) 40 0 n (fun k => μ (47 + 2 * b) k)) n R M := by
    refine ⟨⟨by rw [rfz_ne _ _ _ _ _ _ (by decide), rfz_ne _ _ _ _ _ _ (by decide), up_at, if_pos ⟨rfl, rfl⟩], hn⟩, fun i hi => ⟨⟨?_, ?_⟩, iR i hi, iM i hi⟩⟩
    · rw [rfz_ne _ _ _ _ _ _ (by decide), rfz_at, if_pos (by omega), Nat.sub_zero]; exact hR i hi
    · rw [rfz_at, if_pos (by omega), Nat.sub_zero]; exact hM i hi
  have fr : ∀ k, ¬ (38 ≤ k ∧ k ≤ 42) → (rfz (rfz (am_up μ 38 5 n) 39 0 n (fun k => μ (47 + 2 * r) k)) 40 0 n (fun k => μ (47 + 2 * b) k)) k = μ k := fun k hk => by
    rw [rfz_ne _ _ _ _ _ _ (by omega), rfz_ne _ _ _ _ _ _ (by omega), up_ne _ _ _ (by omega)]
  have A := fun Φ k => wp_addAhead hL Φ k
  have e : (rfz (rfz (am_up μ 38 5 n) 39 0 n (fun k => μ (47 + 2 * r) k)) 40 0 n (fun k => μ (47 + 2 * b) k)) = am_row (am_row (am_up μ 38 5 n) 39 (fun j => if j < n then μ (47 + 2 * r) j else μ 39 j)) 40 (fun j => if j < n then μ (47 + 2 * b) j else μ 40 j) := by
    unfold rfz
    simp [up_at, row_at]
  rw [e] at A fr
  clear hL
  unfold wpM
  rw [s1_iff [] 200]
  simp (disch := omega) [sz_s, sz_0, gx_s, hx_r, hx_c, hx_b, hx_s, hx_i, hx_n, kx_s, kx_n, kx_i, cx_d, up_at, am_ctl, am_step, am_i1, am_i2, am_i2d, am_l1, am_l2, am_l2d, am_ldi, am_ldl, am_lda, am_sti, am_sta, am_stl, am_inc, am_i2l, am_l2i, am_lcmp, am_dup, am_dup2, am_pop1, am_fv, am_getf, am_putf, am_wr, am_ial, am_lal, am_bal, am_aal, am_ias, am_las, am_bas, am_alen, am_inst, am_cast, am_cpm, am_copy, am_tsw, am_pop, am_cat, am_cS, am_cI, am_cV, am_ri, am_rl, am_ra, am_rv, am_b1, am_b2, am_ent, am_en, am_isL, am_st1, am_st2, am_clr, am_cnd, cc_38, ac_38, nL_38, rb_38, np_41, ok_38_41, nL_41, vd_41_5, np_42, ok_38_42, nL_42, vd_42_5, tg_8_1, tg_8_0, tg_5_0, tg_5_5, tg_5_1, List.getElem?_cons_succ, List.getElem?_cons_zero, nz_of, nzl_of, Int.toNat_add, Int.toNat_mul, tn_l, lt_t, lt_f, le_t, le_f, eq_t, eq_f, ltn_t, ltn_f, len_t, len_f, eqn_t, eqn_f, up_ne, up_up, sh_38, sh_39, sh_40, rf_38_0, rf_38_1, g2, g3, g4, f2, f3, f4, h1, h2, row_at]
  refine A _ (fun τ t1 t2 => ?_)
  have hL2 : LW τ n R M := by
    rw [← e] at t1
    refine LW_as (μ := (rfz (rfz (am_up μ 38 5 n) 39 0 n (fun k => μ (47 + 2 * r) k)) 40 0 n (fun k => μ (47 + 2 * b) k))) ?_ (fun k hk => t1 k (by omega))
    refine ⟨⟨by rw [rfz_ne _ _ _ _ _ _ (by decide), rfz_ne _ _ _ _ _ _ (by decide), up_at, if_pos ⟨rfl, rfl⟩], hn⟩, fun i hi => ⟨⟨?_, ?_⟩, iR i hi, iM i hi⟩⟩
    · rw [rfz_ne _ _ _ _ _ _ (by decide), rfz_at, if_pos (by omega), Nat.sub_zero]; exact hR i hi
    · rw [rfz_at, if_pos (by omega), Nat.sub_zero]; exact hM i hi
  simp (disch := omega) [sz_s, sz_0, gx_s, hx_r, hx_c, hx_b, hx_s, hx_i, hx_n, kx_s, kx_n, kx_i, cx_d, up_at, am_ctl, am_step, am_i1, am_i2, am_i2d, am_l1, am_l2, am_l2d, am_ldi, am_ldl, am_lda, am_sti, am_sta, am_stl, am_inc, am_i2l, am_l2i, am_lcmp, am_dup, am_dup2, am_pop1, am_fv, am_getf, am_putf, am_wr, am_ial, am_lal, am_bal, am_aal, am_ias, am_las, am_bas, am_alen, am_inst, am_cast, am_cpm, am_copy, am_tsw, am_pop, am_cat, am_cS, am_cI, am_cV, am_ri, am_rl, am_ra, am_rv, am_b1, am_b2, am_ent, am_en, am_isL, am_st1, am_st2, am_clr, am_cnd, cc_38, ac_38, nL_38, rb_38, np_41, ok_38_41, nL_41, vd_41_5, np_42, ok_38_42, nL_42, vd_42_5, tg_8_1, tg_8_0, tg_5_0, tg_5_5, tg_5_1, List.getElem?_cons_succ, List.getElem?_cons_zero, nz_of, nzl_of, Int.toNat_add, Int.toNat_mul, tn_l, lt_t, lt_f, le_t, le_f, eq_t, eq_f, ltn_t, ltn_f, len_t, len_f, eqn_t, eqn_f, up_ne, up_up, sh_38]
  refine wp_addBehind hL2 _ (fun υ u1 u2 => ?_)
  replace k := k υ (fun k hk => by rw [u1 k (by omega), t1 k (by omega)]; exact fr k hk) (LW_as hL2 (fun k hk => u1 k (by omega))) (fun t ht => by rw [u1 41 (by decide)]; exact t2 t ht) u2
  simp (disch := omega) [sz_s, sz_0, gx_s, hx_r, hx_c, hx_b, hx_s, hx_i, hx_n, kx_s, kx_n, kx_i, cx_d, up_at, am_ctl, am_step, am_i1, am_i2, am_i2d, am_l1, am_l2, am_l2d, am_ldi, am_ldl, am_lda, am_sti, am_sta, am_stl, am_inc, am_i2l, am_l2i, am_lcmp, am_dup, am_dup2, am_pop1, am_fv, am_getf, am_putf, am_wr, am_ial, am_lal, am_bal, am_aal, am_ias, am_las, am_bas, am_alen, am_inst, am_cast, am_cpm, am_copy, am_tsw, am_pop, am_cat, am_cS, am_cI, am_cV, am_ri, am_rl, am_ra, am_rv, am_b1, am_b2, am_ent, am_en, am_isL, am_st1, am_st2, am_clr, am_cnd, cc_38, ac_38, nL_38, rb_38, np_41, ok_38_41, nL_41, vd_41_5, np_42, ok_38_42, nL_42, vd_42_5, tg_8_1, tg_8_0, tg_5_0, tg_5_5, tg_5_1, List.getElem?_cons_succ, List.getElem?_cons_zero, nz_of, nzl_of, Int.toNat_add, Int.toNat_mul, tn_l, lt_t, lt_f, le_t, le_f, eq_t, eq_f, ltn_t, ltn_f, len_t, len_f, eqn_t, eqn_f, up_ne, up_up]
  exact k
