/-! leading of the class: sets ahead and behind -/
def LW (μ : Nat → Nat → Int) (n : Nat) (R M : Nat → Int) : Prop := (μ 38 5 = n ∧ n ≤ 8) ∧ ∀ i, i < n → (μ 39 i = R i ∧ μ 40 i = M i) ∧ (0 ≤ R i ∧ R i ≤ 9) ∧ 0 ≤ M i ∧ M i ≤ 9
theorem LW_as {μ ν : Nat → Nat → Int} {n : Nat} {R M : Nat → Int} (h : LW μ n R M) (e : ∀ k, k = 38 ∨ k = 39 ∨ k = 40 → ν k = μ k) : LW ν n R M := by
  obtain ⟨⟨h1, h2⟩, h3⟩ := h
  refine ⟨⟨by rw [e 38 (by omega)]; exact h1, h2⟩, fun i hi => ?_⟩
  rw [e 39 (by omega), e 40 (by omega)]
  exact h3 i hi
set_option maxRecDepth 100000 in
theorem wp_canLead {μ : Nat → Nat → Int} {n : Nat} {R M : Nat → Int} (h : LW μ n R M) (k m T : Nat) (hk : k < n) (hm : m < n) (hT : T < 256) (Φ : Option AV → ST → Prop) : wpM 40 [.inr (.inr (some 38)), .inl k, .inl m, .inl T] (S μ) Φ ↔ Φ (some (.inl (if T.testBit m = false ∧ okZ R M k m = true then 1 else 0))) (S μ) := by
  have hn := h.1.2
  obtain ⟨⟨a1, -⟩, a2, -⟩ := h.2 k hk
  obtain ⟨⟨-, b1⟩, -, b2⟩ := h.2 m hm
  have b := bit_r T hT m (by omega)
  have ab : ∀ (σ : ST) (Φ : Option AV → ST → Prop), wpM 252 [.inl (R k - M m)] σ Φ ↔ Φ (some (.inl (absZ (R k - M m)))) σ := fun σ Φ => by
    rw [wp_abs, absZ_nz (by omega)]
  have ra := absZ_rng (a := R k - M m) (b := 9) (by omega)
  have ok : okZ R M k m = decide (absZ (R k - M m) ≤ 1) := rfl
  rw [ok]
  unfold wpM
  rcases c : T.testBit m with _ | _
  · rw [c] at b
    generalize absZ (R k - M m) = d at *
    by_cases e : d ≤ 1
    · rw [if_pos (by simp [e])]
      rw [s1_iff [] 200]
      simp (disch := omega) [sz_s, sz_0, gx_s, hx_r, hx_c, hx_b, hx_s, hx_i, hx_n, kx_s, kx_n, kx_i, cx_d, up_at, am_ctl, am_step, am_i1, am_i2, am_i2d, am_l1, am_l2, am_l2d, am_ldi, am_ldl, am_lda, am_sti, am_sta, am_stl, am_inc, am_i2l, am_l2i, am_lcmp, am_dup, am_dup2, am_pop1, am_fv, am_getf, am_putf, am_wr, am_ial, am_lal, am_bal, am_aal, am_ias, am_las, am_bas, am_alen, am_inst, am_cast, am_cpm, am_copy, am_tsw, am_pop, am_cat, am_cS, am_cI, am_cV, am_ri, am_rl, am_ra, am_rv, am_b1, am_b2, am_ent, am_en, am_isL, am_st1, am_st2, am_clr, am_cnd, cc_40, ac_40, nL_40, rb_40, np_252, ok_40_252, nL_252, tg_5_0, tg_5_1, List.getElem?_cons_succ, List.getElem?_cons_zero, nz_of, nzl_of, Int.toNat_add, Int.toNat_mul, tn_l, lt_t, lt_f, le_t, le_f, eq_t, eq_f, ltn_t, ltn_f, len_t, len_f, eqn_t, eqn_f, up_ne, up_up, sh_38, sh_39, sh_40, rf_38_0, rf_38_1, b, a1, b1, ab]
    · rw [if_neg (by simp [e])]
      rw [s1_iff [] 200]
      simp (disch := omega) [sz_s, sz_0, gx_s, hx_r, hx_c, hx_b, hx_s, hx_i, hx_n, kx_s, kx_n, kx_i, cx_d, up_at, am_ctl, am_step, am_i1, am_i2, am_i2d, am_l1, am_l2, am_l2d, am_ldi, am_ldl, am_lda, am_sti, am_sta, am_stl, am_inc, am_i2l, am_l2i, am_lcmp, am_dup, am_dup2, am_pop1, am_fv, am_getf, am_putf, am_wr, am_ial, am_lal, am_bal, am_aal, am_ias, am_las, am_bas, am_alen, am_inst, am_cast, am_cpm, am_copy, am_tsw, am_pop, am_cat, am_cS, am_cI, am_cV, am_ri, am_rl, am_ra, am_rv, am_b1, am_b2, am_ent, am_en, am_isL, am_st1, am_st2, am_clr, am_cnd, cc_40, ac_40, nL_40, rb_40, np_252, ok_40_252, nL_252, tg_5_0, tg_5_1, List.getElem?_cons_succ, List.getElem?_cons_zero, nz_of, nzl_of, Int.toNat_add, Int.toNat_mul, tn_l, lt_t, lt_f, le_t, le_f, eq_t, eq_f, ltn_t, ltn_f, len_t, len_f, eqn_t, eqn_f, up_ne, up_up, sh_38, sh_39, sh_40, rf_38_0, rf_38_1, b, a1, b1, ab]
  · rw [c] at b
    rw [if_neg (by simp)]
    rw [s1_iff [] 200]
    simp (disch := omega) [sz_s, sz_0, gx_s, hx_r, hx_c, hx_b, hx_s, hx_i, hx_n, kx_s, kx_n, kx_i, cx_d, up_at, am_ctl, am_step, am_i1, am_i2, am_i2d, am_l1, am_l2, am_l2d, am_ldi, am_ldl, am_lda, am_sti, am_sta, am_stl, am_inc, am_i2l, am_l2i, am_lcmp, am_dup, am_dup2, am_pop1, am_fv, am_getf, am_putf, am_wr, am_ial, am_lal, am_bal, am_aal, am_ias, am_las, am_bas, am_alen, am_inst, am_cast, am_cpm, am_copy, am_tsw, am_pop, am_cat, am_cS, am_cI, am_cV, am_ri, am_rl, am_ra, am_rv, am_b1, am_b2, am_ent, am_en, am_isL, am_st1, am_st2, am_clr, am_cnd, cc_40, ac_40, nL_40, rb_40, np_252, ok_40_252, nL_252, tg_5_0, tg_5_1, List.getElem?_cons_succ, List.getElem?_cons_zero, nz_of, nzl_of, Int.toNat_add, Int.toNat_mul, tn_l, lt_t, lt_f, le_t, le_f, eq_t, eq_f, ltn_t, ltn_f, len_t, len_f, eqn_t, eqn_f, up_ne, up_up, b]
set_option maxRecDepth 100000 in
theorem wp_allM {μ : Nat → Nat → Int} {n : Nat} (h : μ 38 5 = n) (hn : n ≤ 8) (al : Nat) (ha : al = 2 ^ n - 1) (Φ : Option AV → ST → Prop) : wpM 39 [.inr (.inr (some 38))] (S μ) Φ ↔ Φ (some (.inl al)) (S μ) := by
  have e := bit_a n (by omega)
  rw [← ha] at e
  unfold wpM
  rw [s1_iff [] 200]
  simp (disch := omega) [sz_s, sz_0, gx_s, hx_r, hx_c, hx_b, hx_s, hx_i, hx_n, kx_s, kx_n, kx_i, cx_d, up_at, am_ctl, am_step, am_i1, am_i2, am_i2d, am_l1, am_l2, am_l2d, am_ldi, am_ldl, am_lda, am_sti, am_sta, am_stl, am_inc, am_i2l, am_l2i, am_lcmp, am_dup, am_dup2, am_pop1, am_fv, am_getf, am_putf, am_wr, am_ial, am_lal, am_bal, am_aal, am_ias, am_las, am_bas, am_alen, am_inst, am_cast, am_cpm, am_copy, am_tsw, am_pop, am_cat, am_cS, am_cI, am_cV, am_ri, am_rl, am_ra, am_rv, am_b1, am_b2, am_ent, am_en, am_isL, am_st1, am_st2, am_clr, am_cnd, cc_39, ac_39, nL_39, rb_39, tg_5_5, List.getElem?_cons_succ, List.getElem?_cons_zero, nz_of, nzl_of, Int.toNat_add, Int.toNat_mul, tn_l, lt_t, lt_f, le_t, le_f, eq_t, eq_f, ltn_t, ltn_f, len_t, len_f, eqn_t, eqn_f, up_ne, up_up, sh_38, h, e]
theorem wp_bitN (T : Nat) (hT : T < 256) (σ : ST) (Φ : Option AV → ST → Prop) : wpM 253 [.inl T] σ Φ ↔ Φ (some (.inl (pN T : Nat))) σ := by
  rw [wp_bits T hT, pN_e]
set_option maxHeartbeats 8000000 in
set_option maxRecDepth 100000 in
theorem wp_addAhead {μ : Nat → Nat → Int} {n : Nat} {R M : Nat → Int} (h : LW μ n R M) (Φ : Option AV → ST → Prop) (k : ∀ ν, (∀ k, ¬ k = 41 → ν k = μ k) → (∀ t, t < 2 ^ n → ν 41 t = FW (okZ R M) n t) → Φ none (S ν)) : wpM 41 [.inr (.inr (some 38))] (S μ) Φ := by
  have hn := h.1.2
  have p8 := pow8 hn
  have p0 := Nat.two_pow_pos n
  obtain ⟨al, hal⟩ : ∃ al, al = 2 ^ n - 1 := ⟨_, rfl⟩
  generalize hok : okZ R M = ok at *
  have key := up_to (fun (T : Nat) (s : (Nat → Nat → Int) × Option AV × Option AV) => wpS 41 17 [some (.inr (.inr (some 38))), some (.inl T), s.2.1, s.2.2] [] (S s.1) Φ) (fun T s => (∀ k, ¬ k = 41 → s.1 k = μ k) ∧ ∀ t, t < 2 ^ n → s.1 41 t = aZ ok n T 0 t) al (fun T s hT hI hs' => by
    obtain ⟨ν, l2, l3⟩ := s
    try dsimp only at hI hs' ⊢
    obtain ⟨i1, i2⟩ := hI
    have hν : LW ν n R M := LW_as h (fun k hk => i1 k (by omega))
    have A := fun Φ => wp_allM hν.1.1 hn al hal Φ
    have pl := pN_lt hn (t := T) (by omega) (by omega)
    have inner := up_to (fun (m : Nat) (ν : Nat → Nat → Int) => wpS 41 32 [some (.inr (.inr (some 38))), some (.inl T), some (.inl (pN T : Nat)), some (.inl m)] [] (S ν) Φ) (fun m ν => (∀ k, ¬ k = 41 → ν k = μ k) ∧ ∀ t, t < 2 ^ n → ν 41 t = aZ ok n T m t) n (fun m ν hm hI hs'' => by
      try dsimp only at hI hs'' ⊢
      obtain ⟨j1, j2⟩ := hI
      have hν : LW ν n R M := LW_as h (fun k hk => j1 k (by omega))
      have v5 := hν.1.1
      have C := fun Φ => wp_canLead hν (pN T) m T pl hm (by omega) Φ
      rw [hok] at C
      by_cases c : T.testBit m = false ∧ ok (pN T) m = true
      · have e1 := aZ_add hn (T := T) (M := m) (by omega) hm c.1 c.2
        have bo := bit_o T (by omega) m (by omega)
        have lt1 := or_lt_n (S := T) (n := n) (h := m) (by omega) hm
        have ns := fun (t : Nat) => aZ_same hn (ok := ok) (T := T) (M := m) (t := t)
        have f1 := j2 T (by omega)
        rw [aZ_fin m hn (by omega) (Nat.le_refl T)] at f1
        have f2 := j2 _ lt1
        have r1 := FW_rng (ok := ok) hn T
        have r2 := aZ_rng (ok := ok) (T := T) (M := m + 1) hn lt1
        have r3 := FW_rng (ok := ok) hn (T ||| 2 ^ m)
        have r4 := aZ_rng (ok := ok) (T := T) (M := m) hn lt1
        simp only [c, and_self, if_true] at C
        generalize hu : T ||| 2 ^ m = u at *
        rw [e1] at r2
        have q := hs'' (am_up ν 41 u (aZ ok n T m u + FW ok n T)) ⟨fun k hk => by rw [up_ne _ _ _ hk]; exact j1 k hk, fun t ht => by
          rw [up_at]
          by_cases e : t = u
          · subst e; rw [if_pos ⟨rfl, rfl⟩, e1]
          · rw [if_neg (fun q => e q.2), j2 t ht, ns t ht (fun q => e q.2)]⟩
        clear ns e1 hs'' j2
        generalize aZ ok n T m u = x at *
        generalize FW ok n T = y at *
        rw [s1_iff [32] 200]
        simp (disch := omega) [sz_s, sz_0, gx_s, hx_r, hx_c, hx_b, hx_s, hx_i, hx_n, kx_s, kx_n, kx_i, cx_d, up_at, am_ctl, am_step, am_i1, am_i2, am_i2d, am_l1, am_l2, am_l2d, am_ldi, am_ldl, am_lda, am_sti, am_sta, am_stl, am_inc, am_i2l, am_l2i, am_lcmp, am_dup, am_dup2, am_pop1, am_fv, am_getf, am_putf, am_wr, am_ial, am_lal, am_bal, am_aal, am_ias, am_las, am_bas, am_alen, am_inst, am_cast, am_cpm, am_copy, am_tsw, am_pop, am_cat, am_cS, am_cI, am_cV, am_ri, am_rl, am_ra, am_rv, am_b1, am_b2, am_ent, am_en, am_isL, am_st1, am_st2, am_clr, am_cnd, cc_41, ac_41, nL_41, rb_41, np_249, ok_41_249, nL_249, np_253, ok_41_253, nL_253, np_39, ok_41_39, nL_39, vd_39_5, np_40, ok_41_40, nL_40, vd_40_5, tg_5_2, tg_5_5, List.getElem?_cons_succ, List.getElem?_cons_zero, nz_of, nzl_of, Int.toNat_add, Int.toNat_mul, tn_l, lt_t, lt_f, le_t, le_f, eq_t, eq_f, ltn_t, ltn_f, len_t, len_f, eqn_t, eqn_f, up_ne, up_up, sh_38, sh_41, rf_38_2, v5, C, bo, f1, f2]
        simpa using q
      · have q := hs'' ν ⟨j1, fun t ht => by rw [j2 t ht, aZ_same hn ht (fun q => c q.1)]⟩
        rw [if_neg c] at C
        rw [s1_iff [32] 200]
        simp (disch := omega) [sz_s, sz_0, gx_s, hx_r, hx_c, hx_b, hx_s, hx_i, hx_n, kx_s, kx_n, kx_i, cx_d, up_at, am_ctl, am_step, am_i1, am_i2, am_i2d, am_l1, am_l2, am_l2d, am_ldi, am_ldl, am_lda, am_sti, am_sta, am_stl, am_inc, am_i2l, am_l2i, am_lcmp, am_dup, am_dup2, am_pop1, am_fv, am_getf, am_putf, am_wr, am_ial, am_lal, am_bal, am_aal, am_ias, am_las, am_bas, am_alen, am_inst, am_cast, am_cpm, am_copy, am_tsw, am_pop, am_cat, am_cS, am_cI, am_cV, am_ri, am_rl, am_ra, am_rv, am_b1, am_b2, am_ent, am_en, am_isL, am_st1, am_st2, am_clr, am_cnd, cc_41, ac_41, nL_41, rb_41, np_249, ok_41_249, nL_249, np_253, ok_41_253, nL_253, np_39, ok_41_39, nL_39, vd_39_5, np_40, ok_41_40, nL_40, vd_40_5, tg_5_2, tg_5_5, List.getElem?_cons_succ, List.getElem?_cons_zero, nz_of, nzl_of, Int.toNat_add, Int.toNat_mul, tn_l, lt_t, lt_f, le_t, le_f, eq_t, eq_f, ltn_t, ltn_f, len_t, len_f, eqn_t, eqn_f, up_ne, up_up, sh_38, v5, C]
        simpa using q) (fun ν hI => by
      try dsimp only at hI ⊢
      obtain ⟨j1, j2⟩ := hI
      have hν : LW ν n R M := LW_as h (fun k hk => j1 k (by omega))
      have v5 := hν.1.1
      have q := hs' (ν, some (.inl (pN T : Nat)), some (.inl n)) ⟨j1, fun t ht => by (try dsimp only); rw [j2 t ht, aZ_row]⟩
      rw [s1_iff [17, 32] 200]
      simp (disch := omega) [sz_s, sz_0, gx_s, hx_r, hx_c, hx_b, hx_s, hx_i, hx_n, kx_s, kx_n, kx_i, cx_d, up_at, am_ctl, am_step, am_i1, am_i2, am_i2d, am_l1, am_l2, am_l2d, am_ldi, am_ldl, am_lda, am_sti, am_sta, am_stl, am_inc, am_i2l, am_l2i, am_lcmp, am_dup, am_dup2, am_pop1, am_fv, am_getf, am_putf, am_wr, am_ial, am_lal, am_bal, am_aal, am_ias, am_las, am_bas, am_alen, am_inst, am_cast, am_cpm, am_copy, am_tsw, am_pop, am_cat, am_cS, am_cI, am_cV, am_ri, am_rl, am_ra, am_rv, am_b1, am_b2, am_ent, am_en, am_isL, am_st1, am_st2, am_clr, am_cnd, cc_41, ac_41, nL_41, rb_41, np_249, ok_41_249, nL_249, np_253, ok_41_253, nL_253, np_39, ok_41_39, nL_39, vd_39_5, np_40, ok_41_40, nL_40, vd_40_5, tg_5_2, tg_5_5, List.getElem?_cons_succ, List.getElem?_cons_zero, nz_of, nzl_of, Int.toNat_add, Int.toNat_mul, tn_l, lt_t, lt_f, le_t, le_f, eq_t, eq_f, ltn_t, ltn_f, len_t, len_f, eqn_t, eqn_f, up_ne, up_up, sh_38, v5]
      simpa using q) ν ⟨i1, i2⟩
    try dsimp only at inner
    rw [s1_iff [17, 32] 200]
    simp (disch := omega) [sz_s, sz_0, gx_s, hx_r, hx_c, hx_b, hx_s, hx_i, hx_n, kx_s, kx_n, kx_i, cx_d, up_at, am_ctl, am_step, am_i1, am_i2, am_i2d, am_l1, am_l2, am_l2d, am_ldi, am_ldl, am_lda, am_sti, am_sta, am_stl, am_inc, am_i2l, am_l2i, am_lcmp, am_dup, am_dup2, am_pop1, am_fv, am_getf, am_putf, am_wr, am_ial, am_lal, am_bal, am_aal, am_ias, am_las, am_bas, am_alen, am_inst, am_cast, am_cpm, am_copy, am_tsw, am_pop, am_cat, am_cS, am_cI, am_cV, am_ri, am_rl, am_ra, am_rv, am_b1, am_b2, am_ent, am_en, am_isL, am_st1, am_st2, am_clr, am_cnd, cc_41, ac_41, nL_41, rb_41, np_249, ok_41_249, nL_249, np_253, ok_41_253, nL_253, np_39, ok_41_39, nL_39, vd_39_5, np_40, ok_41_40, nL_40, vd_40_5, tg_5_2, tg_5_5, List.getElem?_cons_succ, List.getElem?_cons_zero, nz_of, nzl_of, Int.toNat_add, Int.toNat_mul, tn_l, lt_t, lt_f, le_t, le_f, eq_t, eq_f, ltn_t, ltn_f, len_t, len_f, eqn_t, eqn_f, up_ne, up_up, sh_38, A, wp_bitN T (by omega)]
    simpa using inner) (fun s hI => by
    obtain ⟨ν, l2, l3⟩ := s
    try dsimp only at hI ⊢
    obtain ⟨i1, i2⟩ := hI
    have hν : LW ν n R M := LW_as h (fun k hk => i1 k (by omega))
    have A := fun Φ => wp_allM hν.1.1 hn al hal Φ
    replace k := k ν i1 (fun t ht => by rw [i2 t ht, aZ_fin 0 hn ht (by omega)])
    rw [s1_iff [17] 200]
    simp (disch := omega) [sz_s, sz_0, gx_s, hx_r, hx_c, hx_b, hx_s, hx_i, hx_n, kx_s, kx_n, kx_i, cx_d, up_at, am_ctl, am_step, am_i1, am_i2, am_i2d, am_l1, am_l2, am_l2d, am_ldi, am_ldl, am_lda, am_sti, am_sta, am_stl, am_inc, am_i2l, am_l2i, am_lcmp, am_dup, am_dup2, am_pop1, am_fv, am_getf, am_putf, am_wr, am_ial, am_lal, am_bal, am_aal, am_ias, am_las, am_bas, am_alen, am_inst, am_cast, am_cpm, am_copy, am_tsw, am_pop, am_cat, am_cS, am_cI, am_cV, am_ri, am_rl, am_ra, am_rv, am_b1, am_b2, am_ent, am_en, am_isL, am_st1, am_st2, am_clr, am_cnd, cc_41, ac_41, nL_41, rb_41, np_249, ok_41_249, nL_249, np_253, ok_41_253, nL_253, np_39, ok_41_39, nL_39, vd_39_5, np_40, ok_41_40, nL_40, vd_40_5, tg_5_2, tg_5_5, List.getElem?_cons_succ, List.getElem?_cons_zero, nz_of, nzl_of, Int.toNat_add, Int.toNat_mul, tn_l, lt_t, lt_f, le_t, le_f, eq_t, eq_f, ltn_t, ltn_f, len_t, len_f, eqn_t, eqn_f, up_ne, up_up, sh_38, A]
    exact k)
  have F := wp_fill 41 256 0 (by omega) sh_41 (by decide) μ
  have q := key (am_up (fl μ 41 256 0) 41 0 1, none, none) ⟨fun k hk => by (try dsimp only); rw [up_ne _ _ _ hk, fl_ne _ _ _ _ _ hk], fun t ht => by
    try dsimp only
    rw [up_at]
    by_cases e : t = 0
    · subst e; rw [if_pos ⟨rfl, rfl⟩]; unfold aZ; rw [if_pos rfl]
    · rw [if_neg (fun q => e q.2), fl_in _ _ _ _ _ (by omega)]
      unfold aZ
      rw [if_neg e]
      refine (sumZ_zero (fun m hm => ?_)).symm
      rw [if_neg (fun q => by omega)]⟩
  try dsimp only at q
  unfold wpM
  rw [s1_iff [17] 200]
  simp (disch := omega) [sz_s, sz_0, gx_s, hx_r, hx_c, hx_b, hx_s, hx_i, hx_n, kx_s, kx_n, kx_i, cx_d, up_at, am_ctl, am_step, am_i1, am_i2, am_i2d, am_l1, am_l2, am_l2d, am_ldi, am_ldl, am_lda, am_sti, am_sta, am_stl, am_inc, am_i2l, am_l2i, am_lcmp, am_dup, am_dup2, am_pop1, am_fv, am_getf, am_putf, am_wr, am_ial, am_lal, am_bal, am_aal, am_ias, am_las, am_bas, am_alen, am_inst, am_cast, am_cpm, am_copy, am_tsw, am_pop, am_cat, am_cS, am_cI, am_cV, am_ri, am_rl, am_ra, am_rv, am_b1, am_b2, am_ent, am_en, am_isL, am_st1, am_st2, am_clr, am_cnd, cc_41, ac_41, nL_41, rb_41, np_249, ok_41_249, nL_249, np_253, ok_41_253, nL_253, np_39, ok_41_39, nL_39, vd_39_5, np_40, ok_41_40, nL_40, vd_40_5, tg_5_2, tg_5_5, List.getElem?_cons_succ, List.getElem?_cons_zero, nz_of, nzl_of, Int.toNat_add, Int.toNat_mul, tn_l, lt_t, lt_f, le_t, le_f, eq_t, eq_f, ltn_t, ltn_f, len_t, len_f, eqn_t, eqn_f, up_ne, up_up, sh_38, sh_41, rf_38_2, F]
  simpa using q
