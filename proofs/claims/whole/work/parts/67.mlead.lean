/-! leading of the reference -/
def MW (μ : Nat → Nat → Int) (r b n : Nat) (R M : Nat → Int) : Prop := (μ 105 r = n ∧ n ≤ 8 ∧ r < 6 ∧ b < 6) ∧ ∀ i, i < n → (μ 104 (60 * r + i) = R i ∧ μ 104 (60 * b + i) = M i) ∧ (0 ≤ R i ∧ R i ≤ 9) ∧ 0 ≤ M i ∧ M i ≤ 9
theorem MW_as {μ ν : Nat → Nat → Int} {r b n : Nat} {R M : Nat → Int} (h : MW μ r b n R M) (e : ∀ k, k = 104 ∨ k = 105 → ν k = μ k) : MW ν r b n R M := by
  unfold MW at h ⊢
  rw [e 104 (by omega), e 105 (by omega)]
  exact h
set_option maxRecDepth 100000 in
theorem wm_fit {μ : Nat → Nat → Int} {r b n : Nat} {R M : Nat → Int} (h : MW μ r b n R M) (k m : Nat) (hk : k < n) (hm : m < n) (Φ : Option AV → ST → Prop) : wpM 229 [.inr (.inr (some 101)), .inl r, .inl k, .inl b, .inl m] (S μ) Φ ↔ Φ (some (.inl (if okZ R M k m = true then 1 else 0))) (S μ) := by
  obtain ⟨⟨-, hn, hr, hb⟩, h2⟩ := h
  obtain ⟨⟨a1, -⟩, a2, -⟩ := h2 k hk
  obtain ⟨⟨-, b1⟩, -, b2⟩ := h2 m hm
  have ab : ∀ (σ : ST) (Φ : Option AV → ST → Prop), wpM 159 [.inl (R k - M m)] σ Φ ↔ Φ (some (.inl (absZ (R k - M m)))) σ := fun σ Φ => by
    rw [wm_sizeOf, absZ_nz (by omega)]
  have ra := absZ_rng (a := R k - M m) (b := 9) (by omega)
  have ok : okZ R M k m = decide (absZ (R k - M m) ≤ 1) := rfl
  have z1 : (60 * (r : Int) + (k : Int)).toNat = 60 * r + k := by omega
  have z2 : (60 * (b : Int) + (m : Int)).toNat = 60 * b + m := by omega
  rw [ok]
  unfold wpM
  generalize absZ (R k - M m) = d at *
  by_cases e : d ≤ 1
  · rw [if_pos (by simp [e])]
    rw [s1_iff [] 200]
    simp (disch := omega) [sz_s, sz_0, gx_s, hx_r, hx_c, hx_b, hx_s, hx_i, hx_n, kx_s, kx_n, kx_i, cx_d, up_at, am_ctl, am_step, am_i1, am_i2, am_i2d, am_l1, am_l2, am_l2d, am_ldi, am_ldl, am_lda, am_sti, am_sta, am_stl, am_inc, am_i2l, am_l2i, am_lcmp, am_dup, am_dup2, am_pop1, am_fv, am_getf, am_putf, am_wr, am_ial, am_lal, am_bal, am_aal, am_ias, am_las, am_bas, am_alen, am_inst, am_cast, am_cpm, am_copy, am_tsw, am_pop, am_cat, am_cS, am_cI, am_cV, am_ri, am_rl, am_ra, am_rv, am_b1, am_b2, am_ent, am_en, am_isL, am_st1, am_st2, am_clr, am_cnd, cc_229, ac_229, nL_229, rb_229, np_159, ok_229_159, nL_159, tg_12_2, List.getElem?_cons_succ, List.getElem?_cons_zero, nz_of, nzl_of, Int.toNat_add, Int.toNat_mul, tn_l, lt_t, lt_f, le_t, le_f, eq_t, eq_f, ltn_t, ltn_f, len_t, len_f, eqn_t, eqn_f, up_ne, up_up, sh_101, sh_104, rf_101_2, z1, z2, a1, b1, ab]
  · rw [if_neg (by simp [e])]
    rw [s1_iff [] 200]
    simp (disch := omega) [sz_s, sz_0, gx_s, hx_r, hx_c, hx_b, hx_s, hx_i, hx_n, kx_s, kx_n, kx_i, cx_d, up_at, am_ctl, am_step, am_i1, am_i2, am_i2d, am_l1, am_l2, am_l2d, am_ldi, am_ldl, am_lda, am_sti, am_sta, am_stl, am_inc, am_i2l, am_l2i, am_lcmp, am_dup, am_dup2, am_pop1, am_fv, am_getf, am_putf, am_wr, am_ial, am_lal, am_bal, am_aal, am_ias, am_las, am_bas, am_alen, am_inst, am_cast, am_cpm, am_copy, am_tsw, am_pop, am_cat, am_cS, am_cI, am_cV, am_ri, am_rl, am_ra, am_rv, am_b1, am_b2, am_ent, am_en, am_isL, am_st1, am_st2, am_clr, am_cnd, cc_229, ac_229, nL_229, rb_229, np_159, ok_229_159, nL_159, tg_12_2, List.getElem?_cons_succ, List.getElem?_cons_zero, nz_of, nzl_of, Int.toNat_add, Int.toNat_mul, tn_l, lt_t, lt_f, le_t, le_f, eq_t, eq_f, ltn_t, ltn_f, len_t, len_f, eqn_t, eqn_f, up_ne, up_up, sh_101, sh_104, rf_101_2, z1, z2, a1, b1, ab]
theorem wm_onesN (T : Nat) (hT : T < 256) (σ : ST) (Φ : Option AV → ST → Prop) : wpM 225 [.inl T] σ Φ ↔ Φ (some (.inl (pN T : Nat))) σ := by
  rw [wm_ones T hT, pN_e]
set_option maxHeartbeats 8000000 in
set_option maxRecDepth 100000 in
theorem wm_findLeads {μ : Nat → Nat → Int} {r b n : Nat} {R M : Nat → Int} (h : MW μ r b n R M) (Φ : Option AV → ST → Prop) (k : ∀ ν, (∀ k, ¬ k = 119 → ν k = μ k) → (∀ t, t < 2 ^ n → ν 119 t = BH (okZ R M) n t) → Φ none (S ν)) : wpM 230 [.inr (.inr (some 101)), .inl r, .inl b] (S μ) Φ := by
  obtain ⟨hn5, hn, hr, hb⟩ := h.1
  have p8 := pow8 hn
  have p0 := Nat.two_pow_pos n
  obtain ⟨al, hal⟩ : ∃ al, al = 2 ^ n - 1 := ⟨_, rfl⟩
  have ea := bit_a n (by omega)
  rw [← hal] at ea
  obtain ⟨ok, hok⟩ : ∃ ok, okZ R M = ok := ⟨_, rfl⟩
  rw [hok] at k
  have key := up_to (fun (j : Nat) (s : (Nat → Nat → Int) × Option AV × Option AV × Option AV) => wpS 230 14 [some (.inr (.inr (some 101))), some (.inl r), some (.inl b), some (.inl n), some (.inl ((al : Int) - j)), s.2.1, s.2.2.1, none, s.2.2.2] [] (S s.1) Φ) (fun j s => (∀ k, ¬ k = 119 → s.1 k = μ k) ∧ ∀ t, t < 2 ^ n → al < t + j → s.1 119 t = BH ok n t) (al + 1) (fun j s hj hI hs' => by
    obtain ⟨ν, l5, l6, l8⟩ := s
    try dsimp only at hI hs' ⊢
    obtain ⟨i1, i2⟩ := hI
    obtain ⟨T, hT⟩ : ∃ T, T + j = al := ⟨al - j, by omega⟩
    have e1 : (al : Int) - j = T := by omega
    have e2 : (al : Int) - ((j + 1 : Nat) : Int) = (T : Int) - 1 := by omega
    have hm1 : (T : Int) + -1 = (T : Int) - 1 := by omega
    rw [e2] at hs'
    rw [e1]
    have O := fun σ Φ => wm_onesN T (by omega) σ Φ
    by_cases top : T = al
    · have pa := pN_all hn
      rw [← hal, ← top] at pa
      have q := hs' (am_up ν 119 T 1, some (.inl n), some (.inr (.inl 1)), some (.inl 0)) ⟨fun k hk => by (try dsimp only); rw [up_ne _ _ _ hk]; exact i1 k hk, fun t ht h2 => by
        try dsimp only
        have : t = T := by omega
        subst this
        rw [up_at, if_pos ⟨rfl, rfl⟩, top, hal, BH_all hn]⟩
      rw [pa] at O
      rw [s1_iff [14] 200]
      simp (disch := omega) [sz_s, sz_0, gx_s, hx_r, hx_c, hx_b, hx_s, hx_i, hx_n, kx_s, kx_n, kx_i, cx_d, up_at, am_ctl, am_step, am_i1, am_i2, am_i2d, am_l1, am_l2, am_l2d, am_ldi, am_ldl, am_lda, am_sti, am_sta, am_stl, am_inc, am_i2l, am_l2i, am_lcmp, am_dup, am_dup2, am_pop1, am_fv, am_getf, am_putf, am_wr, am_ial, am_lal, am_bal, am_aal, am_ias, am_las, am_bas, am_alen, am_inst, am_cast, am_cpm, am_copy, am_tsw, am_pop, am_cat, am_cS, am_cI, am_cV, am_ri, am_rl, am_ra, am_rv, am_b1, am_b2, am_ent, am_en, am_isL, am_st1, am_st2, am_clr, am_cnd, cc_230, ac_230, nL_230, rb_230, np_157, ok_230_157, nL_157, np_225, ok_230_225, nL_225, np_229, ok_230_229, nL_229, vd_229_12, tg_12_3, tg_12_24, List.getElem?_cons_succ, List.getElem?_cons_zero, nz_of, nzl_of, Int.toNat_add, Int.toNat_mul, tn_l, lt_t, lt_f, le_t, le_f, eq_t, eq_f, ltn_t, ltn_f, len_t, len_f, eqn_t, eqn_f, up_ne, up_up, sh_101, sh_119, rf_101_24, O, hm1]
      simpa using q
    · have pl := pN_lt hn (t := T) (by omega) (by omega)
      have bs := BH_s (ok := ok) hn (t := T) (by omega) (by omega)
      have rT : ∀ m, m ≤ n → 0 ≤ sumZ (fun m => if T.testBit m = false ∧ ok (pN T) m = true then BH ok n (T ||| 2 ^ m) else 0) m ∧ sumZ (fun m => if T.testBit m = false ∧ ok (pN T) m = true then BH ok n (T ||| 2 ^ m) else 0) m ≤ 134217728 := fun m hm => by
        have := @sumZ_rng (fun m => if T.testBit m = false ∧ ok (pN T) m = true then BH ok n (T ||| 2 ^ m) else 0) 0 16777216 m (fun i _ => by
          have := BH_rng (ok := ok) hn (T ||| 2 ^ i)
          try dsimp only
          split <;> omega)
        omega
      have hν : MW ν r b n R M := MW_as h (fun k hk => i1 k (by omega))
      have step : ∀ m, m < n → ((fun m : Nat => wpS 230 42 [some (.inr (.inr (some 101))), some (.inl r), some (.inl b), some (.inl n), some (.inl T), some (.inl (pN T : Nat)), some (.inr (.inl (sumZ (fun m => if T.testBit m = false ∧ ok (pN T) m = true then BH ok n (T ||| 2 ^ m) else 0) m))), none, some (.inl m)] [] (S ν) Φ) m ↔ (fun m : Nat => wpS 230 42 [some (.inr (.inr (some 101))), some (.inl r), some (.inl b), some (.inl n), some (.inl T), some (.inl (pN T : Nat)), some (.inr (.inl (sumZ (fun m => if T.testBit m = false ∧ ok (pN T) m = true then BH ok n (T ||| 2 ^ m) else 0) m))), none, some (.inl m)] [] (S ν) Φ) (m + 1)) := by
        intro m hm
        have H := fun σ Φ => wm_has T m (by omega) (by omega) σ Φ
        have F := fun Φ => wm_fit hν (pN T) m pl hm Φ
        rw [hok] at F
        have r1 := rT m (by omega)
        have r2 := rT (m + 1) (by omega)
        rw [sumZ_s] at r2
        dsimp only
        rw [sumZ_s]
        by_cases c1 : T.testBit m = false
        · rw [if_neg (by rw [c1]; decide)] at H
          by_cases c2 : ok (pN T) m = true
          · have bo := bit_o T (by omega) m (by omega)
            have lt1 := or_lt_n (S := T) (n := n) (h := m) (by omega) hm
            have gt1 := or_gt T (by omega) m (by omega) c1
            have f2 := i2 _ lt1 (by omega)
            rw [if_pos c2] at F
            rw [if_pos ⟨c1, c2⟩] at r2 ⊢
            generalize hu : T ||| 2 ^ m = u at *
            generalize sumZ (fun m => if T.testBit m = false ∧ ok (pN T) m = true then BH ok n (T ||| 2 ^ m) else 0) m = x at *
            have r3 := BH_rng (ok := ok) hn u
            generalize BH ok n u = y at *
            rw [s1_iff [42] 200]
            simp (disch := omega) [sz_s, sz_0, gx_s, hx_r, hx_c, hx_b, hx_s, hx_i, hx_n, kx_s, kx_n, kx_i, cx_d, up_at, am_ctl, am_step, am_i1, am_i2, am_i2d, am_l1, am_l2, am_l2d, am_ldi, am_ldl, am_lda, am_sti, am_sta, am_stl, am_inc, am_i2l, am_l2i, am_lcmp, am_dup, am_dup2, am_pop1, am_fv, am_getf, am_putf, am_wr, am_ial, am_lal, am_bal, am_aal, am_ias, am_las, am_bas, am_alen, am_inst, am_cast, am_cpm, am_copy, am_tsw, am_pop, am_cat, am_cS, am_cI, am_cV, am_ri, am_rl, am_ra, am_rv, am_b1, am_b2, am_ent, am_en, am_isL, am_st1, am_st2, am_clr, am_cnd, cc_230, ac_230, nL_230, rb_230, np_157, ok_230_157, nL_157, np_225, ok_230_225, nL_225, np_229, ok_230_229, nL_229, vd_229_12, tg_12_3, tg_12_24, List.getElem?_cons_succ, List.getElem?_cons_zero, nz_of, nzl_of, Int.toNat_add, Int.toNat_mul, tn_l, lt_t, lt_f, le_t, le_f, eq_t, eq_f, ltn_t, ltn_f, len_t, len_f, eqn_t, eqn_f, up_ne, up_up, sh_101, sh_119, rf_101_24, hm, pl, H, F, bo, f2]
          · rw [if_neg c2] at F
            rw [if_neg (fun q => c2 q.2)] at r2 ⊢
            rw [Int.add_zero]
            generalize sumZ (fun m => if T.testBit m = false ∧ ok (pN T) m = true then BH ok n (T ||| 2 ^ m) else 0) m = x at *
            rw [s1_iff [42] 200]
            simp (disch := omega) [sz_s, sz_0, gx_s, hx_r, hx_c, hx_b, hx_s, hx_i, hx_n, kx_s, kx_n, kx_i, cx_d, up_at, am_ctl, am_step, am_i1, am_i2, am_i2d, am_l1, am_l2, am_l2d, am_ldi, am_ldl, am_lda, am_sti, am_sta, am_stl, am_inc, am_i2l, am_l2i, am_lcmp, am_dup, am_dup2, am_pop1, am_fv, am_getf, am_putf, am_wr, am_ial, am_lal, am_bal, am_aal, am_ias, am_las, am_bas, am_alen, am_inst, am_cast, am_cpm, am_copy, am_tsw, am_pop, am_cat, am_cS, am_cI, am_cV, am_ri, am_rl, am_ra, am_rv, am_b1, am_b2, am_ent, am_en, am_isL, am_st1, am_st2, am_clr, am_cnd, cc_230, ac_230, nL_230, rb_230, np_157, ok_230_157, nL_157, np_225, ok_230_225, nL_225, np_229, ok_230_229, nL_229, vd_229_12, tg_12_3, tg_12_24, List.getElem?_cons_succ, List.getElem?_cons_zero, nz_of, nzl_of, Int.toNat_add, Int.toNat_mul, tn_l, lt_t, lt_f, le_t, le_f, eq_t, eq_f, ltn_t, ltn_f, len_t, len_f, eqn_t, eqn_f, up_ne, up_up, sh_101, hm, pl, H, F]
        · have c1' : T.testBit m = true := by
            rcases q : T.testBit m with _ | _
            · exact absurd q c1
            · rfl
          rw [if_pos c1'] at H
          rw [if_neg (fun q => c1 q.1)] at r2 ⊢
          rw [Int.add_zero]
          generalize sumZ (fun m => if T.testBit m = false ∧ ok (pN T) m = true then BH ok n (T ||| 2 ^ m) else 0) m = x at *
          rw [s1_iff [42] 200]
          simp (disch := omega) [sz_s, sz_0, gx_s, hx_r, hx_c, hx_b, hx_s, hx_i, hx_n, kx_s, kx_n, kx_i, cx_d, up_at, am_ctl, am_step, am_i1, am_i2, am_i2d, am_l1, am_l2, am_l2d, am_ldi, am_ldl, am_lda, am_sti, am_sta, am_stl, am_inc, am_i2l, am_l2i, am_lcmp, am_dup, am_dup2, am_pop1, am_fv, am_getf, am_putf, am_wr, am_ial, am_lal, am_bal, am_aal, am_ias, am_las, am_bas, am_alen, am_inst, am_cast, am_cpm, am_copy, am_tsw, am_pop, am_cat, am_cS, am_cI, am_cV, am_ri, am_rl, am_ra, am_rv, am_b1, am_b2, am_ent, am_en, am_isL, am_st1, am_st2, am_clr, am_cnd, cc_230, ac_230, nL_230, rb_230, np_157, ok_230_157, nL_157, np_225, ok_230_225, nL_225, np_229, ok_230_229, nL_229, vd_229_12, tg_12_3, tg_12_24, List.getElem?_cons_succ, List.getElem?_cons_zero, nz_of, nzl_of, Int.toNat_add, Int.toNat_mul, tn_l, lt_t, lt_f, le_t, le_f, eq_t, eq_f, ltn_t, ltn_f, len_t, len_f, eqn_t, eqn_f, up_ne, up_up, sh_101, hm, pl, H]
      have s0 := up_iff _ n step
      rw [sumZ_0, ← bs] at s0
      have q := hs' (am_up ν 119 T (BH ok n T), some (.inl (pN T : Nat)), some (.inr (.inl (BH ok n T))), some (.inl n)) ⟨fun k hk => by (try dsimp only); rw [up_ne _ _ _ hk]; exact i1 k hk, fun t ht h2 => by
        try dsimp only
        rw [up_at]
        by_cases e : t = T
        · subst e; rw [if_pos ⟨rfl, rfl⟩]
        · rw [if_neg (fun q => e q.2)]; exact i2 t ht (by omega)⟩
      have r3 := BH_rng (ok := ok) hn T
      clear bs rT step
      generalize BH ok n T = y at *
      rw [s1_iff [14, 42] 200]
      simp (disch := omega) [sz_s, sz_0, gx_s, hx_r, hx_c, hx_b, hx_s, hx_i, hx_n, kx_s, kx_n, kx_i, cx_d, up_at, am_ctl, am_step, am_i1, am_i2, am_i2d, am_l1, am_l2, am_l2d, am_ldi, am_ldl, am_lda, am_sti, am_sta, am_stl, am_inc, am_i2l, am_l2i, am_lcmp, am_dup, am_dup2, am_pop1, am_fv, am_getf, am_putf, am_wr, am_ial, am_lal, am_bal, am_aal, am_ias, am_las, am_bas, am_alen, am_inst, am_cast, am_cpm, am_copy, am_tsw, am_pop, am_cat, am_cS, am_cI, am_cV, am_ri, am_rl, am_ra, am_rv, am_b1, am_b2, am_ent, am_en, am_isL, am_st1, am_st2, am_clr, am_cnd, cc_230, ac_230, nL_230, rb_230, np_157, ok_230_157, nL_157, np_225, ok_230_225, nL_225, np_229, ok_230_229, nL_229, vd_229_12, tg_12_3, tg_12_24, List.getElem?_cons_succ, List.getElem?_cons_zero, nz_of, nzl_of, Int.toNat_add, Int.toNat_mul, tn_l, lt_t, lt_f, le_t, le_f, eq_t, eq_f, ltn_t, ltn_f, len_t, len_f, eqn_t, eqn_f, up_ne, up_up, sh_101, O, pl, show ¬ pN T = n by omega]
      refine s0.mpr ?_
      rw [s1_iff [14, 42] 200]
      simp (disch := omega) [sz_s, sz_0, gx_s, hx_r, hx_c, hx_b, hx_s, hx_i, hx_n, kx_s, kx_n, kx_i, cx_d, up_at, am_ctl, am_step, am_i1, am_i2, am_i2d, am_l1, am_l2, am_l2d, am_ldi, am_ldl, am_lda, am_sti, am_sta, am_stl, am_inc, am_i2l, am_l2i, am_lcmp, am_dup, am_dup2, am_pop1, am_fv, am_getf, am_putf, am_wr, am_ial, am_lal, am_bal, am_aal, am_ias, am_las, am_bas, am_alen, am_inst, am_cast, am_cpm, am_copy, am_tsw, am_pop, am_cat, am_cS, am_cI, am_cV, am_ri, am_rl, am_ra, am_rv, am_b1, am_b2, am_ent, am_en, am_isL, am_st1, am_st2, am_clr, am_cnd, cc_230, ac_230, nL_230, rb_230, np_157, ok_230_157, nL_157, np_225, ok_230_225, nL_225, np_229, ok_230_229, nL_229, vd_229_12, tg_12_3, tg_12_24, List.getElem?_cons_succ, List.getElem?_cons_zero, nz_of, nzl_of, Int.toNat_add, Int.toNat_mul, tn_l, lt_t, lt_f, le_t, le_f, eq_t, eq_f, ltn_t, ltn_f, len_t, len_f, eqn_t, eqn_f, up_ne, up_up, sh_101, sh_119, rf_101_24, pl, hm1]
      simpa using q) (fun s hI => by
    obtain ⟨ν, l5, l6, l8⟩ := s
    try dsimp only at hI ⊢
    obtain ⟨i1, i2⟩ := hI
    replace k := k ν i1 (fun t ht => i2 t ht (by omega))
    have e1 : (al : Int) - ((al + 1 : Nat) : Int) = -1 := by omega
    rw [e1]
    rw [s1_iff [14] 200]
    simp (disch := omega) [sz_s, sz_0, gx_s, hx_r, hx_c, hx_b, hx_s, hx_i, hx_n, kx_s, kx_n, kx_i, cx_d, up_at, am_ctl, am_step, am_i1, am_i2, am_i2d, am_l1, am_l2, am_l2d, am_ldi, am_ldl, am_lda, am_sti, am_sta, am_stl, am_inc, am_i2l, am_l2i, am_lcmp, am_dup, am_dup2, am_pop1, am_fv, am_getf, am_putf, am_wr, am_ial, am_lal, am_bal, am_aal, am_ias, am_las, am_bas, am_alen, am_inst, am_cast, am_cpm, am_copy, am_tsw, am_pop, am_cat, am_cS, am_cI, am_cV, am_ri, am_rl, am_ra, am_rv, am_b1, am_b2, am_ent, am_en, am_isL, am_st1, am_st2, am_clr, am_cnd, cc_230, ac_230, nL_230, rb_230, np_157, ok_230_157, nL_157, np_225, ok_230_225, nL_225, np_229, ok_230_229, nL_229, vd_229_12, tg_12_3, tg_12_24, List.getElem?_cons_succ, List.getElem?_cons_zero, nz_of, nzl_of, Int.toNat_add, Int.toNat_mul, tn_l, lt_t, lt_f, le_t, le_f, eq_t, eq_f, ltn_t, ltn_f, len_t, len_f, eqn_t, eqn_f, up_ne, up_up, sh_101]
    exact k) (μ, none, none, none) ⟨fun _ _ => rfl, fun t ht h2 => by omega⟩
  try dsimp only at key
  unfold wpM
  rw [s1_iff [14] 200]
  simp (disch := omega) [sz_s, sz_0, gx_s, hx_r, hx_c, hx_b, hx_s, hx_i, hx_n, kx_s, kx_n, kx_i, cx_d, up_at, am_ctl, am_step, am_i1, am_i2, am_i2d, am_l1, am_l2, am_l2d, am_ldi, am_ldl, am_lda, am_sti, am_sta, am_stl, am_inc, am_i2l, am_l2i, am_lcmp, am_dup, am_dup2, am_pop1, am_fv, am_getf, am_putf, am_wr, am_ial, am_lal, am_bal, am_aal, am_ias, am_las, am_bas, am_alen, am_inst, am_cast, am_cpm, am_copy, am_tsw, am_pop, am_cat, am_cS, am_cI, am_cV, am_ri, am_rl, am_ra, am_rv, am_b1, am_b2, am_ent, am_en, am_isL, am_st1, am_st2, am_clr, am_cnd, cc_230, ac_230, nL_230, rb_230, np_157, ok_230_157, nL_157, np_225, ok_230_225, nL_225, np_229, ok_230_229, nL_229, vd_229_12, tg_12_3, tg_12_24, List.getElem?_cons_succ, List.getElem?_cons_zero, nz_of, nzl_of, Int.toNat_add, Int.toNat_mul, tn_l, lt_t, lt_f, le_t, le_f, eq_t, eq_f, ltn_t, ltn_f, len_t, len_f, eqn_t, eqn_f, up_ne, up_up, sh_101, sh_105, rf_101_3, hn5, ea]
  simpa using key
