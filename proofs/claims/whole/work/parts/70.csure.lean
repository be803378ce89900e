/-! leading of the class: sure spoons, the first way, the most -/
def LA (μ : Nat → Nat → Int) (n : Nat) (R M : Nat → Int) : Prop := LW μ n R M ∧ (∀ t, t < 2 ^ n → μ 41 t = FW (okZ R M) n t) ∧ ∀ t, t < 2 ^ n → μ 42 t = BH (okZ R M) n t
theorem LA_as {μ ν : Nat → Nat → Int} {n : Nat} {R M : Nat → Int} (h : LA μ n R M) (e : ∀ k, 38 ≤ k ∧ k ≤ 42 → ν k = μ k) : LA ν n R M :=
  ⟨LW_as h.1 (fun k hk => e k (by omega)), by rw [e 41 (by omega)]; exact h.2.1, by rw [e 42 (by omega)]; exact h.2.2⟩
set_option maxRecDepth 100000 in
theorem wp_numberL {μ : Nat → Nat → Int} {n : Nat} {R M : Nat → Int} (h : LA μ n R M) (Φ : Option AV → ST → Prop) : wpM 43 [.inr (.inr (some 38))] (S μ) Φ ↔ Φ (some (.inl (BH (okZ R M) n 0))) (S μ) := by
  have v := h.2.2 0 (Nat.two_pow_pos n)
  unfold wpM
  rw [s1_iff [] 200]
  simp (disch := omega) [sz_s, sz_0, gx_s, hx_r, hx_c, hx_b, hx_s, hx_i, hx_n, kx_s, kx_n, kx_i, cx_d, up_at, am_ctl, am_step, am_i1, am_i2, am_i2d, am_l1, am_l2, am_l2d, am_ldi, am_ldl, am_lda, am_sti, am_sta, am_stl, am_inc, am_i2l, am_l2i, am_lcmp, am_dup, am_dup2, am_pop1, am_fv, am_getf, am_putf, am_wr, am_ial, am_lal, am_bal, am_aal, am_ias, am_las, am_bas, am_alen, am_inst, am_cast, am_cpm, am_copy, am_tsw, am_pop, am_cat, am_cS, am_cI, am_cV, am_ri, am_rl, am_ra, am_rv, am_b1, am_b2, am_ent, am_en, am_isL, am_st1, am_st2, am_clr, am_cnd, cc_43, ac_43, nL_43, rb_43, tg_5_3, List.getElem?_cons_succ, List.getElem?_cons_zero, nz_of, nzl_of, Int.toNat_add, Int.toNat_mul, tn_l, lt_t, lt_f, le_t, le_f, eq_t, eq_f, ltn_t, ltn_f, len_t, len_f, eqn_t, eqn_f, up_ne, up_up, sh_38, sh_42, rf_38_3, v]
def smT (ok : Nat → Nat → Bool) (n k m : Nat) : Nat → Int := fun t => if t.testBit m = false ∧ ok k m = true then fwZ ok n k t * bhZ ok n (n - (k + 1)) (t ||| 2 ^ m) else 0
theorem smT_nn (ok : Nat → Nat → Bool) (n k m t : Nat) : 0 ≤ smT ok n k m t := by
  unfold smT
  split
  · exact Int.mul_nonneg (fwZ_rng ok n k t).1 (bhZ_rng ok n _ _).1
  · exact Int.le_refl _
theorem smT_rng {ok : Nat → Nat → Bool} {n k m T : Nat} (hn : n ≤ 8) (hk : k < n) (hm : m < n) (hT : T ≤ 2 ^ n) : 0 ≤ sumZ (smT ok n k m) T ∧ sumZ (smT ok n k m) T ≤ 16777216 := by
  have r1 := sm_le (ok := ok) hn hk hm
  have r2 := BH_rng (ok := ok) hn 0
  have e : smZ ok n k m = sumZ (smT ok n k m) (2 ^ n) := rfl
  have r3 := @sumZ_le (fun _ => 0) (smT ok n k m) T (fun t _ => smT_nn ok n k m t)
  rw [sumZ_zero (f := fun _ => 0) (fun _ _ => rfl)] at r3
  obtain ⟨d, hd⟩ : ∃ d, 2 ^ n = T + d := ⟨2 ^ n - T, by omega⟩
  rw [e, hd, sumZ_app] at r1
  have r4 := @sumZ_le (fun _ => 0) (fun i => smT ok n k m (T + i)) d (fun t _ => smT_nn ok n k m _)
  rw [sumZ_zero (f := fun _ => 0) (fun _ _ => rfl)] at r4
  omega
def suB (ok : Nat → Nat → Bool) (n k : Nat) : Prop := ∃ m, m < n ∧ smZ ok n k m = BH ok n 0
set_option maxHeartbeats 8000000 in
set_option maxRecDepth 100000 in
theorem wp_isSure {μ : Nat → Nat → Int} {n : Nat} {R M : Nat → Int} (h : LA μ n R M) (sp : Nat) (hsp : sp < n) (Φ : Option AV → ST → Prop) (k1 : suB (okZ R M) n sp → ∀ ν, (∀ k, ¬ k = 43 → ν k = μ k) → Φ (some (.inl 1)) (S ν)) (k2 : ¬ suB (okZ R M) n sp → ∀ ν, (∀ k, ¬ k = 43 → ν k = μ k) → Φ (some (.inl 0)) (S ν)) : wpM 45 [.inr (.inr (some 38)), .inl sp] (S μ) Φ := by
  have hn := h.1.1.2
  have p8 := pow8 hn
  have p0 := Nat.two_pow_pos n
  obtain ⟨al, hal⟩ : ∃ al, al = 2 ^ n - 1 := ⟨_, rfl⟩
  obtain ⟨ok, hok⟩ : ∃ ok, okZ R M = ok := ⟨_, rfl⟩
  rw [hok] at k1 k2
  have ends : ∀ (ν : Nat → Nat → Int) (l3 : Option AV), (∀ k, ¬ k = 43 → ν k = μ k) → (∀ m, m < n → ν 43 m = smZ ok n sp m) → wpS 45 86 [some (.inr (.inr (some 38))), some (.inl sp), some (.inl 0), l3] [] (S ν) Φ := fun ν l3 i1 i2 => by
    have hν : LA ν n R M := LA_as h (fun k hk => i1 k (by omega))
    have v5 := hν.1.1.1
    have N := fun Φ => wp_numberL hν Φ
    rw [hok] at N
    have q := up_to (fun (m : Nat) (_ : Unit) => wpS 45 86 [some (.inr (.inr (some 38))), some (.inl sp), some (.inl m), l3] [] (S ν) Φ) (fun m _ => ∀ j, j < m → ¬ smZ ok n sp j = BH ok n 0) n (fun m _ hm hI hs' => by
      try dsimp only at hI hs' ⊢
      have v := i2 m hm
      by_cases c : smZ ok n sp m = BH ok n 0
      · replace k1 := k1 ⟨m, hm, c⟩ ν i1
        rw [c] at v
        rw [s1_iff [86] 200]
        simp (disch := omega) [sz_s, sz_0, gx_s, hx_r, hx_c, hx_b, hx_s, hx_i, hx_n, kx_s, kx_n, kx_i, cx_d, up_at, am_ctl, am_step, am_i1, am_i2, am_i2d, am_l1, am_l2, am_l2d, am_ldi, am_ldl, am_lda, am_sti, am_sta, am_stl, am_inc, am_i2l, am_l2i, am_lcmp, am_dup, am_dup2, am_pop1, am_fv, am_getf, am_putf, am_wr, am_ial, am_lal, am_bal, am_aal, am_ias, am_las, am_bas, am_alen, am_inst, am_cast, am_cpm, am_copy, am_tsw, am_pop, am_cat, am_cS, am_cI, am_cV, am_ri, am_rl, am_ra, am_rv, am_b1, am_b2, am_ent, am_en, am_isL, am_st1, am_st2, am_clr, am_cnd, cc_45, ac_45, nL_45, rb_45, np_249, ok_45_249, nL_249, np_253, ok_45_253, nL_253, np_39, ok_45_39, nL_39, vd_39_5, np_40, ok_45_40, nL_40, vd_40_5, np_43, ok_45_43, nL_43, vd_43_5, tg_5_4, tg_5_5, tg_5_2, tg_5_3, List.getElem?_cons_succ, List.getElem?_cons_zero, nz_of, nzl_of, Int.toNat_add, Int.toNat_mul, tn_l, lt_t, lt_f, le_t, le_f, eq_t, eq_f, ltn_t, ltn_f, len_t, len_f, eqn_t, eqn_f, up_ne, up_up, sh_38, sh_43, rf_38_4, v5, hm, v, N]
        exact k1
      · have q := hs' () (fun j hj => by
          by_cases e : j = m
          · subst e; exact c
          · exact hI j (by omega))
        rw [s1_iff [86] 200]
        simp (disch := omega) [sz_s, sz_0, gx_s, hx_r, hx_c, hx_b, hx_s, hx_i, hx_n, kx_s, kx_n, kx_i, cx_d, up_at, am_ctl, am_step, am_i1, am_i2, am_i2d, am_l1, am_l2, am_l2d, am_ldi, am_ldl, am_lda, am_sti, am_sta, am_stl, am_inc, am_i2l, am_l2i, am_lcmp, am_dup, am_dup2, am_pop1, am_fv, am_getf, am_putf, am_wr, am_ial, am_lal, am_bal, am_aal, am_ias, am_las, am_bas, am_alen, am_inst, am_cast, am_cpm, am_copy, am_tsw, am_pop, am_cat, am_cS, am_cI, am_cV, am_ri, am_rl, am_ra, am_rv, am_b1, am_b2, am_ent, am_en, am_isL, am_st1, am_st2, am_clr, am_cnd, cc_45, ac_45, nL_45, rb_45, np_249, ok_45_249, nL_249, np_253, ok_45_253, nL_253, np_39, ok_45_39, nL_39, vd_39_5, np_40, ok_45_40, nL_40, vd_40_5, np_43, ok_45_43, nL_43, vd_43_5, tg_5_4, tg_5_5, tg_5_2, tg_5_3, List.getElem?_cons_succ, List.getElem?_cons_zero, nz_of, nzl_of, Int.toNat_add, Int.toNat_mul, tn_l, lt_t, lt_f, le_t, le_f, eq_t, eq_f, ltn_t, ltn_f, len_t, len_f, eqn_t, eqn_f, up_ne, up_up, sh_38, sh_43, rf_38_4, v5, hm, v, N, c]
        simpa using q) (fun _ hI => by
      try dsimp only at hI ⊢
      replace k2 := k2 (fun ⟨m, hm, e⟩ => hI m hm e) ν i1
      rw [s1_iff [86] 200]
      simp (disch := omega) [sz_s, sz_0, gx_s, hx_r, hx_c, hx_b, hx_s, hx_i, hx_n, kx_s, kx_n, kx_i, cx_d, up_at, am_ctl, am_step, am_i1, am_i2, am_i2d, am_l1, am_l2, am_l2d, am_ldi, am_ldl, am_lda, am_sti, am_sta, am_stl, am_inc, am_i2l, am_l2i, am_lcmp, am_dup, am_dup2, am_pop1, am_fv, am_getf, am_putf, am_wr, am_ial, am_lal, am_bal, am_aal, am_ias, am_las, am_bas, am_alen, am_inst, am_cast, am_cpm, am_copy, am_tsw, am_pop, am_cat, am_cS, am_cI, am_cV, am_ri, am_rl, am_ra, am_rv, am_b1, am_b2, am_ent, am_en, am_isL, am_st1, am_st2, am_clr, am_cnd, cc_45, ac_45, nL_45, rb_45, np_249, ok_45_249, nL_249, np_253, ok_45_253, nL_253, np_39, ok_45_39, nL_39, vd_39_5, np_40, ok_45_40, nL_40, vd_40_5, np_43, ok_45_43, nL_43, vd_43_5, tg_5_4, tg_5_5, tg_5_2, tg_5_3, List.getElem?_cons_succ, List.getElem?_cons_zero, nz_of, nzl_of, Int.toNat_add, Int.toNat_mul, tn_l, lt_t, lt_f, le_t, le_f, eq_t, eq_f, ltn_t, ltn_f, len_t, len_f, eqn_t, eqn_f, up_ne, up_up, sh_38, v5]
      exact k2) () (fun j hj => absurd hj (by omega))
    simpa using q
  have key := up_to (fun (T : Nat) (s : (Nat → Nat → Int) × Option AV) => wpS 45 10 [some (.inr (.inr (some 38))), some (.inl sp), some (.inl T), s.2] [] (S s.1) Φ) (fun T s => (∀ k, ¬ k = 43 → s.1 k = μ k) ∧ ∀ m, m < n → s.1 43 m = sumZ (smT ok n sp m) T) al (fun T s hT hI hs' => by
    obtain ⟨ν, l3⟩ := s
    try dsimp only at hI hs' ⊢
    obtain ⟨i1, i2⟩ := hI
    have hν : LA ν n R M := LA_as h (fun k hk => i1 k (by omega))
    have A := fun Φ => wp_allM hν.1.1.1 hn al hal Φ
    by_cases eq : pN T = sp
    · have inner := up_to (fun (m : Nat) (ν : Nat → Nat → Int) => wpS 45 28 [some (.inr (.inr (some 38))), some (.inl sp), some (.inl T), some (.inl m)] [] (S ν) Φ) (fun m ν => (∀ k, ¬ k = 43 → ν k = μ k) ∧ ∀ j, j < n → ν 43 j = if j < m then sumZ (smT ok n sp j) (T + 1) else sumZ (smT ok n sp j) T) n (fun m ν hm hI hs'' => by
        try dsimp only at hI hs'' ⊢
        obtain ⟨j1, j2⟩ := hI
        have hν : LA ν n R M := LA_as h (fun k hk => j1 k (by omega))
        have v5 := hν.1.1.1
        have C := fun Φ => wp_canLead hν.1 sp m T hsp hm (by omega) Φ
        rw [hok] at C
        have r1 := smT_rng (ok := ok) (T := T) hn hsp hm (by omega)
        have r2 := smT_rng (ok := ok) (T := T + 1) hn hsp hm (by omega)
        have f0 := j2 m hm
        rw [if_neg (by omega)] at f0
        have es := sumZ_s (smT ok n sp m) T
        rw [es] at r2
        have nx : ∀ j, ¬ j = m → (j < m ↔ j < m + 1) := fun j hj => by omega
        by_cases c : T.testBit m = false ∧ ok sp m = true
        · have e1 : smT ok n sp m T = FW ok n T * BH ok n (T ||| 2 ^ m) := by
            unfold smT FW BH
            rw [if_pos c, pN_or (by omega) (by omega) c.1, eq]
          have bo := bit_o T (by omega) m (by omega)
          have lt1 := or_lt_n (S := T) (n := n) (h := m) (by omega) hm
          have f1 := hν.2.1 T (by omega)
          have f2 := hν.2.2 _ lt1
          rw [hok] at f1 f2
          rw [if_pos c] at C
          rw [e1] at r2 es
          have r3 := FW_rng (ok := ok) hn T
          have r4 := BH_rng (ok := ok) hn (T ||| 2 ^ m)
          have q := hs'' (am_up ν 43 m (sumZ (smT ok n sp m) T + FW ok n T * BH ok n (T ||| 2 ^ m))) ⟨fun k hk => by rw [up_ne _ _ _ hk]; exact j1 k hk, fun j hj => by
            rw [up_at]
            by_cases e : j = m
            · subst e; rw [if_pos ⟨rfl, rfl⟩, if_pos (by omega), es]
            · rw [if_neg (fun q => e q.2), j2 j hj]
              exact if_iff (nx j e) _ _⟩
          clear hs'' j2 e1 es nx
          generalize hu : T ||| 2 ^ m = u at *
          generalize FW ok n T = x at *
          generalize BH ok n u = y at *
          generalize sumZ (smT ok n sp m) T = z at *
          have pr : nz (x * y) = x * y := nz_of (by omega) (by omega)
          generalize hp : x * y = p at *
          rw [s1_iff [28] 200]
          simp (disch := omega) [sz_s, sz_0, gx_s, hx_r, hx_c, hx_b, hx_s, hx_i, hx_n, kx_s, kx_n, kx_i, cx_d, up_at, am_ctl, am_step, am_i1, am_i2, am_i2d, am_l1, am_l2, am_l2d, am_ldi, am_ldl, am_lda, am_sti, am_sta, am_stl, am_inc, am_i2l, am_l2i, am_lcmp, am_dup, am_dup2, am_pop1, am_fv, am_getf, am_putf, am_wr, am_ial, am_lal, am_bal, am_aal, am_ias, am_las, am_bas, am_alen, am_inst, am_cast, am_cpm, am_copy, am_tsw, am_pop, am_cat, am_cS, am_cI, am_cV, am_ri, am_rl, am_ra, am_rv, am_b1, am_b2, am_ent, am_en, am_isL, am_st1, am_st2, am_clr, am_cnd, cc_45, ac_45, nL_45, rb_45, np_249, ok_45_249, nL_249, np_253, ok_45_253, nL_253, np_39, ok_45_39, nL_39, vd_39_5, np_40, ok_45_40, nL_40, vd_40_5, np_43, ok_45_43, nL_43, vd_43_5, tg_5_4, tg_5_5, tg_5_2, tg_5_3, List.getElem?_cons_succ, List.getElem?_cons_zero, nz_of, nzl_of, Int.toNat_add, Int.toNat_mul, tn_l, lt_t, lt_f, le_t, le_f, eq_t, eq_f, ltn_t, ltn_f, len_t, len_f, eqn_t, eqn_f, up_ne, up_up, sh_38, sh_41, sh_42, sh_43, rf_38_2, rf_38_3, rf_38_4, v5, C, bo, f0, f1, f2, hp, pr]
          simpa using q
        · have e1 : smT ok n sp m T = 0 := by unfold smT; rw [if_neg c]
          rw [e1, Int.add_zero] at es
          have q := hs'' ν ⟨j1, fun j hj => by
            rw [j2 j hj]
            by_cases e : j = m
            · subst e; rw [if_neg (by omega), if_pos (by omega), es]
            · exact if_iff (nx j e) _ _⟩
          rw [if_neg c] at C
          rw [s1_iff [28] 200]
          simp (disch := omega) [sz_s, sz_0, gx_s, hx_r, hx_c, hx_b, hx_s, hx_i, hx_n, kx_s, kx_n, kx_i, cx_d, up_at, am_ctl, am_step, am_i1, am_i2, am_i2d, am_l1, am_l2, am_l2d, am_ldi, am_ldl, am_lda, am_sti, am_sta, am_stl, am_inc, am_i2l, am_l2i, am_lcmp, am_dup, am_dup2, am_pop1, am_fv, am_getf, am_putf, am_wr, am_ial, am_lal, am_bal, am_aal, am_ias, am_las, am_bas, am_alen, am_inst, am_cast, am_cpm, am_copy, am_tsw, am_pop, am_cat, am_cS, am_cI, am_cV, am_ri, am_rl, am_ra, am_rv, am_b1, am_b2, am_ent, am_en, am_isL, am_st1, am_st2, am_clr, am_cnd, cc_45, ac_45, nL_45, rb_45, np_249, ok_45_249, nL_249, np_253, ok_45_253, nL_253, np_39, ok_45_39, nL_39, vd_39_5, np_40, ok_45_40, nL_40, vd_40_5, np_43, ok_45_43, nL_43, vd_43_5, tg_5_4, tg_5_5, tg_5_2, tg_5_3, List.getElem?_cons_succ, List.getElem?_cons_zero, nz_of, nzl_of, Int.toNat_add, Int.toNat_mul, tn_l, lt_t, lt_f, le_t, le_f, eq_t, eq_f, ltn_t, ltn_f, len_t, len_f, eqn_t, eqn_f, up_ne, up_up, sh_38, v5, C]
          simpa using q) (fun ν hI => by
        try dsimp only at hI ⊢
        obtain ⟨j1, j2⟩ := hI
        have hν : LA ν n R M := LA_as h (fun k hk => j1 k (by omega))
        have v5 := hν.1.1.1
        have q := hs' (ν, some (.inl n)) ⟨j1, fun m hm => by (try dsimp only); rw [j2 m hm, if_pos hm]⟩
        rw [s1_iff [10, 28] 200]
        simp (disch := omega) [sz_s, sz_0, gx_s, hx_r, hx_c, hx_b, hx_s, hx_i, hx_n, kx_s, kx_n, kx_i, cx_d, up_at, am_ctl, am_step, am_i1, am_i2, am_i2d, am_l1, am_l2, am_l2d, am_ldi, am_ldl, am_lda, am_sti, am_sta, am_stl, am_inc, am_i2l, am_l2i, am_lcmp, am_dup, am_dup2, am_pop1, am_fv, am_getf, am_putf, am_wr, am_ial, am_lal, am_bal, am_aal, am_ias, am_las, am_bas, am_alen, am_inst, am_cast, am_cpm, am_copy, am_tsw, am_pop, am_cat, am_cS, am_cI, am_cV, am_ri, am_rl, am_ra, am_rv, am_b1, am_b2, am_ent, am_en, am_isL, am_st1, am_st2, am_clr, am_cnd, cc_45, ac_45, nL_45, rb_45, np_249, ok_45_249, nL_249, np_253, ok_45_253, nL_253, np_39, ok_45_39, nL_39, vd_39_5, np_40, ok_45_40, nL_40, vd_40_5, np_43, ok_45_43, nL_43, vd_43_5, tg_5_4, tg_5_5, tg_5_2, tg_5_3, List.getElem?_cons_succ, List.getElem?_cons_zero, nz_of, nzl_of, Int.toNat_add, Int.toNat_mul, tn_l, lt_t, lt_f, le_t, le_f, eq_t, eq_f, ltn_t, ltn_f, len_t, len_f, eqn_t, eqn_f, up_ne, up_up, sh_38, v5]
        simpa using q) ν ⟨i1, fun j hj => by rw [if_neg (by omega)]; exact i2 j hj⟩
      have B := fun σ Φ => wp_bitN T (by omega) σ Φ
      rw [eq] at B
      try dsimp only at inner
      rw [s1_iff [10, 28] 200]
      simp (disch := omega) [sz_s, sz_0, gx_s, hx_r, hx_c, hx_b, hx_s, hx_i, hx_n, kx_s, kx_n, kx_i, cx_d, up_at, am_ctl, am_step, am_i1, am_i2, am_i2d, am_l1, am_l2, am_l2d, am_ldi, am_ldl, am_lda, am_sti, am_sta, am_stl, am_inc, am_i2l, am_l2i, am_lcmp, am_dup, am_dup2, am_pop1, am_fv, am_getf, am_putf, am_wr, am_ial, am_lal, am_bal, am_aal, am_ias, am_las, am_bas, am_alen, am_inst, am_cast, am_cpm, am_copy, am_tsw, am_pop, am_cat, am_cS, am_cI, am_cV, am_ri, am_rl, am_ra, am_rv, am_b1, am_b2, am_ent, am_en, am_isL, am_st1, am_st2, am_clr, am_cnd, cc_45, ac_45, nL_45, rb_45, np_249, ok_45_249, nL_249, np_253, ok_45_253, nL_253, np_39, ok_45_39, nL_39, vd_39_5, np_40, ok_45_40, nL_40, vd_40_5, np_43, ok_45_43, nL_43, vd_43_5, tg_5_4, tg_5_5, tg_5_2, tg_5_3, List.getElem?_cons_succ, List.getElem?_cons_zero, nz_of, nzl_of, Int.toNat_add, Int.toNat_mul, tn_l, lt_t, lt_f, le_t, le_f, eq_t, eq_f, ltn_t, ltn_f, len_t, len_f, eqn_t, eqn_f, up_ne, up_up, sh_38, A, B]
      simpa using inner
    · have q := hs' (ν, l3) ⟨i1, fun m hm => by
        try dsimp only
        rw [i2 m hm, sumZ_s]
        have : smT ok n sp m T = 0 := by
          unfold smT
          rw [fwZ_pc hn sp T (by omega) (fun e => eq (by rw [pN_e] at e; omega)), Int.zero_mul]
          split <;> rfl
        omega⟩
      rw [s1_iff [10] 200]
      simp (disch := omega) [sz_s, sz_0, gx_s, hx_r, hx_c, hx_b, hx_s, hx_i, hx_n, kx_s, kx_n, kx_i, cx_d, up_at, am_ctl, am_step, am_i1, am_i2, am_i2d, am_l1, am_l2, am_l2d, am_ldi, am_ldl, am_lda, am_sti, am_sta, am_stl, am_inc, am_i2l, am_l2i, am_lcmp, am_dup, am_dup2, am_pop1, am_fv, am_getf, am_putf, am_wr, am_ial, am_lal, am_bal, am_aal, am_ias, am_las, am_bas, am_alen, am_inst, am_cast, am_cpm, am_copy, am_tsw, am_pop, am_cat, am_cS, am_cI, am_cV, am_ri, am_rl, am_ra, am_rv, am_b1, am_b2, am_ent, am_en, am_isL, am_st1, am_st2, am_clr, am_cnd, cc_45, ac_45, nL_45, rb_45, np_249, ok_45_249, nL_249, np_253, ok_45_253, nL_253, np_39, ok_45_39, nL_39, vd_39_5, np_40, ok_45_40, nL_40, vd_40_5, np_43, ok_45_43, nL_43, vd_43_5, tg_5_4, tg_5_5, tg_5_2, tg_5_3, List.getElem?_cons_succ, List.getElem?_cons_zero, nz_of, nzl_of, Int.toNat_add, Int.toNat_mul, tn_l, lt_t, lt_f, le_t, le_f, eq_t, eq_f, ltn_t, ltn_f, len_t, len_f, eqn_t, eqn_f, up_ne, up_up, sh_38, A, wp_bitN T (by omega), eq]
      simpa using q) (fun s hI => by
    obtain ⟨ν, l3⟩ := s
    try dsimp only at hI ⊢
    obtain ⟨i1, i2⟩ := hI
    have hν : LA ν n R M := LA_as h (fun k hk => i1 k (by omega))
    have A := fun Φ => wp_allM hν.1.1.1 hn al hal Φ
    have q := ends ν l3 i1 (fun m hm => by
      rw [i2 m hm]
      have e : smZ ok n sp m = sumZ (smT ok n sp m) (al + 1) := by rw [show al + 1 = 2 ^ n by omega]; rfl
      rw [e, sumZ_s]
      have : smT ok n sp m al = 0 := by
        unfold smT
        rw [if_neg (fun q => by
          have := q.1
          rw [hal, Nat.testBit_two_pow_sub_one] at this
          simp at this
          omega)]
      omega)
    rw [s1_iff [10, 86] 200]
    simp (disch := omega) [sz_s, sz_0, gx_s, hx_r, hx_c, hx_b, hx_s, hx_i, hx_n, kx_s, kx_n, kx_i, cx_d, up_at, am_ctl, am_step, am_i1, am_i2, am_i2d, am_l1, am_l2, am_l2d, am_ldi, am_ldl, am_lda, am_sti, am_sta, am_stl, am_inc, am_i2l, am_l2i, am_lcmp, am_dup, am_dup2, am_pop1, am_fv, am_getf, am_putf, am_wr, am_ial, am_lal, am_bal, am_aal, am_ias, am_las, am_bas, am_alen, am_inst, am_cast, am_cpm, am_copy, am_tsw, am_pop, am_cat, am_cS, am_cI, am_cV, am_ri, am_rl, am_ra, am_rv, am_b1, am_b2, am_ent, am_en, am_isL, am_st1, am_st2, am_clr, am_cnd, cc_45, ac_45, nL_45, rb_45, np_249, ok_45_249, nL_249, np_253, ok_45_253, nL_253, np_39, ok_45_39, nL_39, vd_39_5, np_40, ok_45_40, nL_40, vd_40_5, np_43, ok_45_43, nL_43, vd_43_5, tg_5_4, tg_5_5, tg_5_2, tg_5_3, List.getElem?_cons_succ, List.getElem?_cons_zero, nz_of, nzl_of, Int.toNat_add, Int.toNat_mul, tn_l, lt_t, lt_f, le_t, le_f, eq_t, eq_f, ltn_t, ltn_f, len_t, len_f, eqn_t, eqn_f, up_ne, up_up, sh_38, A]
    simpa using q)
  have F := wp_fill 43 8 0 (by omega) sh_43 (by decide) μ
  have q := key (fl μ 43 8 0, none) ⟨fun k hk => fl_ne _ _ _ _ _ hk, fun m hm => by
    try dsimp only
    rw [fl_in _ _ _ _ _ (by omega), sumZ_0]⟩
  try dsimp only at q
  unfold wpM
  rw [s1_iff [10] 200]
  simp (disch := omega) [sz_s, sz_0, gx_s, hx_r, hx_c, hx_b, hx_s, hx_i, hx_n, kx_s, kx_n, kx_i, cx_d, up_at, am_ctl, am_step, am_i1, am_i2, am_i2d, am_l1, am_l2, am_l2d, am_ldi, am_ldl, am_lda, am_sti, am_sta, am_stl, am_inc, am_i2l, am_l2i, am_lcmp, am_dup, am_dup2, am_pop1, am_fv, am_getf, am_putf, am_wr, am_ial, am_lal, am_bal, am_aal, am_ias, am_las, am_bas, am_alen, am_inst, am_cast, am_cpm, am_copy, am_tsw, am_pop, am_cat, am_cS, am_cI, am_cV, am_ri, am_rl, am_ra, am_rv, am_b1, am_b2, am_ent, am_en, am_isL, am_st1, am_st2, am_clr, am_cnd, cc_45, ac_45, nL_45, rb_45, np_249, ok_45_249, nL_249, np_253, ok_45_253, nL_253, np_39, ok_45_39, nL_39, vd_39_5, np_40, ok_45_40, nL_40, vd_40_5, np_43, ok_45_43, nL_43, vd_43_5, tg_5_4, tg_5_5, tg_5_2, tg_5_3, List.getElem?_cons_succ, List.getElem?_cons_zero, nz_of, nzl_of, Int.toNat_add, Int.toNat_mul, tn_l, lt_t, lt_f, le_t, le_f, eq_t, eq_f, ltn_t, ltn_f, len_t, len_f, eqn_t, eqn_f, up_ne, up_up, sh_38, rf_38_4, F]
  simpa using q
def spZ (q : Nat → Bool) : Nat → Nat
  | 0 => 0
  | k + 1 => if q k = true then spZ q k ||| 2 ^ k else spZ q k
theorem spZ_lt {q : Nat → Bool} : ∀ k : Nat, k ≤ 8 → spZ q k < 256
  | 0, _ => by rw [spZ]; omega
  | k + 1, h => by
    have := spZ_lt (q := q) k (by omega)
    rw [spZ]
    split
    · exact or_lt _ this k (by omega)
    · exact this
def suQ (ok : Nat → Nat → Bool) (n : Nat) : Nat → Bool := fun k => decide (smZ ok n k (chM ok n k) = BH ok n 0)
theorem suQ_t {ok : Nat → Nat → Bool} {n k : Nat} (hn : n ≤ 8) (h0 : 0 < BH ok n 0) (hk : k < n) : suQ ok n k = true ↔ suB ok n k := by
  unfold suQ suB
  rw [decide_eq_true_iff, sure_ch hn h0 hk]
set_option maxHeartbeats 4000000 in
set_option maxRecDepth 100000 in
theorem wp_sureSpoons {μ : Nat → Nat → Int} {n : Nat} {R M : Nat → Int} (h : LA μ n R M) (h0 : 0 < BH (okZ R M) n 0) (Φ : Option AV → ST → Prop) (k : ∀ ν, (∀ k, ¬ k = 43 → ν k = μ k) → Φ (some (.inl (spZ (suQ (okZ R M) n) n : Nat))) (S ν)) : wpM 44 [.inr (.inr (some 38))] (S μ) Φ := by
  have hn := h.1.1.2
  obtain ⟨ok, hok⟩ : ∃ ok, okZ R M = ok := ⟨_, rfl⟩
  rw [hok] at k h0
  have key := up_to (fun (i : Nat) (ν : Nat → Nat → Int) => wpS 44 4 [some (.inr (.inr (some 38))), some (.inl (spZ (suQ ok n) i : Nat)), some (.inl i)] [] (S ν) Φ) (fun i ν => ∀ k, ¬ k = 43 → ν k = μ k) n (fun i ν hi hI hs' => by
    try dsimp only at hI hs' ⊢
    have hν : LA ν n R M := LA_as h (fun k hk => hI k (by omega))
    have v5 := hν.1.1.1
    have lt := spZ_lt (q := suQ ok n) i (by omega)
    have qt := suQ_t (ok := ok) hn h0 hi
    rw [spZ] at hs'
    have bo := bit_o (spZ (suQ ok n) i) lt i (by omega)
    generalize spZ (suQ ok n) i = T at *
    rw [s1_iff [4] 200]
    simp (disch := omega) [sz_s, sz_0, gx_s, hx_r, hx_c, hx_b, hx_s, hx_i, hx_n, kx_s, kx_n, kx_i, cx_d, up_at, am_ctl, am_step, am_i1, am_i2, am_i2d, am_l1, am_l2, am_l2d, am_ldi, am_ldl, am_lda, am_sti, am_sta, am_stl, am_inc, am_i2l, am_l2i, am_lcmp, am_dup, am_dup2, am_pop1, am_fv, am_getf, am_putf, am_wr, am_ial, am_lal, am_bal, am_aal, am_ias, am_las, am_bas, am_alen, am_inst, am_cast, am_cpm, am_copy, am_tsw, am_pop, am_cat, am_cS, am_cI, am_cV, am_ri, am_rl, am_ra, am_rv, am_b1, am_b2, am_ent, am_en, am_isL, am_st1, am_st2, am_clr, am_cnd, cc_44, ac_44, nL_44, rb_44, np_45, ok_44_45, nL_45, vd_45_5, tg_5_5, List.getElem?_cons_succ, List.getElem?_cons_zero, nz_of, nzl_of, Int.toNat_add, Int.toNat_mul, tn_l, lt_t, lt_f, le_t, le_f, eq_t, eq_f, ltn_t, ltn_f, len_t, len_f, eqn_t, eqn_f, up_ne, up_up, sh_38, v5, hi]
    refine wp_isSure hν i hi _ (fun y ρ r1 => ?_) (fun y ρ r1 => ?_)
    · rw [hok] at y
      rw [if_pos (qt.mpr y)] at hs'
      have q := hs' ρ (fun k hk => by rw [r1 k hk]; exact hI k hk)
      simp (disch := omega) [sz_s, sz_0, gx_s, hx_r, hx_c, hx_b, hx_s, hx_i, hx_n, kx_s, kx_n, kx_i, cx_d, up_at, am_ctl, am_step, am_i1, am_i2, am_i2d, am_l1, am_l2, am_l2d, am_ldi, am_ldl, am_lda, am_sti, am_sta, am_stl, am_inc, am_i2l, am_l2i, am_lcmp, am_dup, am_dup2, am_pop1, am_fv, am_getf, am_putf, am_wr, am_ial, am_lal, am_bal, am_aal, am_ias, am_las, am_bas, am_alen, am_inst, am_cast, am_cpm, am_copy, am_tsw, am_pop, am_cat, am_cS, am_cI, am_cV, am_ri, am_rl, am_ra, am_rv, am_b1, am_b2, am_ent, am_en, am_isL, am_st1, am_st2, am_clr, am_cnd, cc_44, ac_44, nL_44, rb_44, np_45, ok_44_45, nL_45, vd_45_5, tg_5_5, List.getElem?_cons_succ, List.getElem?_cons_zero, nz_of, nzl_of, Int.toNat_add, Int.toNat_mul, tn_l, lt_t, lt_f, le_t, le_f, eq_t, eq_f, ltn_t, ltn_f, len_t, len_f, eqn_t, eqn_f, up_ne, up_up, sh_38, bo]
      simpa using q
    · rw [hok] at y
      rw [if_neg (fun q => y (qt.mp q))] at hs'
      have q := hs' ρ (fun k hk => by rw [r1 k hk]; exact hI k hk)
      simp (disch := omega) [sz_s, sz_0, gx_s, hx_r, hx_c, hx_b, hx_s, hx_i, hx_n, kx_s, kx_n, kx_i, cx_d, up_at, am_ctl, am_step, am_i1, am_i2, am_i2d, am_l1, am_l2, am_l2d, am_ldi, am_ldl, am_lda, am_sti, am_sta, am_stl, am_inc, am_i2l, am_l2i, am_lcmp, am_dup, am_dup2, am_pop1, am_fv, am_getf, am_putf, am_wr, am_ial, am_lal, am_bal, am_aal, am_ias, am_las, am_bas, am_alen, am_inst, am_cast, am_cpm, am_copy, am_tsw, am_pop, am_cat, am_cS, am_cI, am_cV, am_ri, am_rl, am_ra, am_rv, am_b1, am_b2, am_ent, am_en, am_isL, am_st1, am_st2, am_clr, am_cnd, cc_44, ac_44, nL_44, rb_44, np_45, ok_44_45, nL_45, vd_45_5, tg_5_5, List.getElem?_cons_succ, List.getElem?_cons_zero, nz_of, nzl_of, Int.toNat_add, Int.toNat_mul, tn_l, lt_t, lt_f, le_t, le_f, eq_t, eq_f, ltn_t, ltn_f, len_t, len_f, eqn_t, eqn_f, up_ne, up_up, sh_38]
      simpa using q) (fun ν hI => by
    try dsimp only at hI ⊢
    have hν : LA ν n R M := LA_as h (fun k hk => hI k (by omega))
    have v5 := hν.1.1.1
    replace k := k ν hI
    rw [s1_iff [4] 200]
    simp (disch := omega) [sz_s, sz_0, gx_s, hx_r, hx_c, hx_b, hx_s, hx_i, hx_n, kx_s, kx_n, kx_i, cx_d, up_at, am_ctl, am_step, am_i1, am_i2, am_i2d, am_l1, am_l2, am_l2d, am_ldi, am_ldl, am_lda, am_sti, am_sta, am_stl, am_inc, am_i2l, am_l2i, am_lcmp, am_dup, am_dup2, am_pop1, am_fv, am_getf, am_putf, am_wr, am_ial, am_lal, am_bal, am_aal, am_ias, am_las, am_bas, am_alen, am_inst, am_cast, am_cpm, am_copy, am_tsw, am_pop, am_cat, am_cS, am_cI, am_cV, am_ri, am_rl, am_ra, am_rv, am_b1, am_b2, am_ent, am_en, am_isL, am_st1, am_st2, am_clr, am_cnd, cc_44, ac_44, nL_44, rb_44, np_45, ok_44_45, nL_45, vd_45_5, tg_5_5, List.getElem?_cons_succ, List.getElem?_cons_zero, nz_of, nzl_of, Int.toNat_add, Int.toNat_mul, tn_l, lt_t, lt_f, le_t, le_f, eq_t, eq_f, ltn_t, ltn_f, len_t, len_f, eqn_t, eqn_f, up_ne, up_up, sh_38, v5]
    exact k) μ (fun _ _ => rfl)
  have e0 : spZ (suQ ok n) 0 = 0 := rfl
  rw [e0] at key
  unfold wpM
  rw [s1_iff [4] 200]
  simp (disch := omega) [sz_s, sz_0, gx_s, hx_r, hx_c, hx_b, hx_s, hx_i, hx_n, kx_s, kx_n, kx_i, cx_d, up_at, am_ctl, am_step, am_i1, am_i2, am_i2d, am_l1, am_l2, am_l2d, am_ldi, am_ldl, am_lda, am_sti, am_sta, am_stl, am_inc, am_i2l, am_l2i, am_lcmp, am_dup, am_dup2, am_pop1, am_fv, am_getf, am_putf, am_wr, am_ial, am_lal, am_bal, am_aal, am_ias, am_las, am_bas, am_alen, am_inst, am_cast, am_cpm, am_copy, am_tsw, am_pop, am_cat, am_cS, am_cI, am_cV, am_ri, am_rl, am_ra, am_rv, am_b1, am_b2, am_ent, am_en, am_isL, am_st1, am_st2, am_clr, am_cnd, cc_44, ac_44, nL_44, rb_44, np_45, ok_44_45, nL_45, vd_45_5, tg_5_5, List.getElem?_cons_succ, List.getElem?_cons_zero, nz_of, nzl_of, Int.toNat_add, Int.toNat_mul, tn_l, lt_t, lt_f, le_t, le_f, eq_t, eq_f, ltn_t, ltn_f, len_t, len_f, eqn_t, eqn_f, up_ne, up_up]
  simpa using key
