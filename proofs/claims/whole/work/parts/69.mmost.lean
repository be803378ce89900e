/-! the reference: how leading is refused; the most -/
def rwR (μ : Nat → Nat → Int) (r : Nat) : Nat → Int := fun i => μ 104 (60 * r + i)
set_option maxHeartbeats 4000000 in
set_option maxRecDepth 100000 in
theorem wm_against {μ : Nat → Nat → Int} (r b : Nat) (hr : r < 6) (hb : b < 6) (b1 : -1 ≤ μ 105 r ∧ μ 105 r ≤ 60) (b2 : -1 ≤ μ 105 b ∧ μ 105 b ≤ 60) (Φ : Option AV → ST → Prop) (k1 : (μ 105 r = -1 ∨ μ 105 b = -1) → Φ (some (.inl 1)) (S μ)) (k2 : ¬ (μ 105 r = -1 ∨ μ 105 b = -1) → (8 < μ 105 r ∨ ¬ μ 105 r = μ 105 b) → Φ (some (.inl 5)) (S μ)) (k3 : ∀ n : Nat, μ 105 r = n → μ 105 b = n → n ≤ 8 → ¬ (IN (rwR μ r) n ∧ IN (rwR μ b) n) → Φ (some (.inl 3)) (S μ)) (k4 : ∀ n : Nat, μ 105 r = n → μ 105 b = n → n ≤ 8 → IN (rwR μ r) n → IN (rwR μ b) n → Φ (some (.inl 0)) (S μ)) : wpM 228 [.inr (.inr (some 101)), .inl r, .inl b] (S μ) Φ := by
  by_cases z1 : μ 105 r = -1
  · replace k1 := k1 (Or.inl z1)
    unfold wpM
    rw [s1_iff [50] 200]
    simp (disch := omega) [sz_s, sz_0, gx_s, hx_r, hx_c, hx_b, hx_s, hx_i, hx_n, kx_s, kx_n, kx_i, cx_d, up_at, am_ctl, am_step, am_i1, am_i2, am_i2d, am_l1, am_l2, am_l2d, am_ldi, am_ldl, am_lda, am_sti, am_sta, am_stl, am_inc, am_i2l, am_l2i, am_lcmp, am_dup, am_dup2, am_pop1, am_fv, am_getf, am_putf, am_wr, am_ial, am_lal, am_bal, am_aal, am_ias, am_las, am_bas, am_alen, am_inst, am_cast, am_cpm, am_copy, am_tsw, am_pop, am_cat, am_cS, am_cI, am_cV, am_ri, am_rl, am_ra, am_rv, am_b1, am_b2, am_ent, am_en, am_isL, am_st1, am_st2, am_clr, am_cnd, cc_228, ac_228, nL_228, rb_228, np_156, ok_228_156, nL_156, tg_12_3, tg_12_2, List.getElem?_cons_succ, List.getElem?_cons_zero, nz_of, nzl_of, Int.toNat_add, Int.toNat_mul, tn_l, lt_t, lt_f, le_t, le_f, eq_t, eq_f, ltn_t, ltn_f, len_t, len_f, eqn_t, eqn_f, up_ne, up_up, sh_101, sh_105, rf_101_3, z1]
    exact k1
  · by_cases z2 : μ 105 b = -1
    · replace k1 := k1 (Or.inr z2)
      unfold wpM
      rw [s1_iff [50] 200]
      simp (disch := omega) [sz_s, sz_0, gx_s, hx_r, hx_c, hx_b, hx_s, hx_i, hx_n, kx_s, kx_n, kx_i, cx_d, up_at, am_ctl, am_step, am_i1, am_i2, am_i2d, am_l1, am_l2, am_l2d, am_ldi, am_ldl, am_lda, am_sti, am_sta, am_stl, am_inc, am_i2l, am_l2i, am_lcmp, am_dup, am_dup2, am_pop1, am_fv, am_getf, am_putf, am_wr, am_ial, am_lal, am_bal, am_aal, am_ias, am_las, am_bas, am_alen, am_inst, am_cast, am_cpm, am_copy, am_tsw, am_pop, am_cat, am_cS, am_cI, am_cV, am_ri, am_rl, am_ra, am_rv, am_b1, am_b2, am_ent, am_en, am_isL, am_st1, am_st2, am_clr, am_cnd, cc_228, ac_228, nL_228, rb_228, np_156, ok_228_156, nL_156, tg_12_3, tg_12_2, List.getElem?_cons_succ, List.getElem?_cons_zero, nz_of, nzl_of, Int.toNat_add, Int.toNat_mul, tn_l, lt_t, lt_f, le_t, le_f, eq_t, eq_f, ltn_t, ltn_f, len_t, len_f, eqn_t, eqn_f, up_ne, up_up, sh_101, sh_105, rf_101_3, z1, z2]
      exact k1
    · replace k2 := k2 (fun q => q.elim z1 z2)
      obtain ⟨n, hn⟩ : ∃ n : Nat, μ 105 r = n := ⟨(μ 105 r).toNat, by omega⟩
      obtain ⟨n2, hn2⟩ : ∃ n : Nat, μ 105 b = n := ⟨(μ 105 b).toNat, by omega⟩
      by_cases y1 : 8 < n
      · replace k2 := k2 (Or.inl (by omega))
        unfold wpM
        rw [s1_iff [50] 200]
        simp (disch := omega) [sz_s, sz_0, gx_s, hx_r, hx_c, hx_b, hx_s, hx_i, hx_n, kx_s, kx_n, kx_i, cx_d, up_at, am_ctl, am_step, am_i1, am_i2, am_i2d, am_l1, am_l2, am_l2d, am_ldi, am_ldl, am_lda, am_sti, am_sta, am_stl, am_inc, am_i2l, am_l2i, am_lcmp, am_dup, am_dup2, am_pop1, am_fv, am_getf, am_putf, am_wr, am_ial, am_lal, am_bal, am_aal, am_ias, am_las, am_bas, am_alen, am_inst, am_cast, am_cpm, am_copy, am_tsw, am_pop, am_cat, am_cS, am_cI, am_cV, am_ri, am_rl, am_ra, am_rv, am_b1, am_b2, am_ent, am_en, am_isL, am_st1, am_st2, am_clr, am_cnd, cc_228, ac_228, nL_228, rb_228, np_156, ok_228_156, nL_156, tg_12_3, tg_12_2, List.getElem?_cons_succ, List.getElem?_cons_zero, nz_of, nzl_of, Int.toNat_add, Int.toNat_mul, tn_l, lt_t, lt_f, le_t, le_f, eq_t, eq_f, ltn_t, ltn_f, len_t, len_f, eqn_t, eqn_f, up_ne, up_up, sh_101, sh_105, rf_101_3, hn, hn2]
        exact k2
      · by_cases y2 : n = n2
        · subst y2
          replace k3 := k3 n hn hn2 (by omega)
          replace k4 := k4 n hn hn2 (by omega)
          have key := up_to (fun (i : Nat) (_ : Unit) => wpS 228 50 [some (.inr (.inr (some 101))), some (.inl r), some (.inl b), some (.inl i)] [] (S μ) Φ) (fun i _ => IN (rwR μ r) i ∧ IN (rwR μ b) i) n (fun i _ hi hI hs' => by
            try dsimp only at hI hs' ⊢
            have z1 : (60 * (r : Int) + (i : Int)).toNat = 60 * r + i := by omega
            have z2 : (60 * (b : Int) + (i : Int)).toNat = 60 * b + i := by omega
            have e1 : rwR μ r i = μ 104 (60 * r + i) := rfl
            have e2 : rwR μ b i = μ 104 (60 * b + i) := rfl
            by_cases c1 : 0 ≤ μ 104 (60 * r + i) ∧ μ 104 (60 * r + i) ≤ 9
            · by_cases c2 : 0 ≤ μ 104 (60 * b + i) ∧ μ 104 (60 * b + i) ≤ 9
              · have q := hs' () ⟨fun j hj => by
                  by_cases e : j = i
                  · subst e; rw [e1]; exact c1
                  · exact hI.1 j (by omega), fun j hj => by
                  by_cases e : j = i
                  · subst e; rw [e2]; exact c2
                  · exact hI.2 j (by omega)⟩
                rw [s1_iff [50] 200]
                simp (disch := omega) [sz_s, sz_0, gx_s, hx_r, hx_c, hx_b, hx_s, hx_i, hx_n, kx_s, kx_n, kx_i, cx_d, up_at, am_ctl, am_step, am_i1, am_i2, am_i2d, am_l1, am_l2, am_l2d, am_ldi, am_ldl, am_lda, am_sti, am_sta, am_stl, am_inc, am_i2l, am_l2i, am_lcmp, am_dup, am_dup2, am_pop1, am_fv, am_getf, am_putf, am_wr, am_ial, am_lal, am_bal, am_aal, am_ias, am_las, am_bas, am_alen, am_inst, am_cast, am_cpm, am_copy, am_tsw, am_pop, am_cat, am_cS, am_cI, am_cV, am_ri, am_rl, am_ra, am_rv, am_b1, am_b2, am_ent, am_en, am_isL, am_st1, am_st2, am_clr, am_cnd, cc_228, ac_228, nL_228, rb_228, np_156, ok_228_156, nL_156, tg_12_3, tg_12_2, List.getElem?_cons_succ, List.getElem?_cons_zero, nz_of, nzl_of, Int.toNat_add, Int.toNat_mul, tn_l, lt_t, lt_f, le_t, le_f, eq_t, eq_f, ltn_t, ltn_f, len_t, len_f, eqn_t, eqn_f, up_ne, up_up, sh_101, sh_104, sh_105, rf_101_2, rf_101_3, hn, hi, z1, z2, wm_in, c1, c2]
                simpa using q
              · replace k3 := k3 (fun q => c2 (by have := q.2 i hi; rw [e2] at this; exact this))
                rw [s1_iff [50] 200]
                simp (disch := omega) [sz_s, sz_0, gx_s, hx_r, hx_c, hx_b, hx_s, hx_i, hx_n, kx_s, kx_n, kx_i, cx_d, up_at, am_ctl, am_step, am_i1, am_i2, am_i2d, am_l1, am_l2, am_l2d, am_ldi, am_ldl, am_lda, am_sti, am_sta, am_stl, am_inc, am_i2l, am_l2i, am_lcmp, am_dup, am_dup2, am_pop1, am_fv, am_getf, am_putf, am_wr, am_ial, am_lal, am_bal, am_aal, am_ias, am_las, am_bas, am_alen, am_inst, am_cast, am_cpm, am_copy, am_tsw, am_pop, am_cat, am_cS, am_cI, am_cV, am_ri, am_rl, am_ra, am_rv, am_b1, am_b2, am_ent, am_en, am_isL, am_st1, am_st2, am_clr, am_cnd, cc_228, ac_228, nL_228, rb_228, np_156, ok_228_156, nL_156, tg_12_3, tg_12_2, List.getElem?_cons_succ, List.getElem?_cons_zero, nz_of, nzl_of, Int.toNat_add, Int.toNat_mul, tn_l, lt_t, lt_f, le_t, le_f, eq_t, eq_f, ltn_t, ltn_f, len_t, len_f, eqn_t, eqn_f, up_ne, up_up, sh_101, sh_104, sh_105, rf_101_2, rf_101_3, hn, hi, z1, z2, wm_in, c1, c2]
                exact k3
            · replace k3 := k3 (fun q => c1 (by have := q.1 i hi; rw [e1] at this; exact this))
              rw [s1_iff [50] 200]
              simp (disch := omega) [sz_s, sz_0, gx_s, hx_r, hx_c, hx_b, hx_s, hx_i, hx_n, kx_s, kx_n, kx_i, cx_d, up_at, am_ctl, am_step, am_i1, am_i2, am_i2d, am_l1, am_l2, am_l2d, am_ldi, am_ldl, am_lda, am_sti, am_sta, am_stl, am_inc, am_i2l, am_l2i, am_lcmp, am_dup, am_dup2, am_pop1, am_fv, am_getf, am_putf, am_wr, am_ial, am_lal, am_bal, am_aal, am_ias, am_las, am_bas, am_alen, am_inst, am_cast, am_cpm, am_copy, am_tsw, am_pop, am_cat, am_cS, am_cI, am_cV, am_ri, am_rl, am_ra, am_rv, am_b1, am_b2, am_ent, am_en, am_isL, am_st1, am_st2, am_clr, am_cnd, cc_228, ac_228, nL_228, rb_228, np_156, ok_228_156, nL_156, tg_12_3, tg_12_2, List.getElem?_cons_succ, List.getElem?_cons_zero, nz_of, nzl_of, Int.toNat_add, Int.toNat_mul, tn_l, lt_t, lt_f, le_t, le_f, eq_t, eq_f, ltn_t, ltn_f, len_t, len_f, eqn_t, eqn_f, up_ne, up_up, sh_101, sh_104, sh_105, rf_101_2, rf_101_3, hn, hi, z1, wm_in, c1]
              exact k3) (fun _ hI => by
            replace k4 := k4 hI.1 hI.2
            rw [s1_iff [50] 200]
            simp (disch := omega) [sz_s, sz_0, gx_s, hx_r, hx_c, hx_b, hx_s, hx_i, hx_n, kx_s, kx_n, kx_i, cx_d, up_at, am_ctl, am_step, am_i1, am_i2, am_i2d, am_l1, am_l2, am_l2d, am_ldi, am_ldl, am_lda, am_sti, am_sta, am_stl, am_inc, am_i2l, am_l2i, am_lcmp, am_dup, am_dup2, am_pop1, am_fv, am_getf, am_putf, am_wr, am_ial, am_lal, am_bal, am_aal, am_ias, am_las, am_bas, am_alen, am_inst, am_cast, am_cpm, am_copy, am_tsw, am_pop, am_cat, am_cS, am_cI, am_cV, am_ri, am_rl, am_ra, am_rv, am_b1, am_b2, am_ent, am_en, am_isL, am_st1, am_st2, am_clr, am_cnd, cc_228, ac_228, nL_228, rb_228, np_156, ok_228_156, nL_156, tg_12_3, tg_12_2, List.getElem?_cons_succ, List.getElem?_cons_zero, nz_of, nzl_of, Int.toNat_add, Int.toNat_mul, tn_l, lt_t, lt_f, le_t, le_f, eq_t, eq_f, ltn_t, ltn_f, len_t, len_f, eqn_t, eqn_f, up_ne, up_up, sh_101, sh_105, rf_101_3, hn]
            exact k4) () ⟨fun i hi => absurd hi (by omega), fun i hi => absurd hi (by omega)⟩
          unfold wpM
          rw [s1_iff [50] 200]
          simp (disch := omega) [sz_s, sz_0, gx_s, hx_r, hx_c, hx_b, hx_s, hx_i, hx_n, kx_s, kx_n, kx_i, cx_d, up_at, am_ctl, am_step, am_i1, am_i2, am_i2d, am_l1, am_l2, am_l2d, am_ldi, am_ldl, am_lda, am_sti, am_sta, am_stl, am_inc, am_i2l, am_l2i, am_lcmp, am_dup, am_dup2, am_pop1, am_fv, am_getf, am_putf, am_wr, am_ial, am_lal, am_bal, am_aal, am_ias, am_las, am_bas, am_alen, am_inst, am_cast, am_cpm, am_copy, am_tsw, am_pop, am_cat, am_cS, am_cI, am_cV, am_ri, am_rl, am_ra, am_rv, am_b1, am_b2, am_ent, am_en, am_isL, am_st1, am_st2, am_clr, am_cnd, cc_228, ac_228, nL_228, rb_228, np_156, ok_228_156, nL_156, tg_12_3, tg_12_2, List.getElem?_cons_succ, List.getElem?_cons_zero, nz_of, nzl_of, Int.toNat_add, Int.toNat_mul, tn_l, lt_t, lt_f, le_t, le_f, eq_t, eq_f, ltn_t, ltn_f, len_t, len_f, eqn_t, eqn_f, up_ne, up_up, sh_101, sh_105, rf_101_3, hn, hn2]
          simpa using key
        · replace k2 := k2 (Or.inr (by omega))
          unfold wpM
          rw [s1_iff [50] 200]
          simp (disch := omega) [sz_s, sz_0, gx_s, hx_r, hx_c, hx_b, hx_s, hx_i, hx_n, kx_s, kx_n, kx_i, cx_d, up_at, am_ctl, am_step, am_i1, am_i2, am_i2d, am_l1, am_l2, am_l2d, am_ldi, am_ldl, am_lda, am_sti, am_sta, am_stl, am_inc, am_i2l, am_l2i, am_lcmp, am_dup, am_dup2, am_pop1, am_fv, am_getf, am_putf, am_wr, am_ial, am_lal, am_bal, am_aal, am_ias, am_las, am_bas, am_alen, am_inst, am_cast, am_cpm, am_copy, am_tsw, am_pop, am_cat, am_cS, am_cI, am_cV, am_ri, am_rl, am_ra, am_rv, am_b1, am_b2, am_ent, am_en, am_isL, am_st1, am_st2, am_clr, am_cnd, cc_228, ac_228, nL_228, rb_228, np_156, ok_228_156, nL_156, tg_12_3, tg_12_2, List.getElem?_cons_succ, List.getElem?_cons_zero, nz_of, nzl_of, Int.toNat_add, Int.toNat_mul, tn_l, lt_t, lt_f, le_t, le_f, eq_t, eq_f, ltn_t, ltn_f, len_t, len_f, eqn_t, eqn_f, up_ne, up_up, sh_101, sh_105, rf_101_3, hn, hn2, y2]
          exact k2
set_option maxHeartbeats 8000000 in
set_option maxRecDepth 100000 in
theorem wm_mostL {μ : Nat → Nat → Int} {r b n : Nat} {R M : Nat → Int} (h : MW μ r b n R M) (l5 l6 l7 l8 : Option AV) (Φ : Option AV → ST → Prop) (k : ∀ ν, (∀ k, ¬ k = 119 → ν k = μ k) → Φ (some (.inl (mfZ (okZ R M) n n (2 ^ n - 1)))) (S ν)) : wpS 236 44 [some (.inr (.inr (some 101))), some (.inl r), some (.inl b), some (.inl 0), some (.inl n), some (.inl 0), l6, l7, l8] [] (S μ) Φ := by
  obtain ⟨hn5, hn, hr, hb⟩ := h.1
  have p8 := pow8 hn
  have p0 := Nat.two_pow_pos n
  have el := bit_l n (by omega)
  have ea := bit_a n (by omega)
  obtain ⟨ok, hok⟩ : ∃ ok, okZ R M = ok := ⟨_, rfl⟩
  rw [hok] at k
  obtain ⟨N2, hN2⟩ : ∃ N2, 2 ^ n = N2 := ⟨_, rfl⟩
  obtain ⟨al, hal⟩ : ∃ al, al = 2 ^ n - 1 := ⟨_, rfl⟩
  rw [hN2] at el
  rw [← hal] at ea k
  have eN2 : (N2 : Int) - 1 = al := by omega
  -- the spoons
  have spoons := up_to (fun (q : Nat) (s : (Nat → Nat → Int) × Option AV × Option AV × Option AV) => wpS 236 70 [some (.inr (.inr (some 101))), some (.inl r), some (.inl b), some (.inl 0), some (.inl n), some (.inl q), s.2.1, s.2.2.1, s.2.2.2] [] (S s.1) Φ) (fun q s => (∀ k, ¬ k = 119 → s.1 k = μ k) ∧ ∀ t, t < 2 ^ n → s.1 119 t = mfZ ok n q t) n (fun q s hq hI hs' => by
    obtain ⟨ν, l6, l7, l8⟩ := s
    try dsimp only at hI hs' ⊢
    obtain ⟨i1, i2⟩ := hI
    have sets := up_to (fun (j : Nat) (s : (Nat → Nat → Int) × Option AV × Option AV) => wpS 236 85 [some (.inr (.inr (some 101))), some (.inl r), some (.inl b), some (.inl 0), some (.inl n), some (.inl q), some (.inl ((al : Int) - j)), s.2.1, s.2.2] [] (S s.1) Φ) (fun j s => (∀ k, ¬ k = 119 → s.1 k = μ k) ∧ ∀ t, t < 2 ^ n → s.1 119 t = if al < t + j then mfZ ok n (q + 1) t else mfZ ok n q t) al (fun j s hj hI hs'' => by
      obtain ⟨ν, l7, l8⟩ := s
      try dsimp only at hI hs'' ⊢
      obtain ⟨i1, i2⟩ := hI
      obtain ⟨T, hT⟩ : ∃ T, T + j = al := ⟨al - j, by omega⟩
      have e1 : (al : Int) - j = T := by omega
      have e2 : (al : Int) - ((j + 1 : Nat) : Int) = (T : Int) - 1 := by omega
      have hm1 : (T : Int) + -1 = (T : Int) - 1 := by omega
      rw [e2] at hs''
      rw [e1]
      have mouths := up_to (fun (m : Nat) (s : (Nat → Nat → Int) × Option AV) => wpS 236 93 [some (.inr (.inr (some 101))), some (.inl r), some (.inl b), some (.inl 0), some (.inl n), some (.inl q), some (.inl T), some (.inl m), s.2] [] (S s.1) Φ) (fun m s => (∀ k, ¬ k = 119 → s.1 k = μ k) ∧ (∀ t, t < 2 ^ n → ¬ t = T → s.1 119 t = if al < t + j then mfZ ok n (q + 1) t else mfZ ok n q t) ∧ s.1 119 T = miZ (mfZ ok n q) (ok q) T m) n (fun m s hm hI hs3 => by
        obtain ⟨ν, l8⟩ := s
        try dsimp only at hI hs3 ⊢
        obtain ⟨j1, j2, j3⟩ := hI
        have hν : MW ν r b n R M := MW_as h (fun k hk => j1 k (by omega))
        have H := fun σ Φ => wm_has T m (by omega) (by omega) σ Φ
        have F := fun Φ => wm_fit hν q m hq hm Φ
        rw [hok] at F
        have r1 := mi_rng (ok := ok) (n := n) (k := q) (T := T) (M := m)
        have go : ∀ (v : Int) (l8 : Option AV), miZ (mfZ ok n q) (ok q) T (m + 1) = v → wpS 236 93 [some (.inr (.inr (some 101))), some (.inl r), some (.inl b), some (.inl 0), some (.inl n), some (.inl q), some (.inl T), some (.inl ((m + 1 : Nat) : Int)), l8] [] (S (am_up ν 119 T v)) Φ := fun v l8 hv => hs3 (am_up ν 119 T v, l8) ⟨fun k hk => by (try dsimp only); rw [up_ne _ _ _ hk]; exact j1 k hk, fun t ht hne => by
          try dsimp only
          rw [up_at, if_neg (fun q => hne q.2)]; exact j2 t ht hne, by (try dsimp only); rw [up_at, if_pos ⟨rfl, rfl⟩, hv]⟩
        rw [miZ] at go
        clear hs3
        by_cases c1 : T.testBit m = true
        · rw [if_pos c1] at H
          by_cases c2 : ok q m = true
          · rw [if_pos c2] at F
            have bx := bit_x T (by omega) m (by omega) c1
            have lt1 := (sub_or T (by omega) m (by omega) c1).2.2
            have f2 := j2 (T - 2 ^ m) (by omega) (by omega)
            rw [if_neg (by omega)] at f2
            have r2 := mf_rng (ok := ok) (n := n) q (T - 2 ^ m)
            generalize hu : T - 2 ^ m = u at *
            by_cases c3 : miZ (mfZ ok n q) (ok q) T m < mfZ ok n q u + 1
            · have q' := go _ (some (.inl 1)) (if_pos ⟨⟨c1, c2⟩, c3⟩)
              clear go j2
              generalize mfZ ok n q u = y at *
              generalize miZ (mfZ ok n q) (ok q) T m = x at *
              rw [s1_iff [93] 200]
              simp (disch := omega) [sz_s, sz_0, gx_s, hx_r, hx_c, hx_b, hx_s, hx_i, hx_n, kx_s, kx_n, kx_i, cx_d, up_at, am_ctl, am_step, am_i1, am_i2, am_i2d, am_l1, am_l2, am_l2d, am_ldi, am_ldl, am_lda, am_sti, am_sta, am_stl, am_inc, am_i2l, am_l2i, am_lcmp, am_dup, am_dup2, am_pop1, am_fv, am_getf, am_putf, am_wr, am_ial, am_lal, am_bal, am_aal, am_ias, am_las, am_bas, am_alen, am_inst, am_cast, am_cpm, am_copy, am_tsw, am_pop, am_cat, am_cS, am_cI, am_cV, am_ri, am_rl, am_ra, am_rv, am_b1, am_b2, am_ent, am_en, am_isL, am_st1, am_st2, am_clr, am_cnd, cc_236, ac_236, nL_236, rb_236, np_157, ok_236_157, nL_157, np_163, ok_236_163, nL_163, np_160, ok_236_160, nL_160, vd_160_12, np_228, ok_236_228, nL_228, vd_228_12, np_229, ok_236_229, nL_229, vd_229_12, tg_12_3, tg_12_24, List.getElem?_cons_succ, List.getElem?_cons_zero, nz_of, nzl_of, Int.toNat_add, Int.toNat_mul, tn_l, lt_t, lt_f, le_t, le_f, eq_t, eq_f, ltn_t, ltn_f, len_t, len_f, eqn_t, eqn_f, up_ne, up_up, sh_101, sh_119, rf_101_24, am_cmp, hm, H, F, bx, f2, j3, c3, show ¬ (y + 1 = x) by omega, show ¬ (y + 1 < x) by omega]
              simpa using q'
            · have q' := go _ (some (.inl 0)) (if_neg (fun p => c3 p.2))
              clear go j2
              generalize mfZ ok n q u = y at *
              generalize miZ (mfZ ok n q) (ok q) T m = x at *
              rcases Int.lt_trichotomy (y + 1) x with e | e | e
              · rw [s1_iff [93] 200]
                simp (disch := omega) [sz_s, sz_0, gx_s, hx_r, hx_c, hx_b, hx_s, hx_i, hx_n, kx_s, kx_n, kx_i, cx_d, up_at, am_ctl, am_step, am_i1, am_i2, am_i2d, am_l1, am_l2, am_l2d, am_ldi, am_ldl, am_lda, am_sti, am_sta, am_stl, am_inc, am_i2l, am_l2i, am_lcmp, am_dup, am_dup2, am_pop1, am_fv, am_getf, am_putf, am_wr, am_ial, am_lal, am_bal, am_aal, am_ias, am_las, am_bas, am_alen, am_inst, am_cast, am_cpm, am_copy, am_tsw, am_pop, am_cat, am_cS, am_cI, am_cV, am_ri, am_rl, am_ra, am_rv, am_b1, am_b2, am_ent, am_en, am_isL, am_st1, am_st2, am_clr, am_cnd, cc_236, ac_236, nL_236, rb_236, np_157, ok_236_157, nL_157, np_163, ok_236_163, nL_163, np_160, ok_236_160, nL_160, vd_160_12, np_228, ok_236_228, nL_228, vd_228_12, np_229, ok_236_229, nL_229, vd_229_12, tg_12_3, tg_12_24, List.getElem?_cons_succ, List.getElem?_cons_zero, nz_of, nzl_of, Int.toNat_add, Int.toNat_mul, tn_l, lt_t, lt_f, le_t, le_f, eq_t, eq_f, ltn_t, ltn_f, len_t, len_f, eqn_t, eqn_f, up_ne, up_up, sh_101, sh_119, rf_101_24, am_cmp, hm, H, F, bx, f2, j3, e]
                simpa using q'
              · rw [s1_iff [93] 200]
                simp (disch := omega) [sz_s, sz_0, gx_s, hx_r, hx_c, hx_b, hx_s, hx_i, hx_n, kx_s, kx_n, kx_i, cx_d, up_at, am_ctl, am_step, am_i1, am_i2, am_i2d, am_l1, am_l2, am_l2d, am_ldi, am_ldl, am_lda, am_sti, am_sta, am_stl, am_inc, am_i2l, am_l2i, am_lcmp, am_dup, am_dup2, am_pop1, am_fv, am_getf, am_putf, am_wr, am_ial, am_lal, am_bal, am_aal, am_ias, am_las, am_bas, am_alen, am_inst, am_cast, am_cpm, am_copy, am_tsw, am_pop, am_cat, am_cS, am_cI, am_cV, am_ri, am_rl, am_ra, am_rv, am_b1, am_b2, am_ent, am_en, am_isL, am_st1, am_st2, am_clr, am_cnd, cc_236, ac_236, nL_236, rb_236, np_157, ok_236_157, nL_157, np_163, ok_236_163, nL_163, np_160, ok_236_160, nL_160, vd_160_12, np_228, ok_236_228, nL_228, vd_228_12, np_229, ok_236_229, nL_229, vd_229_12, tg_12_3, tg_12_24, List.getElem?_cons_succ, List.getElem?_cons_zero, nz_of, nzl_of, Int.toNat_add, Int.toNat_mul, tn_l, lt_t, lt_f, le_t, le_f, eq_t, eq_f, ltn_t, ltn_f, len_t, len_f, eqn_t, eqn_f, up_ne, up_up, sh_101, sh_119, rf_101_24, am_cmp, hm, H, F, bx, f2, j3, e]
                simpa using q'
              · omega
          · rw [if_neg c2] at F
            have q' := go _ (some (.inl 0)) (if_neg (fun p => c2 p.1.2))
            clear go j2
            generalize miZ (mfZ ok n q) (ok q) T m = x at *
            rw [s1_iff [93] 200]
            simp (disch := omega) [sz_s, sz_0, gx_s, hx_r, hx_c, hx_b, hx_s, hx_i, hx_n, kx_s, kx_n, kx_i, cx_d, up_at, am_ctl, am_step, am_i1, am_i2, am_i2d, am_l1, am_l2, am_l2d, am_ldi, am_ldl, am_lda, am_sti, am_sta, am_stl, am_inc, am_i2l, am_l2i, am_lcmp, am_dup, am_dup2, am_pop1, am_fv, am_getf, am_putf, am_wr, am_ial, am_lal, am_bal, am_aal, am_ias, am_las, am_bas, am_alen, am_inst, am_cast, am_cpm, am_copy, am_tsw, am_pop, am_cat, am_cS, am_cI, am_cV, am_ri, am_rl, am_ra, am_rv, am_b1, am_b2, am_ent, am_en, am_isL, am_st1, am_st2, am_clr, am_cnd, cc_236, ac_236, nL_236, rb_236, np_157, ok_236_157, nL_157, np_163, ok_236_163, nL_163, np_160, ok_236_160, nL_160, vd_160_12, np_228, ok_236_228, nL_228, vd_228_12, np_229, ok_236_229, nL_229, vd_229_12, tg_12_3, tg_12_24, List.getElem?_cons_succ, List.getElem?_cons_zero, nz_of, nzl_of, Int.toNat_add, Int.toNat_mul, tn_l, lt_t, lt_f, le_t, le_f, eq_t, eq_f, ltn_t, ltn_f, len_t, len_f, eqn_t, eqn_f, up_ne, up_up, sh_101, sh_119, rf_101_24, hm, H, F, j3]
            simpa using q'
        · rw [if_neg c1] at H
          have q' := go _ (some (.inl 0)) (if_neg (fun p => c1 p.1.1))
          clear go j2
          generalize miZ (mfZ ok n q) (ok q) T m = x at *
          rw [s1_iff [93] 200]
          simp (disch := omega) [sz_s, sz_0, gx_s, hx_r, hx_c, hx_b, hx_s, hx_i, hx_n, kx_s, kx_n, kx_i, cx_d, up_at, am_ctl, am_step, am_i1, am_i2, am_i2d, am_l1, am_l2, am_l2d, am_ldi, am_ldl, am_lda, am_sti, am_sta, am_stl, am_inc, am_i2l, am_l2i, am_lcmp, am_dup, am_dup2, am_pop1, am_fv, am_getf, am_putf, am_wr, am_ial, am_lal, am_bal, am_aal, am_ias, am_las, am_bas, am_alen, am_inst, am_cast, am_cpm, am_copy, am_tsw, am_pop, am_cat, am_cS, am_cI, am_cV, am_ri, am_rl, am_ra, am_rv, am_b1, am_b2, am_ent, am_en, am_isL, am_st1, am_st2, am_clr, am_cnd, cc_236, ac_236, nL_236, rb_236, np_157, ok_236_157, nL_157, np_163, ok_236_163, nL_163, np_160, ok_236_160, nL_160, vd_160_12, np_228, ok_236_228, nL_228, vd_228_12, np_229, ok_236_229, nL_229, vd_229_12, tg_12_3, tg_12_24, List.getElem?_cons_succ, List.getElem?_cons_zero, nz_of, nzl_of, Int.toNat_add, Int.toNat_mul, tn_l, lt_t, lt_f, le_t, le_f, eq_t, eq_f, ltn_t, ltn_f, len_t, len_f, eqn_t, eqn_f, up_ne, up_up, sh_101, sh_119, rf_101_24, hm, H, j3]
          simpa using q') (fun s hI => by
        obtain ⟨ν, l8⟩ := s
        try dsimp only at hI ⊢
        obtain ⟨j1, j2, j3⟩ := hI
        have q' := hs'' (ν, some (.inl n), l8) ⟨j1, fun t ht => by
          try dsimp only
          by_cases e : t = T
          · subst e; rw [if_pos (by omega), j3]; rfl
          · rw [j2 t ht e]
            exact if_iff (by omega) _ _⟩
        rw [s1_iff [85, 93] 200]
        simp (disch := omega) [sz_s, sz_0, gx_s, hx_r, hx_c, hx_b, hx_s, hx_i, hx_n, kx_s, kx_n, kx_i, cx_d, up_at, am_ctl, am_step, am_i1, am_i2, am_i2d, am_l1, am_l2, am_l2d, am_ldi, am_ldl, am_lda, am_sti, am_sta, am_stl, am_inc, am_i2l, am_l2i, am_lcmp, am_dup, am_dup2, am_pop1, am_fv, am_getf, am_putf, am_wr, am_ial, am_lal, am_bal, am_aal, am_ias, am_las, am_bas, am_alen, am_inst, am_cast, am_cpm, am_copy, am_tsw, am_pop, am_cat, am_cS, am_cI, am_cV, am_ri, am_rl, am_ra, am_rv, am_b1, am_b2, am_ent, am_en, am_isL, am_st1, am_st2, am_clr, am_cnd, cc_236, ac_236, nL_236, rb_236, np_157, ok_236_157, nL_157, np_163, ok_236_163, nL_163, np_160, ok_236_160, nL_160, vd_160_12, np_228, ok_236_228, nL_228, vd_228_12, np_229, ok_236_229, nL_229, vd_229_12, tg_12_3, tg_12_24, List.getElem?_cons_succ, List.getElem?_cons_zero, nz_of, nzl_of, Int.toNat_add, Int.toNat_mul, tn_l, lt_t, lt_f, le_t, le_f, eq_t, eq_f, ltn_t, ltn_f, len_t, len_f, eqn_t, eqn_f, up_ne, up_up, sh_101, hm1]
        simpa using q') (ν, l8) ⟨i1, fun t ht _ => i2 t ht, by
          try dsimp only
          rw [i2 T (by omega), if_neg (by omega)]; rfl⟩
      try dsimp only at mouths
      rw [s1_iff [85, 93] 200]
      simp (disch := omega) [sz_s, sz_0, gx_s, hx_r, hx_c, hx_b, hx_s, hx_i, hx_n, kx_s, kx_n, kx_i, cx_d, up_at, am_ctl, am_step, am_i1, am_i2, am_i2d, am_l1, am_l2, am_l2d, am_ldi, am_ldl, am_lda, am_sti, am_sta, am_stl, am_inc, am_i2l, am_l2i, am_lcmp, am_dup, am_dup2, am_pop1, am_fv, am_getf, am_putf, am_wr, am_ial, am_lal, am_bal, am_aal, am_ias, am_las, am_bas, am_alen, am_inst, am_cast, am_cpm, am_copy, am_tsw, am_pop, am_cat, am_cS, am_cI, am_cV, am_ri, am_rl, am_ra, am_rv, am_b1, am_b2, am_ent, am_en, am_isL, am_st1, am_st2, am_clr, am_cnd, cc_236, ac_236, nL_236, rb_236, np_157, ok_236_157, nL_157, np_163, ok_236_163, nL_163, np_160, ok_236_160, nL_160, vd_160_12, np_228, ok_236_228, nL_228, vd_228_12, np_229, ok_236_229, nL_229, vd_229_12, tg_12_3, tg_12_24, List.getElem?_cons_succ, List.getElem?_cons_zero, nz_of, nzl_of, Int.toNat_add, Int.toNat_mul, tn_l, lt_t, lt_f, le_t, le_f, eq_t, eq_f, ltn_t, ltn_f, len_t, len_f, eqn_t, eqn_f, up_ne, up_up, sh_101]
      simpa using mouths) (fun s hI => by
      obtain ⟨ν, l7, l8⟩ := s
      try dsimp only at hI ⊢
      obtain ⟨i1, i2⟩ := hI
      have e1 : (al : Int) - al = 0 := by omega
      rw [e1]
      have q' := hs' (ν, some (.inl 0), l7, l8) ⟨i1, fun t ht => by
        try dsimp only
        rw [i2 t ht]
        by_cases e : t = 0
        · subst e; rw [mf_0, mf_0]; split <;> rfl
        · rw [if_pos (by omega)]⟩
      rw [s1_iff [70, 85] 200]
      simp (disch := omega) [sz_s, sz_0, gx_s, hx_r, hx_c, hx_b, hx_s, hx_i, hx_n, kx_s, kx_n, kx_i, cx_d, up_at, am_ctl, am_step, am_i1, am_i2, am_i2d, am_l1, am_l2, am_l2d, am_ldi, am_ldl, am_lda, am_sti, am_sta, am_stl, am_inc, am_i2l, am_l2i, am_lcmp, am_dup, am_dup2, am_pop1, am_fv, am_getf, am_putf, am_wr, am_ial, am_lal, am_bal, am_aal, am_ias, am_las, am_bas, am_alen, am_inst, am_cast, am_cpm, am_copy, am_tsw, am_pop, am_cat, am_cS, am_cI, am_cV, am_ri, am_rl, am_ra, am_rv, am_b1, am_b2, am_ent, am_en, am_isL, am_st1, am_st2, am_clr, am_cnd, cc_236, ac_236, nL_236, rb_236, np_157, ok_236_157, nL_157, np_163, ok_236_163, nL_163, np_160, ok_236_160, nL_160, vd_160_12, np_228, ok_236_228, nL_228, vd_228_12, np_229, ok_236_229, nL_229, vd_229_12, tg_12_3, tg_12_24, List.getElem?_cons_succ, List.getElem?_cons_zero, nz_of, nzl_of, Int.toNat_add, Int.toNat_mul, tn_l, lt_t, lt_f, le_t, le_f, eq_t, eq_f, ltn_t, ltn_f, len_t, len_f, eqn_t, eqn_f, up_ne, up_up, sh_101]
      simpa using q') (ν, l7, l8) ⟨i1, fun t ht => by
        try dsimp only
        rw [if_neg (by omega)]; exact i2 t ht⟩
    try dsimp only at sets
    rw [s1_iff [70, 85] 200]
    simp (disch := omega) [sz_s, sz_0, gx_s, hx_r, hx_c, hx_b, hx_s, hx_i, hx_n, kx_s, kx_n, kx_i, cx_d, up_at, am_ctl, am_step, am_i1, am_i2, am_i2d, am_l1, am_l2, am_l2d, am_ldi, am_ldl, am_lda, am_sti, am_sta, am_stl, am_inc, am_i2l, am_l2i, am_lcmp, am_dup, am_dup2, am_pop1, am_fv, am_getf, am_putf, am_wr, am_ial, am_lal, am_bal, am_aal, am_ias, am_las, am_bas, am_alen, am_inst, am_cast, am_cpm, am_copy, am_tsw, am_pop, am_cat, am_cS, am_cI, am_cV, am_ri, am_rl, am_ra, am_rv, am_b1, am_b2, am_ent, am_en, am_isL, am_st1, am_st2, am_clr, am_cnd, cc_236, ac_236, nL_236, rb_236, np_157, ok_236_157, nL_157, np_163, ok_236_163, nL_163, np_160, ok_236_160, nL_160, vd_160_12, np_228, ok_236_228, nL_228, vd_228_12, np_229, ok_236_229, nL_229, vd_229_12, tg_12_3, tg_12_24, List.getElem?_cons_succ, List.getElem?_cons_zero, nz_of, nzl_of, Int.toNat_add, Int.toNat_mul, tn_l, lt_t, lt_f, le_t, le_f, eq_t, eq_f, ltn_t, ltn_f, len_t, len_f, eqn_t, eqn_f, up_ne, up_up, sh_101, el, eN2]
    simpa using sets) (fun s hI => by
    obtain ⟨ν, l6, l7, l8⟩ := s
    try dsimp only at hI ⊢
    obtain ⟨i1, i2⟩ := hI
    have v := i2 al (by omega)
    have rr := mf_rng (ok := ok) (n := n) n al
    replace k := k ν i1
    generalize mfZ ok n n al = y at *
    rw [s1_iff [70] 200]
    simp (disch := omega) [sz_s, sz_0, gx_s, hx_r, hx_c, hx_b, hx_s, hx_i, hx_n, kx_s, kx_n, kx_i, cx_d, up_at, am_ctl, am_step, am_i1, am_i2, am_i2d, am_l1, am_l2, am_l2d, am_ldi, am_ldl, am_lda, am_sti, am_sta, am_stl, am_inc, am_i2l, am_l2i, am_lcmp, am_dup, am_dup2, am_pop1, am_fv, am_getf, am_putf, am_wr, am_ial, am_lal, am_bal, am_aal, am_ias, am_las, am_bas, am_alen, am_inst, am_cast, am_cpm, am_copy, am_tsw, am_pop, am_cat, am_cS, am_cI, am_cV, am_ri, am_rl, am_ra, am_rv, am_b1, am_b2, am_ent, am_en, am_isL, am_st1, am_st2, am_clr, am_cnd, cc_236, ac_236, nL_236, rb_236, np_157, ok_236_157, nL_157, np_163, ok_236_163, nL_163, np_160, ok_236_160, nL_160, vd_160_12, np_228, ok_236_228, nL_228, vd_228_12, np_229, ok_236_229, nL_229, vd_229_12, tg_12_3, tg_12_24, List.getElem?_cons_succ, List.getElem?_cons_zero, nz_of, nzl_of, Int.toNat_add, Int.toNat_mul, tn_l, lt_t, lt_f, le_t, le_f, eq_t, eq_f, ltn_t, ltn_f, len_t, len_f, eqn_t, eqn_f, up_ne, up_up, sh_101, sh_119, rf_101_24, el, eN2, v]
    exact k)
  have clr := up_to (fun (t : Nat) (ν : Nat → Nat → Int) => wpS 236 44 [some (.inr (.inr (some 101))), some (.inl r), some (.inl b), some (.inl 0), some (.inl n), some (.inl t), l6, l7, l8] [] (S ν) Φ) (fun t ν => (∀ k, ¬ k = 119 → ν k = μ k) ∧ ∀ u, u < t → ν 119 u = 0) N2 (fun t ν ht hI hs' => by
    try dsimp only at hI hs' ⊢
    have q := hs' (am_up ν 119 t 0) ⟨fun k hk => by rw [up_ne _ _ _ hk]; exact hI.1 k hk, fun u hu => by
      rw [up_at]
      by_cases e : u = t
      · subst e; rw [if_pos ⟨rfl, rfl⟩]
      · rw [if_neg (fun q => e q.2)]; exact hI.2 u (by omega)⟩
    rw [s1_iff [44] 200]
    simp (disch := omega) [sz_s, sz_0, gx_s, hx_r, hx_c, hx_b, hx_s, hx_i, hx_n, kx_s, kx_n, kx_i, cx_d, up_at, am_ctl, am_step, am_i1, am_i2, am_i2d, am_l1, am_l2, am_l2d, am_ldi, am_ldl, am_lda, am_sti, am_sta, am_stl, am_inc, am_i2l, am_l2i, am_lcmp, am_dup, am_dup2, am_pop1, am_fv, am_getf, am_putf, am_wr, am_ial, am_lal, am_bal, am_aal, am_ias, am_las, am_bas, am_alen, am_inst, am_cast, am_cpm, am_copy, am_tsw, am_pop, am_cat, am_cS, am_cI, am_cV, am_ri, am_rl, am_ra, am_rv, am_b1, am_b2, am_ent, am_en, am_isL, am_st1, am_st2, am_clr, am_cnd, cc_236, ac_236, nL_236, rb_236, np_157, ok_236_157, nL_157, np_163, ok_236_163, nL_163, np_160, ok_236_160, nL_160, vd_160_12, np_228, ok_236_228, nL_228, vd_228_12, np_229, ok_236_229, nL_229, vd_229_12, tg_12_3, tg_12_24, List.getElem?_cons_succ, List.getElem?_cons_zero, nz_of, nzl_of, Int.toNat_add, Int.toNat_mul, tn_l, lt_t, lt_f, le_t, le_f, eq_t, eq_f, ltn_t, ltn_f, len_t, len_f, eqn_t, eqn_f, up_ne, up_up, sh_101, sh_119, rf_101_24, el]
    simpa using q) (fun ν hI => by
    try dsimp only at hI ⊢
    have q := spoons (ν, l6, l7, l8) ⟨hI.1, fun t ht => by (try dsimp only); rw [hI.2 t (by omega)]; rfl⟩
    rw [s1_iff [44, 70] 200]
    simp (disch := omega) [sz_s, sz_0, gx_s, hx_r, hx_c, hx_b, hx_s, hx_i, hx_n, kx_s, kx_n, kx_i, cx_d, up_at, am_ctl, am_step, am_i1, am_i2, am_i2d, am_l1, am_l2, am_l2d, am_ldi, am_ldl, am_lda, am_sti, am_sta, am_stl, am_inc, am_i2l, am_l2i, am_lcmp, am_dup, am_dup2, am_pop1, am_fv, am_getf, am_putf, am_wr, am_ial, am_lal, am_bal, am_aal, am_ias, am_las, am_bas, am_alen, am_inst, am_cast, am_cpm, am_copy, am_tsw, am_pop, am_cat, am_cS, am_cI, am_cV, am_ri, am_rl, am_ra, am_rv, am_b1, am_b2, am_ent, am_en, am_isL, am_st1, am_st2, am_clr, am_cnd, cc_236, ac_236, nL_236, rb_236, np_157, ok_236_157, nL_157, np_163, ok_236_163, nL_163, np_160, ok_236_160, nL_160, vd_160_12, np_228, ok_236_228, nL_228, vd_228_12, np_229, ok_236_229, nL_229, vd_229_12, tg_12_3, tg_12_24, List.getElem?_cons_succ, List.getElem?_cons_zero, nz_of, nzl_of, Int.toNat_add, Int.toNat_mul, tn_l, lt_t, lt_f, le_t, le_f, eq_t, eq_f, ltn_t, ltn_f, len_t, len_f, eqn_t, eqn_f, up_ne, up_up, sh_101, el]
    simpa using q) μ ⟨fun _ _ => rfl, fun u hu => absurd hu (by omega)⟩
  simpa using clr
