/-! the reference: does a spoon always go there; the first way -/
theorem okZ_on (ok : Nat → Nat → Bool) (k m0 j m : Nat) : onZ ok k m0 j m = true ↔ ok j m = true ∧ (¬ j = k ∨ m = m0) := by
  unfold onZ
  rcases ok j m with _ | _
  · simp
  · by_cases a : j = k
    · by_cases b : m = m0 <;> simp [a, b]
    · simp [a]
set_option maxHeartbeats 8000000 in
set_option maxRecDepth 100000 in
theorem wm_isAlways {μ : Nat → Nat → Int} {r b n : Nat} {R M : Nat → Int} (h : MW μ r b n R M) (sp mo : Nat) (hsp : sp < n) (hmo : mo < n) (Φ : Option AV → ST → Prop) (k : ∀ ν, (∀ k, ¬ k = 119 → ν k = μ k) → (∀ t, t < 2 ^ n → ν 119 t = BH (okZ R M) n t) → Φ (some (.inl (if smZ (okZ R M) n sp mo = BH (okZ R M) n 0 then 1 else 0))) (S ν)) : wpM 233 [.inr (.inr (some 101)), .inl r, .inl b, .inl sp, .inl mo] (S μ) Φ := by
  obtain ⟨hn5, hn, hr, hb⟩ := h.1
  have p8 := pow8 hn
  have p0 := Nat.two_pow_pos n
  have el := bit_l n (by omega)
  have ea := bit_a n (by omega)
  obtain ⟨ok, hok⟩ : ∃ ok, okZ R M = ok := ⟨_, rfl⟩
  rw [hok] at k
  obtain ⟨on, hon⟩ : ∃ on, onZ ok sp mo = on := ⟨_, rfl⟩
  obtain ⟨N2, hN2⟩ : ∃ N2, 2 ^ n = N2 := ⟨_, rfl⟩
  have key := up_to (fun (T : Nat) (s : (Nat → Nat → Int) × Option AV × Option AV × Option AV × Option AV) => wpS 233 11 [some (.inr (.inr (some 101))), some (.inl r), some (.inl b), some (.inl sp), some (.inl mo), some (.inl n), some (.inl T), s.2.1, none, s.2.2.1, s.2.2.2.1, s.2.2.2.2] [] (S s.1) Φ) (fun T s => (∀ k, ¬ k = 119 → s.1 k = μ k) ∧ ∀ t, t < T → s.1 119 t = FW on n t) N2 (fun T s hT hI hs' => by
    obtain ⟨ν, l7, l9, l10, l11⟩ := s
    try dsimp only at hI hs' ⊢
    obtain ⟨i1, i2⟩ := hI
    rw [hN2] at el
    have O := fun σ Φ => wm_onesN T (by omega) σ Φ
    by_cases bot : T = 0
    · subst bot
      have q := hs' (am_up ν 119 0 1, some (.inr (.inl 1)), some (.inl (-1)), some (.inl 0), l11) ⟨fun k hk => by (try dsimp only); rw [up_ne _ _ _ hk]; exact i1 k hk, fun t ht => by
        try dsimp only
        have : t = 0 := by omega
        subst this
        rw [up_at, if_pos ⟨rfl, rfl⟩, FW_0]⟩
      have O0 : ∀ (σ : ST) (Φ : Option AV → ST → Prop), wpM 225 [.inl 0] σ Φ ↔ Φ (some (.inl 0)) σ := fun σ Φ => by
        have := wm_onesN 0 (by decide) σ Φ
        rw [pN_0] at this
        simpa using this
      rw [s1_iff [11] 200]
      simp (disch := omega) [sz_s, sz_0, gx_s, hx_r, hx_c, hx_b, hx_s, hx_i, hx_n, kx_s, kx_n, kx_i, cx_d, up_at, am_ctl, am_step, am_i1, am_i2, am_i2d, am_l1, am_l2, am_l2d, am_ldi, am_ldl, am_lda, am_sti, am_sta, am_stl, am_inc, am_i2l, am_l2i, am_lcmp, am_dup, am_dup2, am_pop1, am_fv, am_getf, am_putf, am_wr, am_ial, am_lal, am_bal, am_aal, am_ias, am_las, am_bas, am_alen, am_inst, am_cast, am_cpm, am_copy, am_tsw, am_pop, am_cat, am_cS, am_cI, am_cV, am_ri, am_rl, am_ra, am_rv, am_b1, am_b2, am_ent, am_en, am_isL, am_st1, am_st2, am_clr, am_cnd, cc_233, ac_233, nL_233, rb_233, np_157, ok_233_157, nL_157, np_225, ok_233_225, nL_225, np_229, ok_233_229, nL_229, vd_229_12, np_230, ok_233_230, nL_230, vd_230_12, tg_12_3, tg_12_24, List.getElem?_cons_succ, List.getElem?_cons_zero, nz_of, nzl_of, Int.toNat_add, Int.toNat_mul, tn_l, lt_t, lt_f, le_t, le_f, eq_t, eq_f, ltn_t, ltn_f, len_t, len_f, eqn_t, eqn_f, up_ne, up_up, sh_101, sh_119, rf_101_24, O0, el]
      simpa using q
    · have hp : ¬ pN T = 0 := fun e => bot (pN_z (by omega) e)
      obtain ⟨la, hla⟩ : ∃ la, pN T = la + 1 := ⟨pN T - 1, by omega⟩
      have pl := pN_le hn (t := T) (by omega)
      have fs := FW_s (ok := on) hn (t := T) (by omega) bot
      rw [hla, Nat.add_sub_cancel] at fs
      rw [hla] at O pl
      have rT : ∀ m, m ≤ n → 0 ≤ sumZ (fun m => if T.testBit m = true ∧ on la m = true then FW on n (T - 2 ^ m) else 0) m ∧ sumZ (fun m => if T.testBit m = true ∧ on la m = true then FW on n (T - 2 ^ m) else 0) m ≤ 134217728 := fun m hm => by
        have := @sumZ_rng (fun m => if T.testBit m = true ∧ on la m = true then FW on n (T - 2 ^ m) else 0) 0 16777216 m (fun i _ => by
          have := FW_rng (ok := on) hn (T - 2 ^ i)
          try dsimp only
          split <;> omega)
        omega
      have hν : MW ν r b n R M := MW_as h (fun k hk => i1 k (by omega))
      have inner := up_to (fun (m : Nat) (l11 : Option AV) => wpS 233 44 [some (.inr (.inr (some 101))), some (.inl r), some (.inl b), some (.inl sp), some (.inl mo), some (.inl n), some (.inl T), some (.inr (.inl (sumZ (fun m => if T.testBit m = true ∧ on la m = true then FW on n (T - 2 ^ m) else 0) m))), none, some (.inl la), some (.inl m), l11] [] (S ν) Φ) (fun _ _ => True) n (fun m l11 hm _ hs'' => by
        try dsimp only at hs'' ⊢
        have H := fun σ Φ => wm_has T m (by omega) (by omega) σ Φ
        have F := fun Φ => wm_fit hν la m (by omega) hm Φ
        rw [hok] at F
        have r1 := rT m (by omega)
        have r2 := rT (m + 1) (by omega)
        rw [sumZ_s] at r2 hs''
        have q0 := hs'' (some (.inl 0)) trivial
        have q1 := hs'' (some (.inl 1)) trivial
        clear hs''
        have oi := okZ_on ok sp mo la m
        rw [hon] at oi
        by_cases c1 : T.testBit m = true
        · rw [if_pos c1] at H
          by_cases c2 : ok la m = true
          · rw [if_pos c2] at F
            by_cases c3 : ¬ la = sp ∨ m = mo
            · have bx := bit_x T (by omega) m (by omega) c1
              have lt1 := (sub_or T (by omega) m (by omega) c1).2.2
              have f2 := i2 _ (show T - 2 ^ m < T from lt1)
              rw [if_pos ⟨c1, oi.mpr ⟨c2, c3⟩⟩] at r2 q1
              generalize hu : T - 2 ^ m = u at *
              generalize sumZ (fun m => if T.testBit m = true ∧ on la m = true then FW on n (T - 2 ^ m) else 0) m = x at *
              have r3 := FW_rng (ok := on) hn u
              generalize FW on n u = y at *
              by_cases c4 : la = sp
              · have c5 : m = mo := c3.resolve_left (fun q => q c4)
                rw [s1_iff [44] 200]
                simp (disch := omega) [sz_s, sz_0, gx_s, hx_r, hx_c, hx_b, hx_s, hx_i, hx_n, kx_s, kx_n, kx_i, cx_d, up_at, am_ctl, am_step, am_i1, am_i2, am_i2d, am_l1, am_l2, am_l2d, am_ldi, am_ldl, am_lda, am_sti, am_sta, am_stl, am_inc, am_i2l, am_l2i, am_lcmp, am_dup, am_dup2, am_pop1, am_fv, am_getf, am_putf, am_wr, am_ial, am_lal, am_bal, am_aal, am_ias, am_las, am_bas, am_alen, am_inst, am_cast, am_cpm, am_copy, am_tsw, am_pop, am_cat, am_cS, am_cI, am_cV, am_ri, am_rl, am_ra, am_rv, am_b1, am_b2, am_ent, am_en, am_isL, am_st1, am_st2, am_clr, am_cnd, cc_233, ac_233, nL_233, rb_233, np_157, ok_233_157, nL_157, np_225, ok_233_225, nL_225, np_229, ok_233_229, nL_229, vd_229_12, np_230, ok_233_230, nL_230, vd_230_12, tg_12_3, tg_12_24, List.getElem?_cons_succ, List.getElem?_cons_zero, nz_of, nzl_of, Int.toNat_add, Int.toNat_mul, tn_l, lt_t, lt_f, le_t, le_f, eq_t, eq_f, ltn_t, ltn_f, len_t, len_f, eqn_t, eqn_f, up_ne, up_up, sh_101, sh_119, rf_101_24, hm, bot, H, F, bx, f2, eq_true c4, eq_true c5]
                simpa using q1
              · rw [s1_iff [44] 200]
                simp (disch := omega) [sz_s, sz_0, gx_s, hx_r, hx_c, hx_b, hx_s, hx_i, hx_n, kx_s, kx_n, kx_i, cx_d, up_at, am_ctl, am_step, am_i1, am_i2, am_i2d, am_l1, am_l2, am_l2d, am_ldi, am_ldl, am_lda, am_sti, am_sta, am_stl, am_inc, am_i2l, am_l2i, am_lcmp, am_dup, am_dup2, am_pop1, am_fv, am_getf, am_putf, am_wr, am_ial, am_lal, am_bal, am_aal, am_ias, am_las, am_bas, am_alen, am_inst, am_cast, am_cpm, am_copy, am_tsw, am_pop, am_cat, am_cS, am_cI, am_cV, am_ri, am_rl, am_ra, am_rv, am_b1, am_b2, am_ent, am_en, am_isL, am_st1, am_st2, am_clr, am_cnd, cc_233, ac_233, nL_233, rb_233, np_157, ok_233_157, nL_157, np_225, ok_233_225, nL_225, np_229, ok_233_229, nL_229, vd_229_12, np_230, ok_233_230, nL_230, vd_230_12, tg_12_3, tg_12_24, List.getElem?_cons_succ, List.getElem?_cons_zero, nz_of, nzl_of, Int.toNat_add, Int.toNat_mul, tn_l, lt_t, lt_f, le_t, le_f, eq_t, eq_f, ltn_t, ltn_f, len_t, len_f, eqn_t, eqn_f, up_ne, up_up, sh_101, sh_119, rf_101_24, hm, bot, H, F, bx, f2, c4]
                simpa using q1
            · have c4 : la = sp := by omega
              have c5 : ¬ m = mo := by omega
              rw [if_neg (fun q => c3 (oi.mp q.2).2), Int.add_zero] at q0
              generalize sumZ (fun m => if T.testBit m = true ∧ on la m = true then FW on n (T - 2 ^ m) else 0) m = x at *
              rw [s1_iff [44] 200]
              simp (disch := omega) [sz_s, sz_0, gx_s, hx_r, hx_c, hx_b, hx_s, hx_i, hx_n, kx_s, kx_n, kx_i, cx_d, up_at, am_ctl, am_step, am_i1, am_i2, am_i2d, am_l1, am_l2, am_l2d, am_ldi, am_ldl, am_lda, am_sti, am_sta, am_stl, am_inc, am_i2l, am_l2i, am_lcmp, am_dup, am_dup2, am_pop1, am_fv, am_getf, am_putf, am_wr, am_ial, am_lal, am_bal, am_aal, am_ias, am_las, am_bas, am_alen, am_inst, am_cast, am_cpm, am_copy, am_tsw, am_pop, am_cat, am_cS, am_cI, am_cV, am_ri, am_rl, am_ra, am_rv, am_b1, am_b2, am_ent, am_en, am_isL, am_st1, am_st2, am_clr, am_cnd, cc_233, ac_233, nL_233, rb_233, np_157, ok_233_157, nL_157, np_225, ok_233_225, nL_225, np_229, ok_233_229, nL_229, vd_229_12, np_230, ok_233_230, nL_230, vd_230_12, tg_12_3, tg_12_24, List.getElem?_cons_succ, List.getElem?_cons_zero, nz_of, nzl_of, Int.toNat_add, Int.toNat_mul, tn_l, lt_t, lt_f, le_t, le_f, eq_t, eq_f, ltn_t, ltn_f, len_t, len_f, eqn_t, eqn_f, up_ne, up_up, sh_101, hm, bot, H, F, eq_true c4, c5]
              simpa using q0
          · rw [if_neg c2] at F
            rw [if_neg (fun q => c2 (oi.mp q.2).1), Int.add_zero] at q0
            generalize sumZ (fun m => if T.testBit m = true ∧ on la m = true then FW on n (T - 2 ^ m) else 0) m = x at *
            rw [s1_iff [44] 200]
            simp (disch := omega) [sz_s, sz_0, gx_s, hx_r, hx_c, hx_b, hx_s, hx_i, hx_n, kx_s, kx_n, kx_i, cx_d, up_at, am_ctl, am_step, am_i1, am_i2, am_i2d, am_l1, am_l2, am_l2d, am_ldi, am_ldl, am_lda, am_sti, am_sta, am_stl, am_inc, am_i2l, am_l2i, am_lcmp, am_dup, am_dup2, am_pop1, am_fv, am_getf, am_putf, am_wr, am_ial, am_lal, am_bal, am_aal, am_ias, am_las, am_bas, am_alen, am_inst, am_cast, am_cpm, am_copy, am_tsw, am_pop, am_cat, am_cS, am_cI, am_cV, am_ri, am_rl, am_ra, am_rv, am_b1, am_b2, am_ent, am_en, am_isL, am_st1, am_st2, am_clr, am_cnd, cc_233, ac_233, nL_233, rb_233, np_157, ok_233_157, nL_157, np_225, ok_233_225, nL_225, np_229, ok_233_229, nL_229, vd_229_12, np_230, ok_233_230, nL_230, vd_230_12, tg_12_3, tg_12_24, List.getElem?_cons_succ, List.getElem?_cons_zero, nz_of, nzl_of, Int.toNat_add, Int.toNat_mul, tn_l, lt_t, lt_f, le_t, le_f, eq_t, eq_f, ltn_t, ltn_f, len_t, len_f, eqn_t, eqn_f, up_ne, up_up, sh_101, hm, bot, H, F]
            simpa using q0
        · rw [if_neg c1] at H
          rw [if_neg (fun q => c1 q.1), Int.add_zero] at q0
          generalize sumZ (fun m => if T.testBit m = true ∧ on la m = true then FW on n (T - 2 ^ m) else 0) m = x at *
          rw [s1_iff [44] 200]
          simp (disch := omega) [sz_s, sz_0, gx_s, hx_r, hx_c, hx_b, hx_s, hx_i, hx_n, kx_s, kx_n, kx_i, cx_d, up_at, am_ctl, am_step, am_i1, am_i2, am_i2d, am_l1, am_l2, am_l2d, am_ldi, am_ldl, am_lda, am_sti, am_sta, am_stl, am_inc, am_i2l, am_l2i, am_lcmp, am_dup, am_dup2, am_pop1, am_fv, am_getf, am_putf, am_wr, am_ial, am_lal, am_bal, am_aal, am_ias, am_las, am_bas, am_alen, am_inst, am_cast, am_cpm, am_copy, am_tsw, am_pop, am_cat, am_cS, am_cI, am_cV, am_ri, am_rl, am_ra, am_rv, am_b1, am_b2, am_ent, am_en, am_isL, am_st1, am_st2, am_clr, am_cnd, cc_233, ac_233, nL_233, rb_233, np_157, ok_233_157, nL_157, np_225, ok_233_225, nL_225, np_229, ok_233_229, nL_229, vd_229_12, np_230, ok_233_230, nL_230, vd_230_12, tg_12_3, tg_12_24, List.getElem?_cons_succ, List.getElem?_cons_zero, nz_of, nzl_of, Int.toNat_add, Int.toNat_mul, tn_l, lt_t, lt_f, le_t, le_f, eq_t, eq_f, ltn_t, ltn_f, len_t, len_f, eqn_t, eqn_f, up_ne, up_up, sh_101, hm, bot, H]
          simpa using q0) (fun l11 _ => by
        try dsimp only
        rw [← fs]
        have q := hs' (am_up ν 119 T (FW on n T), some (.inr (.inl (FW on n T))), some (.inl la), some (.inl n), l11) ⟨fun k hk => by (try dsimp only); rw [up_ne _ _ _ hk]; exact i1 k hk, fun t ht => by
          try dsimp only
          rw [up_at]
          by_cases e : t = T
          · subst e; rw [if_pos ⟨rfl, rfl⟩]
          · rw [if_neg (fun q => e q.2)]; exact i2 t (by omega)⟩
        generalize FW on n T = y at *
        rw [s1_iff [11, 44] 200]
        simp (disch := omega) [sz_s, sz_0, gx_s, hx_r, hx_c, hx_b, hx_s, hx_i, hx_n, kx_s, kx_n, kx_i, cx_d, up_at, am_ctl, am_step, am_i1, am_i2, am_i2d, am_l1, am_l2, am_l2d, am_ldi, am_ldl, am_lda, am_sti, am_sta, am_stl, am_inc, am_i2l, am_l2i, am_lcmp, am_dup, am_dup2, am_pop1, am_fv, am_getf, am_putf, am_wr, am_ial, am_lal, am_bal, am_aal, am_ias, am_las, am_bas, am_alen, am_inst, am_cast, am_cpm, am_copy, am_tsw, am_pop, am_cat, am_cS, am_cI, am_cV, am_ri, am_rl, am_ra, am_rv, am_b1, am_b2, am_ent, am_en, am_isL, am_st1, am_st2, am_clr, am_cnd, cc_233, ac_233, nL_233, rb_233, np_157, ok_233_157, nL_157, np_225, ok_233_225, nL_225, np_229, ok_233_229, nL_229, vd_229_12, np_230, ok_233_230, nL_230, vd_230_12, tg_12_3, tg_12_24, List.getElem?_cons_succ, List.getElem?_cons_zero, nz_of, nzl_of, Int.toNat_add, Int.toNat_mul, tn_l, lt_t, lt_f, le_t, le_f, eq_t, eq_f, ltn_t, ltn_f, len_t, len_f, eqn_t, eqn_f, up_ne, up_up, sh_101, sh_119, rf_101_24]
        simpa using q) l11 trivial
      rw [sumZ_0] at inner
      rw [s1_iff [11, 44] 200]
      simp (disch := omega) [sz_s, sz_0, gx_s, hx_r, hx_c, hx_b, hx_s, hx_i, hx_n, kx_s, kx_n, kx_i, cx_d, up_at, am_ctl, am_step, am_i1, am_i2, am_i2d, am_l1, am_l2, am_l2d, am_ldi, am_ldl, am_lda, am_sti, am_sta, am_stl, am_inc, am_i2l, am_l2i, am_lcmp, am_dup, am_dup2, am_pop1, am_fv, am_getf, am_putf, am_wr, am_ial, am_lal, am_bal, am_aal, am_ias, am_las, am_bas, am_alen, am_inst, am_cast, am_cpm, am_copy, am_tsw, am_pop, am_cat, am_cS, am_cI, am_cV, am_ri, am_rl, am_ra, am_rv, am_b1, am_b2, am_ent, am_en, am_isL, am_st1, am_st2, am_clr, am_cnd, cc_233, ac_233, nL_233, rb_233, np_157, ok_233_157, nL_157, np_225, ok_233_225, nL_225, np_229, ok_233_229, nL_229, vd_229_12, np_230, ok_233_230, nL_230, vd_230_12, tg_12_3, tg_12_24, List.getElem?_cons_succ, List.getElem?_cons_zero, nz_of, nzl_of, Int.toNat_add, Int.toNat_mul, tn_l, lt_t, lt_f, le_t, le_f, eq_t, eq_f, ltn_t, ltn_f, len_t, len_f, eqn_t, eqn_f, up_ne, up_up, sh_101, O, el, bot]
      simpa using inner) (fun s hI => by
    obtain ⟨ν, l7, l9, l10, l11⟩ := s
    try dsimp only at hI ⊢
    obtain ⟨i1, i2⟩ := hI
    obtain ⟨al, hal⟩ : ∃ al, al = 2 ^ n - 1 := ⟨_, rfl⟩
    have f1 : ν 119 al = smZ ok n sp mo := by
      rw [i2 al (by omega), ← sm_on hn sp mo hsp hmo, hon]
      unfold FW
      rw [hal, pN_all hn]
    have r1 := sm_nn ok n sp mo
    have r2 := sm_le (ok := ok) hn hsp hmo
    have r3 := BH_rng (ok := ok) hn 0
    rw [hN2] at el
    rw [← hal] at ea
    have eN : N2 - 1 = al := by omega
    rw [s1_iff [11] 200]
    simp (disch := omega) [sz_s, sz_0, gx_s, hx_r, hx_c, hx_b, hx_s, hx_i, hx_n, kx_s, kx_n, kx_i, cx_d, up_at, am_ctl, am_step, am_i1, am_i2, am_i2d, am_l1, am_l2, am_l2d, am_ldi, am_ldl, am_lda, am_sti, am_sta, am_stl, am_inc, am_i2l, am_l2i, am_lcmp, am_dup, am_dup2, am_pop1, am_fv, am_getf, am_putf, am_wr, am_ial, am_lal, am_bal, am_aal, am_ias, am_las, am_bas, am_alen, am_inst, am_cast, am_cpm, am_copy, am_tsw, am_pop, am_cat, am_cS, am_cI, am_cV, am_ri, am_rl, am_ra, am_rv, am_b1, am_b2, am_ent, am_en, am_isL, am_st1, am_st2, am_clr, am_cnd, cc_233, ac_233, nL_233, rb_233, np_157, ok_233_157, nL_157, np_225, ok_233_225, nL_225, np_229, ok_233_229, nL_229, vd_229_12, np_230, ok_233_230, nL_230, vd_230_12, tg_12_3, tg_12_24, List.getElem?_cons_succ, List.getElem?_cons_zero, nz_of, nzl_of, Int.toNat_add, Int.toNat_mul, tn_l, lt_t, lt_f, le_t, le_f, eq_t, eq_f, ltn_t, ltn_f, len_t, len_f, eqn_t, eqn_f, up_ne, up_up, sh_101, sh_119, rf_101_24, el, ea, eN, f1]
    refine wm_findLeads (MW_as h (fun k hk => i1 k (by omega))) _ (fun ρ t1 t2 => ?_)
    rw [hok] at t2
    replace k := k ρ (fun k hk => by rw [t1 k hk, i1 k hk]) t2
    have v := t2 0 p0
    generalize smZ ok n sp mo = x at *
    generalize BH ok n 0 = y at *
    rcases Int.lt_trichotomy x y with e | e | e
    · rw [if_neg (by omega)] at k
      simp (disch := omega) [sz_s, sz_0, gx_s, hx_r, hx_c, hx_b, hx_s, hx_i, hx_n, kx_s, kx_n, kx_i, cx_d, up_at, am_ctl, am_step, am_i1, am_i2, am_i2d, am_l1, am_l2, am_l2d, am_ldi, am_ldl, am_lda, am_sti, am_sta, am_stl, am_inc, am_i2l, am_l2i, am_lcmp, am_dup, am_dup2, am_pop1, am_fv, am_getf, am_putf, am_wr, am_ial, am_lal, am_bal, am_aal, am_ias, am_las, am_bas, am_alen, am_inst, am_cast, am_cpm, am_copy, am_tsw, am_pop, am_cat, am_cS, am_cI, am_cV, am_ri, am_rl, am_ra, am_rv, am_b1, am_b2, am_ent, am_en, am_isL, am_st1, am_st2, am_clr, am_cnd, cc_233, ac_233, nL_233, rb_233, np_157, ok_233_157, nL_157, np_225, ok_233_225, nL_225, np_229, ok_233_229, nL_229, vd_229_12, np_230, ok_233_230, nL_230, vd_230_12, tg_12_3, tg_12_24, List.getElem?_cons_succ, List.getElem?_cons_zero, nz_of, nzl_of, Int.toNat_add, Int.toNat_mul, tn_l, lt_t, lt_f, le_t, le_f, eq_t, eq_f, ltn_t, ltn_f, len_t, len_f, eqn_t, eqn_f, up_ne, up_up, sh_101, sh_119, rf_101_24, v, am_cmp, e]
      exact k
    · rw [if_pos e] at k
      simp (disch := omega) [sz_s, sz_0, gx_s, hx_r, hx_c, hx_b, hx_s, hx_i, hx_n, kx_s, kx_n, kx_i, cx_d, up_at, am_ctl, am_step, am_i1, am_i2, am_i2d, am_l1, am_l2, am_l2d, am_ldi, am_ldl, am_lda, am_sti, am_sta, am_stl, am_inc, am_i2l, am_l2i, am_lcmp, am_dup, am_dup2, am_pop1, am_fv, am_getf, am_putf, am_wr, am_ial, am_lal, am_bal, am_aal, am_ias, am_las, am_bas, am_alen, am_inst, am_cast, am_cpm, am_copy, am_tsw, am_pop, am_cat, am_cS, am_cI, am_cV, am_ri, am_rl, am_ra, am_rv, am_b1, am_b2, am_ent, am_en, am_isL, am_st1, am_st2, am_clr, am_cnd, cc_233, ac_233, nL_233, rb_233, np_157, ok_233_157, nL_157, np_225, ok_233_225, nL_225, np_229, ok_233_229, nL_229, vd_229_12, np_230, ok_233_230, nL_230, vd_230_12, tg_12_3, tg_12_24, List.getElem?_cons_succ, List.getElem?_cons_zero, nz_of, nzl_of, Int.toNat_add, Int.toNat_mul, tn_l, lt_t, lt_f, le_t, le_f, eq_t, eq_f, ltn_t, ltn_f, len_t, len_f, eqn_t, eqn_f, up_ne, up_up, sh_101, sh_119, rf_101_24, v, am_cmp, e]
      exact k
    · omega) (μ, none, none, none, none) ⟨fun _ _ => rfl, fun t ht => absurd ht (by omega)⟩
  try dsimp only at key
  unfold wpM
  rw [s1_iff [11] 200]
  simp (disch := omega) [sz_s, sz_0, gx_s, hx_r, hx_c, hx_b, hx_s, hx_i, hx_n, kx_s, kx_n, kx_i, cx_d, up_at, am_ctl, am_step, am_i1, am_i2, am_i2d, am_l1, am_l2, am_l2d, am_ldi, am_ldl, am_lda, am_sti, am_sta, am_stl, am_inc, am_i2l, am_l2i, am_lcmp, am_dup, am_dup2, am_pop1, am_fv, am_getf, am_putf, am_wr, am_ial, am_lal, am_bal, am_aal, am_ias, am_las, am_bas, am_alen, am_inst, am_cast, am_cpm, am_copy, am_tsw, am_pop, am_cat, am_cS, am_cI, am_cV, am_ri, am_rl, am_ra, am_rv, am_b1, am_b2, am_ent, am_en, am_isL, am_st1, am_st2, am_clr, am_cnd, cc_233, ac_233, nL_233, rb_233, np_157, ok_233_157, nL_157, np_225, ok_233_225, nL_225, np_229, ok_233_229, nL_229, vd_229_12, np_230, ok_233_230, nL_230, vd_230_12, tg_12_3, tg_12_24, List.getElem?_cons_succ, List.getElem?_cons_zero, nz_of, nzl_of, Int.toNat_add, Int.toNat_mul, tn_l, lt_t, lt_f, le_t, le_f, eq_t, eq_f, ltn_t, ltn_f, len_t, len_f, eqn_t, eqn_f, up_ne, up_up, sh_101, sh_105, rf_101_3, hn5]
  simpa using key
set_option maxHeartbeats 8000000 in
set_option maxRecDepth 100000 in
theorem wm_choose {μ : Nat → Nat → Int} {r b n : Nat} {R M : Nat → Int} (h : MW μ r b n R M) (hB : ∀ t, t < 2 ^ n → μ 119 t = BH (okZ R M) n t) (h0 : 0 < BH (okZ R M) n 0) (Φ : Option AV → ST → Prop) (k : ∀ ν : Nat → Nat → Int, (∀ k, ¬ k = 120 → ν k = μ k) → (∀ i, i < n → ν 120 i = (chM (okZ R M) n i : Nat)) → Φ none (S ν)) : wpM 232 [.inr (.inr (some 101)), .inl r, .inl b] (S μ) Φ := by
  obtain ⟨hn5, hn, hr, hb⟩ := h.1
  have p8 := pow8 hn
  obtain ⟨ok, hok⟩ : ∃ ok, okZ R M = ok := ⟨_, rfl⟩
  rw [hok] at k hB h0
  have key := up_to (fun (i : Nat) (s : (Nat → Nat → Int) × Option AV) => wpS 232 5 [some (.inr (.inr (some 101))), some (.inl r), some (.inl b), some (.inl (chS ok n i : Nat)), some (.inl i), s.2] [] (S s.1) Φ) (fun i s => (∀ k, ¬ k = 120 → s.1 k = μ k) ∧ ∀ j, j < i → s.1 120 j = (chM ok n j : Nat)) n (fun i s hi hI hs' => by
    obtain ⟨ν, l5⟩ := s
    try dsimp only at hI hs' ⊢
    obtain ⟨i1, i2⟩ := hI
    obtain ⟨c1, c2, c3, c4⟩ := ch_ok hn h0 i (by omega)
    obtain ⟨m1, m2, m3⟩ := ch_m hn hi c1 c2 c3
    have hν : MW ν r b n R M := MW_as h (fun k hk => i1 k (by omega))
    have v105 := hν.1.1
    have eS : chS ok n (i + 1) = chS ok n i ||| 2 ^ chM ok n i := rfl
    rw [eS] at hs'
    have q := hs' (am_up ν 120 i (chM ok n i : Nat), some (.inl (chM ok n i : Nat))) ⟨fun k hk => by (try dsimp only); rw [up_ne _ _ _ hk]; exact i1 k hk, fun j hj => by
      try dsimp only
      rw [up_at]
      by_cases e : j = i
      · subst e; rw [if_pos ⟨rfl, rfl⟩]
      · rw [if_neg (fun q => e q.2)]; exact i2 j (by omega)⟩
    clear hs' i2
    generalize hT : chS ok n i = T at *
    generalize hm0 : chM ok n i = m0 at *
    have step : ∀ m, m < m0 → ((fun m : Nat => wpS 232 19 [some (.inr (.inr (some 101))), some (.inl r), some (.inl b), some (.inl T), some (.inl i), some (.inl m)] [] (S ν) Φ) m ↔ (fun m : Nat => wpS 232 19 [some (.inr (.inr (some 101))), some (.inl r), some (.inl b), some (.inl T), some (.inl i), some (.inl m)] [] (S ν) Φ) (m + 1)) := by
      intro m hm
      have H := fun σ Φ => wm_has T m (by omega) (by omega) σ Φ
      have F := fun Φ => wm_fit hν i m hi (by omega) Φ
      rw [hok] at F
      have no : ¬ ((T.testBit m = false ∧ ok i m = true) ∧ 0 < BH ok n (T ||| 2 ^ m)) := fun q => by
        have := m3 m hm
        rw [fP_t.mpr q] at this
        exact absurd this (by decide)
      dsimp only
      rcases d1 : T.testBit m with _ | _
      · rw [if_neg (by rw [d1]; decide)] at H
        by_cases d2 : ok i m = true
        · have bo := bit_o T (by omega) m (by omega)
          have lt1 := or_lt_n (S := T) (n := n) (h := m) (by omega) (by omega)
          have f2 : ν 119 (T ||| 2 ^ m) = BH ok n (T ||| 2 ^ m) := by rw [i1 119 (by decide)]; exact hB _ lt1
          have r3 := BH_rng (ok := ok) hn (T ||| 2 ^ m)
          have z : BH ok n (T ||| 2 ^ m) = 0 := by
            by_cases y : 0 < BH ok n (T ||| 2 ^ m)
            · exact absurd ⟨⟨d1, d2⟩, y⟩ no
            · omega
          rw [z] at f2
          rw [if_pos d2] at F
          generalize hu : T ||| 2 ^ m = u at *
          rw [s1_iff [19] 200]
          simp (disch := omega) [sz_s, sz_0, gx_s, hx_r, hx_c, hx_b, hx_s, hx_i, hx_n, kx_s, kx_n, kx_i, cx_d, up_at, am_ctl, am_step, am_i1, am_i2, am_i2d, am_l1, am_l2, am_l2d, am_ldi, am_ldl, am_lda, am_sti, am_sta, am_stl, am_inc, am_i2l, am_l2i, am_lcmp, am_dup, am_dup2, am_pop1, am_fv, am_getf, am_putf, am_wr, am_ial, am_lal, am_bal, am_aal, am_ias, am_las, am_bas, am_alen, am_inst, am_cast, am_cpm, am_copy, am_tsw, am_pop, am_cat, am_cS, am_cI, am_cV, am_ri, am_rl, am_ra, am_rv, am_b1, am_b2, am_ent, am_en, am_isL, am_st1, am_st2, am_clr, am_cnd, cc_232, ac_232, nL_232, rb_232, np_157, ok_232_157, nL_157, np_229, ok_232_229, nL_229, vd_229_12, tg_12_3, tg_12_24, tg_12_25, List.getElem?_cons_succ, List.getElem?_cons_zero, nz_of, nzl_of, Int.toNat_add, Int.toNat_mul, tn_l, lt_t, lt_f, le_t, le_f, eq_t, eq_f, ltn_t, ltn_f, len_t, len_f, eqn_t, eqn_f, up_ne, up_up, sh_101, sh_119, rf_101_24, am_cmp, H, F, bo, f2]
        · rw [if_neg d2] at F
          rw [s1_iff [19] 200]
          simp (disch := omega) [sz_s, sz_0, gx_s, hx_r, hx_c, hx_b, hx_s, hx_i, hx_n, kx_s, kx_n, kx_i, cx_d, up_at, am_ctl, am_step, am_i1, am_i2, am_i2d, am_l1, am_l2, am_l2d, am_ldi, am_ldl, am_lda, am_sti, am_sta, am_stl, am_inc, am_i2l, am_l2i, am_lcmp, am_dup, am_dup2, am_pop1, am_fv, am_getf, am_putf, am_wr, am_ial, am_lal, am_bal, am_aal, am_ias, am_las, am_bas, am_alen, am_inst, am_cast, am_cpm, am_copy, am_tsw, am_pop, am_cat, am_cS, am_cI, am_cV, am_ri, am_rl, am_ra, am_rv, am_b1, am_b2, am_ent, am_en, am_isL, am_st1, am_st2, am_clr, am_cnd, cc_232, ac_232, nL_232, rb_232, np_157, ok_232_157, nL_157, np_229, ok_232_229, nL_229, vd_229_12, tg_12_3, tg_12_24, tg_12_25, List.getElem?_cons_succ, List.getElem?_cons_zero, nz_of, nzl_of, Int.toNat_add, Int.toNat_mul, tn_l, lt_t, lt_f, le_t, le_f, eq_t, eq_f, ltn_t, ltn_f, len_t, len_f, eqn_t, eqn_f, up_ne, up_up, sh_101, H, F]
      · rw [if_pos d1] at H
        rw [s1_iff [19] 200]
        simp (disch := omega) [sz_s, sz_0, gx_s, hx_r, hx_c, hx_b, hx_s, hx_i, hx_n, kx_s, kx_n, kx_i, cx_d, up_at, am_ctl, am_step, am_i1, am_i2, am_i2d, am_l1, am_l2, am_l2d, am_ldi, am_ldl, am_lda, am_sti, am_sta, am_stl, am_inc, am_i2l, am_l2i, am_lcmp, am_dup, am_dup2, am_pop1, am_fv, am_getf, am_putf, am_wr, am_ial, am_lal, am_bal, am_aal, am_ias, am_las, am_bas, am_alen, am_inst, am_cast, am_cpm, am_copy, am_tsw, am_pop, am_cat, am_cS, am_cI, am_cV, am_ri, am_rl, am_ra, am_rv, am_b1, am_b2, am_ent, am_en, am_isL, am_st1, am_st2, am_clr, am_cnd, cc_232, ac_232, nL_232, rb_232, np_157, ok_232_157, nL_157, np_229, ok_232_229, nL_229, vd_229_12, tg_12_3, tg_12_24, tg_12_25, List.getElem?_cons_succ, List.getElem?_cons_zero, nz_of, nzl_of, Int.toNat_add, Int.toNat_mul, tn_l, lt_t, lt_f, le_t, le_f, eq_t, eq_f, ltn_t, ltn_f, len_t, len_f, eqn_t, eqn_f, up_ne, up_up, sh_101, H]
    have s0 := up_iff _ m0 step
    have H := fun σ Φ => wm_has T m0 (by omega) (by omega) σ Φ
    have F := fun Φ => wm_fit hν i m0 hi (by omega) Φ
    obtain ⟨⟨d1, d2⟩, d3⟩ := fP_t.mp m1
    rw [hok, if_pos d2] at F
    rw [if_neg (by rw [d1]; decide)] at H
    have bo := bit_o T (by omega) m0 (by omega)
    have lt1 := or_lt_n (S := T) (n := n) (h := m0) (by omega) (by omega)
    have f2 : ν 119 (T ||| 2 ^ m0) = BH ok n (T ||| 2 ^ m0) := by rw [i1 119 (by decide)]; exact hB _ lt1
    clear m1 m3 step eS
    generalize hu : T ||| 2 ^ m0 = u at *
    generalize BH ok n u = y at *
    rw [s1_iff [5, 19] 200]
    simp (disch := omega) [sz_s, sz_0, gx_s, hx_r, hx_c, hx_b, hx_s, hx_i, hx_n, kx_s, kx_n, kx_i, cx_d, up_at, am_ctl, am_step, am_i1, am_i2, am_i2d, am_l1, am_l2, am_l2d, am_ldi, am_ldl, am_lda, am_sti, am_sta, am_stl, am_inc, am_i2l, am_l2i, am_lcmp, am_dup, am_dup2, am_pop1, am_fv, am_getf, am_putf, am_wr, am_ial, am_lal, am_bal, am_aal, am_ias, am_las, am_bas, am_alen, am_inst, am_cast, am_cpm, am_copy, am_tsw, am_pop, am_cat, am_cS, am_cI, am_cV, am_ri, am_rl, am_ra, am_rv, am_b1, am_b2, am_ent, am_en, am_isL, am_st1, am_st2, am_clr, am_cnd, cc_232, ac_232, nL_232, rb_232, np_157, ok_232_157, nL_157, np_229, ok_232_229, nL_229, vd_229_12, tg_12_3, tg_12_24, tg_12_25, List.getElem?_cons_succ, List.getElem?_cons_zero, nz_of, nzl_of, Int.toNat_add, Int.toNat_mul, tn_l, lt_t, lt_f, le_t, le_f, eq_t, eq_f, ltn_t, ltn_f, len_t, len_f, eqn_t, eqn_f, up_ne, up_up, sh_101, sh_105, rf_101_3, v105, hi]
    refine s0.mpr ?_
    rw [s1_iff [5, 19] 200]
    simp (disch := omega) [sz_s, sz_0, gx_s, hx_r, hx_c, hx_b, hx_s, hx_i, hx_n, kx_s, kx_n, kx_i, cx_d, up_at, am_ctl, am_step, am_i1, am_i2, am_i2d, am_l1, am_l2, am_l2d, am_ldi, am_ldl, am_lda, am_sti, am_sta, am_stl, am_inc, am_i2l, am_l2i, am_lcmp, am_dup, am_dup2, am_pop1, am_fv, am_getf, am_putf, am_wr, am_ial, am_lal, am_bal, am_aal, am_ias, am_las, am_bas, am_alen, am_inst, am_cast, am_cpm, am_copy, am_tsw, am_pop, am_cat, am_cS, am_cI, am_cV, am_ri, am_rl, am_ra, am_rv, am_b1, am_b2, am_ent, am_en, am_isL, am_st1, am_st2, am_clr, am_cnd, cc_232, ac_232, nL_232, rb_232, np_157, ok_232_157, nL_157, np_229, ok_232_229, nL_229, vd_229_12, tg_12_3, tg_12_24, tg_12_25, List.getElem?_cons_succ, List.getElem?_cons_zero, nz_of, nzl_of, Int.toNat_add, Int.toNat_mul, tn_l, lt_t, lt_f, le_t, le_f, eq_t, eq_f, ltn_t, ltn_f, len_t, len_f, eqn_t, eqn_f, up_ne, up_up, sh_101, sh_119, sh_120, rf_101_24, rf_101_25, am_cmp, H, F, bo, f2, show ¬ y = 0 by omega]
    simpa using q) (fun s hI => by
    obtain ⟨ν, l5⟩ := s
    try dsimp only at hI ⊢
    obtain ⟨i1, i2⟩ := hI
    have hν : MW ν r b n R M := MW_as h (fun k hk => i1 k (by omega))
    have v105 := hν.1.1
    replace k := k ν i1 i2
    rw [s1_iff [5] 200]
    simp (disch := omega) [sz_s, sz_0, gx_s, hx_r, hx_c, hx_b, hx_s, hx_i, hx_n, kx_s, kx_n, kx_i, cx_d, up_at, am_ctl, am_step, am_i1, am_i2, am_i2d, am_l1, am_l2, am_l2d, am_ldi, am_ldl, am_lda, am_sti, am_sta, am_stl, am_inc, am_i2l, am_l2i, am_lcmp, am_dup, am_dup2, am_pop1, am_fv, am_getf, am_putf, am_wr, am_ial, am_lal, am_bal, am_aal, am_ias, am_las, am_bas, am_alen, am_inst, am_cast, am_cpm, am_copy, am_tsw, am_pop, am_cat, am_cS, am_cI, am_cV, am_ri, am_rl, am_ra, am_rv, am_b1, am_b2, am_ent, am_en, am_isL, am_st1, am_st2, am_clr, am_cnd, cc_232, ac_232, nL_232, rb_232, np_157, ok_232_157, nL_157, np_229, ok_232_229, nL_229, vd_229_12, tg_12_3, tg_12_24, tg_12_25, List.getElem?_cons_succ, List.getElem?_cons_zero, nz_of, nzl_of, Int.toNat_add, Int.toNat_mul, tn_l, lt_t, lt_f, le_t, le_f, eq_t, eq_f, ltn_t, ltn_f, len_t, len_f, eqn_t, eqn_f, up_ne, up_up, sh_101, sh_105, rf_101_3, v105]
    exact k) (μ, none) ⟨fun _ _ => rfl, fun j hj => absurd hj (by omega)⟩
  try dsimp only at key
  have e0 : chS ok n 0 = 0 := rfl
  rw [e0] at key
  unfold wpM
  rw [s1_iff [5] 200]
  simp (disch := omega) [sz_s, sz_0, gx_s, hx_r, hx_c, hx_b, hx_s, hx_i, hx_n, kx_s, kx_n, kx_i, cx_d, up_at, am_ctl, am_step, am_i1, am_i2, am_i2d, am_l1, am_l2, am_l2d, am_ldi, am_ldl, am_lda, am_sti, am_sta, am_stl, am_inc, am_i2l, am_l2i, am_lcmp, am_dup, am_dup2, am_pop1, am_fv, am_getf, am_putf, am_wr, am_ial, am_lal, am_bal, am_aal, am_ias, am_las, am_bas, am_alen, am_inst, am_cast, am_cpm, am_copy, am_tsw, am_pop, am_cat, am_cS, am_cI, am_cV, am_ri, am_rl, am_ra, am_rv, am_b1, am_b2, am_ent, am_en, am_isL, am_st1, am_st2, am_clr, am_cnd, cc_232, ac_232, nL_232, rb_232, np_157, ok_232_157, nL_157, np_229, ok_232_229, nL_229, vd_229_12, tg_12_3, tg_12_24, tg_12_25, List.getElem?_cons_succ, List.getElem?_cons_zero, nz_of, nzl_of, Int.toNat_add, Int.toNat_mul, tn_l, lt_t, lt_f, le_t, le_f, eq_t, eq_f, ltn_t, ltn_f, len_t, len_f, eqn_t, eqn_f, up_ne, up_up, sh_101]
  simpa using key
