/-! the digest: mixing -/
def mxL (h v : Int) : Int := nzl (nzl (31 * h) + v)
def itL (g : Nat → Int → Int) : Nat → Int → Int
  | 0, h => h
  | n + 1, h => g n (itL g n h)
theorem itL_0 (g : Nat → Int → Int) (h : Int) : itL g 0 h = h := rfl
theorem itL_s (g : Nat → Int → Int) (n : Nat) (h : Int) : itL g (n + 1) h = g n (itL g n h) := rfl
/-- a sheet mixed in -/
def shL (f : Nat → Int) (sz h : Int) : Int := itL (fun i h => mxL h (f i)) sz.toNat (mxL h sz)
set_option maxRecDepth 100000 in
theorem wp_sheetAdd {μ : Nat → Nat → Int} (c most : Nat) (f : Nat → Int) (sz h : Int) (hc : c + 1 < 121) (s1 : sh0 c = (0, 8, 0)) (s2 : rf0 c 0 = some (c + 1)) (s3 : sh0 (c + 1) = (1, most, 0)) (v : μ c 1 = sz) (hsz : -1 ≤ sz ∧ sz ≤ most) (hm : most ≤ 100) (hf : ∀ i : Nat, (i : Int) < sz → μ (c + 1) i = f i) (Φ : Option AV → ST → Prop) : wpM 60 [.inr (.inr (some c)), .inr (.inl h)] (S μ) Φ ↔ Φ (some (.inr (.inl (shL f sz h)))) (S μ) := by
  unfold shL
  obtain ⟨n, hn⟩ : ∃ n, sz.toNat = n := ⟨_, rfl⟩
  rw [hn]
  have step : ∀ i, i < n → ((fun i : Nat => wpS 60 15 [some (.inr (.inr (some c))), some (.inr (.inl h)), none, some (.inr (.inl (itL (fun i h => mxL h (f i)) i (mxL h sz)))), none, some (.inl i)] [] (S μ) Φ) i ↔ (fun i : Nat => wpS 60 15 [some (.inr (.inr (some c))), some (.inr (.inl h)), none, some (.inr (.inl (itL (fun i h => mxL h (f i)) i (mxL h sz)))), none, some (.inl i)] [] (S μ) Φ) (i + 1)) := by
    intro i hi
    have fi := hf i (by omega)
    dsimp only
    rw [itL_s]
    generalize itL (fun i h => mxL h (f i)) i (mxL h sz) = z at *
    rw [s1_iff [15] 200]
    simp (disch := omega) [sz_s, sz_0, gx_s, hx_r, hx_c, hx_b, hx_s, hx_i, hx_n, kx_s, kx_n, kx_i, cx_d, up_at, am_ctl, am_step, am_i1, am_i2, am_i2d, am_l1, am_l2, am_l2d, am_ldi, am_ldl, am_lda, am_sti, am_sta, am_stl, am_inc, am_i2l, am_l2i, am_lcmp, am_dup, am_dup2, am_pop1, am_fv, am_getf, am_putf, am_wr, am_ial, am_lal, am_bal, am_aal, am_ias, am_las, am_bas, am_alen, am_inst, am_cast, am_cpm, am_copy, am_tsw, am_pop, am_cat, am_cS, am_cI, am_cV, am_ri, am_rl, am_ra, am_rv, am_b1, am_b2, am_ent, am_en, am_isL, am_st1, am_st2, am_clr, am_cnd, cc_60, ac_60, nL_60, rb_60, tg_8_1, tg_8_0, List.getElem?_cons_succ, List.getElem?_cons_zero, nz_of, nzl_of, Int.toNat_add, Int.toNat_mul, tn_l, lt_t, lt_f, le_t, le_f, eq_t, eq_f, ltn_t, ltn_f, len_t, len_f, eqn_t, eqn_f, up_ne, up_up, s1, s2, s3, v, fi, mxL]
  have s0 := up_iff _ n step
  rw [itL_0] at s0
  generalize itL (fun i h => mxL h (f i)) n (mxL h sz) = z at *
  unfold wpM
  rw [s1_iff [15] 200]
  simp (disch := omega) [sz_s, sz_0, gx_s, hx_r, hx_c, hx_b, hx_s, hx_i, hx_n, kx_s, kx_n, kx_i, cx_d, up_at, am_ctl, am_step, am_i1, am_i2, am_i2d, am_l1, am_l2, am_l2d, am_ldi, am_ldl, am_lda, am_sti, am_sta, am_stl, am_inc, am_i2l, am_l2i, am_lcmp, am_dup, am_dup2, am_pop1, am_fv, am_getf, am_putf, am_wr, am_ial, am_lal, am_bal, am_aal, am_ias, am_las, am_bas, am_alen, am_inst, am_cast, am_cpm, am_copy, am_tsw, am_pop, am_cat, am_cS, am_cI, am_cV, am_ri, am_rl, am_ra, am_rv, am_b1, am_b2, am_ent, am_en, am_isL, am_st1, am_st2, am_clr, am_cnd, cc_60, ac_60, nL_60, rb_60, tg_8_1, tg_8_0, List.getElem?_cons_succ, List.getElem?_cons_zero, nz_of, nzl_of, Int.toNat_add, Int.toNat_mul, tn_l, lt_t, lt_f, le_t, le_f, eq_t, eq_f, ltn_t, ltn_f, len_t, len_f, eqn_t, eqn_f, up_ne, up_up, s1, v]
  refine Iff.trans ?_ (s0.trans ?_)
  · simp (disch := omega) [sz_s, sz_0, gx_s, hx_r, hx_c, hx_b, hx_s, hx_i, hx_n, kx_s, kx_n, kx_i, cx_d, up_at, am_ctl, am_step, am_i1, am_i2, am_i2d, am_l1, am_l2, am_l2d, am_ldi, am_ldl, am_lda, am_sti, am_sta, am_stl, am_inc, am_i2l, am_l2i, am_lcmp, am_dup, am_dup2, am_pop1, am_fv, am_getf, am_putf, am_wr, am_ial, am_lal, am_bal, am_aal, am_ias, am_las, am_bas, am_alen, am_inst, am_cast, am_cpm, am_copy, am_tsw, am_pop, am_cat, am_cS, am_cI, am_cV, am_ri, am_rl, am_ra, am_rv, am_b1, am_b2, am_ent, am_en, am_isL, am_st1, am_st2, am_clr, am_cnd, cc_60, ac_60, nL_60, rb_60, tg_8_1, tg_8_0, List.getElem?_cons_succ, List.getElem?_cons_zero, nz_of, nzl_of, Int.toNat_add, Int.toNat_mul, tn_l, lt_t, lt_f, le_t, le_f, eq_t, eq_f, ltn_t, ltn_f, len_t, len_f, eqn_t, eqn_f, up_ne, up_up, mxL]
  · rw [s1_iff [15] 200]
    simp (disch := omega) [sz_s, sz_0, gx_s, hx_r, hx_c, hx_b, hx_s, hx_i, hx_n, kx_s, kx_n, kx_i, cx_d, up_at, am_ctl, am_step, am_i1, am_i2, am_i2d, am_l1, am_l2, am_l2d, am_ldi, am_ldl, am_lda, am_sti, am_sta, am_stl, am_inc, am_i2l, am_l2i, am_lcmp, am_dup, am_dup2, am_pop1, am_fv, am_getf, am_putf, am_wr, am_ial, am_lal, am_bal, am_aal, am_ias, am_las, am_bas, am_alen, am_inst, am_cast, am_cpm, am_copy, am_tsw, am_pop, am_cat, am_cS, am_cI, am_cV, am_ri, am_rl, am_ra, am_rv, am_b1, am_b2, am_ent, am_en, am_isL, am_st1, am_st2, am_clr, am_cnd, cc_60, ac_60, nL_60, rb_60, tg_8_1, tg_8_0, List.getElem?_cons_succ, List.getElem?_cons_zero, nz_of, nzl_of, Int.toNat_add, Int.toNat_mul, tn_l, lt_t, lt_f, le_t, le_f, eq_t, eq_f, ltn_t, ltn_f, len_t, len_f, eqn_t, eqn_f, up_ne, up_up, s1, v]
/-- a land mixed in -/
def lnL (w : Nat → Int) (h : Int) : Int := itL (fun k h => mxL h (w (101 + k))) (3 * (w 2).toNat) (itL (fun a h => itL (fun b h => mxL h (w (37 + (8 * a + b)))) (nW w) h) (nW w) (itL (fun a h => itL (fun k h => mxL h (figW w a k)) 6 h) (nW w) (mxL (mxL (mxL h (w 1)) (w 3)) (w 4))))
set_option maxHeartbeats 4000000 in
set_option maxRecDepth 100000 in
theorem wp_landAdd {B : Int} {μ : Nat → Nat → Int} (hL : LD B μ 73 0) (hB : B ≤ 1000000) (h : Int) (Φ : Option AV → ST → Prop) (k : Φ (some (.inr (.inl (lnL (μ 102) h)))) (S μ)) : wpM 36 [.inr (.inr (some 73)), .inr (.inl h)] (S μ) Φ := by
  have e0 := ld_n hL
  have l0 := ld_0 hL
  unfold lnL at k
  -- the log
  have c3 : ∀ (h3 : Int) (l6 : Option AV), Φ (some (.inr (.inl (itL (fun k h => mxL h (μ 102 (101 + k))) (3 * (μ 102 2).toNat) h3)))) (S μ) → wpS 36 136 [some (.inr (.inr (some 73))), some (.inr (.inl h)), none, some (.inr (.inl h3)), none, some (.inl 0), l6] [] (S μ) Φ := fun h3 l6 k => by
    obtain ⟨n, hn⟩ : ∃ n : Nat, μ 102 2 = n := ⟨(μ 102 2).toNat, by omega⟩
    have f9 := l0.2.2.1
    rw [hn] at f9
    rw [hn, Int.toNat_natCast] at k
    have step : ∀ i, i < 3 * n → ((fun i : Nat => wpS 36 136 [some (.inr (.inr (some 73))), some (.inr (.inl h)), none, some (.inr (.inl (itL (fun k h => mxL h (μ 102 (101 + k))) i h3))), none, some (.inl i), l6] [] (S μ) Φ) i ↔ (fun i : Nat => wpS 36 136 [some (.inr (.inr (some 73))), some (.inr (.inl h)), none, some (.inr (.inl (itL (fun k h => mxL h (μ 102 (101 + k))) i h3))), none, some (.inl i), l6] [] (S μ) Φ) (i + 1)) := by
      intro i hi
      have g := (ld_g hL (j := i) (by omega)).1
      dsimp only
      rw [itL_s]
      generalize itL (fun k h => mxL h (μ 102 (101 + k))) i h3 = z at *
      rw [s1_iff [136] 200]
      simp (disch := omega) [sz_s, sz_0, gx_s, hx_r, hx_c, hx_b, hx_s, hx_i, hx_n, kx_s, kx_n, kx_i, cx_d, up_at, am_ctl, am_step, am_i1, am_i2, am_i2d, am_l1, am_l2, am_l2d, am_ldi, am_ldl, am_lda, am_sti, am_sta, am_stl, am_inc, am_i2l, am_l2i, am_lcmp, am_dup, am_dup2, am_pop1, am_fv, am_getf, am_putf, am_wr, am_ial, am_lal, am_bal, am_aal, am_ias, am_las, am_bas, am_alen, am_inst, am_cast, am_cpm, am_copy, am_tsw, am_pop, am_cat, am_cS, am_cI, am_cV, am_ri, am_rl, am_ra, am_rv, am_b1, am_b2, am_ent, am_en, am_isL, am_st1, am_st2, am_clr, am_cnd, cc_36, ac_36, nL_36, rb_36, np_17, ok_36_17, nL_17, vd_17_4, np_18, ok_36_18, nL_18, vd_18_4, tg_4_8, tg_4_10, tg_4_11, tg_4_7, tg_4_9, tg_4_6, List.getElem?_cons_succ, List.getElem?_cons_zero, nz_of, nzl_of, Int.toNat_add, Int.toNat_mul, tn_l, lt_t, lt_f, le_t, le_f, eq_t, eq_f, ltn_t, ltn_f, len_t, len_f, eqn_t, eqn_f, up_ne, up_up, sh_73, sh_79, rf_73_6, f9, g, mxL]
    have s0 := up_iff _ (3 * n) step
    rw [itL_0] at s0
    refine s0.mpr ?_
    generalize itL (fun k h => mxL h (μ 102 (101 + k))) (3 * n) h3 = z at *
    rw [s1_iff [136] 200]
    simp (disch := omega) [sz_s, sz_0, gx_s, hx_r, hx_c, hx_b, hx_s, hx_i, hx_n, kx_s, kx_n, kx_i, cx_d, up_at, am_ctl, am_step, am_i1, am_i2, am_i2d, am_l1, am_l2, am_l2d, am_ldi, am_ldl, am_lda, am_sti, am_sta, am_stl, am_inc, am_i2l, am_l2i, am_lcmp, am_dup, am_dup2, am_pop1, am_fv, am_getf, am_putf, am_wr, am_ial, am_lal, am_bal, am_aal, am_ias, am_las, am_bas, am_alen, am_inst, am_cast, am_cpm, am_copy, am_tsw, am_pop, am_cat, am_cS, am_cI, am_cV, am_ri, am_rl, am_ra, am_rv, am_b1, am_b2, am_ent, am_en, am_isL, am_st1, am_st2, am_clr, am_cnd, cc_36, ac_36, nL_36, rb_36, np_17, ok_36_17, nL_17, vd_17_4, np_18, ok_36_18, nL_18, vd_18_4, tg_4_8, tg_4_10, tg_4_11, tg_4_7, tg_4_9, tg_4_6, List.getElem?_cons_succ, List.getElem?_cons_zero, nz_of, nzl_of, Int.toNat_add, Int.toNat_mul, tn_l, lt_t, lt_f, le_t, le_f, eq_t, eq_f, ltn_t, ltn_f, len_t, len_f, eqn_t, eqn_f, up_ne, up_up, sh_73, f9]
    exact k
  -- debts
  have c2 : ∀ (h2 : Int) (l6 : Option AV), Φ (some (.inr (.inl (itL (fun k h => mxL h (μ 102 (101 + k))) (3 * (μ 102 2).toNat) (itL (fun a h => itL (fun b h => mxL h (μ 102 (37 + (8 * a + b)))) (nW (μ 102)) h) (nW (μ 102)) h2))))) (S μ) → wpS 36 84 [some (.inr (.inr (some 73))), some (.inr (.inl h)), none, some (.inr (.inl h2)), none, some (.inl 0), l6] [] (S μ) Φ := fun h2 l6 k => by
    have k := fun l6 => c3 _ l6 k
    have outer := up_to (fun (a : Nat) (l6 : Option AV) => wpS 36 84 [some (.inr (.inr (some 73))), some (.inr (.inl h)), none, some (.inr (.inl (itL (fun a h => itL (fun b h => mxL h (μ 102 (37 + (8 * a + b)))) (nW (μ 102)) h) a h2))), none, some (.inl a), l6] [] (S μ) Φ) (fun _ _ => True) (nW (μ 102)) (fun a l6 ha _ hs' => by
      try dsimp only at hs' ⊢
      have q := hs' (some (.inl (nW (μ 102) : Nat))) trivial
      rw [itL_s] at q
      generalize itL (fun a h => itL (fun b h => mxL h (μ 102 (37 + (8 * a + b)))) (nW (μ 102)) h) a h2 = y at *
      have step : ∀ b, b < nW (μ 102) → ((fun b : Nat => wpS 36 96 [some (.inr (.inr (some 73))), some (.inr (.inl h)), none, some (.inr (.inl (itL (fun b h => mxL h (μ 102 (37 + (8 * a + b)))) b y))), none, some (.inl a), some (.inl b)] [] (S μ) Φ) b ↔ (fun b : Nat => wpS 36 96 [some (.inr (.inr (some 73))), some (.inr (.inl h)), none, some (.inr (.inl (itL (fun b h => mxL h (μ 102 (37 + (8 * a + b)))) b y))), none, some (.inl a), some (.inl b)] [] (S μ) Φ) (b + 1)) := by
        intro b hb
        have D := fun Φ => wp_debt hL a b (by omega) (by omega) Φ
        dsimp only
        rw [itL_s]
        generalize itL (fun b h => mxL h (μ 102 (37 + (8 * a + b)))) b y = z at *
        rw [s1_iff [96] 200]
        simp (disch := omega) [sz_s, sz_0, gx_s, hx_r, hx_c, hx_b, hx_s, hx_i, hx_n, kx_s, kx_n, kx_i, cx_d, up_at, am_ctl, am_step, am_i1, am_i2, am_i2d, am_l1, am_l2, am_l2d, am_ldi, am_ldl, am_lda, am_sti, am_sta, am_stl, am_inc, am_i2l, am_l2i, am_lcmp, am_dup, am_dup2, am_pop1, am_fv, am_getf, am_putf, am_wr, am_ial, am_lal, am_bal, am_aal, am_ias, am_las, am_bas, am_alen, am_inst, am_cast, am_cpm, am_copy, am_tsw, am_pop, am_cat, am_cS, am_cI, am_cV, am_ri, am_rl, am_ra, am_rv, am_b1, am_b2, am_ent, am_en, am_isL, am_st1, am_st2, am_clr, am_cnd, cc_36, ac_36, nL_36, rb_36, np_17, ok_36_17, nL_17, vd_17_4, np_18, ok_36_18, nL_18, vd_18_4, tg_4_8, tg_4_10, tg_4_11, tg_4_7, tg_4_9, tg_4_6, List.getElem?_cons_succ, List.getElem?_cons_zero, nz_of, nzl_of, Int.toNat_add, Int.toNat_mul, tn_l, lt_t, lt_f, le_t, le_f, eq_t, eq_f, ltn_t, ltn_f, len_t, len_f, eqn_t, eqn_f, up_ne, up_up, sh_73, e0.1, hb, D, mxL]
      have s0 := up_iff _ (nW (μ 102)) step
      rw [itL_0] at s0
      rw [s1_iff [84, 96] 200]
      simp (disch := omega) [sz_s, sz_0, gx_s, hx_r, hx_c, hx_b, hx_s, hx_i, hx_n, kx_s, kx_n, kx_i, cx_d, up_at, am_ctl, am_step, am_i1, am_i2, am_i2d, am_l1, am_l2, am_l2d, am_ldi, am_ldl, am_lda, am_sti, am_sta, am_stl, am_inc, am_i2l, am_l2i, am_lcmp, am_dup, am_dup2, am_pop1, am_fv, am_getf, am_putf, am_wr, am_ial, am_lal, am_bal, am_aal, am_ias, am_las, am_bas, am_alen, am_inst, am_cast, am_cpm, am_copy, am_tsw, am_pop, am_cat, am_cS, am_cI, am_cV, am_ri, am_rl, am_ra, am_rv, am_b1, am_b2, am_ent, am_en, am_isL, am_st1, am_st2, am_clr, am_cnd, cc_36, ac_36, nL_36, rb_36, np_17, ok_36_17, nL_17, vd_17_4, np_18, ok_36_18, nL_18, vd_18_4, tg_4_8, tg_4_10, tg_4_11, tg_4_7, tg_4_9, tg_4_6, List.getElem?_cons_succ, List.getElem?_cons_zero, nz_of, nzl_of, Int.toNat_add, Int.toNat_mul, tn_l, lt_t, lt_f, le_t, le_f, eq_t, eq_f, ltn_t, ltn_f, len_t, len_f, eqn_t, eqn_f, up_ne, up_up, sh_73, e0.1, ha]
      refine s0.mpr ?_
      generalize itL (fun b h => mxL h (μ 102 (37 + (8 * a + b)))) (nW (μ 102)) y = z at *
      rw [s1_iff [84, 96] 200]
      simp (disch := omega) [sz_s, sz_0, gx_s, hx_r, hx_c, hx_b, hx_s, hx_i, hx_n, kx_s, kx_n, kx_i, cx_d, up_at, am_ctl, am_step, am_i1, am_i2, am_i2d, am_l1, am_l2, am_l2d, am_ldi, am_ldl, am_lda, am_sti, am_sta, am_stl, am_inc, am_i2l, am_l2i, am_lcmp, am_dup, am_dup2, am_pop1, am_fv, am_getf, am_putf, am_wr, am_ial, am_lal, am_bal, am_aal, am_ias, am_las, am_bas, am_alen, am_inst, am_cast, am_cpm, am_copy, am_tsw, am_pop, am_cat, am_cS, am_cI, am_cV, am_ri, am_rl, am_ra, am_rv, am_b1, am_b2, am_ent, am_en, am_isL, am_st1, am_st2, am_clr, am_cnd, cc_36, ac_36, nL_36, rb_36, np_17, ok_36_17, nL_17, vd_17_4, np_18, ok_36_18, nL_18, vd_18_4, tg_4_8, tg_4_10, tg_4_11, tg_4_7, tg_4_9, tg_4_6, List.getElem?_cons_succ, List.getElem?_cons_zero, nz_of, nzl_of, Int.toNat_add, Int.toNat_mul, tn_l, lt_t, lt_f, le_t, le_f, eq_t, eq_f, ltn_t, ltn_f, len_t, len_f, eqn_t, eqn_f, up_ne, up_up, sh_73, e0.1]
      simpa using q) (fun l6 _ => by
      try dsimp only
      have q := k l6
      generalize itL (fun a h => itL (fun b h => mxL h (μ 102 (37 + (8 * a + b)))) (nW (μ 102)) h) (nW (μ 102)) h2 = z at *
      rw [s1_iff [84, 136] 200]
      simp (disch := omega) [sz_s, sz_0, gx_s, hx_r, hx_c, hx_b, hx_s, hx_i, hx_n, kx_s, kx_n, kx_i, cx_d, up_at, am_ctl, am_step, am_i1, am_i2, am_i2d, am_l1, am_l2, am_l2d, am_ldi, am_ldl, am_lda, am_sti, am_sta, am_stl, am_inc, am_i2l, am_l2i, am_lcmp, am_dup, am_dup2, am_pop1, am_fv, am_getf, am_putf, am_wr, am_ial, am_lal, am_bal, am_aal, am_ias, am_las, am_bas, am_alen, am_inst, am_cast, am_cpm, am_copy, am_tsw, am_pop, am_cat, am_cS, am_cI, am_cV, am_ri, am_rl, am_ra, am_rv, am_b1, am_b2, am_ent, am_en, am_isL, am_st1, am_st2, am_clr, am_cnd, cc_36, ac_36, nL_36, rb_36, np_17, ok_36_17, nL_17, vd_17_4, np_18, ok_36_18, nL_18, vd_18_4, tg_4_8, tg_4_10, tg_4_11, tg_4_7, tg_4_9, tg_4_6, List.getElem?_cons_succ, List.getElem?_cons_zero, nz_of, nzl_of, Int.toNat_add, Int.toNat_mul, tn_l, lt_t, lt_f, le_t, le_f, eq_t, eq_f, ltn_t, ltn_f, len_t, len_f, eqn_t, eqn_f, up_ne, up_up, sh_73, e0.1]
      simpa using q) l6 trivial
    try dsimp only at outer
    rw [itL_0] at outer
    simpa using outer
  -- figures
  have c1 : ∀ (h1 : Int) (l6 : Option AV), Φ (some (.inr (.inl (itL (fun k h => mxL h (μ 102 (101 + k))) (3 * (μ 102 2).toNat) (itL (fun a h => itL (fun b h => mxL h (μ 102 (37 + (8 * a + b)))) (nW (μ 102)) h) (nW (μ 102)) (itL (fun a h => itL (fun k h => mxL h (figW (μ 102) a k)) 6 h) (nW (μ 102)) h1)))))) (S μ) → wpS 36 35 [some (.inr (.inr (some 73))), some (.inr (.inl h)), none, some (.inr (.inl h1)), none, some (.inl 0), l6] [] (S μ) Φ := fun h1 l6 k => by
    have k := fun l6 => c2 _ l6 k
    have outer := up_to (fun (a : Nat) (l6 : Option AV) => wpS 36 35 [some (.inr (.inr (some 73))), some (.inr (.inl h)), none, some (.inr (.inl (itL (fun a h => itL (fun k h => mxL h (figW (μ 102) a k)) 6 h) a h1))), none, some (.inl a), l6] [] (S μ) Φ) (fun _ _ => True) (nW (μ 102)) (fun a l6 ha _ hs' => by
      try dsimp only at hs' ⊢
      have q := hs' (some (.inl 6)) trivial
      rw [itL_s] at q
      generalize itL (fun a h => itL (fun k h => mxL h (figW (μ 102) a k)) 6 h) a h1 = y at *
      have step : ∀ b, b < 6 → ((fun b : Nat => wpS 36 47 [some (.inr (.inr (some 73))), some (.inr (.inl h)), none, some (.inr (.inl (itL (fun k h => mxL h (figW (μ 102) a k)) b y))), none, some (.inl a), some (.inl b)] [] (S μ) Φ) b ↔ (fun b : Nat => wpS 36 47 [some (.inr (.inr (some 73))), some (.inr (.inl h)), none, some (.inr (.inl (itL (fun k h => mxL h (figW (μ 102) a k)) b y))), none, some (.inl a), some (.inl b)] [] (S μ) Φ) (b + 1)) := by
        intro b hb
        have D := fun Φ => wp_figure hL hB ha (b : Int) (by omega) Φ
        dsimp only
        rw [itL_s]
        generalize itL (fun k h => mxL h (figW (μ 102) a k)) b y = z at *
        rw [s1_iff [47] 200]
        simp (disch := omega) [sz_s, sz_0, gx_s, hx_r, hx_c, hx_b, hx_s, hx_i, hx_n, kx_s, kx_n, kx_i, cx_d, up_at, am_ctl, am_step, am_i1, am_i2, am_i2d, am_l1, am_l2, am_l2d, am_ldi, am_ldl, am_lda, am_sti, am_sta, am_stl, am_inc, am_i2l, am_l2i, am_lcmp, am_dup, am_dup2, am_pop1, am_fv, am_getf, am_putf, am_wr, am_ial, am_lal, am_bal, am_aal, am_ias, am_las, am_bas, am_alen, am_inst, am_cast, am_cpm, am_copy, am_tsw, am_pop, am_cat, am_cS, am_cI, am_cV, am_ri, am_rl, am_ra, am_rv, am_b1, am_b2, am_ent, am_en, am_isL, am_st1, am_st2, am_clr, am_cnd, cc_36, ac_36, nL_36, rb_36, np_17, ok_36_17, nL_17, vd_17_4, np_18, ok_36_18, nL_18, vd_18_4, tg_4_8, tg_4_10, tg_4_11, tg_4_7, tg_4_9, tg_4_6, List.getElem?_cons_succ, List.getElem?_cons_zero, nz_of, nzl_of, Int.toNat_add, Int.toNat_mul, tn_l, lt_t, lt_f, le_t, le_f, eq_t, eq_f, ltn_t, ltn_f, len_t, len_f, eqn_t, eqn_f, up_ne, up_up, sh_73, D, mxL]
      have s0 := up_iff _ 6 step
      rw [itL_0] at s0
      rw [s1_iff [35, 47] 200]
      simp (disch := omega) [sz_s, sz_0, gx_s, hx_r, hx_c, hx_b, hx_s, hx_i, hx_n, kx_s, kx_n, kx_i, cx_d, up_at, am_ctl, am_step, am_i1, am_i2, am_i2d, am_l1, am_l2, am_l2d, am_ldi, am_ldl, am_lda, am_sti, am_sta, am_stl, am_inc, am_i2l, am_l2i, am_lcmp, am_dup, am_dup2, am_pop1, am_fv, am_getf, am_putf, am_wr, am_ial, am_lal, am_bal, am_aal, am_ias, am_las, am_bas, am_alen, am_inst, am_cast, am_cpm, am_copy, am_tsw, am_pop, am_cat, am_cS, am_cI, am_cV, am_ri, am_rl, am_ra, am_rv, am_b1, am_b2, am_ent, am_en, am_isL, am_st1, am_st2, am_clr, am_cnd, cc_36, ac_36, nL_36, rb_36, np_17, ok_36_17, nL_17, vd_17_4, np_18, ok_36_18, nL_18, vd_18_4, tg_4_8, tg_4_10, tg_4_11, tg_4_7, tg_4_9, tg_4_6, List.getElem?_cons_succ, List.getElem?_cons_zero, nz_of, nzl_of, Int.toNat_add, Int.toNat_mul, tn_l, lt_t, lt_f, le_t, le_f, eq_t, eq_f, ltn_t, ltn_f, len_t, len_f, eqn_t, eqn_f, up_ne, up_up, sh_73, e0.1, ha]
      refine s0.mpr ?_
      generalize itL (fun k h => mxL h (figW (μ 102) a k)) 6 y = z at *
      rw [s1_iff [35, 47] 200]
      simp (disch := omega) [sz_s, sz_0, gx_s, hx_r, hx_c, hx_b, hx_s, hx_i, hx_n, kx_s, kx_n, kx_i, cx_d, up_at, am_ctl, am_step, am_i1, am_i2, am_i2d, am_l1, am_l2, am_l2d, am_ldi, am_ldl, am_lda, am_sti, am_sta, am_stl, am_inc, am_i2l, am_l2i, am_lcmp, am_dup, am_dup2, am_pop1, am_fv, am_getf, am_putf, am_wr, am_ial, am_lal, am_bal, am_aal, am_ias, am_las, am_bas, am_alen, am_inst, am_cast, am_cpm, am_copy, am_tsw, am_pop, am_cat, am_cS, am_cI, am_cV, am_ri, am_rl, am_ra, am_rv, am_b1, am_b2, am_ent, am_en, am_isL, am_st1, am_st2, am_clr, am_cnd, cc_36, ac_36, nL_36, rb_36, np_17, ok_36_17, nL_17, vd_17_4, np_18, ok_36_18, nL_18, vd_18_4, tg_4_8, tg_4_10, tg_4_11, tg_4_7, tg_4_9, tg_4_6, List.getElem?_cons_succ, List.getElem?_cons_zero, nz_of, nzl_of, Int.toNat_add, Int.toNat_mul, tn_l, lt_t, lt_f, le_t, le_f, eq_t, eq_f, ltn_t, ltn_f, len_t, len_f, eqn_t, eqn_f, up_ne, up_up, sh_73]
      simpa using q) (fun l6 _ => by
      try dsimp only
      have q := k l6
      generalize itL (fun a h => itL (fun k h => mxL h (figW (μ 102) a k)) 6 h) (nW (μ 102)) h1 = z at *
      rw [s1_iff [35, 84] 200]
      simp (disch := omega) [sz_s, sz_0, gx_s, hx_r, hx_c, hx_b, hx_s, hx_i, hx_n, kx_s, kx_n, kx_i, cx_d, up_at, am_ctl, am_step, am_i1, am_i2, am_i2d, am_l1, am_l2, am_l2d, am_ldi, am_ldl, am_lda, am_sti, am_sta, am_stl, am_inc, am_i2l, am_l2i, am_lcmp, am_dup, am_dup2, am_pop1, am_fv, am_getf, am_putf, am_wr, am_ial, am_lal, am_bal, am_aal, am_ias, am_las, am_bas, am_alen, am_inst, am_cast, am_cpm, am_copy, am_tsw, am_pop, am_cat, am_cS, am_cI, am_cV, am_ri, am_rl, am_ra, am_rv, am_b1, am_b2, am_ent, am_en, am_isL, am_st1, am_st2, am_clr, am_cnd, cc_36, ac_36, nL_36, rb_36, np_17, ok_36_17, nL_17, vd_17_4, np_18, ok_36_18, nL_18, vd_18_4, tg_4_8, tg_4_10, tg_4_11, tg_4_7, tg_4_9, tg_4_6, List.getElem?_cons_succ, List.getElem?_cons_zero, nz_of, nzl_of, Int.toNat_add, Int.toNat_mul, tn_l, lt_t, lt_f, le_t, le_f, eq_t, eq_f, ltn_t, ltn_f, len_t, len_f, eqn_t, eqn_f, up_ne, up_up, sh_73, e0.1]
      simpa using q) l6 trivial
    try dsimp only at outer
    rw [itL_0] at outer
    simpa using outer
  have q := c1 _ none k
  unfold mxL at q
  unfold wpM
  rw [s1_iff [35] 200]
  simp (disch := omega) [sz_s, sz_0, gx_s, hx_r, hx_c, hx_b, hx_s, hx_i, hx_n, kx_s, kx_n, kx_i, cx_d, up_at, am_ctl, am_step, am_i1, am_i2, am_i2d, am_l1, am_l2, am_l2d, am_ldi, am_ldl, am_lda, am_sti, am_sta, am_stl, am_inc, am_i2l, am_l2i, am_lcmp, am_dup, am_dup2, am_pop1, am_fv, am_getf, am_putf, am_wr, am_ial, am_lal, am_bal, am_aal, am_ias, am_las, am_bas, am_alen, am_inst, am_cast, am_cpm, am_copy, am_tsw, am_pop, am_cat, am_cS, am_cI, am_cV, am_ri, am_rl, am_ra, am_rv, am_b1, am_b2, am_ent, am_en, am_isL, am_st1, am_st2, am_clr, am_cnd, cc_36, ac_36, nL_36, rb_36, np_17, ok_36_17, nL_17, vd_17_4, np_18, ok_36_18, nL_18, vd_18_4, tg_4_8, tg_4_10, tg_4_11, tg_4_7, tg_4_9, tg_4_6, List.getElem?_cons_succ, List.getElem?_cons_zero, nz_of, nzl_of, Int.toNat_add, Int.toNat_mul, tn_l, lt_t, lt_f, le_t, le_f, eq_t, eq_f, ltn_t, ltn_f, len_t, len_f, eqn_t, eqn_f, up_ne, up_up, sh_73, l0.2.1, l0.2.2.2.1, l0.2.2.2.2.1]
  simpa using q
