/-! put, of both sides -/
theorem g_text : ∀ (n : Nat), n < 4 → rf0 2 n = some (58 + 2 * n) ∧ sh0 (58 + 2 * n) = (0, 8, 0) ∧ rf0 (58 + 2 * n) 0 = some (59 + 2 * n) ∧ sh0 (59 + 2 * n) = (1, 80, 0)
  | 0, _ => ⟨rfl, rfl, rfl, rfl⟩ | 1, _ => ⟨rfl, rfl, rfl, rfl⟩ | 2, _ => ⟨rfl, rfl, rfl, rfl⟩ | 3, _ => ⟨rfl, rfl, rfl, rfl⟩
  | n + 4, h => absurd h (by omega)
set_option maxRecDepth 100000 in
theorem wp_put_bad (r i v : Int) (h : ¬ (0 ≤ r ∧ r < 4)) (μ : Nat → Nat → Int) (Φ : Option AV → ST → Prop) : wpM 86 [.inr (.inr (some 0)), .inl r, .inl i, .inl v] (S μ) Φ ↔ Φ (some (.inl (-1))) (S μ) := by
  unfold wpM
  rw [s1_iff [] 60]
  simp [sz_s, sz_0, gx_s, hx_r, hx_c, hx_b, hx_s, hx_i, hx_n, kx_s, kx_n, kx_i, cx_d, up_at, am_ctl, am_step, am_i1, am_i2, am_i2d, am_l1, am_l2, am_l2d, am_ldi, am_ldl, am_lda, am_sti, am_sta, am_stl, am_inc, am_i2l, am_l2i, am_lcmp, am_dup, am_dup2, am_pop1, am_fv, am_getf, am_putf, am_wr, am_ial, am_lal, am_bal, am_aal, am_ias, am_las, am_bas, am_alen, am_inst, am_cast, am_cpm, am_copy, am_tsw, am_pop, am_cat, am_cS, am_cI, am_cV, am_ri, am_rl, am_ra, am_rv, am_b1, am_b2, am_ent, am_en, am_isL, am_st1, am_st2, am_clr, am_cnd, cc_86, ac_86, nL_86, rb_86, np_129, ok_86_129, nL_129, np_56, ok_86_56, nL_56, vd_56_8, np_133, ok_86_133, nL_133, vd_133_11, tg_11_1, tg_8_1, tg_8_0, sh_0, sh_2, rf_0_1, wp_within, h]
set_option maxRecDepth 100000 in
theorem wp_put (n : Nat) (hn : n < 4) (i v : Int) (μ : Nat → Nat → Int) (hs : μ (58 + 2 * n) 1 ≤ 80) (Φ : Option AV → ST → Prop) : wpM 86 [.inr (.inr (some 0)), .inl n, .inl i, .inl v] (S μ) Φ ↔ (if μ (58 + 2 * n) 1 = -1 then Φ (some (.inl (-3))) (S (am_up (am_up μ 0 9 1) 45 1 (nz (μ 45 1 + 1)))) else if 0 ≤ i ∧ i < μ (58 + 2 * n) 1 then Φ (some (.inl (nz (μ (59 + 2 * n) i.toNat + 1000)))) (S (am_up μ (59 + 2 * n) i.toNat (am_i2b v))) else Φ (some (.inl (-3))) (S (am_up (am_up μ 0 9 2) 45 2 (nz (μ 45 2 + 1))))) := by
  obtain ⟨g1, g2, g3, g4⟩ := g_text n hn
  unfold wpM
  rw [s1_iff [] 60]
  simp [sz_s, sz_0, gx_s, hx_r, hx_c, hx_b, hx_s, hx_i, hx_n, kx_s, kx_n, kx_i, cx_d, up_at, am_ctl, am_step, am_i1, am_i2, am_i2d, am_l1, am_l2, am_l2d, am_ldi, am_ldl, am_lda, am_sti, am_sta, am_stl, am_inc, am_i2l, am_l2i, am_lcmp, am_dup, am_dup2, am_pop1, am_fv, am_getf, am_putf, am_wr, am_ial, am_lal, am_bal, am_aal, am_ias, am_las, am_bas, am_alen, am_inst, am_cast, am_cpm, am_copy, am_tsw, am_pop, am_cat, am_cS, am_cI, am_cV, am_ri, am_rl, am_ra, am_rv, am_b1, am_b2, am_ent, am_en, am_isL, am_st1, am_st2, am_clr, am_cnd, cc_86, ac_86, nL_86, rb_86, np_129, ok_86_129, nL_129, np_56, ok_86_56, nL_56, vd_56_8, np_133, ok_86_133, nL_133, vd_133_11, tg_11_1, tg_8_1, tg_8_0, sh_0, sh_2, rf_0_1, wp_within, g1, g2, g3, g4, wp_isThere (58 + 2 * n) (by omega) g2, wp_find 1 (by decide), wp_find 2 (by decide), show 58 + 2 * n < 121 by omega, show 59 + 2 * n < 121 by omega, show (n : Int) < 4 by omega]
  (repeat' split) <;> first | rfl | (exfalso; omega) | exact and_iff_right (by omega) | exact (and_iff_right (by omega)).trans (and_iff_right (by omega)) | exact (and_iff_right (by omega)).trans ((and_iff_right (by omega)).trans (and_iff_right (by omega)))
theorem i2b_rng (v : Int) : -128 ≤ am_i2b v ∧ am_i2b v ≤ 127 := by
  unfold am_i2b
  rw [Int8.toInt_toInt32]
  have h1 := Int8.le_toInt (Int32.ofInt v).toInt8
  have h2 := Int8.toInt_lt (Int32.ofInt v).toInt8
  omega
set_option maxRecDepth 100000 in
theorem wm_put_bad (r i v : Int) (h : ¬ (0 ≤ r ∧ r < 4)) (μ : Nat → Nat → Int) (Φ : Option AV → ST → Prop) : wpM 173 [.inr (.inr (some 101)), .inl r, .inl i, .inl v] (S μ) Φ ↔ Φ (some (.inl (-1))) (S μ) := by
  unfold wpM
  rw [s1_iff [] 60]
  simp [sz_s, sz_0, gx_s, hx_r, hx_c, hx_b, hx_s, hx_i, hx_n, kx_s, kx_n, kx_i, cx_d, up_at, am_ctl, am_step, am_i1, am_i2, am_i2d, am_l1, am_l2, am_l2d, am_ldi, am_ldl, am_lda, am_sti, am_sta, am_stl, am_inc, am_i2l, am_l2i, am_lcmp, am_dup, am_dup2, am_pop1, am_fv, am_getf, am_putf, am_wr, am_ial, am_lal, am_bal, am_aal, am_ias, am_las, am_bas, am_alen, am_inst, am_cast, am_cpm, am_copy, am_tsw, am_pop, am_cat, am_cS, am_cI, am_cV, am_ri, am_rl, am_ra, am_rv, am_b1, am_b2, am_ent, am_en, am_isL, am_st1, am_st2, am_clr, am_cnd, cc_173, ac_173, nL_173, rb_173, np_156, ok_173_156, nL_156, np_164, ok_173_164, nL_164, np_160, ok_173_160, nL_160, vd_160_12, tg_12_5, tg_12_4, sh_101, wm_isText, show ¬ (0 ≤ r ∧ r ≤ 3) by omega]
set_option maxRecDepth 100000 in
theorem wm_put (n : Nat) (hn : n < 4) (i v : Int) (μ : Nat → Nat → Int) (hs : -1 ≤ μ 107 n ∧ μ 107 n ≤ 80) (Φ : Option AV → ST → Prop) : wpM 173 [.inr (.inr (some 101)), .inl n, .inl i, .inl v] (S μ) Φ ↔ (if μ 107 n < 0 then Φ (some (.inl (-3))) (S (mfind μ 1)) else if 0 ≤ i ∧ i < μ 107 n then Φ (some (.inl (nz (1000 + μ 106 (80 * n + i.toNat))))) (S (am_up μ 106 (80 * n + i.toNat) (am_i2b v))) else Φ (some (.inl (-3))) (S (mfind μ 2))) := by
  by_cases h1 : μ 107 n < 0
  · rw [if_pos h1]
    unfold wpM
    rw [s1_iff [] 200]
    simp (disch := omega) [sz_s, sz_0, gx_s, hx_r, hx_c, hx_b, hx_s, hx_i, hx_n, kx_s, kx_n, kx_i, cx_d, up_at, am_ctl, am_step, am_i1, am_i2, am_i2d, am_l1, am_l2, am_l2d, am_ldi, am_ldl, am_lda, am_sti, am_sta, am_stl, am_inc, am_i2l, am_l2i, am_lcmp, am_dup, am_dup2, am_pop1, am_fv, am_getf, am_putf, am_wr, am_ial, am_lal, am_bal, am_aal, am_ias, am_las, am_bas, am_alen, am_inst, am_cast, am_cpm, am_copy, am_tsw, am_pop, am_cat, am_cS, am_cI, am_cV, am_ri, am_rl, am_ra, am_rv, am_b1, am_b2, am_ent, am_en, am_isL, am_st1, am_st2, am_clr, am_cnd, cc_173, ac_173, nL_173, rb_173, np_156, ok_173_156, nL_156, np_164, ok_173_164, nL_164, np_160, ok_173_160, nL_160, vd_160_12, tg_12_5, tg_12_4, List.getElem?_cons_succ, List.getElem?_cons_zero, nz_of, nzl_of, Int.toNat_add, Int.toNat_mul, tn_l, lt_t, lt_f, le_t, le_f, eq_t, eq_f, ltn_t, ltn_f, len_t, len_f, eqn_t, eqn_f, up_ne, up_up, sh_101, sh_107, rf_101_5, wm_isText, h1, wm_met 1 (by decide), mfind]
  · rw [if_neg h1]
    by_cases h2 : 0 ≤ i ∧ i < μ 107 n
    · rw [if_pos h2]
      unfold wpM
      rw [s1_iff [] 200]
      simp (disch := omega) [sz_s, sz_0, gx_s, hx_r, hx_c, hx_b, hx_s, hx_i, hx_n, kx_s, kx_n, kx_i, cx_d, up_at, am_ctl, am_step, am_i1, am_i2, am_i2d, am_l1, am_l2, am_l2d, am_ldi, am_ldl, am_lda, am_sti, am_sta, am_stl, am_inc, am_i2l, am_l2i, am_lcmp, am_dup, am_dup2, am_pop1, am_fv, am_getf, am_putf, am_wr, am_ial, am_lal, am_bal, am_aal, am_ias, am_las, am_bas, am_alen, am_inst, am_cast, am_cpm, am_copy, am_tsw, am_pop, am_cat, am_cS, am_cI, am_cV, am_ri, am_rl, am_ra, am_rv, am_b1, am_b2, am_ent, am_en, am_isL, am_st1, am_st2, am_clr, am_cnd, cc_173, ac_173, nL_173, rb_173, np_156, ok_173_156, nL_156, np_164, ok_173_164, nL_164, np_160, ok_173_160, nL_160, vd_160_12, tg_12_5, tg_12_4, List.getElem?_cons_succ, List.getElem?_cons_zero, nz_of, nzl_of, Int.toNat_add, Int.toNat_mul, tn_l, lt_t, lt_f, le_t, le_f, eq_t, eq_f, ltn_t, ltn_f, len_t, len_f, eqn_t, eqn_f, up_ne, up_up, sh_101, sh_106, sh_107, rf_101_4, rf_101_5, wm_isText, wm_in, h1, show 0 ≤ i ∧ i ≤ μ 107 n - 1 by omega]
    · rw [if_neg h2]
      unfold wpM
      rw [s1_iff [] 200]
      simp (disch := omega) [sz_s, sz_0, gx_s, hx_r, hx_c, hx_b, hx_s, hx_i, hx_n, kx_s, kx_n, kx_i, cx_d, up_at, am_ctl, am_step, am_i1, am_i2, am_i2d, am_l1, am_l2, am_l2d, am_ldi, am_ldl, am_lda, am_sti, am_sta, am_stl, am_inc, am_i2l, am_l2i, am_lcmp, am_dup, am_dup2, am_pop1, am_fv, am_getf, am_putf, am_wr, am_ial, am_lal, am_bal, am_aal, am_ias, am_las, am_bas, am_alen, am_inst, am_cast, am_cpm, am_copy, am_tsw, am_pop, am_cat, am_cS, am_cI, am_cV, am_ri, am_rl, am_ra, am_rv, am_b1, am_b2, am_ent, am_en, am_isL, am_st1, am_st2, am_clr, am_cnd, cc_173, ac_173, nL_173, rb_173, np_156, ok_173_156, nL_156, np_164, ok_173_164, nL_164, np_160, ok_173_160, nL_160, vd_160_12, tg_12_5, tg_12_4, List.getElem?_cons_succ, List.getElem?_cons_zero, nz_of, nzl_of, Int.toNat_add, Int.toNat_mul, tn_l, lt_t, lt_f, le_t, le_f, eq_t, eq_f, ltn_t, ltn_f, len_t, len_f, eqn_t, eqn_f, up_ne, up_up, sh_101, sh_107, rf_101_5, wm_isText, wm_in, h1, show ¬ (0 ≤ i ∧ i ≤ μ 107 n - 1) by omega, wm_met 2 (by decide), mfind]
theorem inv_put {B : Int} {μ : Nat → Nat → Int} (h : INV B μ) (n j : Nat) (hn : n < 4) (hj : (j : Int) < μ 107 n) (v : Int) (hv : -128 ≤ v ∧ v ≤ 127) : INV B (am_up (am_up μ (59 + 2 * n) j v) 106 (80 * n + j) v) := by
  obtain ⟨ha, hI, ht, hq⟩ := h
  have lo : ∀ k, ¬ k = 59 + 2 * n → ¬ k = 106 → (am_up (am_up μ (59 + 2 * n) j v) 106 (80 * n + j) v) k = μ k := fun k h1 h2 => by
    rw [up_ne _ _ _ h2, up_ne _ _ _ h1]
  refine ⟨?_, I_r_of hI (fun k i hk => by rw [lo k (by omega) (by omega)]), fun q hq => ?_, I_q_of hq (fun k i hk => by rw [lo k (by omega) (by omega)])⟩
  · obtain ⟨a1, a2, a3, a4, a5⟩ := ha
    unfold I_a
    rw [lo 0 (by omega) (by omega), lo 101 (by omega) (by omega), lo 45 (by omega) (by omega), lo 108 (by omega) (by omega)]
    exact ⟨a1, a2, a3, a4, a5⟩
  · obtain ⟨b1, b2, b3⟩ := ht q hq
    obtain ⟨c1, c2, c3⟩ := ht n hn
    rw [lo 107 (by omega) (by omega), lo (58 + 2 * q) (by omega) (by omega)]
    refine ⟨b1, b2, fun i hi => ?_⟩
    by_cases e : q = n ∧ i = j
    · obtain ⟨rfl, rfl⟩ := e
      simp (disch := omega) only [up_at, eqn_t, eqn_f, and_self, true_and, false_and, and_true, if_true, if_false]
      exact hv
    · have e3 : (am_up (am_up μ (59 + 2 * n) j v) 106 (80 * n + j) v) (59 + 2 * q) i = μ (59 + 2 * q) i := by
        simp only [up_at]
        rw [if_neg (by omega), if_neg (by omega)]
      have e4 : (am_up (am_up μ (59 + 2 * n) j v) 106 (80 * n + j) v) 106 (80 * q + i) = μ 106 (80 * q + i) := by
        simp only [up_at]
        rw [if_neg (by omega), if_neg (by omega)]
      rw [e3, e4]
      exact b3 i hi
theorem eq_put {B : Int} {μ : Nat → Nat → Int} (h : INV B μ) (r i v : Int) : EQV B μ 86 173 [.inl r, .inl i, .inl v] := by
  unfold EQV
  by_cases hr : 0 ≤ r ∧ r < 4
  · obtain ⟨n, rfl⟩ : ∃ n : Nat, r = n := ⟨r.toNat, by omega⟩
    have hn : n < 4 := by omega
    obtain ⟨b1, b2, b3⟩ := h.2.2.1 n hn
    rw [wp_put n hn i v μ (by omega), b2]
    by_cases h1 : μ 107 n < 0
    · rw [if_pos (by omega)]
      refine ⟨_, _, rfl, rfl, ?_⟩
      have e : (am_up (am_up μ 0 9 1) 45 1 (nz (μ 45 1 + 1))) 107 = μ 107 := by rw [up_ne _ _ _ (by decide), up_ne _ _ _ (by decide)]
      rw [wm_put n hn i v _ (by rw [e]; exact b1), e, if_pos h1]
      exact ⟨rfl, _, rfl, inv_find h 1 (by decide)⟩
    · rw [if_neg (by omega)]
      by_cases h2 : 0 ≤ i ∧ i < μ 107 n
      · rw [if_pos h2]
        refine ⟨_, _, rfl, rfl, ?_⟩
        have e : (am_up μ (59 + 2 * n) i.toNat (am_i2b v)) 107 = μ 107 := up_ne _ _ _ (by omega)
        have e2 : (am_up μ (59 + 2 * n) i.toNat (am_i2b v)) 106 = μ 106 := up_ne _ _ _ (by omega)
        rw [wm_put n hn i v _ (by rw [e]; exact b1), e, e2, if_neg h1, if_pos h2]
        refine ⟨by rw [(b3 i.toNat (by omega)).1, Int.add_comm], _, rfl, inv_put h n i.toNat hn (by omega) _ (i2b_rng v)⟩
      · rw [if_neg h2]
        refine ⟨_, _, rfl, rfl, ?_⟩
        have e : (am_up (am_up μ 0 9 2) 45 2 (nz (μ 45 2 + 1))) 107 = μ 107 := by rw [up_ne _ _ _ (by decide), up_ne _ _ _ (by decide)]
        rw [wm_put n hn i v _ (by rw [e]; exact b1), e, if_neg h1, if_neg h2]
        exact ⟨rfl, _, rfl, inv_find h 2 (by decide)⟩
  · rw [wp_put_bad r i v hr]
    refine ⟨_, _, rfl, rfl, ?_⟩
    rw [wm_put_bad r i v hr]
    exact ⟨rfl, _, rfl, h⟩
