/-! lay, tear, and what is told plainly -/
theorem inv_set {B : Int} {μ : Nat → Nat → Int} (h : INV B μ) (n j : Nat) (hn : n < 6) (hj : (j : Int) < μ 105 n) (v : Int) (hv : nz v = v) : INV B (am_up (am_up μ (47 + 2 * n) j v) 104 (60 * n + j) v) := by
  obtain ⟨ha, hI, ht, hq⟩ := h
  refine ⟨?_, fun q hq => ?_, I_t_of ht (fun k i hk => ?_), I_q_of hq (fun k i hk => ?_)⟩
  · obtain ⟨a1, a2, a3, a4, a5⟩ := ha
    unfold I_a
    simp only [up_at]
    refine ⟨?_, ?_, ?_, ?_, fun g hg => ?_⟩
    all_goals (repeat rw [if_neg (by omega)])
    · exact a1
    · exact a2
    · exact a3
    · exact a4
    · exact a5 g hg
  · obtain ⟨b1, b2, b3⟩ := hI q hq
    obtain ⟨c1, c2, c3⟩ := hI n hn
    have e1 : (am_up (am_up μ (47 + 2 * n) j v) 104 (60 * n + j) v) 105 q = μ 105 q := by
      simp only [up_at]
      rw [if_neg (by omega), if_neg (by omega)]
    have e2 : (am_up (am_up μ (47 + 2 * n) j v) 104 (60 * n + j) v) (46 + 2 * q) 1 = μ (46 + 2 * q) 1 := by
      simp only [up_at]
      rw [if_neg (by omega), if_neg (by omega)]
    rw [e1, e2]
    refine ⟨b1, b2, fun i hi => ?_⟩
    by_cases e : q = n ∧ i = j
    · obtain ⟨rfl, rfl⟩ := e
      have e3 : (am_up (am_up μ (47 + 2 * q) i v) 104 (60 * q + i) v) (47 + 2 * q) i = v := by
        simp only [up_at]
        rw [if_neg (by omega), if_pos ⟨trivial, trivial⟩]
      have e4 : (am_up (am_up μ (47 + 2 * q) i v) 104 (60 * q + i) v) 104 (60 * q + i) = v := by
        simp only [up_at]
        rw [if_pos ⟨trivial, trivial⟩]
      rw [e3, e4]
      exact ⟨rfl, hv⟩
    · have e3 : (am_up (am_up μ (47 + 2 * n) j v) 104 (60 * n + j) v) (47 + 2 * q) i = μ (47 + 2 * q) i := by
        simp only [up_at]
        rw [if_neg (by omega), if_neg (by omega)]
      have e4 : (am_up (am_up μ (47 + 2 * n) j v) 104 (60 * n + j) v) 104 (60 * q + i) = μ 104 (60 * q + i) := by
        simp only [up_at]
        rw [if_neg (by omega), if_neg (by omega)]
      rw [e3, e4]
      exact b3 i hi
  · simp only [up_at]
    rw [if_neg (by omega), if_neg (by omega)]
  · simp only [up_at]
    rw [if_neg (by omega), if_neg (by omega)]
theorem inv_tear {B : Int} {μ : Nat → Nat → Int} (h : INV B μ) (n : Nat) (hn : n < 6) : INV B (am_up (am_up μ (46 + 2 * n) 1 (-1)) 105 n (-1)) := by
  obtain ⟨ha, hI, ht, hq⟩ := h
  refine ⟨?_, fun q hq => ?_, I_t_of ht (fun k i hk => ?_), I_q_of hq (fun k i hk => ?_)⟩
  · obtain ⟨a1, a2, a3, a4, a5⟩ := ha
    unfold I_a
    simp only [up_at]
    refine ⟨?_, ?_, ?_, ?_, fun g hg => ?_⟩
    all_goals (repeat rw [if_neg (by omega)])
    · exact a1
    · exact a2
    · exact a3
    · exact a4
    · exact a5 g hg
  · obtain ⟨b1, b2, b3⟩ := hI q hq
    by_cases e : q = n
    · subst e
      have e1 : (am_up (am_up μ (46 + 2 * q) 1 (-1)) 105 q (-1)) 105 q = -1 := by
        simp only [up_at]
        rw [if_pos ⟨trivial, trivial⟩]
      have e2 : (am_up (am_up μ (46 + 2 * q) 1 (-1)) 105 q (-1)) (46 + 2 * q) 1 = -1 := by
        simp only [up_at]
        rw [if_neg (by omega), if_pos ⟨trivial, trivial⟩]
      rw [e1, e2]
      exact ⟨by omega, rfl, fun i hi => absurd hi (by omega)⟩
    · have e1 : ∀ k i, k = 104 ∨ k = 105 ∧ i = q ∨ k = 46 + 2 * q ∨ k = 47 + 2 * q → (am_up (am_up μ (46 + 2 * n) 1 (-1)) 105 n (-1)) k i = μ k i := fun k i hk => by
        simp only [up_at]
        rw [if_neg (by omega), if_neg (by omega)]
      rw [e1 105 q (by omega), e1 (46 + 2 * q) 1 (by omega)]
      refine ⟨b1, b2, fun i hi => ?_⟩
      rw [e1 (47 + 2 * q) i (by omega), e1 104 _ (by omega)]
      exact b3 i hi
  · simp only [up_at]
    rw [if_neg (by omega), if_neg (by omega)]
  · simp only [up_at]
    rw [if_neg (by omega), if_neg (by omega)]
set_option maxRecDepth 100000 in
theorem wp_tear (r : Int) (μ : Nat → Nat → Int) (Φ : Option AV → ST → Prop) : wpM 82 [.inr (.inr (some 0)), .inl r] (S μ) Φ ↔ (if 0 ≤ r ∧ r < 6 then (if μ (46 + 2 * r.toNat) 1 = -1 then Φ (some (.inl (-3))) (S (am_up (am_up μ 0 9 1) 45 1 (nz (μ 45 1 + 1)))) else Φ (some (.inl 1)) (S (am_up μ (46 + 2 * r.toNat) 1 (-1)))) else Φ (some (.inl (-1))) (S μ)) := by
  unfold wpM
  rw [s1_iff [] 60]
  by_cases hr : 0 ≤ r ∧ r < 6
  · obtain ⟨n, rfl⟩ : ∃ n : Nat, r = n := ⟨r.toNat, by omega⟩
    obtain ⟨g1, g2, g3, g4⟩ := g_row n (by omega)
    simp [sz_s, sz_0, gx_s, hx_r, hx_c, hx_b, hx_s, hx_i, hx_n, kx_s, kx_n, kx_i, cx_d, up_at, am_ctl, am_step, am_i1, am_i2, am_i2d, am_l1, am_l2, am_l2d, am_ldi, am_ldl, am_lda, am_sti, am_sta, am_stl, am_inc, am_i2l, am_l2i, am_lcmp, am_dup, am_dup2, am_pop1, am_fv, am_getf, am_putf, am_wr, am_ial, am_lal, am_bal, am_aal, am_ias, am_las, am_bas, am_alen, am_inst, am_cast, am_cpm, am_copy, am_tsw, am_pop, am_cat, am_cS, am_cI, am_cV, am_ri, am_rl, am_ra, am_rv, am_b1, am_b2, am_ent, am_en, am_isL, am_st1, am_st2, am_clr, am_cnd, cc_82, ac_82, nL_82, rb_82, np_129, ok_82_129, nL_129, np_56, ok_82_56, nL_56, vd_56_8, np_133, ok_82_133, nL_133, vd_133_11, tg_11_0, sh_0, sh_1, rf_0_0, wp_within, g1, g2, wp_isThere (46 + 2 * n) (by omega) g2, wp_find 1 (by decide), show 46 + 2 * n < 121 by omega, show (n : Int) < 6 by omega]
  · simp [sz_s, sz_0, gx_s, hx_r, hx_c, hx_b, hx_s, hx_i, hx_n, kx_s, kx_n, kx_i, cx_d, up_at, am_ctl, am_step, am_i1, am_i2, am_i2d, am_l1, am_l2, am_l2d, am_ldi, am_ldl, am_lda, am_sti, am_sta, am_stl, am_inc, am_i2l, am_l2i, am_lcmp, am_dup, am_dup2, am_pop1, am_fv, am_getf, am_putf, am_wr, am_ial, am_lal, am_bal, am_aal, am_ias, am_las, am_bas, am_alen, am_inst, am_cast, am_cpm, am_copy, am_tsw, am_pop, am_cat, am_cS, am_cI, am_cV, am_ri, am_rl, am_ra, am_rv, am_b1, am_b2, am_ent, am_en, am_isL, am_st1, am_st2, am_clr, am_cnd, cc_82, ac_82, nL_82, rb_82, np_129, ok_82_129, nL_129, np_56, ok_82_56, nL_56, vd_56_8, np_133, ok_82_133, nL_133, vd_133_11, tg_11_0, sh_0, sh_1, rf_0_0, wp_within, hr]
set_option maxRecDepth 100000 in
theorem wm_tear (r : Int) (μ : Nat → Nat → Int) (Φ : Option AV → ST → Prop) : wpM 169 [.inr (.inr (some 101)), .inl r] (S μ) Φ ↔ (if 0 ≤ r ∧ r < 6 then (if μ 105 r.toNat < 0 then Φ (some (.inl (-3))) (S (am_up (am_up μ 101 7 1) 108 1 (nz (μ 108 1 + 1)))) else Φ (some (.inl 1)) (S (am_up μ 105 r.toNat (-1)))) else Φ (some (.inl (-1))) (S μ)) := by
  unfold wpM
  rw [s1_iff [] 60]
  simp [sz_s, sz_0, gx_s, hx_r, hx_c, hx_b, hx_s, hx_i, hx_n, kx_s, kx_n, kx_i, cx_d, up_at, am_ctl, am_step, am_i1, am_i2, am_i2d, am_l1, am_l2, am_l2d, am_ldi, am_ldl, am_lda, am_sti, am_sta, am_stl, am_inc, am_i2l, am_l2i, am_lcmp, am_dup, am_dup2, am_pop1, am_fv, am_getf, am_putf, am_wr, am_ial, am_lal, am_bal, am_aal, am_ias, am_las, am_bas, am_alen, am_inst, am_cast, am_cpm, am_copy, am_tsw, am_pop, am_cat, am_cS, am_cI, am_cV, am_ri, am_rl, am_ra, am_rv, am_b1, am_b2, am_ent, am_en, am_isL, am_st1, am_st2, am_clr, am_cnd, cc_169, ac_169, nL_169, rb_169, np_163, ok_169_163, nL_163, np_160, ok_169_160, nL_160, vd_160_12, tg_12_3, sh_101, sh_105, rf_101_3, wm_isRow, wm_met 1 (by decide)]
  (repeat' split) <;> first | rfl | (exfalso; omega) | exact and_iff_right (by omega) | exact (and_iff_right (by omega)).trans (and_iff_right (by omega)) | exact (and_iff_right (by omega)).trans ((and_iff_right (by omega)).trans (and_iff_right (by omega)))
theorem eq_tear {B : Int} {μ : Nat → Nat → Int} (h : INV B μ) (r : Int) : EQV B μ 82 169 [.inl r] := by
  unfold EQV
  rw [wp_tear]
  by_cases hr : 0 ≤ r ∧ r < 6
  · obtain ⟨n, rfl⟩ : ∃ n : Nat, r = n := ⟨r.toNat, by omega⟩
    have hn : n < 6 := by omega
    obtain ⟨b1, b2, b3⟩ := h.2.1 n hn
    rw [if_pos hr, Int.toNat_natCast, b2]
    by_cases h1 : μ 105 n < 0
    · rw [if_pos (by omega)]
      refine ⟨_, _, rfl, rfl, ?_⟩
      have e : (am_up (am_up μ 0 9 1) 45 1 (nz (μ 45 1 + 1))) 105 n = μ 105 n := by simp [up_at]
      rw [wm_tear, if_pos hr, Int.toNat_natCast, e, if_pos h1]
      exact ⟨rfl, _, rfl, inv_find h 1 (by decide)⟩
    · rw [if_neg (by omega)]
      refine ⟨_, _, rfl, rfl, ?_⟩
      have e : (am_up μ (46 + 2 * n) 1 (-1)) 105 n = μ 105 n := by
        simp only [up_at]
        rw [if_neg (by omega)]
      rw [wm_tear, if_pos hr, Int.toNat_natCast, e, if_neg h1]
      exact ⟨rfl, _, rfl, inv_tear h n hn⟩
  · rw [if_neg hr]
    refine ⟨_, _, rfl, rfl, ?_⟩
    rw [wm_tear, if_neg hr]
    exact ⟨rfl, _, rfl, h⟩
set_option maxRecDepth 100000 in
theorem wp_lay_bad (r i v : Int) (h : ¬ (0 ≤ r ∧ r < 6)) (μ : Nat → Nat → Int) (Φ : Option AV → ST → Prop) : wpM 80 [.inr (.inr (some 0)), .inl r, .inl i, .inl v] (S μ) Φ ↔ Φ (some (.inl (-1))) (S μ) := by
  unfold wpM
  rw [s1_iff [] 60]
  simp [sz_s, sz_0, gx_s, hx_r, hx_c, hx_b, hx_s, hx_i, hx_n, kx_s, kx_n, kx_i, cx_d, up_at, am_ctl, am_step, am_i1, am_i2, am_i2d, am_l1, am_l2, am_l2d, am_ldi, am_ldl, am_lda, am_sti, am_sta, am_stl, am_inc, am_i2l, am_l2i, am_lcmp, am_dup, am_dup2, am_pop1, am_fv, am_getf, am_putf, am_wr, am_ial, am_lal, am_bal, am_aal, am_ias, am_las, am_bas, am_alen, am_inst, am_cast, am_cpm, am_copy, am_tsw, am_pop, am_cat, am_cS, am_cI, am_cV, am_ri, am_rl, am_ra, am_rv, am_b1, am_b2, am_ent, am_en, am_isL, am_st1, am_st2, am_clr, am_cnd, cc_80, ac_80, nL_80, rb_80, np_81, ok_80_81, nL_81, vd_81_11, tg_11_0, tg_8_0, sh_0, sh_1, rf_0_0, wp_at_bad r i h]
set_option maxRecDepth 100000 in
theorem wp_lay (n : Nat) (hn : n < 6) (i v : Int) (μ : Nat → Nat → Int) (hs : μ (46 + 2 * n) 1 ≤ 60) (Φ : Option AV → ST → Prop) : wpM 80 [.inr (.inr (some 0)), .inl n, .inl i, .inl v] (S μ) Φ ↔ (if μ (46 + 2 * n) 1 = -1 then Φ (some (.inl (-3))) (S (am_up (am_up μ 0 9 1) 45 1 (nz (μ 45 1 + 1)))) else if 0 ≤ i ∧ i < μ (46 + 2 * n) 1 then Φ (some (.inl 1)) (S (am_up (am_up μ 0 10 (μ (47 + 2 * n) i.toNat)) (47 + 2 * n) i.toNat v)) else Φ (some (.inl (-3))) (S (am_up (am_up μ 0 9 2) 45 2 (nz (μ 45 2 + 1))))) := by
  obtain ⟨g1, g2, g3, g4⟩ := g_row n hn
  unfold wpM
  rw [s1_iff [] 60]
  simp [sz_s, sz_0, gx_s, hx_r, hx_c, hx_b, hx_s, hx_i, hx_n, kx_s, kx_n, kx_i, cx_d, up_at, am_ctl, am_step, am_i1, am_i2, am_i2d, am_l1, am_l2, am_l2d, am_ldi, am_ldl, am_lda, am_sti, am_sta, am_stl, am_inc, am_i2l, am_l2i, am_lcmp, am_dup, am_dup2, am_pop1, am_fv, am_getf, am_putf, am_wr, am_ial, am_lal, am_bal, am_aal, am_ias, am_las, am_bas, am_alen, am_inst, am_cast, am_cpm, am_copy, am_tsw, am_pop, am_cat, am_cS, am_cI, am_cV, am_ri, am_rl, am_ra, am_rv, am_b1, am_b2, am_ent, am_en, am_isL, am_st1, am_st2, am_clr, am_cnd, cc_80, ac_80, nL_80, rb_80, np_81, ok_80_81, nL_81, vd_81_11, tg_11_0, tg_8_0, sh_0, sh_1, rf_0_0, wp_at n hn i μ hs, g1, g2, g3, g4, show 46 + 2 * n < 121 by omega, show 47 + 2 * n < 121 by omega, show n < 6 by omega]
  (repeat' split) <;> first | rfl | (exfalso; omega) | exact and_iff_right (by omega) | exact (and_iff_right (by omega)).trans (and_iff_right (by omega)) | exact (and_iff_right (by omega)).trans ((and_iff_right (by omega)).trans (and_iff_right (by omega)))
set_option maxRecDepth 100000 in
theorem wm_lay_bad (r i v : Int) (h : ¬ (0 ≤ r ∧ r < 6)) (μ : Nat → Nat → Int) (Φ : Option AV → ST → Prop) : wpM 167 [.inr (.inr (some 101)), .inl r, .inl i, .inl v] (S μ) Φ ↔ Φ (some (.inl (-1))) (S μ) := by
  unfold wpM
  rw [s1_iff [] 60]
  simp [sz_s, sz_0, gx_s, hx_r, hx_c, hx_b, hx_s, hx_i, hx_n, kx_s, kx_n, kx_i, cx_d, up_at, am_ctl, am_step, am_i1, am_i2, am_i2d, am_l1, am_l2, am_l2d, am_ldi, am_ldl, am_lda, am_sti, am_sta, am_stl, am_inc, am_i2l, am_l2i, am_lcmp, am_dup, am_dup2, am_pop1, am_fv, am_getf, am_putf, am_wr, am_ial, am_lal, am_bal, am_aal, am_ias, am_las, am_bas, am_alen, am_inst, am_cast, am_cpm, am_copy, am_tsw, am_pop, am_cat, am_cS, am_cI, am_cV, am_ri, am_rl, am_ra, am_rv, am_b1, am_b2, am_ent, am_en, am_isL, am_st1, am_st2, am_clr, am_cnd, cc_167, ac_167, nL_167, rb_167, np_163, ok_167_163, nL_163, np_160, ok_167_160, nL_160, vd_160_12, np_161, ok_167_161, nL_161, vd_161_12, np_166, ok_167_166, nL_166, vd_166_12, tg_12_2, sh_101, wm_isRow, show ¬ (0 ≤ r ∧ r ≤ 5) by omega]
set_option maxRecDepth 100000 in
theorem wm_lay (n : Nat) (hn : n < 6) (i v : Int) (μ : Nat → Nat → Int) (hs : -1 ≤ μ 105 n ∧ μ 105 n ≤ 60) (Φ : Option AV → ST → Prop) : wpM 167 [.inr (.inr (some 101)), .inl n, .inl i, .inl v] (S μ) Φ ↔ (if μ 105 n < 0 then Φ (some (.inl (-3))) (S (am_up (am_up μ 101 7 1) 108 1 (nz (μ 108 1 + 1)))) else if 0 ≤ i ∧ i < μ 105 n then Φ (some (.inl 1)) (S (am_up (am_up μ 104 (60 * n + i.toNat) v) 101 8 (μ 104 (60 * n + i.toNat)))) else Φ (some (.inl (-3))) (S (am_up (am_up μ 101 7 2) 108 2 (nz (μ 108 2 + 1))))) := by
  have e1 : nzl (μ 105 n - 1) = μ 105 n - 1 := nzl_of (by omega) (by omega)
  have hb : (if μ 105 (n : Int).toNat < 0 then 1 else if 0 ≤ i ∧ i ≤ nzl (μ 105 (n : Int).toNat - 1) then 0 else 2 : Int) = (if μ 105 n < 0 then 1 else if 0 ≤ i ∧ i < μ 105 n then 0 else 2) := by
    rw [Int.toNat_natCast, e1]
    (repeat' split) <;> first | rfl | (exfalso; omega)
  have B := wm_bars n i (by omega) μ
  rw [hb] at B
  by_cases h1 : μ 105 n < 0
  · rw [if_pos h1] at B
    rw [if_pos h1]
    unfold wpM
    rw [s1_iff [] 60]
    simp [sz_s, sz_0, gx_s, hx_r, hx_c, hx_b, hx_s, hx_i, hx_n, kx_s, kx_n, kx_i, cx_d, up_at, am_ctl, am_step, am_i1, am_i2, am_i2d, am_l1, am_l2, am_l2d, am_ldi, am_ldl, am_lda, am_sti, am_sta, am_stl, am_inc, am_i2l, am_l2i, am_lcmp, am_dup, am_dup2, am_pop1, am_fv, am_getf, am_putf, am_wr, am_ial, am_lal, am_bal, am_aal, am_ias, am_las, am_bas, am_alen, am_inst, am_cast, am_cpm, am_copy, am_tsw, am_pop, am_cat, am_cS, am_cI, am_cV, am_ri, am_rl, am_ra, am_rv, am_b1, am_b2, am_ent, am_en, am_isL, am_st1, am_st2, am_clr, am_cnd, cc_167, ac_167, nL_167, rb_167, np_163, ok_167_163, nL_163, np_160, ok_167_160, nL_160, vd_160_12, np_161, ok_167_161, nL_161, vd_161_12, np_166, ok_167_166, nL_166, vd_166_12, tg_12_2, sh_101, wm_isRow, B, show (n : Int) ≤ 5 by omega, wm_met 1 (by decide)]
  · rw [if_neg h1] at B
    rw [if_neg h1]
    by_cases h2 : 0 ≤ i ∧ i < μ 105 n
    · rw [if_pos h2] at B
      rw [if_pos h2]
      have e2 : nz (60 * (n : Int)) = 60 * (n : Int) := nz_of (by omega) (by omega)
      have e3 : nz (60 * (n : Int) + i) = 60 * n + i := nz_of (by omega) (by omega)
      unfold wpM
      rw [s1_iff [] 60]
      simp [sz_s, sz_0, gx_s, hx_r, hx_c, hx_b, hx_s, hx_i, hx_n, kx_s, kx_n, kx_i, cx_d, up_at, am_ctl, am_step, am_i1, am_i2, am_i2d, am_l1, am_l2, am_l2d, am_ldi, am_ldl, am_lda, am_sti, am_sta, am_stl, am_inc, am_i2l, am_l2i, am_lcmp, am_dup, am_dup2, am_pop1, am_fv, am_getf, am_putf, am_wr, am_ial, am_lal, am_bal, am_aal, am_ias, am_las, am_bas, am_alen, am_inst, am_cast, am_cpm, am_copy, am_tsw, am_pop, am_cat, am_cS, am_cI, am_cV, am_ri, am_rl, am_ra, am_rv, am_b1, am_b2, am_ent, am_en, am_isL, am_st1, am_st2, am_clr, am_cnd, cc_167, ac_167, nL_167, rb_167, np_163, ok_167_163, nL_163, np_160, ok_167_160, nL_160, vd_160_12, np_161, ok_167_161, nL_161, vd_161_12, np_166, ok_167_166, nL_166, vd_166_12, tg_12_2, sh_101, sh_104, rf_101_2, wm_isRow, B, show (n : Int) ≤ 5 by omega, wm_tells, e2, e3, show (60 * (n : Int) + i).toNat = 60 * n + i.toNat by omega]
      omega
    · rw [if_neg h2] at B
      rw [if_neg h2]
      unfold wpM
      rw [s1_iff [] 60]
      simp [sz_s, sz_0, gx_s, hx_r, hx_c, hx_b, hx_s, hx_i, hx_n, kx_s, kx_n, kx_i, cx_d, up_at, am_ctl, am_step, am_i1, am_i2, am_i2d, am_l1, am_l2, am_l2d, am_ldi, am_ldl, am_lda, am_sti, am_sta, am_stl, am_inc, am_i2l, am_l2i, am_lcmp, am_dup, am_dup2, am_pop1, am_fv, am_getf, am_putf, am_wr, am_ial, am_lal, am_bal, am_aal, am_ias, am_las, am_bas, am_alen, am_inst, am_cast, am_cpm, am_copy, am_tsw, am_pop, am_cat, am_cS, am_cI, am_cV, am_ri, am_rl, am_ra, am_rv, am_b1, am_b2, am_ent, am_en, am_isL, am_st1, am_st2, am_clr, am_cnd, cc_167, ac_167, nL_167, rb_167, np_163, ok_167_163, nL_163, np_160, ok_167_160, nL_160, vd_160_12, np_161, ok_167_161, nL_161, vd_161_12, np_166, ok_167_166, nL_166, vd_166_12, tg_12_2, sh_101, wm_isRow, B, show (n : Int) ≤ 5 by omega, wm_met 2 (by decide)]
theorem up_comm (μ : Nat → Nat → Int) {a i b j : Nat} (v w : Int) (h : ¬ (a = b ∧ i = j)) : am_up (am_up μ a i v) b j w = am_up (am_up μ b j w) a i v := by
  funext c k
  simp only [up_at]
  by_cases h1 : c = b ∧ k = j
  · rw [if_pos h1, if_neg (by omega), if_pos h1]
  · rw [if_neg h1]
    by_cases h2 : c = a ∧ k = i
    · rw [if_pos h2, if_pos h2]
    · rw [if_neg h2, if_neg h2, if_neg h1]
theorem eq_lay {B : Int} {μ : Nat → Nat → Int} (h : INV B μ) (r i v : Int) (hv : nz v = v) : EQV B μ 80 167 [.inl r, .inl i, .inl v] := by
  unfold EQV
  by_cases hr : 0 ≤ r ∧ r < 6
  · obtain ⟨n, rfl⟩ : ∃ n : Nat, r = n := ⟨r.toNat, by omega⟩
    have hn : n < 6 := by omega
    obtain ⟨b1, b2, b3⟩ := h.2.1 n hn
    have q : ∀ ν : Nat → Nat → Int, ν 105 n = μ 105 n → (-1 ≤ ν 105 n ∧ ν 105 n ≤ 60) := fun ν e => by rw [e]; exact b1
    rw [wp_lay n hn i v μ (by omega), b2]
    by_cases h1 : μ 105 n < 0
    · rw [if_pos (by omega)]
      refine ⟨_, _, rfl, rfl, ?_⟩
      have e : (am_up (am_up μ 0 9 1) 45 1 (nz (μ 45 1 + 1))) 105 n = μ 105 n := by simp [up_at]
      rw [wm_lay n hn i v _ (q _ e), e, if_pos h1]
      exact ⟨rfl, _, rfl, inv_find h 1 (by decide)⟩
    · rw [if_neg (by omega)]
      by_cases h2 : 0 ≤ i ∧ i < μ 105 n
      · rw [if_pos h2]
        refine ⟨_, _, rfl, rfl, ?_⟩
        obtain ⟨j, rfl⟩ : ∃ j : Nat, i = j := ⟨i.toNat, by omega⟩
        rw [Int.toNat_natCast]
        have e : ∀ w, (am_up (am_up μ 0 10 w) (47 + 2 * n) j v) 105 n = μ 105 n := fun w => by
          simp only [up_at]
          rw [if_neg (by omega), if_neg (by omega)]
        rw [wm_lay n hn j v _ (q _ (e _)), e, if_neg h1, if_pos h2, Int.toNat_natCast]
        have e2 := (b3 j (by omega)).1
        refine ⟨rfl, _, rfl, ?_⟩
        have e3 : (am_up (am_up μ 0 10 (μ (47 + 2 * n) j)) (47 + 2 * n) j v) 104 (60 * n + j) = μ (47 + 2 * n) j := by
          simp only [up_at]
          rw [if_neg (by omega), if_neg (by omega), e2]
        rw [e3, up_comm μ (a := 0) (b := 47 + 2 * n) _ _ (by omega), up_comm (am_up μ (47 + 2 * n) j v) (a := 0) (b := 104) _ _ (by omega)]
        exact inv_tell (inv_set h n j hn (by omega) v hv) _
      · rw [if_neg h2]
        refine ⟨_, _, rfl, rfl, ?_⟩
        have e : (am_up (am_up μ 0 9 2) 45 2 (nz (μ 45 2 + 1))) 105 n = μ 105 n := by simp [up_at]
        rw [wm_lay n hn i v _ (q _ e), e, if_neg h1, if_neg h2]
        exact ⟨rfl, _, rfl, inv_find h 2 (by decide)⟩
  · rw [wp_lay_bad r i v hr]
    refine ⟨_, _, rfl, rfl, ?_⟩
    rw [wm_lay_bad r i v hr]
    exact ⟨rfl, _, rfl, h⟩
