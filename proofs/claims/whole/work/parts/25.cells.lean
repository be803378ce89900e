/-! one place of a row, of both sides -/
theorem g_row : ∀ (n : Nat), n < 6 → rf0 1 n = some (46 + 2 * n) ∧ sh0 (46 + 2 * n) = (0, 8, 0) ∧ rf0 (46 + 2 * n) 0 = some (47 + 2 * n) ∧ sh0 (47 + 2 * n) = (1, 60, 0)
  | 0, _ => ⟨rfl, rfl, rfl, rfl⟩ | 1, _ => ⟨rfl, rfl, rfl, rfl⟩ | 2, _ => ⟨rfl, rfl, rfl, rfl⟩ | 3, _ => ⟨rfl, rfl, rfl, rfl⟩ | 4, _ => ⟨rfl, rfl, rfl, rfl⟩ | 5, _ => ⟨rfl, rfl, rfl, rfl⟩
  | n + 6, h => absurd h (by omega)
set_option maxRecDepth 100000 in
theorem wp_at_bad (r i : Int) (h : ¬ (0 ≤ r ∧ r < 6)) (μ : Nat → Nat → Int) (Φ : Option AV → ST → Prop) : wpM 81 [.inr (.inr (some 0)), .inl r, .inl i] (S μ) Φ ↔ Φ (some (.inl (-1))) (S μ) := by
  unfold wpM
  rw [s1_iff [] 60]
  simp [sz_s, sz_0, gx_s, hx_r, hx_c, hx_b, hx_s, hx_i, hx_n, kx_s, kx_n, kx_i, cx_d, up_at, am_ctl, am_step, am_i1, am_i2, am_i2d, am_l1, am_l2, am_l2d, am_ldi, am_ldl, am_lda, am_sti, am_sta, am_stl, am_inc, am_i2l, am_l2i, am_lcmp, am_dup, am_dup2, am_pop1, am_fv, am_getf, am_putf, am_wr, am_ial, am_lal, am_bal, am_aal, am_ias, am_las, am_bas, am_alen, am_inst, am_cast, am_cpm, am_copy, am_tsw, am_pop, am_cat, am_cS, am_cI, am_cV, am_ri, am_rl, am_ra, am_rv, am_b1, am_b2, am_ent, am_en, am_isL, am_st1, am_st2, am_clr, am_cnd, cc_81, ac_81, nL_81, rb_81, np_129, ok_81_129, nL_129, np_56, ok_81_56, nL_56, vd_56_8, np_133, ok_81_133, nL_133, vd_133_11, np_134, ok_81_134, nL_134, vd_134_11, tg_11_0, tg_8_1, tg_8_0, sh_0, sh_1, rf_0_0, wp_within, h]
set_option maxRecDepth 100000 in
theorem wp_at (n : Nat) (hn : n < 6) (i : Int) (μ : Nat → Nat → Int) (hs : μ (46 + 2 * n) 1 ≤ 60) (Φ : Option AV → ST → Prop) : wpM 81 [.inr (.inr (some 0)), .inl n, .inl i] (S μ) Φ ↔ (if μ (46 + 2 * n) 1 = -1 then Φ (some (.inl (-3))) (S (am_up (am_up μ 0 9 1) 45 1 (nz (μ 45 1 + 1)))) else if 0 ≤ i ∧ i < μ (46 + 2 * n) 1 then Φ (some (.inl 1)) (S (am_up μ 0 10 (μ (47 + 2 * n) i.toNat))) else Φ (some (.inl (-3))) (S (am_up (am_up μ 0 9 2) 45 2 (nz (μ 45 2 + 1))))) := by
  obtain ⟨g1, g2, g3, g4⟩ := g_row n hn
  unfold wpM
  rw [s1_iff [] 60]
  simp [sz_s, sz_0, gx_s, hx_r, hx_c, hx_b, hx_s, hx_i, hx_n, kx_s, kx_n, kx_i, cx_d, up_at, am_ctl, am_step, am_i1, am_i2, am_i2d, am_l1, am_l2, am_l2d, am_ldi, am_ldl, am_lda, am_sti, am_sta, am_stl, am_inc, am_i2l, am_l2i, am_lcmp, am_dup, am_dup2, am_pop1, am_fv, am_getf, am_putf, am_wr, am_ial, am_lal, am_bal, am_aal, am_ias, am_las, am_bas, am_alen, am_inst, am_cast, am_cpm, am_copy, am_tsw, am_pop, am_cat, am_cS, am_cI, am_cV, am_ri, am_rl, am_ra, am_rv, am_b1, am_b2, am_ent, am_en, am_isL, am_st1, am_st2, am_clr, am_cnd, cc_81, ac_81, nL_81, rb_81, np_129, ok_81_129, nL_129, np_56, ok_81_56, nL_56, vd_56_8, np_133, ok_81_133, nL_133, vd_133_11, np_134, ok_81_134, nL_134, vd_134_11, tg_11_0, tg_8_1, tg_8_0, sh_0, sh_1, rf_0_0, wp_within, g1, g2, g3, g4, wp_isThere (46 + 2 * n) (by omega) g2, wp_find 1 (by decide), wp_find 2 (by decide), wp_tell, show 46 + 2 * n < 121 by omega, show 47 + 2 * n < 121 by omega, show (n : Int) < 6 by omega]
  (repeat' split) <;> first | rfl | (exfalso; omega) | exact and_iff_right (by omega)
set_option maxRecDepth 100000 in
theorem wm_at_bad (r i : Int) (h : ¬ (0 ≤ r ∧ r < 6)) (μ : Nat → Nat → Int) (Φ : Option AV → ST → Prop) : wpM 168 [.inr (.inr (some 101)), .inl r, .inl i] (S μ) Φ ↔ Φ (some (.inl (-1))) (S μ) := by
  unfold wpM
  rw [s1_iff [] 60]
  simp [sz_s, sz_0, gx_s, hx_r, hx_c, hx_b, hx_s, hx_i, hx_n, kx_s, kx_n, kx_i, cx_d, up_at, am_ctl, am_step, am_i1, am_i2, am_i2d, am_l1, am_l2, am_l2d, am_ldi, am_ldl, am_lda, am_sti, am_sta, am_stl, am_inc, am_i2l, am_l2i, am_lcmp, am_dup, am_dup2, am_pop1, am_fv, am_getf, am_putf, am_wr, am_ial, am_lal, am_bal, am_aal, am_ias, am_las, am_bas, am_alen, am_inst, am_cast, am_cpm, am_copy, am_tsw, am_pop, am_cat, am_cS, am_cI, am_cV, am_ri, am_rl, am_ra, am_rv, am_b1, am_b2, am_ent, am_en, am_isL, am_st1, am_st2, am_clr, am_cnd, cc_168, ac_168, nL_168, rb_168, np_163, ok_168_163, nL_163, np_160, ok_168_160, nL_160, vd_160_12, np_161, ok_168_161, nL_161, vd_161_12, np_166, ok_168_166, nL_166, vd_166_12, tg_12_2, sh_101, wm_isRow, show ¬ (0 ≤ r ∧ r ≤ 5) by omega]
set_option maxRecDepth 100000 in
theorem wm_at (n : Nat) (hn : n < 6) (i : Int) (μ : Nat → Nat → Int) (hs : -1 ≤ μ 105 n ∧ μ 105 n ≤ 60) (Φ : Option AV → ST → Prop) : wpM 168 [.inr (.inr (some 101)), .inl n, .inl i] (S μ) Φ ↔ (if μ 105 n < 0 then Φ (some (.inl (-3))) (S (am_up (am_up μ 101 7 1) 108 1 (nz (μ 108 1 + 1)))) else if 0 ≤ i ∧ i < μ 105 n then Φ (some (.inl 1)) (S (am_up μ 101 8 (μ 104 (60 * n + i.toNat)))) else Φ (some (.inl (-3))) (S (am_up (am_up μ 101 7 2) 108 2 (nz (μ 108 2 + 1))))) := by
  have e1 : nzl (μ 105 n - 1) = μ 105 n - 1 := nzl_of (by omega) (by omega)
  have hb : (if μ 105 (n : Int).toNat < 0 then 1 else if 0 ≤ i ∧ i ≤ nzl (μ 105 (n : Int).toNat - 1) then 0 else 2 : Int) = (if μ 105 n < 0 then 1 else if 0 ≤ i ∧ i < μ 105 n then 0 else 2) := by
    rw [Int.toNat_natCast, e1]
    (repeat' split) <;> first | rfl | (exfalso; omega)
  have B := wm_bars n i (by omega) μ
  rw [hb] at B
  by_cases h1 : μ 105 n < 0
  · rw [if_pos h1] at B
    rw [if_pos h1]
    unfold wpM
    rw [s1_iff [] 60]
    simp [sz_s, sz_0, gx_s, hx_r, hx_c, hx_b, hx_s, hx_i, hx_n, kx_s, kx_n, kx_i, cx_d, up_at, am_ctl, am_step, am_i1, am_i2, am_i2d, am_l1, am_l2, am_l2d, am_ldi, am_ldl, am_lda, am_sti, am_sta, am_stl, am_inc, am_i2l, am_l2i, am_lcmp, am_dup, am_dup2, am_pop1, am_fv, am_getf, am_putf, am_wr, am_ial, am_lal, am_bal, am_aal, am_ias, am_las, am_bas, am_alen, am_inst, am_cast, am_cpm, am_copy, am_tsw, am_pop, am_cat, am_cS, am_cI, am_cV, am_ri, am_rl, am_ra, am_rv, am_b1, am_b2, am_ent, am_en, am_isL, am_st1, am_st2, am_clr, am_cnd, cc_168, ac_168, nL_168, rb_168, np_163, ok_168_163, nL_163, np_160, ok_168_160, nL_160, vd_160_12, np_161, ok_168_161, nL_161, vd_161_12, np_166, ok_168_166, nL_166, vd_166_12, tg_12_2, sh_101, wm_isRow, B, show (n : Int) ≤ 5 by omega, wm_met 1 (by decide)]
  · rw [if_neg h1] at B
    rw [if_neg h1]
    by_cases h2 : 0 ≤ i ∧ i < μ 105 n
    · rw [if_pos h2] at B
      rw [if_pos h2]
      have e2 : nz (60 * (n : Int)) = 60 * (n : Int) := nz_of (by omega) (by omega)
      have e3 : nz (60 * (n : Int) + i) = 60 * n + i := nz_of (by omega) (by omega)
      unfold wpM
      rw [s1_iff [] 60]
      simp [sz_s, sz_0, gx_s, hx_r, hx_c, hx_b, hx_s, hx_i, hx_n, kx_s, kx_n, kx_i, cx_d, up_at, am_ctl, am_step, am_i1, am_i2, am_i2d, am_l1, am_l2, am_l2d, am_ldi, am_ldl, am_lda, am_sti, am_sta, am_stl, am_inc, am_i2l, am_l2i, am_lcmp, am_dup, am_dup2, am_pop1, am_fv, am_getf, am_putf, am_wr, am_ial, am_lal, am_bal, am_aal, am_ias, am_las, am_bas, am_alen, am_inst, am_cast, am_cpm, am_copy, am_tsw, am_pop, am_cat, am_cS, am_cI, am_cV, am_ri, am_rl, am_ra, am_rv, am_b1, am_b2, am_ent, am_en, am_isL, am_st1, am_st2, am_clr, am_cnd, cc_168, ac_168, nL_168, rb_168, np_163, ok_168_163, nL_163, np_160, ok_168_160, nL_160, vd_160_12, np_161, ok_168_161, nL_161, vd_161_12, np_166, ok_168_166, nL_166, vd_166_12, tg_12_2, sh_101, sh_104, rf_101_2, wm_isRow, B, show (n : Int) ≤ 5 by omega, wm_tells, e2, e3, show (60 * (n : Int) + i).toNat = 60 * n + i.toNat by omega]
      omega
    · rw [if_neg h2] at B
      rw [if_neg h2]
      unfold wpM
      rw [s1_iff [] 60]
      simp [sz_s, sz_0, gx_s, hx_r, hx_c, hx_b, hx_s, hx_i, hx_n, kx_s, kx_n, kx_i, cx_d, up_at, am_ctl, am_step, am_i1, am_i2, am_i2d, am_l1, am_l2, am_l2d, am_ldi, am_ldl, am_lda, am_sti, am_sta, am_stl, am_inc, am_i2l, am_l2i, am_lcmp, am_dup, am_dup2, am_pop1, am_fv, am_getf, am_putf, am_wr, am_ial, am_lal, am_bal, am_aal, am_ias, am_las, am_bas, am_alen, am_inst, am_cast, am_cpm, am_copy, am_tsw, am_pop, am_cat, am_cS, am_cI, am_cV, am_ri, am_rl, am_ra, am_rv, am_b1, am_b2, am_ent, am_en, am_isL, am_st1, am_st2, am_clr, am_cnd, cc_168, ac_168, nL_168, rb_168, np_163, ok_168_163, nL_163, np_160, ok_168_160, nL_160, vd_160_12, np_161, ok_168_161, nL_161, vd_161_12, np_166, ok_168_166, nL_166, vd_166_12, tg_12_2, sh_101, wm_isRow, B, show (n : Int) ≤ 5 by omega, wm_met 2 (by decide)]
theorem eq_at {B : Int} {μ : Nat → Nat → Int} (h : INV B μ) (r i : Int) : EQV B μ 81 168 [.inl r, .inl i] := by
  unfold EQV
  by_cases hr : 0 ≤ r ∧ r < 6
  · obtain ⟨n, rfl⟩ : ∃ n : Nat, r = n := ⟨r.toNat, by omega⟩
    have hn : n < 6 := by omega
    obtain ⟨b1, b2, b3⟩ := h.2.1 n hn
    have q : ∀ ν : Nat → Nat → Int, ν 105 n = μ 105 n → (-1 ≤ ν 105 n ∧ ν 105 n ≤ 60) := fun ν e => by rw [e]; exact b1
    rw [wp_at n hn i μ (by omega), b2]
    by_cases h1 : μ 105 n < 0
    · rw [if_pos (by omega)]
      refine ⟨_, _, rfl, rfl, ?_⟩
      have e : (am_up (am_up μ 0 9 1) 45 1 (nz (μ 45 1 + 1))) 105 n = μ 105 n := by simp [up_at]
      rw [wm_at n hn i _ (q _ e), e, if_pos h1]
      exact ⟨rfl, _, rfl, inv_find h 1 (by decide)⟩
    · rw [if_neg (by omega)]
      by_cases h2 : 0 ≤ i ∧ i < μ 105 n
      · rw [if_pos h2]
        refine ⟨_, _, rfl, rfl, ?_⟩
        have e : ∀ v, (am_up μ 0 10 v) 105 n = μ 105 n := fun v => by simp [up_at]
        rw [wm_at n hn i _ (q _ (e _)), e, if_neg h1, if_pos h2]
        have e2 := (b3 i.toNat (by omega)).1
        refine ⟨rfl, _, rfl, ?_⟩
        rw [show (am_up μ 0 10 (μ (47 + 2 * n) i.toNat)) 104 (60 * n + i.toNat) = μ (47 + 2 * n) i.toNat by simp [up_at, e2]]
        exact inv_tell h _
      · rw [if_neg h2]
        refine ⟨_, _, rfl, rfl, ?_⟩
        have e : (am_up (am_up μ 0 9 2) 45 2 (nz (μ 45 2 + 1))) 105 n = μ 105 n := by simp [up_at]
        rw [wm_at n hn i _ (q _ e), e, if_neg h1, if_neg h2]
        exact ⟨rfl, _, rfl, inv_find h 2 (by decide)⟩
  · rw [wp_at_bad r i hr]
    refine ⟨_, _, rfl, rfl, ?_⟩
    rw [wm_at_bad r i hr]
    exact ⟨rfl, _, rfl, h⟩
