/-! simple loops -/
def fl (μ : Nat → Nat → Int) (k n : Nat) (v : Int) : Nat → Nat → Int := am_row μ k (fun i => if i < n then v else μ k i)
theorem fl_at (μ : Nat → Nat → Int) (k n : Nat) (v : Int) (b j : Nat) : fl μ k n v b j = if b = k ∧ j < n then v else μ b j := by
  unfold fl am_row
  by_cases h : b = k
  · subst h; simp
  · simp [h]
set_option maxRecDepth 100000 in
theorem fill_loop (k n : Nat) (v : Int) (hk : k < 121) (hs : sh0 k = (1, n, 0)) (hn : n < 1000) (Φ : Option AV → ST → Prop) : ∀ (d j : Nat) (μ : Nat → Nat → Int), j + d = n → (wpS 249 5 [some (.inr (.inr (some k))), some (.inl v), some (.inl j), some (.inl n)] [] (S μ) Φ ↔ Φ none (S (am_row μ k (fun i => if j ≤ i ∧ i < n then v else μ k i)))) := by
  intro d
  induction d with
  | zero =>
    intro j μ h
    rw [s1_iff [5] 60]
    simp [sz_s, sz_0, gx_s, hx_r, hx_c, hx_b, hx_s, hx_i, hx_n, kx_s, kx_n, kx_i, cx_d, up_at, am_ctl, am_step, am_i1, am_i2, am_i2d, am_l1, am_l2, am_l2d, am_ldi, am_ldl, am_lda, am_sti, am_sta, am_stl, am_inc, am_i2l, am_l2i, am_lcmp, am_dup, am_dup2, am_pop1, am_fv, am_getf, am_putf, am_wr, am_ial, am_lal, am_bal, am_aal, am_ias, am_las, am_bas, am_alen, am_inst, am_cast, am_cpm, am_copy, am_tsw, am_pop, am_cat, am_cS, am_cI, am_cV, am_ri, am_rl, am_ra, am_rv, am_b1, am_b2, am_ent, am_en, am_isL, am_st1, am_st2, am_clr, am_cnd, cc_249, ac_249, nL_249, rb_249, hs, hk]
    rw [if_pos (by omega)]
    have e : am_row μ k (fun i => if j ≤ i ∧ i < n then v else μ k i) = μ := by
      funext b i
      unfold am_row
      by_cases hb : b = k
      · subst hb; rw [if_pos rfl]; dsimp only; rw [if_neg (by omega)]
      · rw [if_neg hb]
    rw [e]
  | succ d ih =>
    intro j μ h
    rw [s1_iff [5] 60]
    simp [sz_s, sz_0, gx_s, hx_r, hx_c, hx_b, hx_s, hx_i, hx_n, kx_s, kx_n, kx_i, cx_d, up_at, am_ctl, am_step, am_i1, am_i2, am_i2d, am_l1, am_l2, am_l2d, am_ldi, am_ldl, am_lda, am_sti, am_sta, am_stl, am_inc, am_i2l, am_l2i, am_lcmp, am_dup, am_dup2, am_pop1, am_fv, am_getf, am_putf, am_wr, am_ial, am_lal, am_bal, am_aal, am_ias, am_las, am_bas, am_alen, am_inst, am_cast, am_cpm, am_copy, am_tsw, am_pop, am_cat, am_cS, am_cI, am_cV, am_ri, am_rl, am_ra, am_rv, am_b1, am_b2, am_ent, am_en, am_isL, am_st1, am_st2, am_clr, am_cnd, cc_249, ac_249, nL_249, rb_249, hs, hk]
    rw [if_neg (by omega)]
    have e1 : nz ((j : Int) + 1) = ((j + 1 : Nat) : Int) := by rw [nz_of (by omega) (by omega)]; omega
    rw [e1]
    have := ih (j + 1) (am_up μ k j v) (by omega)
    simp only [this]
    have e : am_row (am_up μ k j v) k (fun i => if j + 1 ≤ i ∧ i < n then v else am_up μ k j v k i) = am_row μ k (fun i => if j ≤ i ∧ i < n then v else μ k i) := by
      funext b i
      unfold am_row am_up
      by_cases hb : b = k
      · subst hb
        simp only [if_true, true_and]
        by_cases h1 : i = j
        · subst h1
          rw [if_neg (by omega), if_pos rfl, if_pos (by omega)]
        · by_cases h2 : j + 1 ≤ i ∧ i < n
          · rw [if_pos h2, if_pos (by omega)]
          · rw [if_neg h2, if_neg h1, if_neg (by omega)]
      · simp [hb]
    rw [e]
    exact and_iff_right (by omega)
theorem wp_fill (k n : Nat) (v : Int) (hk : k < 121) (hs : sh0 k = (1, n, 0)) (hn : n < 1000) (μ : Nat → Nat → Int) (Φ : Option AV → ST → Prop) : wpM 249 [.inr (.inr (some k)), .inl v] (S μ) Φ ↔ Φ none (S (fl μ k n v)) := by
  unfold wpM
  rw [s1_iff [5] 20]
  simp [sz_s, sz_0, gx_s, hx_r, hx_c, hx_b, hx_s, hx_i, hx_n, kx_s, kx_n, kx_i, cx_d, up_at, am_ctl, am_step, am_i1, am_i2, am_i2d, am_l1, am_l2, am_l2d, am_ldi, am_ldl, am_lda, am_sti, am_sta, am_stl, am_inc, am_i2l, am_l2i, am_lcmp, am_dup, am_dup2, am_pop1, am_fv, am_getf, am_putf, am_wr, am_ial, am_lal, am_bal, am_aal, am_ias, am_las, am_bas, am_alen, am_inst, am_cast, am_cpm, am_copy, am_tsw, am_pop, am_cat, am_cS, am_cI, am_cV, am_ri, am_rl, am_ra, am_rv, am_b1, am_b2, am_ent, am_en, am_isL, am_st1, am_st2, am_clr, am_cnd, cc_249, ac_249, nL_249, rb_249, hs, hk, show n < 100000 by omega]
  have := fill_loop k n v hk hs hn Φ n 0 μ (by omega)
  simp only [Nat.zero_le, true_and] at this
  exact this
set_option maxRecDepth 100000 in
theorem wp_begin (k n : Nat) (a v : Int) (hk : k + 1 < 121) (hs : sh0 k = (0, 8, 0)) (hr : rf0 k 0 = some (k + 1)) (hv : sh0 (k + 1) = (1, n, 0)) (hn : n < 1000) (μ : Nat → Nat → Int) (Φ : Option AV → ST → Prop) : wpM 57 [.inr (.inr (some k)), .inl a, .inl v] (S μ) Φ ↔ Φ none (S (fl (am_up μ k 1 a) (k + 1) n v)) := by
  unfold wpM
  rw [s1_iff [] 40]
  simp [sz_s, sz_0, gx_s, hx_r, hx_c, hx_b, hx_s, hx_i, hx_n, kx_s, kx_n, kx_i, cx_d, up_at, am_ctl, am_step, am_i1, am_i2, am_i2d, am_l1, am_l2, am_l2d, am_ldi, am_ldl, am_lda, am_sti, am_sta, am_stl, am_inc, am_i2l, am_l2i, am_lcmp, am_dup, am_dup2, am_pop1, am_fv, am_getf, am_putf, am_wr, am_ial, am_lal, am_bal, am_aal, am_ias, am_las, am_bas, am_alen, am_inst, am_cast, am_cpm, am_copy, am_tsw, am_pop, am_cat, am_cS, am_cI, am_cV, am_ri, am_rl, am_ra, am_rv, am_b1, am_b2, am_ent, am_en, am_isL, am_st1, am_st2, am_clr, am_cnd, cc_57, ac_57, nL_57, rb_57, np_249, ok_57_249, nL_249, tg_8_0, hs, hr, show k < 121 by omega, wp_fill (k + 1) n v hk hv hn]
set_option maxRecDepth 100000 in
theorem wp_layOut (k n : Nat) (a v : Int) (hk : k + 1 < 121) (hs : sh0 k = (0, 8, 0)) (hr : rf0 k 0 = some (k + 1)) (hv : sh0 (k + 1) = (1, n, 0)) (hn : n < 1000) (μ : Nat → Nat → Int) (Φ : Option AV → ST → Prop) : wpM 137 [.inr (.inr (some 0)), .inr (.inr (some k)), .inl a, .inl v] (S μ) Φ ↔ (if (n : Int) < a then Φ (some (.inl (-1))) (S μ) else if a < 0 then Φ (some (.inl (-3))) (S (am_up (am_up μ 0 9 5) 45 5 (nz (μ 45 5 + 1)))) else Φ (some (.inl a)) (S (fl (am_up μ k 1 a) (k + 1) n v))) := by
  unfold wpM
  rw [s1_iff [] 40]
  simp [sz_s, sz_0, gx_s, hx_r, hx_c, hx_b, hx_s, hx_i, hx_n, kx_s, kx_n, kx_i, cx_d, up_at, am_ctl, am_step, am_i1, am_i2, am_i2d, am_l1, am_l2, am_l2d, am_ldi, am_ldl, am_lda, am_sti, am_sta, am_stl, am_inc, am_i2l, am_l2i, am_lcmp, am_dup, am_dup2, am_pop1, am_fv, am_getf, am_putf, am_wr, am_ial, am_lal, am_bal, am_aal, am_ias, am_las, am_bas, am_alen, am_inst, am_cast, am_cpm, am_copy, am_tsw, am_pop, am_cat, am_cS, am_cI, am_cV, am_ri, am_rl, am_ra, am_rv, am_b1, am_b2, am_ent, am_en, am_isL, am_st1, am_st2, am_clr, am_cnd, cc_137, ac_137, nL_137, rb_137, np_57, ok_137_57, nL_57, vd_57_8, np_133, ok_137_133, nL_133, vd_133_11, tg_8_0, hs, hr, hv, sh_0, show k < 121 by omega, hk, wp_begin k n _ v hk hs hr hv hn, wp_find 5 (by decide), show n < 100000 by omega]
  (repeat' split) <;> first | rfl | (exfalso; omega)
set_option maxRecDepth 100000 in
theorem wp_row (r a : Int) (μ : Nat → Nat → Int) (Φ : Option AV → ST → Prop) : wpM 79 [.inr (.inr (some 0)), .inl r, .inl a] (S μ) Φ ↔ (if 0 ≤ r ∧ r < 6 then (if 60 < a then Φ (some (.inl (-1))) (S μ) else if a < 0 then Φ (some (.inl (-3))) (S (am_up (am_up μ 0 9 5) 45 5 (nz (μ 45 5 + 1)))) else Φ (some (.inl a)) (S (fl (am_up μ (46 + 2 * r.toNat) 1 a) (47 + 2 * r.toNat) 60 0))) else Φ (some (.inl (-1))) (S μ)) := by
  unfold wpM
  rw [s1_iff [] 40]
  simp [sz_s, sz_0, gx_s, hx_r, hx_c, hx_b, hx_s, hx_i, hx_n, kx_s, kx_n, kx_i, cx_d, up_at, am_ctl, am_step, am_i1, am_i2, am_i2d, am_l1, am_l2, am_l2d, am_ldi, am_ldl, am_lda, am_sti, am_sta, am_stl, am_inc, am_i2l, am_l2i, am_lcmp, am_dup, am_dup2, am_pop1, am_fv, am_getf, am_putf, am_wr, am_ial, am_lal, am_bal, am_aal, am_ias, am_las, am_bas, am_alen, am_inst, am_cast, am_cpm, am_copy, am_tsw, am_pop, am_cat, am_cS, am_cI, am_cV, am_ri, am_rl, am_ra, am_rv, am_b1, am_b2, am_ent, am_en, am_isL, am_st1, am_st2, am_clr, am_cnd, cc_79, ac_79, nL_79, rb_79, np_129, ok_79_129, nL_129, np_137, ok_79_137, nL_137, vd_137_11, tg_11_0, sh_0, sh_1, rf_0_0, wp_within]
  by_cases hr : 0 ≤ r ∧ r < 6
  · have : r = 0 ∨ r = 1 ∨ r = 2 ∨ r = 3 ∨ r = 4 ∨ r = 5 := by omega
    rcases this with rfl | rfl | rfl | rfl | rfl | rfl
    · simp [sz_s, sz_0, gx_s, hx_r, hx_c, hx_b, hx_s, hx_i, hx_n, kx_s, kx_n, kx_i, cx_d, up_at, am_ctl, am_step, am_i1, am_i2, am_i2d, am_l1, am_l2, am_l2d, am_ldi, am_ldl, am_lda, am_sti, am_sta, am_stl, am_inc, am_i2l, am_l2i, am_lcmp, am_dup, am_dup2, am_pop1, am_fv, am_getf, am_putf, am_wr, am_ial, am_lal, am_bal, am_aal, am_ias, am_las, am_bas, am_alen, am_inst, am_cast, am_cpm, am_copy, am_tsw, am_pop, am_cat, am_cS, am_cI, am_cV, am_ri, am_rl, am_ra, am_rv, am_b1, am_b2, am_ent, am_en, am_isL, am_st1, am_st2, am_clr, am_cnd, cc_79, ac_79, nL_79, rb_79, np_129, ok_79_129, nL_129, np_137, ok_79_137, nL_137, vd_137_11, tg_11_0, rf_1_0, wp_layOut 46 60 _ _ (by decide) sh_46 rf_46_0 sh_47 (by decide)]
    · simp [sz_s, sz_0, gx_s, hx_r, hx_c, hx_b, hx_s, hx_i, hx_n, kx_s, kx_n, kx_i, cx_d, up_at, am_ctl, am_step, am_i1, am_i2, am_i2d, am_l1, am_l2, am_l2d, am_ldi, am_ldl, am_lda, am_sti, am_sta, am_stl, am_inc, am_i2l, am_l2i, am_lcmp, am_dup, am_dup2, am_pop1, am_fv, am_getf, am_putf, am_wr, am_ial, am_lal, am_bal, am_aal, am_ias, am_las, am_bas, am_alen, am_inst, am_cast, am_cpm, am_copy, am_tsw, am_pop, am_cat, am_cS, am_cI, am_cV, am_ri, am_rl, am_ra, am_rv, am_b1, am_b2, am_ent, am_en, am_isL, am_st1, am_st2, am_clr, am_cnd, cc_79, ac_79, nL_79, rb_79, np_129, ok_79_129, nL_129, np_137, ok_79_137, nL_137, vd_137_11, tg_11_0, rf_1_1, wp_layOut 48 60 _ _ (by decide) sh_48 rf_48_0 sh_49 (by decide)]
    · simp [sz_s, sz_0, gx_s, hx_r, hx_c, hx_b, hx_s, hx_i, hx_n, kx_s, kx_n, kx_i, cx_d, up_at, am_ctl, am_step, am_i1, am_i2, am_i2d, am_l1, am_l2, am_l2d, am_ldi, am_ldl, am_lda, am_sti, am_sta, am_stl, am_inc, am_i2l, am_l2i, am_lcmp, am_dup, am_dup2, am_pop1, am_fv, am_getf, am_putf, am_wr, am_ial, am_lal, am_bal, am_aal, am_ias, am_las, am_bas, am_alen, am_inst, am_cast, am_cpm, am_copy, am_tsw, am_pop, am_cat, am_cS, am_cI, am_cV, am_ri, am_rl, am_ra, am_rv, am_b1, am_b2, am_ent, am_en, am_isL, am_st1, am_st2, am_clr, am_cnd, cc_79, ac_79, nL_79, rb_79, np_129, ok_79_129, nL_129, np_137, ok_79_137, nL_137, vd_137_11, tg_11_0, rf_1_2, wp_layOut 50 60 _ _ (by decide) sh_50 rf_50_0 sh_51 (by decide)]
    · simp [sz_s, sz_0, gx_s, hx_r, hx_c, hx_b, hx_s, hx_i, hx_n, kx_s, kx_n, kx_i, cx_d, up_at, am_ctl, am_step, am_i1, am_i2, am_i2d, am_l1, am_l2, am_l2d, am_ldi, am_ldl, am_lda, am_sti, am_sta, am_stl, am_inc, am_i2l, am_l2i, am_lcmp, am_dup, am_dup2, am_pop1, am_fv, am_getf, am_putf, am_wr, am_ial, am_lal, am_bal, am_aal, am_ias, am_las, am_bas, am_alen, am_inst, am_cast, am_cpm, am_copy, am_tsw, am_pop, am_cat, am_cS, am_cI, am_cV, am_ri, am_rl, am_ra, am_rv, am_b1, am_b2, am_ent, am_en, am_isL, am_st1, am_st2, am_clr, am_cnd, cc_79, ac_79, nL_79, rb_79, np_129, ok_79_129, nL_129, np_137, ok_79_137, nL_137, vd_137_11, tg_11_0, rf_1_3, wp_layOut 52 60 _ _ (by decide) sh_52 rf_52_0 sh_53 (by decide)]
    · simp [sz_s, sz_0, gx_s, hx_r, hx_c, hx_b, hx_s, hx_i, hx_n, kx_s, kx_n, kx_i, cx_d, up_at, am_ctl, am_step, am_i1, am_i2, am_i2d, am_l1, am_l2, am_l2d, am_ldi, am_ldl, am_lda, am_sti, am_sta, am_stl, am_inc, am_i2l, am_l2i, am_lcmp, am_dup, am_dup2, am_pop1, am_fv, am_getf, am_putf, am_wr, am_ial, am_lal, am_bal, am_aal, am_ias, am_las, am_bas, am_alen, am_inst, am_cast, am_cpm, am_copy, am_tsw, am_pop, am_cat, am_cS, am_cI, am_cV, am_ri, am_rl, am_ra, am_rv, am_b1, am_b2, am_ent, am_en, am_isL, am_st1, am_st2, am_clr, am_cnd, cc_79, ac_79, nL_79, rb_79, np_129, ok_79_129, nL_129, np_137, ok_79_137, nL_137, vd_137_11, tg_11_0, rf_1_4, wp_layOut 54 60 _ _ (by decide) sh_54 rf_54_0 sh_55 (by decide)]
    · simp [sz_s, sz_0, gx_s, hx_r, hx_c, hx_b, hx_s, hx_i, hx_n, kx_s, kx_n, kx_i, cx_d, up_at, am_ctl, am_step, am_i1, am_i2, am_i2d, am_l1, am_l2, am_l2d, am_ldi, am_ldl, am_lda, am_sti, am_sta, am_stl, am_inc, am_i2l, am_l2i, am_lcmp, am_dup, am_dup2, am_pop1, am_fv, am_getf, am_putf, am_wr, am_ial, am_lal, am_bal, am_aal, am_ias, am_las, am_bas, am_alen, am_inst, am_cast, am_cpm, am_copy, am_tsw, am_pop, am_cat, am_cS, am_cI, am_cV, am_ri, am_rl, am_ra, am_rv, am_b1, am_b2, am_ent, am_en, am_isL, am_st1, am_st2, am_clr, am_cnd, cc_79, ac_79, nL_79, rb_79, np_129, ok_79_129, nL_129, np_137, ok_79_137, nL_137, vd_137_11, tg_11_0, rf_1_5, wp_layOut 56 60 _ _ (by decide) sh_56 rf_56_0 sh_57 (by decide)]
  · simp [hr]
/-- a row of the model's: so many places from o on set to v -/
def fr (μ : Nat → Nat → Int) (k o n : Nat) (v : Int) : Nat → Nat → Int := am_row μ k (fun i => if o ≤ i ∧ i < o + n then v else μ k i)
theorem fr_at (μ : Nat → Nat → Int) (k o n : Nat) (v : Int) (b j : Nat) : fr μ k o n v b j = if b = k ∧ o ≤ j ∧ j < o + n then v else μ b j := by
  unfold fr am_row
  by_cases h : b = k
  · subst h; simp
  · simp [h]
theorem fr_0 (μ : Nat → Nat → Int) (k o : Nat) (v : Int) : fr μ k o 0 v = μ := by
  funext b j
  rw [fr_at, if_neg (by omega)]
theorem fr_s (μ : Nat → Nat → Int) (k o n : Nat) (v : Int) : am_up (fr μ k o n v) k (o + n) v = fr μ k o (n + 1) v := by
  funext b j
  rw [up_at, fr_at, fr_at]
  by_cases h : b = k
  · subst h
    by_cases h1 : j = o + n
    · rw [if_pos ⟨rfl, h1⟩, if_pos (by omega)]
    · rw [if_neg (by omega)]
      by_cases h2 : o ≤ j ∧ j < o + n
      · rw [if_pos ⟨rfl, h2⟩, if_pos (by omega)]
      · rw [if_neg (by omega), if_neg (by omega)]
  · rw [if_neg (fun q => h q.1), if_neg (fun q => h q.1), if_neg (fun q => h q.1)]
set_option maxRecDepth 100000 in
theorem wm_row_loop (r n : Nat) (hr : r < 6) (hn : n ≤ 60) (Φ : Option AV → ST → Prop) (μ : Nat → Nat → Int) : ∀ (d j : Nat), j + d = n → (wpS 165 34 [some (.inr (.inr (some 101))), some (.inl r), some (.inl n), some (.inl j)] [] (S (fr μ 104 (60 * r) j 0)) Φ ↔ Φ (some (.inl n)) (S (fr μ 104 (60 * r) n 0))) := by
  intro d
  induction d with
  | zero =>
    intro j h
    obtain rfl : j = n := by omega
    rw [s1_iff [34] 60]
    simp [sz_s, sz_0, gx_s, hx_r, hx_c, hx_b, hx_s, hx_i, hx_n, kx_s, kx_n, kx_i, cx_d, up_at, am_ctl, am_step, am_i1, am_i2, am_i2d, am_l1, am_l2, am_l2d, am_ldi, am_ldl, am_lda, am_sti, am_sta, am_stl, am_inc, am_i2l, am_l2i, am_lcmp, am_dup, am_dup2, am_pop1, am_fv, am_getf, am_putf, am_wr, am_ial, am_lal, am_bal, am_aal, am_ias, am_las, am_bas, am_alen, am_inst, am_cast, am_cpm, am_copy, am_tsw, am_pop, am_cat, am_cS, am_cI, am_cV, am_ri, am_rl, am_ra, am_rv, am_b1, am_b2, am_ent, am_en, am_isL, am_st1, am_st2, am_clr, am_cnd, cc_165, ac_165, nL_165, rb_165, np_163, ok_165_163, nL_163, np_160, ok_165_160, nL_160, vd_160_12, tg_12_3, tg_12_2]
  | succ d ih =>
    intro j h
    rw [s1_iff [34] 60]
    have e1 : nz ((j : Int) + 1) = ((j + 1 : Nat) : Int) := by rw [nz_of (by omega) (by omega)]; omega
    have e2 : nz (60 * (r : Int)) = 60 * (r : Int) := nz_of (by omega) (by omega)
    have e3 : nz (60 * (r : Int) + j) = ((60 * r + j : Nat) : Int) := by rw [nz_of (by omega) (by omega)]; omega
    simp [sz_s, sz_0, gx_s, hx_r, hx_c, hx_b, hx_s, hx_i, hx_n, kx_s, kx_n, kx_i, cx_d, up_at, am_ctl, am_step, am_i1, am_i2, am_i2d, am_l1, am_l2, am_l2d, am_ldi, am_ldl, am_lda, am_sti, am_sta, am_stl, am_inc, am_i2l, am_l2i, am_lcmp, am_dup, am_dup2, am_pop1, am_fv, am_getf, am_putf, am_wr, am_ial, am_lal, am_bal, am_aal, am_ias, am_las, am_bas, am_alen, am_inst, am_cast, am_cpm, am_copy, am_tsw, am_pop, am_cat, am_cS, am_cI, am_cV, am_ri, am_rl, am_ra, am_rv, am_b1, am_b2, am_ent, am_en, am_isL, am_st1, am_st2, am_clr, am_cnd, cc_165, ac_165, nL_165, rb_165, np_163, ok_165_163, nL_163, np_160, ok_165_160, nL_160, vd_160_12, tg_12_3, tg_12_2, sh_101, sh_104, rf_101_2, e1, e2, e3]
    rw [if_neg (by omega), show (60 * (r : Int) + j).toNat = 60 * r + j by omega, fr_s, show ((j : Int) + 1) = ((j + 1 : Nat) : Int) by omega]
    exact (and_iff_right (by omega)).trans (ih (j + 1) (by omega))
set_option maxRecDepth 100000 in
theorem wm_text_loop (r n : Nat) (hr : r < 4) (hn : n ≤ 80) (Φ : Option AV → ST → Prop) (μ : Nat → Nat → Int) : ∀ (d j : Nat), j + d = n → (wpS 172 34 [some (.inr (.inr (some 101))), some (.inl r), some (.inl n), some (.inl j)] [] (S (fr μ 106 (80 * r) j 32)) Φ ↔ Φ (some (.inl n)) (S (fr μ 106 (80 * r) n 32))) := by
  intro d
  induction d with
  | zero =>
    intro j h
    obtain rfl : j = n := by omega
    rw [s1_iff [34] 60]
    simp [sz_s, sz_0, gx_s, hx_r, hx_c, hx_b, hx_s, hx_i, hx_n, kx_s, kx_n, kx_i, cx_d, up_at, am_ctl, am_step, am_i1, am_i2, am_i2d, am_l1, am_l2, am_l2d, am_ldi, am_ldl, am_lda, am_sti, am_sta, am_stl, am_inc, am_i2l, am_l2i, am_lcmp, am_dup, am_dup2, am_pop1, am_fv, am_getf, am_putf, am_wr, am_ial, am_lal, am_bal, am_aal, am_ias, am_las, am_bas, am_alen, am_inst, am_cast, am_cpm, am_copy, am_tsw, am_pop, am_cat, am_cS, am_cI, am_cV, am_ri, am_rl, am_ra, am_rv, am_b1, am_b2, am_ent, am_en, am_isL, am_st1, am_st2, am_clr, am_cnd, cc_172, ac_172, nL_172, rb_172, np_164, ok_172_164, nL_164, np_160, ok_172_160, nL_160, vd_160_12, tg_12_5, tg_12_4]
  | succ d ih =>
    intro j h
    rw [s1_iff [34] 60]
    have e1 : nz ((j : Int) + 1) = ((j + 1 : Nat) : Int) := by rw [nz_of (by omega) (by omega)]; omega
    have e2 : nz (80 * (r : Int)) = 80 * (r : Int) := nz_of (by omega) (by omega)
    have e3 : nz (80 * (r : Int) + j) = ((80 * r + j : Nat) : Int) := by rw [nz_of (by omega) (by omega)]; omega
    simp [sz_s, sz_0, gx_s, hx_r, hx_c, hx_b, hx_s, hx_i, hx_n, kx_s, kx_n, kx_i, cx_d, up_at, am_ctl, am_step, am_i1, am_i2, am_i2d, am_l1, am_l2, am_l2d, am_ldi, am_ldl, am_lda, am_sti, am_sta, am_stl, am_inc, am_i2l, am_l2i, am_lcmp, am_dup, am_dup2, am_pop1, am_fv, am_getf, am_putf, am_wr, am_ial, am_lal, am_bal, am_aal, am_ias, am_las, am_bas, am_alen, am_inst, am_cast, am_cpm, am_copy, am_tsw, am_pop, am_cat, am_cS, am_cI, am_cV, am_ri, am_rl, am_ra, am_rv, am_b1, am_b2, am_ent, am_en, am_isL, am_st1, am_st2, am_clr, am_cnd, cc_172, ac_172, nL_172, rb_172, np_164, ok_172_164, nL_164, np_160, ok_172_160, nL_160, vd_160_12, tg_12_5, tg_12_4, sh_101, sh_106, rf_101_4, e1, e2, e3]
    rw [if_neg (by omega), show (80 * (r : Int) + j).toNat = 80 * r + j by omega, fr_s, show ((j : Int) + 1) = ((j + 1 : Nat) : Int) by omega]
    exact (and_iff_right (by omega)).trans (ih (j + 1) (by omega))
set_option maxRecDepth 100000 in
theorem wm_row (r a : Int) (μ : Nat → Nat → Int) (Φ : Option AV → ST → Prop) : wpM 165 [.inr (.inr (some 101)), .inl r, .inl a] (S μ) Φ ↔ (if 0 ≤ r ∧ r < 6 then (if 60 < a then Φ (some (.inl (-1))) (S μ) else if a < 0 then Φ (some (.inl (-3))) (S (am_up (am_up μ 101 7 5) 108 5 (nz (μ 108 5 + 1)))) else Φ (some (.inl a)) (S (fr (am_up μ 105 r.toNat a) 104 (60 * r.toNat) a.toNat 0))) else Φ (some (.inl (-1))) (S μ)) := by
  unfold wpM
  rw [s1_iff [34] 60]
  simp [sz_s, sz_0, gx_s, hx_r, hx_c, hx_b, hx_s, hx_i, hx_n, kx_s, kx_n, kx_i, cx_d, up_at, am_ctl, am_step, am_i1, am_i2, am_i2d, am_l1, am_l2, am_l2d, am_ldi, am_ldl, am_lda, am_sti, am_sta, am_stl, am_inc, am_i2l, am_l2i, am_lcmp, am_dup, am_dup2, am_pop1, am_fv, am_getf, am_putf, am_wr, am_ial, am_lal, am_bal, am_aal, am_ias, am_las, am_bas, am_alen, am_inst, am_cast, am_cpm, am_copy, am_tsw, am_pop, am_cat, am_cS, am_cI, am_cV, am_ri, am_rl, am_ra, am_rv, am_b1, am_b2, am_ent, am_en, am_isL, am_st1, am_st2, am_clr, am_cnd, cc_165, ac_165, nL_165, rb_165, np_163, ok_165_163, nL_163, np_160, ok_165_160, nL_160, vd_160_12, tg_12_3, tg_12_2, sh_101, sh_105, rf_101_3, wm_isRow, wm_met 5 (by decide)]
  have K : 0 ≤ r ∧ r < 6 → ¬ 60 < a → ¬ a < 0 → (wpS 165 34 [some (.inr (.inr (some 101))), some (.inl r), some (.inl a), some (.inl 0)] [] (S (am_up μ 105 r.toNat a)) Φ ↔ Φ (some (.inl a)) (S (fr (am_up μ 105 r.toNat a) 104 (60 * r.toNat) a.toNat 0))) := fun h1 h2 h3 => by
    have := wm_row_loop r.toNat a.toNat (by omega) (by omega) Φ (am_up μ 105 r.toNat a) a.toNat 0 (by omega)
    rw [fr_0, show ((r.toNat : Nat) : Int) = r by omega, show ((a.toNat : Nat) : Int) = a by omega] at this
    exact this
  (repeat' split) <;> first | rfl | (exfalso; omega) | exact (and_iff_right (by omega)).trans (K (by omega) (by omega) (by omega)) | exact K (by omega) (by omega) (by omega)
set_option maxRecDepth 100000 in
theorem wm_text (r a : Int) (μ : Nat → Nat → Int) (Φ : Option AV → ST → Prop) : wpM 172 [.inr (.inr (some 101)), .inl r, .inl a] (S μ) Φ ↔ (if 0 ≤ r ∧ r < 4 then (if 80 < a then Φ (some (.inl (-1))) (S μ) else if a < 0 then Φ (some (.inl (-3))) (S (am_up (am_up μ 101 7 5) 108 5 (nz (μ 108 5 + 1)))) else Φ (some (.inl a)) (S (fr (am_up μ 107 r.toNat a) 106 (80 * r.toNat) a.toNat 32))) else Φ (some (.inl (-1))) (S μ)) := by
  unfold wpM
  rw [s1_iff [34] 60]
  simp [sz_s, sz_0, gx_s, hx_r, hx_c, hx_b, hx_s, hx_i, hx_n, kx_s, kx_n, kx_i, cx_d, up_at, am_ctl, am_step, am_i1, am_i2, am_i2d, am_l1, am_l2, am_l2d, am_ldi, am_ldl, am_lda, am_sti, am_sta, am_stl, am_inc, am_i2l, am_l2i, am_lcmp, am_dup, am_dup2, am_pop1, am_fv, am_getf, am_putf, am_wr, am_ial, am_lal, am_bal, am_aal, am_ias, am_las, am_bas, am_alen, am_inst, am_cast, am_cpm, am_copy, am_tsw, am_pop, am_cat, am_cS, am_cI, am_cV, am_ri, am_rl, am_ra, am_rv, am_b1, am_b2, am_ent, am_en, am_isL, am_st1, am_st2, am_clr, am_cnd, cc_172, ac_172, nL_172, rb_172, np_164, ok_172_164, nL_164, np_160, ok_172_160, nL_160, vd_160_12, tg_12_5, tg_12_4, sh_101, sh_107, rf_101_5, wm_isText, wm_met 5 (by decide)]
  have K : 0 ≤ r ∧ r < 4 → ¬ 80 < a → ¬ a < 0 → (wpS 172 34 [some (.inr (.inr (some 101))), some (.inl r), some (.inl a), some (.inl 0)] [] (S (am_up μ 107 r.toNat a)) Φ ↔ Φ (some (.inl a)) (S (fr (am_up μ 107 r.toNat a) 106 (80 * r.toNat) a.toNat 32))) := fun h1 h2 h3 => by
    have := wm_text_loop r.toNat a.toNat (by omega) (by omega) Φ (am_up μ 107 r.toNat a) a.toNat 0 (by omega)
    rw [fr_0, show ((r.toNat : Nat) : Int) = r by omega, show ((a.toNat : Nat) : Int) = a by omega] at this
    exact this
  (repeat' split) <;> first | rfl | (exfalso; omega) | exact (and_iff_right (by omega)).trans (K (by omega) (by omega) (by omega)) | exact K (by omega) (by omega) (by omega)
set_option maxRecDepth 100000 in
theorem wp_text (r a : Int) (μ : Nat → Nat → Int) (Φ : Option AV → ST → Prop) : wpM 85 [.inr (.inr (some 0)), .inl r, .inl a] (S μ) Φ ↔ (if 0 ≤ r ∧ r < 4 then (if 80 < a then Φ (some (.inl (-1))) (S μ) else if a < 0 then Φ (some (.inl (-3))) (S (am_up (am_up μ 0 9 5) 45 5 (nz (μ 45 5 + 1)))) else Φ (some (.inl a)) (S (fl (am_up μ (58 + 2 * r.toNat) 1 a) (59 + 2 * r.toNat) 80 32))) else Φ (some (.inl (-1))) (S μ)) := by
  unfold wpM
  rw [s1_iff [] 40]
  simp [sz_s, sz_0, gx_s, hx_r, hx_c, hx_b, hx_s, hx_i, hx_n, kx_s, kx_n, kx_i, cx_d, up_at, am_ctl, am_step, am_i1, am_i2, am_i2d, am_l1, am_l2, am_l2d, am_ldi, am_ldl, am_lda, am_sti, am_sta, am_stl, am_inc, am_i2l, am_l2i, am_lcmp, am_dup, am_dup2, am_pop1, am_fv, am_getf, am_putf, am_wr, am_ial, am_lal, am_bal, am_aal, am_ias, am_las, am_bas, am_alen, am_inst, am_cast, am_cpm, am_copy, am_tsw, am_pop, am_cat, am_cS, am_cI, am_cV, am_ri, am_rl, am_ra, am_rv, am_b1, am_b2, am_ent, am_en, am_isL, am_st1, am_st2, am_clr, am_cnd, cc_85, ac_85, nL_85, rb_85, np_129, ok_85_129, nL_129, np_137, ok_85_137, nL_137, vd_137_11, tg_11_1, sh_0, sh_2, rf_0_1, wp_within]
  by_cases hr : 0 ≤ r ∧ r < 4
  · have : r = 0 ∨ r = 1 ∨ r = 2 ∨ r = 3 := by omega
    rcases this with rfl | rfl | rfl | rfl
    · simp [sz_s, sz_0, gx_s, hx_r, hx_c, hx_b, hx_s, hx_i, hx_n, kx_s, kx_n, kx_i, cx_d, up_at, am_ctl, am_step, am_i1, am_i2, am_i2d, am_l1, am_l2, am_l2d, am_ldi, am_ldl, am_lda, am_sti, am_sta, am_stl, am_inc, am_i2l, am_l2i, am_lcmp, am_dup, am_dup2, am_pop1, am_fv, am_getf, am_putf, am_wr, am_ial, am_lal, am_bal, am_aal, am_ias, am_las, am_bas, am_alen, am_inst, am_cast, am_cpm, am_copy, am_tsw, am_pop, am_cat, am_cS, am_cI, am_cV, am_ri, am_rl, am_ra, am_rv, am_b1, am_b2, am_ent, am_en, am_isL, am_st1, am_st2, am_clr, am_cnd, cc_85, ac_85, nL_85, rb_85, np_129, ok_85_129, nL_129, np_137, ok_85_137, nL_137, vd_137_11, tg_11_1, rf_2_0, wp_layOut 58 80 _ _ (by decide) sh_58 rf_58_0 sh_59 (by decide)]
    · simp [sz_s, sz_0, gx_s, hx_r, hx_c, hx_b, hx_s, hx_i, hx_n, kx_s, kx_n, kx_i, cx_d, up_at, am_ctl, am_step, am_i1, am_i2, am_i2d, am_l1, am_l2, am_l2d, am_ldi, am_ldl, am_lda, am_sti, am_sta, am_stl, am_inc, am_i2l, am_l2i, am_lcmp, am_dup, am_dup2, am_pop1, am_fv, am_getf, am_putf, am_wr, am_ial, am_lal, am_bal, am_aal, am_ias, am_las, am_bas, am_alen, am_inst, am_cast, am_cpm, am_copy, am_tsw, am_pop, am_cat, am_cS, am_cI, am_cV, am_ri, am_rl, am_ra, am_rv, am_b1, am_b2, am_ent, am_en, am_isL, am_st1, am_st2, am_clr, am_cnd, cc_85, ac_85, nL_85, rb_85, np_129, ok_85_129, nL_129, np_137, ok_85_137, nL_137, vd_137_11, tg_11_1, rf_2_1, wp_layOut 60 80 _ _ (by decide) sh_60 rf_60_0 sh_61 (by decide)]
    · simp [sz_s, sz_0, gx_s, hx_r, hx_c, hx_b, hx_s, hx_i, hx_n, kx_s, kx_n, kx_i, cx_d, up_at, am_ctl, am_step, am_i1, am_i2, am_i2d, am_l1, am_l2, am_l2d, am_ldi, am_ldl, am_lda, am_sti, am_sta, am_stl, am_inc, am_i2l, am_l2i, am_lcmp, am_dup, am_dup2, am_pop1, am_fv, am_getf, am_putf, am_wr, am_ial, am_lal, am_bal, am_aal, am_ias, am_las, am_bas, am_alen, am_inst, am_cast, am_cpm, am_copy, am_tsw, am_pop, am_cat, am_cS, am_cI, am_cV, am_ri, am_rl, am_ra, am_rv, am_b1, am_b2, am_ent, am_en, am_isL, am_st1, am_st2, am_clr, am_cnd, cc_85, ac_85, nL_85, rb_85, np_129, ok_85_129, nL_129, np_137, ok_85_137, nL_137, vd_137_11, tg_11_1, rf_2_2, wp_layOut 62 80 _ _ (by decide) sh_62 rf_62_0 sh_63 (by decide)]
    · simp [sz_s, sz_0, gx_s, hx_r, hx_c, hx_b, hx_s, hx_i, hx_n, kx_s, kx_n, kx_i, cx_d, up_at, am_ctl, am_step, am_i1, am_i2, am_i2d, am_l1, am_l2, am_l2d, am_ldi, am_ldl, am_lda, am_sti, am_sta, am_stl, am_inc, am_i2l, am_l2i, am_lcmp, am_dup, am_dup2, am_pop1, am_fv, am_getf, am_putf, am_wr, am_ial, am_lal, am_bal, am_aal, am_ias, am_las, am_bas, am_alen, am_inst, am_cast, am_cpm, am_copy, am_tsw, am_pop, am_cat, am_cS, am_cI, am_cV, am_ri, am_rl, am_ra, am_rv, am_b1, am_b2, am_ent, am_en, am_isL, am_st1, am_st2, am_clr, am_cnd, cc_85, ac_85, nL_85, rb_85, np_129, ok_85_129, nL_129, np_137, ok_85_137, nL_137, vd_137_11, tg_11_1, rf_2_3, wp_layOut 64 80 _ _ (by decide) sh_64 rf_64_0 sh_65 (by decide)]
  · simp [hr]
