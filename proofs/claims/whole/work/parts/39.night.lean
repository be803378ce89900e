/-! night and undo -/
/-- the reference's land, in range, whatever the class's is -/
def WR (w : Nat → Int) : Prop := (0 ≤ w 0 ∧ w 0 ≤ 8) ∧ (0 ≤ w 1 ∧ w 1 ≤ 2) ∧ (0 ≤ w 2 ∧ w 2 ≤ 30) ∧ ∀ h : Nat, (h : Int) < w 0 → (0 ≤ w (5 + h) ∧ w (5 + h) ≤ 5) ∧ (0 ≤ w (13 + h) ∧ w (13 + h) ≤ 2) ∧ (0 ≤ w (21 + h) ∧ w (21 + h) ≤ 9) ∧ (0 ≤ w (29 + h) ∧ w (29 + h) ≤ 30)
theorem WR_of {B : Int} {μ : Nat → Nat → Int} (hL : LD B μ 73 0) : WR (μ 102) := by
  have h0 := ld_0 hL
  refine ⟨h0.2.2.2.2.2.1, h0.2.2.2.2.2.2.1, h0.2.2.2.2.2.2.2.1, fun k hk => ?_⟩
  have := ld_h hL (h := k) (by unfold nW; omega)
  exact ⟨this.2.1, this.2.2.1, this.2.2.2.1, this.2.2.2.2.1⟩
theorem WR_as {w v : Nat → Int} (h : WR w) (e : ∀ i, i < 37 → v i = w i) : WR v := by
  obtain ⟨h0, h1, h2, h3⟩ := h
  refine ⟨by rw [e 0 (by omega)]; exact h0, by rw [e 1 (by omega)]; exact h1, by rw [e 2 (by omega)]; exact h2, fun k hk => ?_⟩
  rw [e 0 (by omega)] at hk
  rw [e (5 + k) (by omega), e (13 + k) (by omega), e (21 + k) (by omega), e (29 + k) (by omega)]
  exact h3 k hk
theorem wr_n {μ : Nat → Nat → Int} (hL : WR (μ 102)) : True ∧ μ 102 0 = (nW (μ 102) : Int) ∧ nW (μ 102) ≤ 8 := by
  have := hL.1
  unfold nW
  exact ⟨trivial, by omega, by omega⟩
theorem wr_h {μ : Nat → Nat → Int} (hL : WR (μ 102)) {h : Nat} (hh : h < nW (μ 102)) : (True ∧ True ∧ True ∧ True) ∧ (0 ≤ μ 102 (5 + h) ∧ μ 102 (5 + h) ≤ 5) ∧ (0 ≤ μ 102 (13 + h) ∧ μ 102 (13 + h) ≤ 2) ∧ (0 ≤ μ 102 (21 + h) ∧ μ 102 (21 + h) ≤ 9) ∧ (0 ≤ μ 102 (29 + h) ∧ μ 102 (29 + h) ≤ 30) ∧ h < 8 := by
  have h0 := wr_n hL
  have := hL.2.2.2 h (by omega)
  exact ⟨⟨trivial, trivial, trivial, trivial⟩, this.1, this.2.1, this.2.2.1, this.2.2.2, by omega⟩
theorem wr_c {μ : Nat → Nat → Int} (hL : WR (μ 102)) {h : Nat} (hh : h < nW (μ 102)) (l : Int) : 0 ≤ cntW (μ 102) h l ∧ cntW (μ 102) h l ≤ 31 := by
  obtain ⟨-, -, -, h3, h4, -⟩ := wr_h hL hh
  unfold cntW
  have := @cntP_rng (μ 102 (5 + h)) (μ 102 (21 + h)) (μ 102 (29 + h)) (μ 102 2) l h3.1 h4.1
  omega
theorem nW_as {w v : Nat → Int} (e : ∀ i, i < 37 → v i = w i) : nW v = nW w := by unfold nW; rw [e 0 (by omega)]
theorem cntW_as {w v : Nat → Int} (e : ∀ i, i < 37 → v i = w i) {h : Nat} (hh : h < 8) (l : Int) : cntW v h l = cntW w h l := by
  unfold cntW; rw [e (5 + h) (by omega), e (21 + h) (by omega), e (29 + h) (by omega), e 2 (by omega)]
theorem inW_as {w v : Nat → Int} (e : ∀ i, i < 37 → v i = w i) (hn : nW w ≤ 8) (p l : Int) : inW v p l = inW w p l := by
  unfold inW
  rw [nW_as e]
  exact sumZ_congr (fun i hi => by rw [e (13 + i) (by omega), cntW_as e (by omega)])
theorem inW_rng {μ : Nat → Nat → Int} (hL : WR (μ 102)) (p l : Int) : 0 ≤ inW (μ 102) p l ∧ inW (μ 102) p l ≤ 248 := by
  have h0 := wr_n hL
  unfold inW
  have := @sumZ_rng (fun h => if μ 102 (13 + h) = p then cntW (μ 102) h l else 0) 0 31 (nW (μ 102)) (fun i hi => by
    have := wr_c hL hi l
    try dsimp only
    split <;> omega)
  omega
/-- all houses, by provinces -/
theorem inW_all {μ : Nat → Nat → Int} (hL : WR (μ 102)) (l : Int) : inW (μ 102) 0 l + inW (μ 102) 1 l + inW (μ 102) 2 l = allW (μ 102) l := by
  unfold inW allW
  rw [← sumZ_add, ← sumZ_add]
  refine sumZ_congr (fun i hi => ?_)
  obtain ⟨-, -, h2, -⟩ := wr_h hL hi
  have : μ 102 (13 + i) = 0 ∨ μ 102 (13 + i) = 1 ∨ μ 102 (13 + i) = 2 := by omega
  rcases this with q | q | q <;> simp [q]
set_option maxRecDepth 100000 in
theorem wn_countedOf {μ : Nat → Nat → Int} (hL : WR (μ 102)) {h : Nat} (hh : h < nW (μ 102)) (l : Int) (hl : 0 ≤ l) (Φ : Option AV → ST → Prop) : wpM 186 [.inr (.inr (some 101)), .inl h, .inl l] (S μ) Φ ↔ Φ (some (.inl (cntW (μ 102) h l))) (S μ) := by
  obtain ⟨-, k, p, m, s, h8⟩ := wr_h hL hh
  unfold wpM cntW
  rw [s1_iff [] 200]
  simp (disch := omega) [sz_s, sz_0, gx_s, hx_r, hx_c, hx_b, hx_s, hx_i, hx_n, kx_s, kx_n, kx_i, cx_d, up_at, am_ctl, am_step, am_i1, am_i2, am_i2d, am_l1, am_l2, am_l2d, am_ldi, am_ldl, am_lda, am_sti, am_sta, am_stl, am_inc, am_i2l, am_l2i, am_lcmp, am_dup, am_dup2, am_pop1, am_fv, am_getf, am_putf, am_wr, am_ial, am_lal, am_bal, am_aal, am_ias, am_las, am_bas, am_alen, am_inst, am_cast, am_cpm, am_copy, am_tsw, am_pop, am_cat, am_cS, am_cI, am_cV, am_ri, am_rl, am_ra, am_rv, am_b1, am_b2, am_ent, am_en, am_isL, am_st1, am_st2, am_clr, am_cnd, cc_186, ac_186, nL_186, rb_186, np_185, ok_186_185, nL_185, tg_12_0, List.getElem?_cons_succ, List.getElem?_cons_zero, nz_of, nzl_of, Int.toNat_add, Int.toNat_mul, tn_l, lt_t, lt_f, le_t, le_f, eq_t, eq_f, ltn_t, ltn_f, len_t, len_f, eqn_t, eqn_f, up_ne, up_up, sh_101, sh_102, rf_101_0, wm_counted (μ 102 (5 + h)) (μ 102 (21 + h)) (μ 102 (29 + h)) (μ 102 2) l k m s hl]
set_option maxRecDepth 100000 in
theorem wn_allCounted {μ : Nat → Nat → Int} (hL : WR (μ 102)) (l : Int) (hl : 0 ≤ l) (Φ : Option AV → ST → Prop) : wpM 187 [.inr (.inr (some 101)), .inl l] (S μ) Φ ↔ Φ (some (.inl (allW (μ 102) l))) (S μ) := by
  have e0 := wr_n hL
  have r0 : ∀ i, i < nW (μ 102) → 0 ≤ (fun h => cntW (μ 102) h l) i ∧ (fun h => cntW (μ 102) h l) i ≤ 31 := by
    intro i hi
    obtain ⟨⟨-, -, -, -⟩, kk, pp, mm, ss, h8⟩ := wr_h hL hi
    have := wr_c hL hi l; dsimp only; omega
  have step : ∀ j, j < nW (μ 102) → ((fun j : Nat => wpS 187 4 [some (.inr (.inr (some 101))), some (.inl l), some (.inl (sumZ (fun h => cntW (μ 102) h l) j)), some (.inl j)] [] (S μ) Φ) j ↔ (fun j : Nat => wpS 187 4 [some (.inr (.inr (some 101))), some (.inl l), some (.inl (sumZ (fun h => cntW (μ 102) h l) j)), some (.inl j)] [] (S μ) Φ) (j + 1)) := by
    intro j hj
    obtain ⟨⟨e1, e2, e3, e4⟩, kk, pp, mm, ss, h8⟩ := wr_h hL hj
    have r1 := sumZ_rng (n := j) (fun i hi => r0 i (by omega))
    have r2 := r0 j hj
    have e9 : sumZ (fun h => cntW (μ 102) h l) (j + 1) = sumZ (fun h => cntW (μ 102) h l) j + (fun h => cntW (μ 102) h l) j := rfl
    
    show _ ↔ wpS 187 4 [some (.inr (.inr (some 101))), some (.inl l), some (.inl (sumZ (fun h => cntW (μ 102) h l) (j + 1))), some (.inl ((j + 1 : Nat) : Int))] [] (S μ) Φ
    rw [e9]
    dsimp only at r2 ⊢
    rw [s1_iff [4] 200]
    simp (disch := omega) [sz_s, sz_0, gx_s, hx_r, hx_c, hx_b, hx_s, hx_i, hx_n, kx_s, kx_n, kx_i, cx_d, up_at, am_ctl, am_step, am_i1, am_i2, am_i2d, am_l1, am_l2, am_l2d, am_ldi, am_ldl, am_lda, am_sti, am_sta, am_stl, am_inc, am_i2l, am_l2i, am_lcmp, am_dup, am_dup2, am_pop1, am_fv, am_getf, am_putf, am_wr, am_ial, am_lal, am_bal, am_aal, am_ias, am_las, am_bas, am_alen, am_inst, am_cast, am_cpm, am_copy, am_tsw, am_pop, am_cat, am_cS, am_cI, am_cV, am_ri, am_rl, am_ra, am_rv, am_b1, am_b2, am_ent, am_en, am_isL, am_st1, am_st2, am_clr, am_cnd, cc_187, ac_187, nL_187, rb_187, np_186, ok_187_186, nL_186, vd_186_12, tg_12_0, List.getElem?_cons_succ, List.getElem?_cons_zero, nz_of, nzl_of, Int.toNat_add, Int.toNat_mul, tn_l, lt_t, lt_f, le_t, le_f, eq_t, eq_f, ltn_t, ltn_f, len_t, len_f, eqn_t, eqn_f, up_ne, up_up, sh_101, sh_102, rf_101_0, e0.2.1, wn_countedOf hL hj l hl, hj, Nat.not_le.mpr hj]
  unfold wpM
  rw [s1_iff [4] 200]
  simp (disch := omega) [sz_s, sz_0, gx_s, hx_r, hx_c, hx_b, hx_s, hx_i, hx_n, kx_s, kx_n, kx_i, cx_d, up_at, am_ctl, am_step, am_i1, am_i2, am_i2d, am_l1, am_l2, am_l2d, am_ldi, am_ldl, am_lda, am_sti, am_sta, am_stl, am_inc, am_i2l, am_l2i, am_lcmp, am_dup, am_dup2, am_pop1, am_fv, am_getf, am_putf, am_wr, am_ial, am_lal, am_bal, am_aal, am_ias, am_las, am_bas, am_alen, am_inst, am_cast, am_cpm, am_copy, am_tsw, am_pop, am_cat, am_cS, am_cI, am_cV, am_ri, am_rl, am_ra, am_rv, am_b1, am_b2, am_ent, am_en, am_isL, am_st1, am_st2, am_clr, am_cnd, cc_187, ac_187, nL_187, rb_187, np_186, ok_187_186, nL_186, vd_186_12, tg_12_0, List.getElem?_cons_succ, List.getElem?_cons_zero, nz_of, nzl_of, Int.toNat_add, Int.toNat_mul, tn_l, lt_t, lt_f, le_t, le_f, eq_t, eq_f, ltn_t, ltn_f, len_t, len_f, eqn_t, eqn_f, up_ne, up_up, sh_101]
  refine (up_iff (fun j : Nat => wpS 187 4 [some (.inr (.inr (some 101))), some (.inl l), some (.inl (sumZ (fun h => cntW (μ 102) h l) j)), some (.inl j)] [] (S μ) Φ) (nW (μ 102)) step).trans ?_
  rw [s1_iff [4] 200]
  simp (disch := omega) [sz_s, sz_0, gx_s, hx_r, hx_c, hx_b, hx_s, hx_i, hx_n, kx_s, kx_n, kx_i, cx_d, up_at, am_ctl, am_step, am_i1, am_i2, am_i2d, am_l1, am_l2, am_l2d, am_ldi, am_ldl, am_lda, am_sti, am_sta, am_stl, am_inc, am_i2l, am_l2i, am_lcmp, am_dup, am_dup2, am_pop1, am_fv, am_getf, am_putf, am_wr, am_ial, am_lal, am_bal, am_aal, am_ias, am_las, am_bas, am_alen, am_inst, am_cast, am_cpm, am_copy, am_tsw, am_pop, am_cat, am_cS, am_cI, am_cV, am_ri, am_rl, am_ra, am_rv, am_b1, am_b2, am_ent, am_en, am_isL, am_st1, am_st2, am_clr, am_cnd, cc_187, ac_187, nL_187, rb_187, np_186, ok_187_186, nL_186, vd_186_12, tg_12_0, List.getElem?_cons_succ, List.getElem?_cons_zero, nz_of, nzl_of, Int.toNat_add, Int.toNat_mul, tn_l, lt_t, lt_f, le_t, le_f, eq_t, eq_f, ltn_t, ltn_f, len_t, len_f, eqn_t, eqn_f, up_ne, up_up, sh_101, sh_102, rf_101_0, e0.2.1]
  rfl
set_option maxRecDepth 100000 in
theorem wn_mouths {μ : Nat → Nat → Int} (hL : WR (μ 102))  (Φ : Option AV → ST → Prop) : wpM 188 [.inr (.inr (some 101)), .inl 21] (S μ) Φ ↔ Φ (some (.inl (mouW (μ 102)))) (S μ) := by
  have e0 := wr_n hL
  have r0 : ∀ i, i < nW (μ 102) → 0 ≤ (fun h => μ 102 (21 + h)) i ∧ (fun h => μ 102 (21 + h)) i ≤ 31 := by
    intro i hi
    obtain ⟨⟨-, -, -, -⟩, kk, pp, mm, ss, h8⟩ := wr_h hL hi
    dsimp only; omega
  have step : ∀ j, j < nW (μ 102) → ((fun j : Nat => wpS 188 4 [some (.inr (.inr (some 101))), some (.inl 21), some (.inl (sumZ (fun h => μ 102 (21 + h)) j)), some (.inl j)] [] (S μ) Φ) j ↔ (fun j : Nat => wpS 188 4 [some (.inr (.inr (some 101))), some (.inl 21), some (.inl (sumZ (fun h => μ 102 (21 + h)) j)), some (.inl j)] [] (S μ) Φ) (j + 1)) := by
    intro j hj
    obtain ⟨⟨e1, e2, e3, e4⟩, kk, pp, mm, ss, h8⟩ := wr_h hL hj
    have r1 := sumZ_rng (n := j) (fun i hi => r0 i (by omega))
    have r2 := r0 j hj
    have e9 : sumZ (fun h => μ 102 (21 + h)) (j + 1) = sumZ (fun h => μ 102 (21 + h)) j + (fun h => μ 102 (21 + h)) j := rfl
    
    show _ ↔ wpS 188 4 [some (.inr (.inr (some 101))), some (.inl 21), some (.inl (sumZ (fun h => μ 102 (21 + h)) (j + 1))), some (.inl ((j + 1 : Nat) : Int))] [] (S μ) Φ
    rw [e9]
    dsimp only at r2 ⊢
    rw [s1_iff [4] 200]
    simp (disch := omega) [sz_s, sz_0, gx_s, hx_r, hx_c, hx_b, hx_s, hx_i, hx_n, kx_s, kx_n, kx_i, cx_d, up_at, am_ctl, am_step, am_i1, am_i2, am_i2d, am_l1, am_l2, am_l2d, am_ldi, am_ldl, am_lda, am_sti, am_sta, am_stl, am_inc, am_i2l, am_l2i, am_lcmp, am_dup, am_dup2, am_pop1, am_fv, am_getf, am_putf, am_wr, am_ial, am_lal, am_bal, am_aal, am_ias, am_las, am_bas, am_alen, am_inst, am_cast, am_cpm, am_copy, am_tsw, am_pop, am_cat, am_cS, am_cI, am_cV, am_ri, am_rl, am_ra, am_rv, am_b1, am_b2, am_ent, am_en, am_isL, am_st1, am_st2, am_clr, am_cnd, cc_188, ac_188, nL_188, rb_188, tg_12_0, List.getElem?_cons_succ, List.getElem?_cons_zero, nz_of, nzl_of, Int.toNat_add, Int.toNat_mul, tn_l, lt_t, lt_f, le_t, le_f, eq_t, eq_f, ltn_t, ltn_f, len_t, len_f, eqn_t, eqn_f, up_ne, up_up, sh_101, sh_102, rf_101_0, e0.2.1, hj, Nat.not_le.mpr hj]
  unfold wpM
  rw [s1_iff [4] 200]
  simp (disch := omega) [sz_s, sz_0, gx_s, hx_r, hx_c, hx_b, hx_s, hx_i, hx_n, kx_s, kx_n, kx_i, cx_d, up_at, am_ctl, am_step, am_i1, am_i2, am_i2d, am_l1, am_l2, am_l2d, am_ldi, am_ldl, am_lda, am_sti, am_sta, am_stl, am_inc, am_i2l, am_l2i, am_lcmp, am_dup, am_dup2, am_pop1, am_fv, am_getf, am_putf, am_wr, am_ial, am_lal, am_bal, am_aal, am_ias, am_las, am_bas, am_alen, am_inst, am_cast, am_cpm, am_copy, am_tsw, am_pop, am_cat, am_cS, am_cI, am_cV, am_ri, am_rl, am_ra, am_rv, am_b1, am_b2, am_ent, am_en, am_isL, am_st1, am_st2, am_clr, am_cnd, cc_188, ac_188, nL_188, rb_188, tg_12_0, List.getElem?_cons_succ, List.getElem?_cons_zero, nz_of, nzl_of, Int.toNat_add, Int.toNat_mul, tn_l, lt_t, lt_f, le_t, le_f, eq_t, eq_f, ltn_t, ltn_f, len_t, len_f, eqn_t, eqn_f, up_ne, up_up, sh_101]
  refine (up_iff (fun j : Nat => wpS 188 4 [some (.inr (.inr (some 101))), some (.inl 21), some (.inl (sumZ (fun h => μ 102 (21 + h)) j)), some (.inl j)] [] (S μ) Φ) (nW (μ 102)) step).trans ?_
  rw [s1_iff [4] 200]
  simp (disch := omega) [sz_s, sz_0, gx_s, hx_r, hx_c, hx_b, hx_s, hx_i, hx_n, kx_s, kx_n, kx_i, cx_d, up_at, am_ctl, am_step, am_i1, am_i2, am_i2d, am_l1, am_l2, am_l2d, am_ldi, am_ldl, am_lda, am_sti, am_sta, am_stl, am_inc, am_i2l, am_l2i, am_lcmp, am_dup, am_dup2, am_pop1, am_fv, am_getf, am_putf, am_wr, am_ial, am_lal, am_bal, am_aal, am_ias, am_las, am_bas, am_alen, am_inst, am_cast, am_cpm, am_copy, am_tsw, am_pop, am_cat, am_cS, am_cI, am_cV, am_ri, am_rl, am_ra, am_rv, am_b1, am_b2, am_ent, am_en, am_isL, am_st1, am_st2, am_clr, am_cnd, cc_188, ac_188, nL_188, rb_188, tg_12_0, List.getElem?_cons_succ, List.getElem?_cons_zero, nz_of, nzl_of, Int.toNat_add, Int.toNat_mul, tn_l, lt_t, lt_f, le_t, le_f, eq_t, eq_f, ltn_t, ltn_f, len_t, len_f, eqn_t, eqn_f, up_ne, up_up, sh_101, sh_102, rf_101_0, e0.2.1]
  rfl
set_option maxRecDepth 100000 in
theorem wn_sackOf {μ : Nat → Nat → Int} (hL : WR (μ 102)) (p : Int) (Φ : Option AV → ST → Prop) : wpM 201 [.inr (.inr (some 101)), .inl p] (S μ) Φ ↔ Φ (some (.inl (inW (μ 102) p (μ 102 1)))) (S μ) := by
  have e0 := wr_n hL
  have r0 : ∀ i, i < nW (μ 102) → 0 ≤ (fun h => if μ 102 (13 + h) = p then cntW (μ 102) h (μ 102 1) else 0) i ∧ (fun h => if μ 102 (13 + h) = p then cntW (μ 102) h (μ 102 1) else 0) i ≤ 31 := by
    intro i hi
    obtain ⟨⟨-, -, -, -⟩, kk, pp, mm, ss, h8⟩ := wr_h hL hi
    have := wr_c hL hi (μ 102 1); dsimp only; split <;> omega
  have step : ∀ j, j < nW (μ 102) → ((fun j : Nat => wpS 201 4 [some (.inr (.inr (some 101))), some (.inl p), some (.inl (sumZ (fun h => if μ 102 (13 + h) = p then cntW (μ 102) h (μ 102 1) else 0) j)), some (.inl j)] [] (S μ) Φ) j ↔ (fun j : Nat => wpS 201 4 [some (.inr (.inr (some 101))), some (.inl p), some (.inl (sumZ (fun h => if μ 102 (13 + h) = p then cntW (μ 102) h (μ 102 1) else 0) j)), some (.inl j)] [] (S μ) Φ) (j + 1)) := by
    intro j hj
    obtain ⟨⟨e1, e2, e3, e4⟩, kk, pp, mm, ss, h8⟩ := wr_h hL hj
    have r1 := sumZ_rng (n := j) (fun i hi => r0 i (by omega))
    have r2 := r0 j hj
    have e9 : sumZ (fun h => if μ 102 (13 + h) = p then cntW (μ 102) h (μ 102 1) else 0) (j + 1) = sumZ (fun h => if μ 102 (13 + h) = p then cntW (μ 102) h (μ 102 1) else 0) j + (fun h => if μ 102 (13 + h) = p then cntW (μ 102) h (μ 102 1) else 0) j := rfl
    
    show _ ↔ wpS 201 4 [some (.inr (.inr (some 101))), some (.inl p), some (.inl (sumZ (fun h => if μ 102 (13 + h) = p then cntW (μ 102) h (μ 102 1) else 0) (j + 1))), some (.inl ((j + 1 : Nat) : Int))] [] (S μ) Φ
    rw [e9]
    dsimp only at r2 ⊢
    by_cases hc : μ 102 (13 + j) = p
    · rw [if_pos hc] at r2 ⊢
      rw [s1_iff [4] 200]
      simp (disch := omega) [sz_s, sz_0, gx_s, hx_r, hx_c, hx_b, hx_s, hx_i, hx_n, kx_s, kx_n, kx_i, cx_d, up_at, am_ctl, am_step, am_i1, am_i2, am_i2d, am_l1, am_l2, am_l2d, am_ldi, am_ldl, am_lda, am_sti, am_sta, am_stl, am_inc, am_i2l, am_l2i, am_lcmp, am_dup, am_dup2, am_pop1, am_fv, am_getf, am_putf, am_wr, am_ial, am_lal, am_bal, am_aal, am_ias, am_las, am_bas, am_alen, am_inst, am_cast, am_cpm, am_copy, am_tsw, am_pop, am_cat, am_cS, am_cI, am_cV, am_ri, am_rl, am_ra, am_rv, am_b1, am_b2, am_ent, am_en, am_isL, am_st1, am_st2, am_clr, am_cnd, cc_201, ac_201, nL_201, rb_201, np_186, ok_201_186, nL_186, vd_186_12, tg_12_0, List.getElem?_cons_succ, List.getElem?_cons_zero, nz_of, nzl_of, Int.toNat_add, Int.toNat_mul, tn_l, lt_t, lt_f, le_t, le_f, eq_t, eq_f, ltn_t, ltn_f, len_t, len_f, eqn_t, eqn_f, up_ne, up_up, sh_101, sh_102, rf_101_0, e0.2.1, wn_countedOf hL hj _ hL.2.1.1, hc, hj, Nat.not_le.mpr hj]
    · rw [if_neg hc] at r2 ⊢
      rw [s1_iff [4] 200]
      simp (disch := omega) [sz_s, sz_0, gx_s, hx_r, hx_c, hx_b, hx_s, hx_i, hx_n, kx_s, kx_n, kx_i, cx_d, up_at, am_ctl, am_step, am_i1, am_i2, am_i2d, am_l1, am_l2, am_l2d, am_ldi, am_ldl, am_lda, am_sti, am_sta, am_stl, am_inc, am_i2l, am_l2i, am_lcmp, am_dup, am_dup2, am_pop1, am_fv, am_getf, am_putf, am_wr, am_ial, am_lal, am_bal, am_aal, am_ias, am_las, am_bas, am_alen, am_inst, am_cast, am_cpm, am_copy, am_tsw, am_pop, am_cat, am_cS, am_cI, am_cV, am_ri, am_rl, am_ra, am_rv, am_b1, am_b2, am_ent, am_en, am_isL, am_st1, am_st2, am_clr, am_cnd, cc_201, ac_201, nL_201, rb_201, np_186, ok_201_186, nL_186, vd_186_12, tg_12_0, List.getElem?_cons_succ, List.getElem?_cons_zero, nz_of, nzl_of, Int.toNat_add, Int.toNat_mul, tn_l, lt_t, lt_f, le_t, le_f, eq_t, eq_f, ltn_t, ltn_f, len_t, len_f, eqn_t, eqn_f, up_ne, up_up, sh_101, sh_102, rf_101_0, e0.2.1, wn_countedOf hL hj _ hL.2.1.1, hc, hj, Nat.not_le.mpr hj]
  unfold wpM
  rw [s1_iff [4] 200]
  simp (disch := omega) [sz_s, sz_0, gx_s, hx_r, hx_c, hx_b, hx_s, hx_i, hx_n, kx_s, kx_n, kx_i, cx_d, up_at, am_ctl, am_step, am_i1, am_i2, am_i2d, am_l1, am_l2, am_l2d, am_ldi, am_ldl, am_lda, am_sti, am_sta, am_stl, am_inc, am_i2l, am_l2i, am_lcmp, am_dup, am_dup2, am_pop1, am_fv, am_getf, am_putf, am_wr, am_ial, am_lal, am_bal, am_aal, am_ias, am_las, am_bas, am_alen, am_inst, am_cast, am_cpm, am_copy, am_tsw, am_pop, am_cat, am_cS, am_cI, am_cV, am_ri, am_rl, am_ra, am_rv, am_b1, am_b2, am_ent, am_en, am_isL, am_st1, am_st2, am_clr, am_cnd, cc_201, ac_201, nL_201, rb_201, np_186, ok_201_186, nL_186, vd_186_12, tg_12_0, List.getElem?_cons_succ, List.getElem?_cons_zero, nz_of, nzl_of, Int.toNat_add, Int.toNat_mul, tn_l, lt_t, lt_f, le_t, le_f, eq_t, eq_f, ltn_t, ltn_f, len_t, len_f, eqn_t, eqn_f, up_ne, up_up, sh_101]
  refine (up_iff (fun j : Nat => wpS 201 4 [some (.inr (.inr (some 101))), some (.inl p), some (.inl (sumZ (fun h => if μ 102 (13 + h) = p then cntW (μ 102) h (μ 102 1) else 0) j)), some (.inl j)] [] (S μ) Φ) (nW (μ 102)) step).trans ?_
  rw [s1_iff [4] 200]
  simp (disch := omega) [sz_s, sz_0, gx_s, hx_r, hx_c, hx_b, hx_s, hx_i, hx_n, kx_s, kx_n, kx_i, cx_d, up_at, am_ctl, am_step, am_i1, am_i2, am_i2d, am_l1, am_l2, am_l2d, am_ldi, am_ldl, am_lda, am_sti, am_sta, am_stl, am_inc, am_i2l, am_l2i, am_lcmp, am_dup, am_dup2, am_pop1, am_fv, am_getf, am_putf, am_wr, am_ial, am_lal, am_bal, am_aal, am_ias, am_las, am_bas, am_alen, am_inst, am_cast, am_cpm, am_copy, am_tsw, am_pop, am_cat, am_cS, am_cI, am_cV, am_ri, am_rl, am_ra, am_rv, am_b1, am_b2, am_ent, am_en, am_isL, am_st1, am_st2, am_clr, am_cnd, cc_201, ac_201, nL_201, rb_201, np_186, ok_201_186, nL_186, vd_186_12, tg_12_0, List.getElem?_cons_succ, List.getElem?_cons_zero, nz_of, nzl_of, Int.toNat_add, Int.toNat_mul, tn_l, lt_t, lt_f, le_t, le_f, eq_t, eq_f, ltn_t, ltn_f, len_t, len_f, eqn_t, eqn_f, up_ne, up_up, sh_101, sh_102, rf_101_0, e0.2.1]
  rfl
set_option maxRecDepth 100000 in
theorem wp_countedOfAll {B : Int} {μ : Nat → Nat → Int} (hL : LD B μ 73 0) (l : Int) (Φ : Option AV → ST → Prop) : wpM 28 [.inr (.inr (some 73)), .inl l] (S μ) Φ ↔ Φ (some (.inl (allW (μ 102) l))) (S μ) := by
  have hW := WR_of hL
  have r0 := inW_rng hW 0 l
  have r1 := inW_rng hW 1 l
  have r2 := inW_rng hW 2 l
  have e := inW_all hW l
  unfold wpM
  rw [s1_iff [] 200]
  simp (disch := omega) [sz_s, sz_0, gx_s, hx_r, hx_c, hx_b, hx_s, hx_i, hx_n, kx_s, kx_n, kx_i, cx_d, up_at, am_ctl, am_step, am_i1, am_i2, am_i2d, am_l1, am_l2, am_l2d, am_ldi, am_ldl, am_lda, am_sti, am_sta, am_stl, am_inc, am_i2l, am_l2i, am_lcmp, am_dup, am_dup2, am_pop1, am_fv, am_getf, am_putf, am_wr, am_ial, am_lal, am_bal, am_aal, am_ias, am_las, am_bas, am_alen, am_inst, am_cast, am_cpm, am_copy, am_tsw, am_pop, am_cat, am_cS, am_cI, am_cV, am_ri, am_rl, am_ra, am_rv, am_b1, am_b2, am_ent, am_en, am_isL, am_st1, am_st2, am_clr, am_cnd, cc_28, ac_28, nL_28, rb_28, np_27, ok_28_27, nL_27, vd_27_4, List.getElem?_cons_succ, List.getElem?_cons_zero, nz_of, nzl_of, Int.toNat_add, Int.toNat_mul, tn_l, lt_t, lt_f, le_t, le_f, eq_t, eq_f, ltn_t, ltn_f, len_t, len_f, eqn_t, eqn_f, up_ne, up_up, sh_73, wp_countedIn hL, e]
/-- the log, behind what is told of it -/
theorem LD_log {B : Int} {μ : Nat → Nat → Int} (hL : LD B μ 73 0) (j : Nat) (v : Int) (hj : 3 * μ 102 2 ≤ (j : Int)) : LD B (am_up μ 79 j v) 73 0 := by
  obtain ⟨h1, h2, h3, h4, h5, h6, h7, h8', h9, h10, h11, h12, h13⟩ := hL
  simp only [Nat.zero_add] at h1 h2 h3 h4 h5 h6 h7 h8' h9 h10 h11 h12 h13
  unfold LD
  simp (disch := omega) only [Nat.zero_add, up_at, eqn_f, true_and, false_and, and_false, if_false]
  refine ⟨h1, h2, h3, h4, h5, h6, h7, h8', h9, h10, h11, h12, fun k hk => ?_⟩
  rw [if_neg (by omega)]
  exact h13 k hk
def xlog (μ : Nat → Nat → Int) : Nat → Nat → Int := am_up (am_up (am_up (am_up μ 79 (3 * (μ 102 2).toNat) (inW (μ 102) 0 (μ 102 1))) 79 (3 * (μ 102 2).toNat + 1) (inW (μ 102) 1 (μ 102 1))) 79 (3 * (μ 102 2).toNat + 2) (inW (μ 102) 2 (μ 102 1))) 73 9 (μ 102 2 + 1)
def xnight (μ : Nat → Nat → Int) : Nat → Nat → Int := xadd (xlog μ) 5 0 0 0
set_option maxRecDepth 100000 in
theorem wp_logNight {B : Int} {μ : Nat → Nat → Int} (hL : LD B μ 73 0) (hn : μ 102 2 < 30) (Φ : Option AV → ST → Prop) : wpM 34 [.inr (.inr (some 73))] (S μ) Φ ↔ Φ none (S (xlog μ)) := by
  have h0 := ld_0 hL
  obtain ⟨N, hN⟩ : ∃ N : Nat, μ 102 2 = N := ⟨(μ 102 2).toNat, by omega⟩
  have L1 := LD_log hL (3 * N) (inW (μ 102) 0 (μ 102 1)) (by omega)
  have L2 := LD_log L1 (3 * N + 1) (inW (μ 102) 1 (μ 102 1)) (by rw [up_ne _ _ _ (by decide)]; omega)
  have K0 := wp_countedIn hL 0 (μ 102 1)
  have K1 := wp_countedIn L1 1 (μ 102 1)
  have K2 := wp_countedIn L2 2 (μ 102 1)
  simp (disch := omega) only [up_ne] at K1 K2
  unfold wpM xlog
  rw [s1_iff [] 200]
  simp (disch := omega) [sz_s, sz_0, gx_s, hx_r, hx_c, hx_b, hx_s, hx_i, hx_n, kx_s, kx_n, kx_i, cx_d, up_at, am_ctl, am_step, am_i1, am_i2, am_i2d, am_l1, am_l2, am_l2d, am_ldi, am_ldl, am_lda, am_sti, am_sta, am_stl, am_inc, am_i2l, am_l2i, am_lcmp, am_dup, am_dup2, am_pop1, am_fv, am_getf, am_putf, am_wr, am_ial, am_lal, am_bal, am_aal, am_ias, am_las, am_bas, am_alen, am_inst, am_cast, am_cpm, am_copy, am_tsw, am_pop, am_cat, am_cS, am_cI, am_cV, am_ri, am_rl, am_ra, am_rv, am_b1, am_b2, am_ent, am_en, am_isL, am_st1, am_st2, am_clr, am_cnd, cc_34, ac_34, nL_34, rb_34, np_27, ok_34_27, nL_27, vd_27_4, tg_4_6, tg_4_9, tg_4_8, List.getElem?_cons_succ, List.getElem?_cons_zero, nz_of, nzl_of, Int.toNat_add, Int.toNat_mul, tn_l, lt_t, lt_f, le_t, le_f, eq_t, eq_f, ltn_t, ltn_f, len_t, len_f, eqn_t, eqn_f, up_ne, up_up, sh_73, sh_79, rf_73_6, h0.2.1, h0.2.2.1, hN, K0, Nat.mul_comm N 3]
  simp (disch := omega) [sz_s, sz_0, gx_s, hx_r, hx_c, hx_b, hx_s, hx_i, hx_n, kx_s, kx_n, kx_i, cx_d, up_at, am_ctl, am_step, am_i1, am_i2, am_i2d, am_l1, am_l2, am_l2d, am_ldi, am_ldl, am_lda, am_sti, am_sta, am_stl, am_inc, am_i2l, am_l2i, am_lcmp, am_dup, am_dup2, am_pop1, am_fv, am_getf, am_putf, am_wr, am_ial, am_lal, am_bal, am_aal, am_ias, am_las, am_bas, am_alen, am_inst, am_cast, am_cpm, am_copy, am_tsw, am_pop, am_cat, am_cS, am_cI, am_cV, am_ri, am_rl, am_ra, am_rv, am_b1, am_b2, am_ent, am_en, am_isL, am_st1, am_st2, am_clr, am_cnd, cc_34, ac_34, nL_34, rb_34, np_27, ok_34_27, nL_27, vd_27_4, tg_4_6, tg_4_9, tg_4_8, List.getElem?_cons_succ, List.getElem?_cons_zero, nz_of, nzl_of, Int.toNat_add, Int.toNat_mul, tn_l, lt_t, lt_f, le_t, le_f, eq_t, eq_f, ltn_t, ltn_f, len_t, len_f, eqn_t, eqn_f, up_ne, up_up, sh_73, sh_79, rf_73_6, h0.2.1, h0.2.2.1, hN, K1, Nat.mul_comm N 3]
  simp (disch := omega) [sz_s, sz_0, gx_s, hx_r, hx_c, hx_b, hx_s, hx_i, hx_n, kx_s, kx_n, kx_i, cx_d, up_at, am_ctl, am_step, am_i1, am_i2, am_i2d, am_l1, am_l2, am_l2d, am_ldi, am_ldl, am_lda, am_sti, am_sta, am_stl, am_inc, am_i2l, am_l2i, am_lcmp, am_dup, am_dup2, am_pop1, am_fv, am_getf, am_putf, am_wr, am_ial, am_lal, am_bal, am_aal, am_ias, am_las, am_bas, am_alen, am_inst, am_cast, am_cpm, am_copy, am_tsw, am_pop, am_cat, am_cS, am_cI, am_cV, am_ri, am_rl, am_ra, am_rv, am_b1, am_b2, am_ent, am_en, am_isL, am_st1, am_st2, am_clr, am_cnd, cc_34, ac_34, nL_34, rb_34, np_27, ok_34_27, nL_27, vd_27_4, tg_4_6, tg_4_9, tg_4_8, List.getElem?_cons_succ, List.getElem?_cons_zero, nz_of, nzl_of, Int.toNat_add, Int.toNat_mul, tn_l, lt_t, lt_f, le_t, le_f, eq_t, eq_f, ltn_t, ltn_f, len_t, len_f, eqn_t, eqn_f, up_ne, up_up, sh_73, sh_79, rf_73_6, h0.2.1, h0.2.2.1, hN, K2, Nat.mul_comm N 3]
set_option maxRecDepth 100000 in
theorem wp_night {B : Int} {μ : Nat → Nat → Int} (h : INV B μ) (hB : B ≤ 1000000) (Φ : Option AV → ST → Prop) : wpM 97 [.inr (.inr (some 0))] (S μ) Φ ↔ (if μ 102 0 = 0 then Φ (some (.inl (-4))) (S μ) else if μ 102 2 = 30 then Φ (some (.inl (-2))) (S μ) else Φ (some (.inl (allW (μ 102) (μ 102 1)))) (S (xnight μ))) := by
  have hL : LD B μ 73 0 := h.2.2.2.1
  have hC := CR_of h hB
  have h0 := ld_0 hL
  unfold wpM
  by_cases c0 : μ 102 0 = 0
  · rw [if_pos c0]
    rw [s1_iff [] 200]
    simp (disch := omega) [sz_s, sz_0, gx_s, hx_r, hx_c, hx_b, hx_s, hx_i, hx_n, kx_s, kx_n, kx_i, cx_d, up_at, am_ctl, am_step, am_i1, am_i2, am_i2d, am_l1, am_l2, am_l2d, am_ldi, am_ldl, am_lda, am_sti, am_sta, am_stl, am_inc, am_i2l, am_l2i, am_lcmp, am_dup, am_dup2, am_pop1, am_fv, am_getf, am_putf, am_wr, am_ial, am_lal, am_bal, am_aal, am_ias, am_las, am_bas, am_alen, am_inst, am_cast, am_cpm, am_copy, am_tsw, am_pop, am_cat, am_cS, am_cI, am_cV, am_ri, am_rl, am_ra, am_rv, am_b1, am_b2, am_ent, am_en, am_isL, am_st1, am_st2, am_clr, am_cnd, cc_97, ac_97, nL_97, rb_97, np_4, ok_97_4, nL_4, vd_4_1, np_28, ok_97_28, nL_28, vd_28_4, np_34, ok_97_34, nL_34, vd_34_4, tg_11_2, tg_4_7, tg_4_9, tg_4_8, tg_11_4, List.getElem?_cons_succ, List.getElem?_cons_zero, nz_of, nzl_of, Int.toNat_add, Int.toNat_mul, tn_l, lt_t, lt_f, le_t, le_f, eq_t, eq_f, ltn_t, ltn_f, len_t, len_f, eqn_t, eqn_f, up_ne, up_up, sh_0, rf_0_2, sh_73, h0.1, c0]
  · rw [if_neg c0]
    by_cases c1 : μ 102 2 = 30
    · rw [if_pos c1]
      rw [s1_iff [] 200]
      simp (disch := omega) [sz_s, sz_0, gx_s, hx_r, hx_c, hx_b, hx_s, hx_i, hx_n, kx_s, kx_n, kx_i, cx_d, up_at, am_ctl, am_step, am_i1, am_i2, am_i2d, am_l1, am_l2, am_l2d, am_ldi, am_ldl, am_lda, am_sti, am_sta, am_stl, am_inc, am_i2l, am_l2i, am_lcmp, am_dup, am_dup2, am_pop1, am_fv, am_getf, am_putf, am_wr, am_ial, am_lal, am_bal, am_aal, am_ias, am_las, am_bas, am_alen, am_inst, am_cast, am_cpm, am_copy, am_tsw, am_pop, am_cat, am_cS, am_cI, am_cV, am_ri, am_rl, am_ra, am_rv, am_b1, am_b2, am_ent, am_en, am_isL, am_st1, am_st2, am_clr, am_cnd, cc_97, ac_97, nL_97, rb_97, np_4, ok_97_4, nL_4, vd_4_1, np_28, ok_97_28, nL_28, vd_28_4, np_34, ok_97_34, nL_34, vd_34_4, tg_11_2, tg_4_7, tg_4_9, tg_4_8, tg_11_4, List.getElem?_cons_succ, List.getElem?_cons_zero, nz_of, nzl_of, Int.toNat_add, Int.toNat_mul, tn_l, lt_t, lt_f, le_t, le_f, eq_t, eq_f, ltn_t, ltn_f, len_t, len_f, eqn_t, eqn_f, up_ne, up_up, sh_0, rf_0_2, sh_73, h0.1, h0.2.2.1, c0, c1]
    · rw [if_neg c1]
      rw [s1_iff [] 200]
      simp (disch := omega) [sz_s, sz_0, gx_s, hx_r, hx_c, hx_b, hx_s, hx_i, hx_n, kx_s, kx_n, kx_i, cx_d, up_at, am_ctl, am_step, am_i1, am_i2, am_i2d, am_l1, am_l2, am_l2d, am_ldi, am_ldl, am_lda, am_sti, am_sta, am_stl, am_inc, am_i2l, am_l2i, am_lcmp, am_dup, am_dup2, am_pop1, am_fv, am_getf, am_putf, am_wr, am_ial, am_lal, am_bal, am_aal, am_ias, am_las, am_bas, am_alen, am_inst, am_cast, am_cpm, am_copy, am_tsw, am_pop, am_cat, am_cS, am_cI, am_cV, am_ri, am_rl, am_ra, am_rv, am_b1, am_b2, am_ent, am_en, am_isL, am_st1, am_st2, am_clr, am_cnd, cc_97, ac_97, nL_97, rb_97, np_4, ok_97_4, nL_4, vd_4_1, np_28, ok_97_28, nL_28, vd_28_4, np_34, ok_97_34, nL_34, vd_34_4, tg_11_2, tg_4_7, tg_4_9, tg_4_8, tg_11_4, List.getElem?_cons_succ, List.getElem?_cons_zero, nz_of, nzl_of, Int.toNat_add, Int.toNat_mul, tn_l, lt_t, lt_f, le_t, le_f, eq_t, eq_f, ltn_t, ltn_f, len_t, len_f, eqn_t, eqn_f, up_ne, up_up, sh_0, rf_0_2, rf_0_4, sh_4, sh_73, h0.1, h0.2.1, h0.2.2.1, c0, wp_countedOfAll hL, wp_logNight hL (by omega)]
      rw [wp_add _ _ _ _ _ (by simpa [xlog, up_at] using hC.2.1) (by simpa [xlog, up_at] using hC.2.2.1)]
      simp (disch := omega) [sz_s, sz_0, gx_s, hx_r, hx_c, hx_b, hx_s, hx_i, hx_n, kx_s, kx_n, kx_i, cx_d, up_at, am_ctl, am_step, am_i1, am_i2, am_i2d, am_l1, am_l2, am_l2d, am_ldi, am_ldl, am_lda, am_sti, am_sta, am_stl, am_inc, am_i2l, am_l2i, am_lcmp, am_dup, am_dup2, am_pop1, am_fv, am_getf, am_putf, am_wr, am_ial, am_lal, am_bal, am_aal, am_ias, am_las, am_bas, am_alen, am_inst, am_cast, am_cpm, am_copy, am_tsw, am_pop, am_cat, am_cS, am_cI, am_cV, am_ri, am_rl, am_ra, am_rv, am_b1, am_b2, am_ent, am_en, am_isL, am_st1, am_st2, am_clr, am_cnd, cc_97, ac_97, nL_97, rb_97, np_4, ok_97_4, nL_4, vd_4_1, np_28, ok_97_28, nL_28, vd_28_4, np_34, ok_97_34, nL_34, vd_34_4, tg_11_2, tg_4_7, tg_4_9, tg_4_8, tg_11_4, List.getElem?_cons_succ, List.getElem?_cons_zero, nz_of, nzl_of, Int.toNat_add, Int.toNat_mul, tn_l, lt_t, lt_f, le_t, le_f, eq_t, eq_f, ltn_t, ltn_f, len_t, len_f, eqn_t, eqn_f, up_ne, up_up, sh_0, xnight]
def mlog (μ : Nat → Nat → Int) : Nat → Nat → Int := am_up (am_up (am_up (am_up μ 102 (101 + 3 * (μ 102 2).toNat) (inW (μ 102) 0 (μ 102 1))) 102 (101 + 3 * (μ 102 2).toNat + 1) (inW (μ 102) 1 (μ 102 1))) 102 (101 + 3 * (μ 102 2).toNat + 2) (inW (μ 102) 2 (μ 102 1))) 102 2 (μ 102 2 + 1)
def mnight (μ : Nat → Nat → Int) : Nat → Nat → Int := mminds (mlog μ) 5 0 0 1
set_option maxRecDepth 100000 in
theorem wm_night {μ : Nat → Nat → Int} (hW : WR (μ 102)) (h12 : 0 ≤ μ 101 12 ∧ μ 101 12 ≤ 60) (Φ : Option AV → ST → Prop) : wpM 202 [.inr (.inr (some 101))] (S μ) Φ ↔ (if μ 102 0 = 0 then Φ (some (.inl (-4))) (S μ) else if μ 102 2 = 30 then Φ (some (.inl (-2))) (S μ) else Φ (some (.inl (allW (μ 102) (μ 102 1)))) (S (mnight μ))) := by
  unfold wpM
  by_cases c0 : μ 102 0 = 0
  · rw [if_pos c0]
    rw [s1_iff [] 200]
    simp (disch := omega) [sz_s, sz_0, gx_s, hx_r, hx_c, hx_b, hx_s, hx_i, hx_n, kx_s, kx_n, kx_i, cx_d, up_at, am_ctl, am_step, am_i1, am_i2, am_i2d, am_l1, am_l2, am_l2d, am_ldi, am_ldl, am_lda, am_sti, am_sta, am_stl, am_inc, am_i2l, am_l2i, am_lcmp, am_dup, am_dup2, am_pop1, am_fv, am_getf, am_putf, am_wr, am_ial, am_lal, am_bal, am_aal, am_ias, am_las, am_bas, am_alen, am_inst, am_cast, am_cpm, am_copy, am_tsw, am_pop, am_cat, am_cS, am_cI, am_cV, am_ri, am_rl, am_ra, am_rv, am_b1, am_b2, am_ent, am_en, am_isL, am_st1, am_st2, am_clr, am_cnd, cc_202, ac_202, nL_202, rb_202, np_187, ok_202_187, nL_187, vd_187_12, np_192, ok_202_192, nL_192, vd_192_12, np_201, ok_202_201, nL_201, vd_201_12, tg_12_0, List.getElem?_cons_succ, List.getElem?_cons_zero, nz_of, nzl_of, Int.toNat_add, Int.toNat_mul, tn_l, lt_t, lt_f, le_t, le_f, eq_t, eq_f, ltn_t, ltn_f, len_t, len_f, eqn_t, eqn_f, up_ne, up_up, sh_101, sh_102, rf_101_0, c0]
  · rw [if_neg c0]
    by_cases c1 : μ 102 2 = 30
    · rw [if_pos c1]
      rw [s1_iff [] 200]
      simp (disch := omega) [sz_s, sz_0, gx_s, hx_r, hx_c, hx_b, hx_s, hx_i, hx_n, kx_s, kx_n, kx_i, cx_d, up_at, am_ctl, am_step, am_i1, am_i2, am_i2d, am_l1, am_l2, am_l2d, am_ldi, am_ldl, am_lda, am_sti, am_sta, am_stl, am_inc, am_i2l, am_l2i, am_lcmp, am_dup, am_dup2, am_pop1, am_fv, am_getf, am_putf, am_wr, am_ial, am_lal, am_bal, am_aal, am_ias, am_las, am_bas, am_alen, am_inst, am_cast, am_cpm, am_copy, am_tsw, am_pop, am_cat, am_cS, am_cI, am_cV, am_ri, am_rl, am_ra, am_rv, am_b1, am_b2, am_ent, am_en, am_isL, am_st1, am_st2, am_clr, am_cnd, cc_202, ac_202, nL_202, rb_202, np_187, ok_202_187, nL_187, vd_187_12, np_192, ok_202_192, nL_192, vd_192_12, np_201, ok_202_201, nL_201, vd_201_12, tg_12_0, List.getElem?_cons_succ, List.getElem?_cons_zero, nz_of, nzl_of, Int.toNat_add, Int.toNat_mul, tn_l, lt_t, lt_f, le_t, le_f, eq_t, eq_f, ltn_t, ltn_f, len_t, len_f, eqn_t, eqn_f, up_ne, up_up, sh_101, sh_102, rf_101_0, c0, c1]
    · rw [if_neg c1]
      have hw := hW
      obtain ⟨w0, w1, w2, -⟩ := hw
      obtain ⟨N, hN⟩ : ∃ N : Nat, μ 102 2 = N := ⟨(μ 102 2).toNat, by omega⟩
      have e1 : ∀ i, i < 37 → (am_up μ 102 (101 + 3 * N) (inW (μ 102) 0 (μ 102 1))) 102 i = μ 102 i := fun i hi => by simp only [up_at]; rw [if_neg (by omega)]
      have e2 : ∀ i, i < 37 → (am_up (am_up μ 102 (101 + 3 * N) (inW (μ 102) 0 (μ 102 1))) 102 (101 + 3 * N + 1) (inW (μ 102) 1 (μ 102 1))) 102 i = μ 102 i := fun i hi => by simp only [up_at]; rw [if_neg (by omega), if_neg (by omega)]
      have n8 := (wr_n hW).2.2
      have K0 := wn_sackOf hW 0
      have K1 := wn_sackOf (WR_as hW e1) 1
      have K2 := wn_sackOf (WR_as hW e2) 2
      rw [inW_as e1 n8, e1 1 (by omega)] at K1
      rw [inW_as e2 n8, e2 1 (by omega)] at K2
      have A := wn_allCounted hW (μ 102 1) w1.1
      have hN30 : N < 30 := by omega
      rw [s1_iff [] 200]
      simp (disch := omega) [sz_s, sz_0, gx_s, hx_r, hx_c, hx_b, hx_s, hx_i, hx_n, kx_s, kx_n, kx_i, cx_d, up_at, am_ctl, am_step, am_i1, am_i2, am_i2d, am_l1, am_l2, am_l2d, am_ldi, am_ldl, am_lda, am_sti, am_sta, am_stl, am_inc, am_i2l, am_l2i, am_lcmp, am_dup, am_dup2, am_pop1, am_fv, am_getf, am_putf, am_wr, am_ial, am_lal, am_bal, am_aal, am_ias, am_las, am_bas, am_alen, am_inst, am_cast, am_cpm, am_copy, am_tsw, am_pop, am_cat, am_cS, am_cI, am_cV, am_ri, am_rl, am_ra, am_rv, am_b1, am_b2, am_ent, am_en, am_isL, am_st1, am_st2, am_clr, am_cnd, cc_202, ac_202, nL_202, rb_202, np_187, ok_202_187, nL_187, vd_187_12, np_192, ok_202_192, nL_192, vd_192_12, np_201, ok_202_201, nL_201, vd_201_12, tg_12_0, List.getElem?_cons_succ, List.getElem?_cons_zero, nz_of, nzl_of, Int.toNat_add, Int.toNat_mul, tn_l, lt_t, lt_f, le_t, le_f, eq_t, eq_f, ltn_t, ltn_f, len_t, len_f, eqn_t, eqn_f, up_ne, up_up, sh_101, sh_102, rf_101_0, c0, A, hN, K0]
      simp (disch := omega) [sz_s, sz_0, gx_s, hx_r, hx_c, hx_b, hx_s, hx_i, hx_n, kx_s, kx_n, kx_i, cx_d, up_at, am_ctl, am_step, am_i1, am_i2, am_i2d, am_l1, am_l2, am_l2d, am_ldi, am_ldl, am_lda, am_sti, am_sta, am_stl, am_inc, am_i2l, am_l2i, am_lcmp, am_dup, am_dup2, am_pop1, am_fv, am_getf, am_putf, am_wr, am_ial, am_lal, am_bal, am_aal, am_ias, am_las, am_bas, am_alen, am_inst, am_cast, am_cpm, am_copy, am_tsw, am_pop, am_cat, am_cS, am_cI, am_cV, am_ri, am_rl, am_ra, am_rv, am_b1, am_b2, am_ent, am_en, am_isL, am_st1, am_st2, am_clr, am_cnd, cc_202, ac_202, nL_202, rb_202, np_187, ok_202_187, nL_187, vd_187_12, np_192, ok_202_192, nL_192, vd_192_12, np_201, ok_202_201, nL_201, vd_201_12, tg_12_0, List.getElem?_cons_succ, List.getElem?_cons_zero, nz_of, nzl_of, Int.toNat_add, Int.toNat_mul, tn_l, lt_t, lt_f, le_t, le_f, eq_t, eq_f, ltn_t, ltn_f, len_t, len_f, eqn_t, eqn_f, up_ne, up_up, sh_101, sh_102, rf_101_0, hN, K1]
      simp (disch := omega) [sz_s, sz_0, gx_s, hx_r, hx_c, hx_b, hx_s, hx_i, hx_n, kx_s, kx_n, kx_i, cx_d, up_at, am_ctl, am_step, am_i1, am_i2, am_i2d, am_l1, am_l2, am_l2d, am_ldi, am_ldl, am_lda, am_sti, am_sta, am_stl, am_inc, am_i2l, am_l2i, am_lcmp, am_dup, am_dup2, am_pop1, am_fv, am_getf, am_putf, am_wr, am_ial, am_lal, am_bal, am_aal, am_ias, am_las, am_bas, am_alen, am_inst, am_cast, am_cpm, am_copy, am_tsw, am_pop, am_cat, am_cS, am_cI, am_cV, am_ri, am_rl, am_ra, am_rv, am_b1, am_b2, am_ent, am_en, am_isL, am_st1, am_st2, am_clr, am_cnd, cc_202, ac_202, nL_202, rb_202, np_187, ok_202_187, nL_187, vd_187_12, np_192, ok_202_192, nL_192, vd_192_12, np_201, ok_202_201, nL_201, vd_201_12, tg_12_0, List.getElem?_cons_succ, List.getElem?_cons_zero, nz_of, nzl_of, Int.toNat_add, Int.toNat_mul, tn_l, lt_t, lt_f, le_t, le_f, eq_t, eq_f, ltn_t, ltn_f, len_t, len_f, eqn_t, eqn_f, up_ne, up_up, sh_101, sh_102, rf_101_0, hN, K2]
      rw [wm_minds _ _ _ _ _ (by simpa [up_at] using h12)]
      simp (disch := omega) [sz_s, sz_0, gx_s, hx_r, hx_c, hx_b, hx_s, hx_i, hx_n, kx_s, kx_n, kx_i, cx_d, up_at, am_ctl, am_step, am_i1, am_i2, am_i2d, am_l1, am_l2, am_l2d, am_ldi, am_ldl, am_lda, am_sti, am_sta, am_stl, am_inc, am_i2l, am_l2i, am_lcmp, am_dup, am_dup2, am_pop1, am_fv, am_getf, am_putf, am_wr, am_ial, am_lal, am_bal, am_aal, am_ias, am_las, am_bas, am_alen, am_inst, am_cast, am_cpm, am_copy, am_tsw, am_pop, am_cat, am_cS, am_cI, am_cV, am_ri, am_rl, am_ra, am_rv, am_b1, am_b2, am_ent, am_en, am_isL, am_st1, am_st2, am_clr, am_cnd, cc_202, ac_202, nL_202, rb_202, np_187, ok_202_187, nL_187, vd_187_12, np_192, ok_202_192, nL_192, vd_192_12, np_201, ok_202_201, nL_201, vd_201_12, tg_12_0, List.getElem?_cons_succ, List.getElem?_cons_zero, nz_of, nzl_of, Int.toNat_add, Int.toNat_mul, tn_l, lt_t, lt_f, le_t, le_f, eq_t, eq_f, ltn_t, ltn_f, len_t, len_f, eqn_t, eqn_f, up_ne, up_up, sh_101, mnight, mlog, hN]
