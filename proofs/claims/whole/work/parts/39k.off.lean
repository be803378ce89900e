/-! off, liar, best: equal on both sides -/
def absZ (a : Int) : Int := if a < 0 then -a else a
theorem absZ_nz {a : Int} (h : -100000 ≤ a ∧ a ≤ 100000) : (if a < 0 then nz (-a) else a) = absZ a := by
  unfold absZ; rw [nz_of (by omega) (by omega)]
theorem absZ_e (a : Int) : (if a < 0 then -a else a) = absZ a := rfl
theorem absZ_rng {a b : Int} (h : -b ≤ a ∧ a ≤ b) : 0 ≤ absZ a ∧ absZ a ≤ b := by unfold absZ; split <;> omega
def lieW (w : Nat → Int) (h : Nat) : Int := cntW w h (w 1) - w (21 + h)
theorem lieW_rng {B : Int} {μ : Nat → Nat → Int} (hL : LD B μ 73 0) {h : Nat} (hh : h < nW (μ 102)) : -9 ≤ lieW (μ 102) h ∧ lieW (μ 102) h ≤ 31 := by
  have := ld_c hL hh (μ 102 1)
  have := ld_h hL hh
  unfold lieW; omega
def jkW (f : Nat → Int) : Nat → Option AV
  | 0 => none
  | j + 1 => some (.inl (f j))
/-- an answer told alike on both sides; no more has changed -/
theorem INV_ans {B : Int} {μ ν : Nat → Nat → Int} (h : INV B μ) (e : ∀ k i, (4 ≤ k ∧ k ≤ 8) ∨ (46 ≤ k ∧ k ≤ 65) ∨ (73 ≤ k ∧ k ≤ 100) ∨ (102 ≤ k ∧ k ≤ 107) ∨ k = 109 ∨ (k = 101 ∧ i = 12) → ν k i = μ k i) (f1 : ν 0 9 = μ 0 9) (f2 : ν 101 7 = μ 101 7) (f3 : ∀ i, ν 45 i = μ 45 i) (f4 : ∀ i, ν 108 i = μ 108 i) (q1 : ν 0 10 = ν 101 8) (q2 : ν 0 11 = ν 101 9) (q3 : ν 0 12 = ν 101 10) : INV B ν := by
  refine INV_of h ⟨by rw [f1, f2]; exact h.1.1, q1, q2, q3, fun g hg => by rw [f3, f4]; exact h.1.2.2.2.2 g hg⟩ e
theorem INV_told3 {B : Int} {μ : Nat → Nat → Int} (h : INV B μ) (u d t : Int) : INV B (am_up (am_up (am_up (am_up (am_up (am_up μ 0 11 u) 0 12 d) 0 10 t) 101 9 u) 101 10 d) 101 8 t) := by
  refine INV_ans h (fun k i hk => ?_) (by simp [up_at]) (by simp [up_at]) (fun i => by simp [up_at]) (fun i => by simp [up_at]) (by simp [up_at]) (by simp [up_at]) (by simp [up_at])
  simp only [up_at]
  repeat rw [if_neg (by omega)]
set_option maxRecDepth 100000 in
theorem wp_lie' {B : Int} {μ : Nat → Nat → Int} (hL : LD B μ 73 0) {h : Nat} (hh : h < nW (μ 102)) (Φ : Option AV → ST → Prop) : wpM 26 [.inr (.inr (some 73)), .inl h] (S μ) Φ ↔ Φ (some (.inl (lieW (μ 102) h))) (S μ) := wp_lie hL hh Φ
set_option maxRecDepth 100000 in
theorem wp_off {B : Int} {μ : Nat → Nat → Int} (hL : LD B μ 73 0) (Φ : Option AV → ST → Prop) (k : Φ (some (.inl 1)) (S (am_up (am_up (am_up μ 0 11 (sumZ (fun h => absZ (lieW (μ 102) h)) (nW (μ 102)))) 0 12 1) 0 10 (sumZ (lieW (μ 102)) (nW (μ 102)))))) : wpM 104 [.inr (.inr (some 0))] (S μ) Φ := by
  have e0 := ld_n hL
  have r0 : ∀ i, i < nW (μ 102) → 0 ≤ absZ (lieW (μ 102) i) ∧ absZ (lieW (μ 102) i) ≤ 31 := fun i hi => by
    have := lieW_rng hL hi
    exact absZ_rng (by omega)
  have step : ∀ j, j < nW (μ 102) → ((fun j : Nat => wpS 104 6 [some (.inr (.inr (some 0))), some (.inl (sumZ (lieW (μ 102)) j)), some (.inl (sumZ (fun h => absZ (lieW (μ 102) h)) j)), some (.inl j), jkW (lieW (μ 102)) j] [] (S μ) Φ) j ↔ (fun j : Nat => wpS 104 6 [some (.inr (.inr (some 0))), some (.inl (sumZ (lieW (μ 102)) j)), some (.inl (sumZ (fun h => absZ (lieW (μ 102) h)) j)), some (.inl j), jkW (lieW (μ 102)) j] [] (S μ) Φ) (j + 1)) := by
    intro j hj
    have r1 := sumZ_rng (f := fun h => absZ (lieW (μ 102) h)) (n := j) (fun i hi => r0 i (by omega))
    have r2 := r0 j hj
    have r3 := sumZ_rng (f := lieW (μ 102)) (n := j) (fun i hi => lieW_rng hL (h := i) (by omega))
    have r4 := lieW_rng hL hj
    have ab := absZ_nz (a := lieW (μ 102) j) (by omega)
    dsimp only [jkW]
    rw [sumZ_s, sumZ_s]
    try dsimp only
    rw [s1_iff [6] 200]
    simp (disch := omega) [sz_s, sz_0, gx_s, hx_r, hx_c, hx_b, hx_s, hx_i, hx_n, kx_s, kx_n, kx_i, cx_d, up_at, am_ctl, am_step, am_i1, am_i2, am_i2d, am_l1, am_l2, am_l2d, am_ldi, am_ldl, am_lda, am_sti, am_sta, am_stl, am_inc, am_i2l, am_l2i, am_lcmp, am_dup, am_dup2, am_pop1, am_fv, am_getf, am_putf, am_wr, am_ial, am_lal, am_bal, am_aal, am_ias, am_las, am_bas, am_alen, am_inst, am_cast, am_cpm, am_copy, am_tsw, am_pop, am_cat, am_cS, am_cI, am_cV, am_ri, am_rl, am_ra, am_rv, am_b1, am_b2, am_ent, am_en, am_isL, am_st1, am_st2, am_clr, am_cnd, cc_104, ac_104, nL_104, rb_104, np_252, ok_104_252, nL_252, np_26, ok_104_26, nL_26, vd_26_4, np_134, ok_104_134, nL_134, vd_134_11, np_135, ok_104_135, nL_135, vd_135_11, tg_11_2, tg_4_7, List.getElem?_cons_succ, List.getElem?_cons_zero, nz_of, nzl_of, Int.toNat_add, Int.toNat_mul, tn_l, lt_t, lt_f, le_t, le_f, eq_t, eq_f, ltn_t, ltn_f, len_t, len_f, eqn_t, eqn_f, up_ne, up_up, sh_0, rf_0_2, sh_73, e0.1, wp_lie' hL hj, wp_abs, absZ_e, hj]
  have s0 := up_iff _ (nW (μ 102)) step
  have r1 := sumZ_rng (f := fun h => absZ (lieW (μ 102) h)) (n := nW (μ 102)) r0
  unfold wpM
  rw [s1_iff [6] 200]
  simp (disch := omega) [sz_s, sz_0, gx_s, hx_r, hx_c, hx_b, hx_s, hx_i, hx_n, kx_s, kx_n, kx_i, cx_d, up_at, am_ctl, am_step, am_i1, am_i2, am_i2d, am_l1, am_l2, am_l2d, am_ldi, am_ldl, am_lda, am_sti, am_sta, am_stl, am_inc, am_i2l, am_l2i, am_lcmp, am_dup, am_dup2, am_pop1, am_fv, am_getf, am_putf, am_wr, am_ial, am_lal, am_bal, am_aal, am_ias, am_las, am_bas, am_alen, am_inst, am_cast, am_cpm, am_copy, am_tsw, am_pop, am_cat, am_cS, am_cI, am_cV, am_ri, am_rl, am_ra, am_rv, am_b1, am_b2, am_ent, am_en, am_isL, am_st1, am_st2, am_clr, am_cnd, cc_104, ac_104, nL_104, rb_104, np_252, ok_104_252, nL_252, np_26, ok_104_26, nL_26, vd_26_4, np_134, ok_104_134, nL_134, vd_134_11, np_135, ok_104_135, nL_135, vd_135_11, tg_11_2, tg_4_7, List.getElem?_cons_succ, List.getElem?_cons_zero, nz_of, nzl_of, Int.toNat_add, Int.toNat_mul, tn_l, lt_t, lt_f, le_t, le_f, eq_t, eq_f, ltn_t, ltn_f, len_t, len_f, eqn_t, eqn_f, up_ne, up_up, sh_0, rf_0_2]
  refine s0.mpr ?_
  obtain ⟨x, hx⟩ : ∃ x : Nat, sumZ (fun h => absZ (lieW (μ 102) h)) (nW (μ 102)) = x := ⟨(sumZ (fun h => absZ (lieW (μ 102) h)) (nW (μ 102))).toNat, by omega⟩
  rw [hx] at k ⊢
  rw [s1_iff [6] 200]
  simp (disch := omega) [sz_s, sz_0, gx_s, hx_r, hx_c, hx_b, hx_s, hx_i, hx_n, kx_s, kx_n, kx_i, cx_d, up_at, am_ctl, am_step, am_i1, am_i2, am_i2d, am_l1, am_l2, am_l2d, am_ldi, am_ldl, am_lda, am_sti, am_sta, am_stl, am_inc, am_i2l, am_l2i, am_lcmp, am_dup, am_dup2, am_pop1, am_fv, am_getf, am_putf, am_wr, am_ial, am_lal, am_bal, am_aal, am_ias, am_las, am_bas, am_alen, am_inst, am_cast, am_cpm, am_copy, am_tsw, am_pop, am_cat, am_cS, am_cI, am_cV, am_ri, am_rl, am_ra, am_rv, am_b1, am_b2, am_ent, am_en, am_isL, am_st1, am_st2, am_clr, am_cnd, cc_104, ac_104, nL_104, rb_104, np_252, ok_104_252, nL_252, np_26, ok_104_26, nL_26, vd_26_4, np_134, ok_104_134, nL_134, vd_134_11, np_135, ok_104_135, nL_135, vd_135_11, tg_11_2, tg_4_7, List.getElem?_cons_succ, List.getElem?_cons_zero, nz_of, nzl_of, Int.toNat_add, Int.toNat_mul, tn_l, lt_t, lt_f, le_t, le_f, eq_t, eq_f, ltn_t, ltn_f, len_t, len_f, eqn_t, eqn_f, up_ne, up_up, sh_0, rf_0_2, sh_73, e0.1]
  refine wp_tellFraction x 1 (by omega) (by omega) μ _ ?_
  rw [Nat.gcd_one_left, Nat.div_one, Nat.div_one]
  simp (disch := omega) [sz_s, sz_0, gx_s, hx_r, hx_c, hx_b, hx_s, hx_i, hx_n, kx_s, kx_n, kx_i, cx_d, up_at, am_ctl, am_step, am_i1, am_i2, am_i2d, am_l1, am_l2, am_l2d, am_ldi, am_ldl, am_lda, am_sti, am_sta, am_stl, am_inc, am_i2l, am_l2i, am_lcmp, am_dup, am_dup2, am_pop1, am_fv, am_getf, am_putf, am_wr, am_ial, am_lal, am_bal, am_aal, am_ias, am_las, am_bas, am_alen, am_inst, am_cast, am_cpm, am_copy, am_tsw, am_pop, am_cat, am_cS, am_cI, am_cV, am_ri, am_rl, am_ra, am_rv, am_b1, am_b2, am_ent, am_en, am_isL, am_st1, am_st2, am_clr, am_cnd, cc_104, ac_104, nL_104, rb_104, np_252, ok_104_252, nL_252, np_26, ok_104_26, nL_26, vd_26_4, np_134, ok_104_134, nL_134, vd_134_11, np_135, ok_104_135, nL_135, vd_135_11, tg_11_2, tg_4_7, List.getElem?_cons_succ, List.getElem?_cons_zero, nz_of, nzl_of, Int.toNat_add, Int.toNat_mul, tn_l, lt_t, lt_f, le_t, le_f, eq_t, eq_f, ltn_t, ltn_f, len_t, len_f, eqn_t, eqn_f, up_ne, up_up, sh_0, wp_tell]
  exact k
set_option maxRecDepth 100000 in
theorem wm_off {B : Int} {μ : Nat → Nat → Int} (hL : LD B μ 73 0) (Φ : Option AV → ST → Prop) : wpM 210 [.inr (.inr (some 101))] (S μ) Φ ↔ Φ (some (.inl 1)) (S (am_up (am_up (am_up μ 101 9 (sumZ (fun h => absZ (lieW (μ 102) h)) (nW (μ 102)))) 101 10 1) 101 8 (sumZ (lieW (μ 102)) (nW (μ 102))))) := by
  have e0 := ld_n hL
  have l0 := ld_0 hL
  have r0 : ∀ i, i < nW (μ 102) → 0 ≤ absZ (lieW (μ 102) i) ∧ absZ (lieW (μ 102) i) ≤ 31 := fun i hi => by
    have := lieW_rng hL hi
    exact absZ_rng (by omega)
  have step : ∀ j, j < nW (μ 102) → ((fun j : Nat => wpS 210 4 [some (.inr (.inr (some 101))), some (.inr (.inl (sumZ (fun h => absZ (lieW (μ 102) h)) j))), none, some (.inl j)] [] (S μ) Φ) j ↔ (fun j : Nat => wpS 210 4 [some (.inr (.inr (some 101))), some (.inr (.inl (sumZ (fun h => absZ (lieW (μ 102) h)) j))), none, some (.inl j)] [] (S μ) Φ) (j + 1)) := by
    intro j hj
    have lh := ld_h hL hj
    have lc := ld_c hL hj (μ 102 1)
    have r1 := sumZ_rng (f := fun h => absZ (lieW (μ 102) h)) (n := j) (fun i hi => r0 i (by omega))
    have r2 := r0 j hj
    have ab := absZ_nz (a := lieW (μ 102) j) (by have := lieW_rng hL hj; omega)
    have e5 : cntW (μ 102) j (μ 102 1) - μ 102 (21 + j) = lieW (μ 102) j := rfl
    dsimp only
    rw [sumZ_s]
    try dsimp only
    rw [s1_iff [4] 200]
    simp (disch := omega) [sz_s, sz_0, gx_s, hx_r, hx_c, hx_b, hx_s, hx_i, hx_n, kx_s, kx_n, kx_i, cx_d, up_at, am_ctl, am_step, am_i1, am_i2, am_i2d, am_l1, am_l2, am_l2d, am_ldi, am_ldl, am_lda, am_sti, am_sta, am_stl, am_inc, am_i2l, am_l2i, am_lcmp, am_dup, am_dup2, am_pop1, am_fv, am_getf, am_putf, am_wr, am_ial, am_lal, am_bal, am_aal, am_ias, am_las, am_bas, am_alen, am_inst, am_cast, am_cpm, am_copy, am_tsw, am_pop, am_cat, am_cS, am_cI, am_cV, am_ri, am_rl, am_ra, am_rv, am_b1, am_b2, am_ent, am_en, am_isL, am_st1, am_st2, am_clr, am_cnd, cc_210, ac_210, nL_210, rb_210, np_159, ok_210_159, nL_159, np_161, ok_210_161, nL_161, vd_161_12, np_186, ok_210_186, nL_186, vd_186_12, np_187, ok_210_187, nL_187, vd_187_12, np_188, ok_210_188, nL_188, vd_188_12, tg_12_0, List.getElem?_cons_succ, List.getElem?_cons_zero, nz_of, nzl_of, Int.toNat_add, Int.toNat_mul, tn_l, lt_t, lt_f, le_t, le_f, eq_t, eq_f, ltn_t, ltn_f, len_t, len_f, eqn_t, eqn_f, up_ne, up_up, sh_101, sh_102, rf_101_0, e0.2.1, wm_countedOf hL hj _ l0.2.2.2.2.2.2.1.1, e5, wm_sizeOf, absZ_e, hj]
  have s0 := up_iff _ (nW (μ 102)) step
  have eT : allW (μ 102) (μ 102 1) - mouW (μ 102) = sumZ (lieW (μ 102)) (nW (μ 102)) := (sumZ_sub _ _ _).symm
  have ra := sumZ_rng (f := fun h => cntW (μ 102) h (μ 102 1)) (n := nW (μ 102)) (fun i hi => ld_c hL hi (μ 102 1))
  have rm := sumZ_rng (f := fun h => μ 102 (21 + h)) (n := nW (μ 102)) (fun i hi => (ld_h hL hi).2.2.2.1)
  have ra' : 0 * (nW (μ 102) : Int) ≤ allW (μ 102) (μ 102 1) ∧ allW (μ 102) (μ 102 1) ≤ 31 * (nW (μ 102) : Int) := ra
  have rm' : 0 * (nW (μ 102) : Int) ≤ mouW (μ 102) ∧ mouW (μ 102) ≤ 9 * (nW (μ 102) : Int) := rm
  generalize hX : sumZ (fun h => absZ (lieW (μ 102) h)) (nW (μ 102)) = X at *
  have K1 := wm_allCounted (LD_up (LD_up hL 101 9 X (by decide) (by decide)) 101 10 1 (by decide) (by decide)) (μ 102 1) l0.2.2.2.2.2.2.1.1
  have K2 := wm_mouths (LD_up (LD_up hL 101 9 X (by decide) (by decide)) 101 10 1 (by decide) (by decide))
  rw [up_ne _ _ _ (by decide), up_ne _ _ _ (by decide)] at K1 K2
  unfold wpM
  rw [s1_iff [4] 200]
  simp (disch := omega) [sz_s, sz_0, gx_s, hx_r, hx_c, hx_b, hx_s, hx_i, hx_n, kx_s, kx_n, kx_i, cx_d, up_at, am_ctl, am_step, am_i1, am_i2, am_i2d, am_l1, am_l2, am_l2d, am_ldi, am_ldl, am_lda, am_sti, am_sta, am_stl, am_inc, am_i2l, am_l2i, am_lcmp, am_dup, am_dup2, am_pop1, am_fv, am_getf, am_putf, am_wr, am_ial, am_lal, am_bal, am_aal, am_ias, am_las, am_bas, am_alen, am_inst, am_cast, am_cpm, am_copy, am_tsw, am_pop, am_cat, am_cS, am_cI, am_cV, am_ri, am_rl, am_ra, am_rv, am_b1, am_b2, am_ent, am_en, am_isL, am_st1, am_st2, am_clr, am_cnd, cc_210, ac_210, nL_210, rb_210, np_159, ok_210_159, nL_159, np_161, ok_210_161, nL_161, vd_161_12, np_186, ok_210_186, nL_186, vd_186_12, np_187, ok_210_187, nL_187, vd_187_12, np_188, ok_210_188, nL_188, vd_188_12, tg_12_0, List.getElem?_cons_succ, List.getElem?_cons_zero, nz_of, nzl_of, Int.toNat_add, Int.toNat_mul, tn_l, lt_t, lt_f, le_t, le_f, eq_t, eq_f, ltn_t, ltn_f, len_t, len_f, eqn_t, eqn_f, up_ne, up_up, sh_101]
  refine s0.trans ?_
  rw [s1_iff [4] 200]
  simp (disch := omega) [sz_s, sz_0, gx_s, hx_r, hx_c, hx_b, hx_s, hx_i, hx_n, kx_s, kx_n, kx_i, cx_d, up_at, am_ctl, am_step, am_i1, am_i2, am_i2d, am_l1, am_l2, am_l2d, am_ldi, am_ldl, am_lda, am_sti, am_sta, am_stl, am_inc, am_i2l, am_l2i, am_lcmp, am_dup, am_dup2, am_pop1, am_fv, am_getf, am_putf, am_wr, am_ial, am_lal, am_bal, am_aal, am_ias, am_las, am_bas, am_alen, am_inst, am_cast, am_cpm, am_copy, am_tsw, am_pop, am_cat, am_cS, am_cI, am_cV, am_ri, am_rl, am_ra, am_rv, am_b1, am_b2, am_ent, am_en, am_isL, am_st1, am_st2, am_clr, am_cnd, cc_210, ac_210, nL_210, rb_210, np_159, ok_210_159, nL_159, np_161, ok_210_161, nL_161, vd_161_12, np_186, ok_210_186, nL_186, vd_186_12, np_187, ok_210_187, nL_187, vd_187_12, np_188, ok_210_188, nL_188, vd_188_12, tg_12_0, List.getElem?_cons_succ, List.getElem?_cons_zero, nz_of, nzl_of, Int.toNat_add, Int.toNat_mul, tn_l, lt_t, lt_f, le_t, le_f, eq_t, eq_f, ltn_t, ltn_f, len_t, len_f, eqn_t, eqn_f, up_ne, up_up, sh_101, sh_102, rf_101_0, e0.2.1, K1, K2, wm_tells, eT]
theorem eq_off {B : Int} {μ : Nat → Nat → Int} (h : INV B μ) : EQV B μ 104 210 [] := by
  have hL : LD B μ 73 0 := h.2.2.2.1
  unfold EQV
  refine wp_off hL _ ⟨_, _, rfl, rfl, ?_⟩
  rw [wm_off (LD_up (LD_up (LD_up hL _ _ _ (by decide) (by decide)) _ _ _ (by decide) (by decide)) _ _ _ (by decide) (by decide))]
  simp (disch := omega) only [up_ne]
  exact ⟨trivial, _, rfl, INV_told3 h _ _ _⟩
def lbW (w : Nat → Int) : Nat → Nat
  | 0 => 0
  | j + 1 => if absZ (lieW w (lbW w j)) < absZ (lieW w j) then j else lbW w j
theorem lbW_lt (w : Nat → Int) : ∀ j, 0 < j → lbW w j < j
  | 0, h => absurd h (by omega)
  | 1, _ => by simp [lbW]
  | j + 2, _ => by
    have := lbW_lt w (j + 1) (by omega)
    rw [lbW]; split <;> omega
theorem lbW_1 (w : Nat → Int) : lbW w 1 = 0 := by simp [lbW]
set_option maxRecDepth 100000 in
theorem wp_liar {B : Int} {μ : Nat → Nat → Int} (hL : LD B μ 73 0) (Φ : Option AV → ST → Prop) : wpM 105 [.inr (.inr (some 0))] (S μ) Φ ↔ (if nW (μ 102) = 0 then Φ (some (.inl (-4))) (S μ) else Φ (some (.inl (lbW (μ 102) (nW (μ 102))))) (S (am_up μ 0 10 (lieW (μ 102) (lbW (μ 102) (nW (μ 102))))))) := by
  have e0 := ld_n hL
  by_cases c : nW (μ 102) = 0
  · rw [if_pos c]
    unfold wpM
    rw [s1_iff [] 200]
    simp (disch := omega) [sz_s, sz_0, gx_s, hx_r, hx_c, hx_b, hx_s, hx_i, hx_n, kx_s, kx_n, kx_i, cx_d, up_at, am_ctl, am_step, am_i1, am_i2, am_i2d, am_l1, am_l2, am_l2d, am_ldi, am_ldl, am_lda, am_sti, am_sta, am_stl, am_inc, am_i2l, am_l2i, am_lcmp, am_dup, am_dup2, am_pop1, am_fv, am_getf, am_putf, am_wr, am_ial, am_lal, am_bal, am_aal, am_ias, am_las, am_bas, am_alen, am_inst, am_cast, am_cpm, am_copy, am_tsw, am_pop, am_cat, am_cS, am_cI, am_cV, am_ri, am_rl, am_ra, am_rv, am_b1, am_b2, am_ent, am_en, am_isL, am_st1, am_st2, am_clr, am_cnd, cc_105, ac_105, nL_105, rb_105, np_252, ok_105_252, nL_252, np_26, ok_105_26, nL_26, vd_26_4, np_134, ok_105_134, nL_134, vd_134_11, tg_11_2, tg_4_7, List.getElem?_cons_succ, List.getElem?_cons_zero, nz_of, nzl_of, Int.toNat_add, Int.toNat_mul, tn_l, lt_t, lt_f, le_t, le_f, eq_t, eq_f, ltn_t, ltn_f, len_t, len_f, eqn_t, eqn_f, up_ne, up_up, sh_0, rf_0_2, sh_73, e0.1, c]
  · rw [if_neg c]
    obtain ⟨m, hm⟩ : ∃ m, nW (μ 102) = m + 1 := ⟨nW (μ 102) - 1, by omega⟩
    have step : ∀ j, j < m → ((fun j : Nat => wpS 105 17 [some (.inr (.inr (some 0))), some (.inl (lbW (μ 102) (j + 1))), some (.inl ((j : Int) + 1))] [] (S μ) Φ) j ↔ (fun j : Nat => wpS 105 17 [some (.inr (.inr (some 0))), some (.inl (lbW (μ 102) (j + 1))), some (.inl ((j : Int) + 1))] [] (S μ) Φ) (j + 1)) := by
      intro j hj
      have lt := lbW_lt (μ 102) (j + 1) (by omega)
      have q1 := wp_lie' hL (h := j + 1) (by omega)
      have q2 := wp_lie' hL (h := lbW (μ 102) (j + 1)) (by omega)
      have a1 := absZ_nz (a := lieW (μ 102) (j + 1)) (by have := lieW_rng hL (h := j + 1) (by omega); omega)
      have a2 := absZ_nz (a := lieW (μ 102) (lbW (μ 102) (j + 1))) (by have := lieW_rng hL (h := lbW (μ 102) (j + 1)) (by omega); omega)
      simp only [Int.natCast_add, Int.natCast_one] at q1
      have hj8 : j < 8 := by omega
      have ex : lbW (μ 102) (j + 1 + 1) = if absZ (lieW (μ 102) (lbW (μ 102) (j + 1))) < absZ (lieW (μ 102) (j + 1)) then j + 1 else lbW (μ 102) (j + 1) := rfl
      dsimp only
      rw [ex]
      have es : (j : Int) + 1 < (nW (μ 102) : Int) := by omega
      by_cases cc : absZ (lieW (μ 102) (lbW (μ 102) (j + 1))) < absZ (lieW (μ 102) (j + 1))
      · rw [if_pos cc]
        rw [s1_iff [17] 200]
        simp (disch := omega) [sz_s, sz_0, gx_s, hx_r, hx_c, hx_b, hx_s, hx_i, hx_n, kx_s, kx_n, kx_i, cx_d, up_at, am_ctl, am_step, am_i1, am_i2, am_i2d, am_l1, am_l2, am_l2d, am_ldi, am_ldl, am_lda, am_sti, am_sta, am_stl, am_inc, am_i2l, am_l2i, am_lcmp, am_dup, am_dup2, am_pop1, am_fv, am_getf, am_putf, am_wr, am_ial, am_lal, am_bal, am_aal, am_ias, am_las, am_bas, am_alen, am_inst, am_cast, am_cpm, am_copy, am_tsw, am_pop, am_cat, am_cS, am_cI, am_cV, am_ri, am_rl, am_ra, am_rv, am_b1, am_b2, am_ent, am_en, am_isL, am_st1, am_st2, am_clr, am_cnd, cc_105, ac_105, nL_105, rb_105, np_252, ok_105_252, nL_252, np_26, ok_105_26, nL_26, vd_26_4, np_134, ok_105_134, nL_134, vd_134_11, tg_11_2, tg_4_7, List.getElem?_cons_succ, List.getElem?_cons_zero, nz_of, nzl_of, Int.toNat_add, Int.toNat_mul, tn_l, lt_t, lt_f, le_t, le_f, eq_t, eq_f, ltn_t, ltn_f, len_t, len_f, eqn_t, eqn_f, up_ne, up_up, sh_0, rf_0_2, sh_73, e0.1, q1, q2, wp_abs, absZ_e, cc, es]
      · rw [if_neg cc]
        rw [s1_iff [17] 200]
        simp (disch := omega) [sz_s, sz_0, gx_s, hx_r, hx_c, hx_b, hx_s, hx_i, hx_n, kx_s, kx_n, kx_i, cx_d, up_at, am_ctl, am_step, am_i1, am_i2, am_i2d, am_l1, am_l2, am_l2d, am_ldi, am_ldl, am_lda, am_sti, am_sta, am_stl, am_inc, am_i2l, am_l2i, am_lcmp, am_dup, am_dup2, am_pop1, am_fv, am_getf, am_putf, am_wr, am_ial, am_lal, am_bal, am_aal, am_ias, am_las, am_bas, am_alen, am_inst, am_cast, am_cpm, am_copy, am_tsw, am_pop, am_cat, am_cS, am_cI, am_cV, am_ri, am_rl, am_ra, am_rv, am_b1, am_b2, am_ent, am_en, am_isL, am_st1, am_st2, am_clr, am_cnd, cc_105, ac_105, nL_105, rb_105, np_252, ok_105_252, nL_252, np_26, ok_105_26, nL_26, vd_26_4, np_134, ok_105_134, nL_134, vd_134_11, tg_11_2, tg_4_7, List.getElem?_cons_succ, List.getElem?_cons_zero, nz_of, nzl_of, Int.toNat_add, Int.toNat_mul, tn_l, lt_t, lt_f, le_t, le_f, eq_t, eq_f, ltn_t, ltn_f, len_t, len_f, eqn_t, eqn_f, up_ne, up_up, sh_0, rf_0_2, sh_73, e0.1, q1, q2, wp_abs, absZ_e, cc, es]
    have s0 := up_iff _ m step
    have lt := lbW_lt (μ 102) (m + 1) (by omega)
    have q2 := wp_lie' hL (h := lbW (μ 102) (m + 1)) (by omega)
    rw [lbW_1] at s0
    rw [hm]
    unfold wpM
    rw [s1_iff [17] 200]
    simp (disch := omega) [sz_s, sz_0, gx_s, hx_r, hx_c, hx_b, hx_s, hx_i, hx_n, kx_s, kx_n, kx_i, cx_d, up_at, am_ctl, am_step, am_i1, am_i2, am_i2d, am_l1, am_l2, am_l2d, am_ldi, am_ldl, am_lda, am_sti, am_sta, am_stl, am_inc, am_i2l, am_l2i, am_lcmp, am_dup, am_dup2, am_pop1, am_fv, am_getf, am_putf, am_wr, am_ial, am_lal, am_bal, am_aal, am_ias, am_las, am_bas, am_alen, am_inst, am_cast, am_cpm, am_copy, am_tsw, am_pop, am_cat, am_cS, am_cI, am_cV, am_ri, am_rl, am_ra, am_rv, am_b1, am_b2, am_ent, am_en, am_isL, am_st1, am_st2, am_clr, am_cnd, cc_105, ac_105, nL_105, rb_105, np_252, ok_105_252, nL_252, np_26, ok_105_26, nL_26, vd_26_4, np_134, ok_105_134, nL_134, vd_134_11, tg_11_2, tg_4_7, List.getElem?_cons_succ, List.getElem?_cons_zero, nz_of, nzl_of, Int.toNat_add, Int.toNat_mul, tn_l, lt_t, lt_f, le_t, le_f, eq_t, eq_f, ltn_t, ltn_f, len_t, len_f, eqn_t, eqn_f, up_ne, up_up, sh_0, rf_0_2, sh_73, e0.1, hm]
    refine s0.trans ?_
    have es : ¬ (m : Int) + 1 < (nW (μ 102) : Int) := by omega
    rw [s1_iff [17] 200]
    simp (disch := omega) [sz_s, sz_0, gx_s, hx_r, hx_c, hx_b, hx_s, hx_i, hx_n, kx_s, kx_n, kx_i, cx_d, up_at, am_ctl, am_step, am_i1, am_i2, am_i2d, am_l1, am_l2, am_l2d, am_ldi, am_ldl, am_lda, am_sti, am_sta, am_stl, am_inc, am_i2l, am_l2i, am_lcmp, am_dup, am_dup2, am_pop1, am_fv, am_getf, am_putf, am_wr, am_ial, am_lal, am_bal, am_aal, am_ias, am_las, am_bas, am_alen, am_inst, am_cast, am_cpm, am_copy, am_tsw, am_pop, am_cat, am_cS, am_cI, am_cV, am_ri, am_rl, am_ra, am_rv, am_b1, am_b2, am_ent, am_en, am_isL, am_st1, am_st2, am_clr, am_cnd, cc_105, ac_105, nL_105, rb_105, np_252, ok_105_252, nL_252, np_26, ok_105_26, nL_26, vd_26_4, np_134, ok_105_134, nL_134, vd_134_11, tg_11_2, tg_4_7, List.getElem?_cons_succ, List.getElem?_cons_zero, nz_of, nzl_of, Int.toNat_add, Int.toNat_mul, tn_l, lt_t, lt_f, le_t, le_f, eq_t, eq_f, ltn_t, ltn_f, len_t, len_f, eqn_t, eqn_f, up_ne, up_up, sh_0, rf_0_2, sh_73, e0.1, hm, q2, wp_tell]
set_option maxRecDepth 100000 in
theorem wm_liar {B : Int} {μ : Nat → Nat → Int} (hL : LD B μ 73 0) (Φ : Option AV → ST → Prop) (k1 : nW (μ 102) = 0 → Φ (some (.inl (-4))) (S μ)) (k2 : ¬ nW (μ 102) = 0 → Φ (some (.inl (lbW (μ 102) (nW (μ 102))))) (S (am_up μ 101 8 (lieW (μ 102) (lbW (μ 102) (nW (μ 102))))))) : wpM 211 [.inr (.inr (some 101))] (S μ) Φ := by
  have e0 := ld_n hL
  have l0 := ld_0 hL
  by_cases c : nW (μ 102) = 0
  · have k1 := k1 c
    unfold wpM
    rw [s1_iff [] 200]
    simp (disch := omega) [sz_s, sz_0, gx_s, hx_r, hx_c, hx_b, hx_s, hx_i, hx_n, kx_s, kx_n, kx_i, cx_d, up_at, am_ctl, am_step, am_i1, am_i2, am_i2d, am_l1, am_l2, am_l2d, am_ldi, am_ldl, am_lda, am_sti, am_sta, am_stl, am_inc, am_i2l, am_l2i, am_lcmp, am_dup, am_dup2, am_pop1, am_fv, am_getf, am_putf, am_wr, am_ial, am_lal, am_bal, am_aal, am_ias, am_las, am_bas, am_alen, am_inst, am_cast, am_cpm, am_copy, am_tsw, am_pop, am_cat, am_cS, am_cI, am_cV, am_ri, am_rl, am_ra, am_rv, am_b1, am_b2, am_ent, am_en, am_isL, am_st1, am_st2, am_clr, am_cnd, cc_211, ac_211, nL_211, rb_211, np_159, ok_211_159, nL_159, np_186, ok_211_186, nL_186, vd_186_12, tg_12_0, tg_12_8, List.getElem?_cons_succ, List.getElem?_cons_zero, nz_of, nzl_of, Int.toNat_add, Int.toNat_mul, tn_l, lt_t, lt_f, le_t, le_f, eq_t, eq_f, ltn_t, ltn_f, len_t, len_f, eqn_t, eqn_f, up_ne, up_up, sh_101, sh_102, rf_101_0, e0.2.1, c]
    exact k1
  · have k2 := k2 c
    obtain ⟨m, hm⟩ : ∃ m, nW (μ 102) = m + 1 := ⟨nW (μ 102) - 1, by omega⟩
    have step : ∀ j, j < m → ((fun j : Nat => wpS 211 16 [some (.inr (.inr (some 101))), some (.inl (lbW (μ 102) (j + 1))), some (.inl ((j : Int) + 1)), some (.inl (lieW (μ 102) j))] [] (S (am_up μ 101 8 (lieW (μ 102) (lbW (μ 102) (j + 1))))) Φ) j ↔ (fun j : Nat => wpS 211 16 [some (.inr (.inr (some 101))), some (.inl (lbW (μ 102) (j + 1))), some (.inl ((j : Int) + 1)), some (.inl (lieW (μ 102) j))] [] (S (am_up μ 101 8 (lieW (μ 102) (lbW (μ 102) (j + 1))))) Φ) (j + 1)) := by
      intro j hj
      have lt := lbW_lt (μ 102) (j + 1) (by omega)
      have q1 := wm_countedOf (LD_up hL 101 8 (lieW (μ 102) (lbW (μ 102) (j + 1))) (by decide) (by decide)) (h := j + 1) (by rw [up_ne _ _ _ (by decide)]; omega) (μ 102 1) l0.2.2.2.2.2.2.1.1
      rw [up_ne _ _ _ (by decide)] at q1
      have lr := lieW_rng hL (h := j + 1) (by omega)
      have lr2 := lieW_rng hL (h := lbW (μ 102) (j + 1)) (by omega)
      have lh := ld_h hL (h := j + 1) (by omega)
      have lc := ld_c hL (h := j + 1) (by omega) (μ 102 1)
      have a1 := absZ_nz (a := lieW (μ 102) (j + 1)) (by omega)
      have a2 := absZ_nz (a := lieW (μ 102) (lbW (μ 102) (j + 1))) (by omega)
      have e5 : cntW (μ 102) (j + 1) (μ 102 1) - μ 102 (21 + (j + 1)) = lieW (μ 102) (j + 1) := rfl
      simp only [Int.natCast_add, Int.natCast_one] at q1
      have hj8 : j < 8 := by omega
      have ex : lbW (μ 102) (j + 1 + 1) = if absZ (lieW (μ 102) (lbW (μ 102) (j + 1))) < absZ (lieW (μ 102) (j + 1)) then j + 1 else lbW (μ 102) (j + 1) := rfl
      dsimp only
      rw [ex]
      have es : (j : Int) + 1 < (nW (μ 102) : Int) := by omega
      clear lh
      by_cases cc : absZ (lieW (μ 102) (lbW (μ 102) (j + 1))) < absZ (lieW (μ 102) (j + 1))
      · rw [if_pos cc]
        rw [s1_iff [16] 200]
        simp (disch := omega) [sz_s, sz_0, gx_s, hx_r, hx_c, hx_b, hx_s, hx_i, hx_n, kx_s, kx_n, kx_i, cx_d, up_at, am_ctl, am_step, am_i1, am_i2, am_i2d, am_l1, am_l2, am_l2d, am_ldi, am_ldl, am_lda, am_sti, am_sta, am_stl, am_inc, am_i2l, am_l2i, am_lcmp, am_dup, am_dup2, am_pop1, am_fv, am_getf, am_putf, am_wr, am_ial, am_lal, am_bal, am_aal, am_ias, am_las, am_bas, am_alen, am_inst, am_cast, am_cpm, am_copy, am_tsw, am_pop, am_cat, am_cS, am_cI, am_cV, am_ri, am_rl, am_ra, am_rv, am_b1, am_b2, am_ent, am_en, am_isL, am_st1, am_st2, am_clr, am_cnd, cc_211, ac_211, nL_211, rb_211, np_159, ok_211_159, nL_159, np_186, ok_211_186, nL_186, vd_186_12, tg_12_0, tg_12_8, List.getElem?_cons_succ, List.getElem?_cons_zero, nz_of, nzl_of, Int.toNat_add, Int.toNat_mul, tn_l, lt_t, lt_f, le_t, le_f, eq_t, eq_f, ltn_t, ltn_f, len_t, len_f, eqn_t, eqn_f, up_ne, up_up, sh_101, sh_102, rf_101_0, e0.2.1, q1, e5, wm_sizeOf, absZ_e, cc, es]
      · rw [if_neg cc]
        rw [s1_iff [16] 200]
        simp (disch := omega) [sz_s, sz_0, gx_s, hx_r, hx_c, hx_b, hx_s, hx_i, hx_n, kx_s, kx_n, kx_i, cx_d, up_at, am_ctl, am_step, am_i1, am_i2, am_i2d, am_l1, am_l2, am_l2d, am_ldi, am_ldl, am_lda, am_sti, am_sta, am_stl, am_inc, am_i2l, am_l2i, am_lcmp, am_dup, am_dup2, am_pop1, am_fv, am_getf, am_putf, am_wr, am_ial, am_lal, am_bal, am_aal, am_ias, am_las, am_bas, am_alen, am_inst, am_cast, am_cpm, am_copy, am_tsw, am_pop, am_cat, am_cS, am_cI, am_cV, am_ri, am_rl, am_ra, am_rv, am_b1, am_b2, am_ent, am_en, am_isL, am_st1, am_st2, am_clr, am_cnd, cc_211, ac_211, nL_211, rb_211, np_159, ok_211_159, nL_159, np_186, ok_211_186, nL_186, vd_186_12, tg_12_0, tg_12_8, List.getElem?_cons_succ, List.getElem?_cons_zero, nz_of, nzl_of, Int.toNat_add, Int.toNat_mul, tn_l, lt_t, lt_f, le_t, le_f, eq_t, eq_f, ltn_t, ltn_f, len_t, len_f, eqn_t, eqn_f, up_ne, up_up, sh_101, sh_102, rf_101_0, e0.2.1, q1, e5, wm_sizeOf, absZ_e, cc, es]
    have s0 := up_iff _ m step
    rw [lbW_1] at s0
    rw [hm] at k2
    have q0 := wm_countedOf hL (h := 0) (by omega) (μ 102 1) l0.2.2.2.2.2.2.1.1
    have lc := ld_c hL (h := 0) (by omega) (μ 102 1)
    have lh := ld_h hL (h := 0) (by omega)
    have e5 : cntW (μ 102) 0 (μ 102 1) - μ 102 21 = lieW (μ 102) 0 := rfl
    simp only [Int.natCast_zero] at q0
    simp only [Nat.add_zero] at lh
    unfold wpM
    rw [s1_iff [16] 200]
    simp (disch := omega) [sz_s, sz_0, gx_s, hx_r, hx_c, hx_b, hx_s, hx_i, hx_n, kx_s, kx_n, kx_i, cx_d, up_at, am_ctl, am_step, am_i1, am_i2, am_i2d, am_l1, am_l2, am_l2d, am_ldi, am_ldl, am_lda, am_sti, am_sta, am_stl, am_inc, am_i2l, am_l2i, am_lcmp, am_dup, am_dup2, am_pop1, am_fv, am_getf, am_putf, am_wr, am_ial, am_lal, am_bal, am_aal, am_ias, am_las, am_bas, am_alen, am_inst, am_cast, am_cpm, am_copy, am_tsw, am_pop, am_cat, am_cS, am_cI, am_cV, am_ri, am_rl, am_ra, am_rv, am_b1, am_b2, am_ent, am_en, am_isL, am_st1, am_st2, am_clr, am_cnd, cc_211, ac_211, nL_211, rb_211, np_159, ok_211_159, nL_159, np_186, ok_211_186, nL_186, vd_186_12, tg_12_0, tg_12_8, List.getElem?_cons_succ, List.getElem?_cons_zero, nz_of, nzl_of, Int.toNat_add, Int.toNat_mul, tn_l, lt_t, lt_f, le_t, le_f, eq_t, eq_f, ltn_t, ltn_f, len_t, len_f, eqn_t, eqn_f, up_ne, up_up, sh_101, sh_102, rf_101_0, e0.2.1, hm]
    rw [s1_iff [16] 200]
    simp (disch := omega) [sz_s, sz_0, gx_s, hx_r, hx_c, hx_b, hx_s, hx_i, hx_n, kx_s, kx_n, kx_i, cx_d, up_at, am_ctl, am_step, am_i1, am_i2, am_i2d, am_l1, am_l2, am_l2d, am_ldi, am_ldl, am_lda, am_sti, am_sta, am_stl, am_inc, am_i2l, am_l2i, am_lcmp, am_dup, am_dup2, am_pop1, am_fv, am_getf, am_putf, am_wr, am_ial, am_lal, am_bal, am_aal, am_ias, am_las, am_bas, am_alen, am_inst, am_cast, am_cpm, am_copy, am_tsw, am_pop, am_cat, am_cS, am_cI, am_cV, am_ri, am_rl, am_ra, am_rv, am_b1, am_b2, am_ent, am_en, am_isL, am_st1, am_st2, am_clr, am_cnd, cc_211, ac_211, nL_211, rb_211, np_159, ok_211_159, nL_159, np_186, ok_211_186, nL_186, vd_186_12, tg_12_0, tg_12_8, List.getElem?_cons_succ, List.getElem?_cons_zero, nz_of, nzl_of, Int.toNat_add, Int.toNat_mul, tn_l, lt_t, lt_f, le_t, le_f, eq_t, eq_f, ltn_t, ltn_f, len_t, len_f, eqn_t, eqn_f, up_ne, up_up, sh_101, sh_102, rf_101_0, e0.2.1, hm, q0, e5]
    refine (Iff.trans ?_ s0).mpr ?_
    · simp
    · have es : ¬ (m : Int) + 1 < (nW (μ 102) : Int) := by omega
      rw [s1_iff [16] 200]
      simp (disch := omega) [sz_s, sz_0, gx_s, hx_r, hx_c, hx_b, hx_s, hx_i, hx_n, kx_s, kx_n, kx_i, cx_d, up_at, am_ctl, am_step, am_i1, am_i2, am_i2d, am_l1, am_l2, am_l2d, am_ldi, am_ldl, am_lda, am_sti, am_sta, am_stl, am_inc, am_i2l, am_l2i, am_lcmp, am_dup, am_dup2, am_pop1, am_fv, am_getf, am_putf, am_wr, am_ial, am_lal, am_bal, am_aal, am_ias, am_las, am_bas, am_alen, am_inst, am_cast, am_cpm, am_copy, am_tsw, am_pop, am_cat, am_cS, am_cI, am_cV, am_ri, am_rl, am_ra, am_rv, am_b1, am_b2, am_ent, am_en, am_isL, am_st1, am_st2, am_clr, am_cnd, cc_211, ac_211, nL_211, rb_211, np_159, ok_211_159, nL_159, np_186, ok_211_186, nL_186, vd_186_12, tg_12_0, tg_12_8, List.getElem?_cons_succ, List.getElem?_cons_zero, nz_of, nzl_of, Int.toNat_add, Int.toNat_mul, tn_l, lt_t, lt_f, le_t, le_f, eq_t, eq_f, ltn_t, ltn_f, len_t, len_f, eqn_t, eqn_f, up_ne, up_up, sh_101, sh_102, rf_101_0, e0.2.1, hm]
      exact k2
theorem eq_liar {B : Int} {μ : Nat → Nat → Int} (h : INV B μ) : EQV B μ 105 211 [] := by
  have hL : LD B μ 73 0 := h.2.2.2.1
  unfold EQV
  rw [wp_liar hL]
  by_cases c : nW (μ 102) = 0
  · rw [if_pos c]
    refine ⟨_, _, rfl, rfl, wm_liar hL _ (fun _ => ⟨rfl, _, rfl, h⟩) (fun q => absurd c q)⟩
  · rw [if_neg c]
    refine ⟨_, _, rfl, rfl, wm_liar (LD_up hL _ _ _ (by decide) (by decide)) _ (fun q => ?_) (fun q => ?_)⟩
    · rw [up_ne _ _ _ (by decide)] at q; exact absurd q c
    · rw [up_ne _ _ _ (by decide)]
      exact ⟨rfl, _, rfl, inv_tell h _⟩
def dfW (w : Nat → Int) (l : Int) : Int := allW w l - mouW w
def ofW (w : Nat → Int) (l : Int) : Int := absZ (dfW w l)
def b1W (w : Nat → Int) : Int := if ofW w 1 < ofW w 0 then 1 else 0
def m1W (w : Nat → Int) : Int := if ofW w 1 < ofW w 0 then ofW w 1 else ofW w 0
def b2W (w : Nat → Int) : Int := if ofW w 2 < m1W w then 2 else b1W w
def m2W (w : Nat → Int) : Int := if ofW w 2 < m1W w then ofW w 2 else m1W w
theorem all_rng {B : Int} {μ : Nat → Nat → Int} (hL : LD B μ 73 0) (l : Int) : 0 ≤ allW (μ 102) l ∧ allW (μ 102) l ≤ 248 := by
  have ra := sumZ_rng (f := fun h => cntW (μ 102) h l) (n := nW (μ 102)) (fun i hi => ld_c hL hi l)
  have n8 := (ld_n hL).2.2
  have ra' : 0 * (nW (μ 102) : Int) ≤ allW (μ 102) l ∧ allW (μ 102) l ≤ 31 * (nW (μ 102) : Int) := ra
  omega
theorem mou_rng {B : Int} {μ : Nat → Nat → Int} (hL : LD B μ 73 0) : 0 ≤ mouW (μ 102) ∧ mouW (μ 102) ≤ 72 := by
  have rm := sumZ_rng (f := fun h => μ 102 (21 + h)) (n := nW (μ 102)) (fun i hi => (ld_h hL hi).2.2.2.1)
  have n8 := (ld_n hL).2.2
  have rm' : 0 * (nW (μ 102) : Int) ≤ mouW (μ 102) ∧ mouW (μ 102) ≤ 9 * (nW (μ 102) : Int) := rm
  omega
theorem df_rng {B : Int} {μ : Nat → Nat → Int} (hL : LD B μ 73 0) (l : Int) : -72 ≤ dfW (μ 102) l ∧ dfW (μ 102) l ≤ 248 := by
  have := all_rng hL l
  have := mou_rng hL
  unfold dfW; omega
theorem dfW_e (w : Nat → Int) (l : Int) : allW w l - mouW w = dfW w l := rfl
theorem ofW_e (w : Nat → Int) (l : Int) : absZ (dfW w l) = ofW w l := rfl
set_option maxRecDepth 100000 in
theorem wp_best {B : Int} {μ : Nat → Nat → Int} (hL : LD B μ 73 0) (Φ : Option AV → ST → Prop) : wpM 106 [.inr (.inr (some 0))] (S μ) Φ ↔ Φ (some (.inl (b2W (μ 102)))) (S (am_up μ 0 10 (m2W (μ 102)))) := by
  have a0 := all_rng hL 0
  have a1 := all_rng hL 1
  have a2 := all_rng hL 2
  have am := mou_rng hL
  have z0 := df_rng hL 0
  have z1 := df_rng hL 1
  have z2 := df_rng hL 2
  unfold wpM
  by_cases c1 : ofW (μ 102) 1 < ofW (μ 102) 0
  · have e1 : b1W (μ 102) = 1 := if_pos c1
    have e2 : m1W (μ 102) = ofW (μ 102) 1 := if_pos c1
    unfold b2W m2W
    rw [e1, e2]
    by_cases c2 : ofW (μ 102) 2 < ofW (μ 102) 1
    · rw [if_pos c2, if_pos c2]
      rw [s1_iff [] 200]
      simp (disch := omega) [sz_s, sz_0, gx_s, hx_r, hx_c, hx_b, hx_s, hx_i, hx_n, kx_s, kx_n, kx_i, cx_d, up_at, am_ctl, am_step, am_i1, am_i2, am_i2d, am_l1, am_l2, am_l2d, am_ldi, am_ldl, am_lda, am_sti, am_sta, am_stl, am_inc, am_i2l, am_l2i, am_lcmp, am_dup, am_dup2, am_pop1, am_fv, am_getf, am_putf, am_wr, am_ial, am_lal, am_bal, am_aal, am_ias, am_las, am_bas, am_alen, am_inst, am_cast, am_cpm, am_copy, am_tsw, am_pop, am_cat, am_cS, am_cI, am_cV, am_ri, am_rl, am_ra, am_rv, am_b1, am_b2, am_ent, am_en, am_isL, am_st1, am_st2, am_clr, am_cnd, cc_106, ac_106, nL_106, rb_106, np_252, ok_106_252, nL_252, np_28, ok_106_28, nL_28, vd_28_4, np_30, ok_106_30, nL_30, vd_30_4, np_134, ok_106_134, nL_134, vd_134_11, tg_11_2, List.getElem?_cons_succ, List.getElem?_cons_zero, nz_of, nzl_of, Int.toNat_add, Int.toNat_mul, tn_l, lt_t, lt_f, le_t, le_f, eq_t, eq_f, ltn_t, ltn_f, len_t, len_f, eqn_t, eqn_f, up_ne, up_up, sh_0, rf_0_2, sh_73, wp_mouthsOfAll hL, wp_countedOfAll hL, wp_abs, dfW_e, absZ_e, ofW_e, wp_tell, c1, c2]
    · rw [if_neg c2, if_neg c2]
      rw [s1_iff [] 200]
      simp (disch := omega) [sz_s, sz_0, gx_s, hx_r, hx_c, hx_b, hx_s, hx_i, hx_n, kx_s, kx_n, kx_i, cx_d, up_at, am_ctl, am_step, am_i1, am_i2, am_i2d, am_l1, am_l2, am_l2d, am_ldi, am_ldl, am_lda, am_sti, am_sta, am_stl, am_inc, am_i2l, am_l2i, am_lcmp, am_dup, am_dup2, am_pop1, am_fv, am_getf, am_putf, am_wr, am_ial, am_lal, am_bal, am_aal, am_ias, am_las, am_bas, am_alen, am_inst, am_cast, am_cpm, am_copy, am_tsw, am_pop, am_cat, am_cS, am_cI, am_cV, am_ri, am_rl, am_ra, am_rv, am_b1, am_b2, am_ent, am_en, am_isL, am_st1, am_st2, am_clr, am_cnd, cc_106, ac_106, nL_106, rb_106, np_252, ok_106_252, nL_252, np_28, ok_106_28, nL_28, vd_28_4, np_30, ok_106_30, nL_30, vd_30_4, np_134, ok_106_134, nL_134, vd_134_11, tg_11_2, List.getElem?_cons_succ, List.getElem?_cons_zero, nz_of, nzl_of, Int.toNat_add, Int.toNat_mul, tn_l, lt_t, lt_f, le_t, le_f, eq_t, eq_f, ltn_t, ltn_f, len_t, len_f, eqn_t, eqn_f, up_ne, up_up, sh_0, rf_0_2, sh_73, wp_mouthsOfAll hL, wp_countedOfAll hL, wp_abs, dfW_e, absZ_e, ofW_e, wp_tell, c1, c2]
  · have e1 : b1W (μ 102) = 0 := if_neg c1
    have e2 : m1W (μ 102) = ofW (μ 102) 0 := if_neg c1
    unfold b2W m2W
    rw [e1, e2]
    by_cases c2 : ofW (μ 102) 2 < ofW (μ 102) 0
    · rw [if_pos c2, if_pos c2]
      rw [s1_iff [] 200]
      simp (disch := omega) [sz_s, sz_0, gx_s, hx_r, hx_c, hx_b, hx_s, hx_i, hx_n, kx_s, kx_n, kx_i, cx_d, up_at, am_ctl, am_step, am_i1, am_i2, am_i2d, am_l1, am_l2, am_l2d, am_ldi, am_ldl, am_lda, am_sti, am_sta, am_stl, am_inc, am_i2l, am_l2i, am_lcmp, am_dup, am_dup2, am_pop1, am_fv, am_getf, am_putf, am_wr, am_ial, am_lal, am_bal, am_aal, am_ias, am_las, am_bas, am_alen, am_inst, am_cast, am_cpm, am_copy, am_tsw, am_pop, am_cat, am_cS, am_cI, am_cV, am_ri, am_rl, am_ra, am_rv, am_b1, am_b2, am_ent, am_en, am_isL, am_st1, am_st2, am_clr, am_cnd, cc_106, ac_106, nL_106, rb_106, np_252, ok_106_252, nL_252, np_28, ok_106_28, nL_28, vd_28_4, np_30, ok_106_30, nL_30, vd_30_4, np_134, ok_106_134, nL_134, vd_134_11, tg_11_2, List.getElem?_cons_succ, List.getElem?_cons_zero, nz_of, nzl_of, Int.toNat_add, Int.toNat_mul, tn_l, lt_t, lt_f, le_t, le_f, eq_t, eq_f, ltn_t, ltn_f, len_t, len_f, eqn_t, eqn_f, up_ne, up_up, sh_0, rf_0_2, sh_73, wp_mouthsOfAll hL, wp_countedOfAll hL, wp_abs, dfW_e, absZ_e, ofW_e, wp_tell, c1, c2]
    · rw [if_neg c2, if_neg c2]
      rw [s1_iff [] 200]
      simp (disch := omega) [sz_s, sz_0, gx_s, hx_r, hx_c, hx_b, hx_s, hx_i, hx_n, kx_s, kx_n, kx_i, cx_d, up_at, am_ctl, am_step, am_i1, am_i2, am_i2d, am_l1, am_l2, am_l2d, am_ldi, am_ldl, am_lda, am_sti, am_sta, am_stl, am_inc, am_i2l, am_l2i, am_lcmp, am_dup, am_dup2, am_pop1, am_fv, am_getf, am_putf, am_wr, am_ial, am_lal, am_bal, am_aal, am_ias, am_las, am_bas, am_alen, am_inst, am_cast, am_cpm, am_copy, am_tsw, am_pop, am_cat, am_cS, am_cI, am_cV, am_ri, am_rl, am_ra, am_rv, am_b1, am_b2, am_ent, am_en, am_isL, am_st1, am_st2, am_clr, am_cnd, cc_106, ac_106, nL_106, rb_106, np_252, ok_106_252, nL_252, np_28, ok_106_28, nL_28, vd_28_4, np_30, ok_106_30, nL_30, vd_30_4, np_134, ok_106_134, nL_134, vd_134_11, tg_11_2, List.getElem?_cons_succ, List.getElem?_cons_zero, nz_of, nzl_of, Int.toNat_add, Int.toNat_mul, tn_l, lt_t, lt_f, le_t, le_f, eq_t, eq_f, ltn_t, ltn_f, len_t, len_f, eqn_t, eqn_f, up_ne, up_up, sh_0, rf_0_2, sh_73, wp_mouthsOfAll hL, wp_countedOfAll hL, wp_abs, dfW_e, absZ_e, ofW_e, wp_tell, c1, c2]
set_option maxRecDepth 100000 in
theorem wm_best {B : Int} {μ : Nat → Nat → Int} (hL : LD B μ 73 0) (Φ : Option AV → ST → Prop) : wpM 212 [.inr (.inr (some 101))] (S μ) Φ ↔ Φ (some (.inl (b2W (μ 102)))) (S (am_up μ 101 8 (m2W (μ 102)))) := by
  have a0 := all_rng hL 0
  have a1 := all_rng hL 1
  have a2 := all_rng hL 2
  have am := mou_rng hL
  have z0 := df_rng hL 0
  have z1 := df_rng hL 1
  have z2 := df_rng hL 2
  have q0 := wm_allCounted hL 0 (by decide)
  have p0 := wm_mouths hL
  have q1 := wm_allCounted (LD_up hL 101 8 (ofW (μ 102) 0) (by decide) (by decide)) 1 (by decide)
  have p1 := wm_mouths (LD_up hL 101 8 (ofW (μ 102) 0) (by decide) (by decide))
  rw [up_ne _ _ _ (by decide)] at q1 p1
  have q2 := fun v => wm_allCounted (LD_up hL 101 8 v (by decide) (by decide)) 2 (by decide)
  have p2 := fun v => wm_mouths (LD_up hL 101 8 v (by decide) (by decide))
  simp (disch := omega) only [up_ne] at q2 p2
  unfold wpM
  by_cases c1 : ofW (μ 102) 1 < ofW (μ 102) 0
  · have e1 : b1W (μ 102) = 1 := if_pos c1
    have e2 : m1W (μ 102) = ofW (μ 102) 1 := if_pos c1
    unfold b2W m2W
    rw [e1, e2]
    by_cases c2 : ofW (μ 102) 2 < ofW (μ 102) 1
    · rw [if_pos c2, if_pos c2]
      rw [s1_iff [] 200]
      simp (disch := omega) [sz_s, sz_0, gx_s, hx_r, hx_c, hx_b, hx_s, hx_i, hx_n, kx_s, kx_n, kx_i, cx_d, up_at, am_ctl, am_step, am_i1, am_i2, am_i2d, am_l1, am_l2, am_l2d, am_ldi, am_ldl, am_lda, am_sti, am_sta, am_stl, am_inc, am_i2l, am_l2i, am_lcmp, am_dup, am_dup2, am_pop1, am_fv, am_getf, am_putf, am_wr, am_ial, am_lal, am_bal, am_aal, am_ias, am_las, am_bas, am_alen, am_inst, am_cast, am_cpm, am_copy, am_tsw, am_pop, am_cat, am_cS, am_cI, am_cV, am_ri, am_rl, am_ra, am_rv, am_b1, am_b2, am_ent, am_en, am_isL, am_st1, am_st2, am_clr, am_cnd, cc_212, ac_212, nL_212, rb_212, np_158, ok_212_158, nL_158, np_159, ok_212_159, nL_159, np_187, ok_212_187, nL_187, vd_187_12, np_188, ok_212_188, nL_188, vd_188_12, tg_12_8, List.getElem?_cons_succ, List.getElem?_cons_zero, nz_of, nzl_of, Int.toNat_add, Int.toNat_mul, tn_l, lt_t, lt_f, le_t, le_f, eq_t, eq_f, ltn_t, ltn_f, len_t, len_f, eqn_t, eqn_f, up_ne, up_up, sh_101, q0, p0, q1, p1, q2, p2, wm_sizeOf, wm_lesser, dfW_e, absZ_e, ofW_e, c1, c2]
    · rw [if_neg c2, if_neg c2]
      rw [s1_iff [] 200]
      simp (disch := omega) [sz_s, sz_0, gx_s, hx_r, hx_c, hx_b, hx_s, hx_i, hx_n, kx_s, kx_n, kx_i, cx_d, up_at, am_ctl, am_step, am_i1, am_i2, am_i2d, am_l1, am_l2, am_l2d, am_ldi, am_ldl, am_lda, am_sti, am_sta, am_stl, am_inc, am_i2l, am_l2i, am_lcmp, am_dup, am_dup2, am_pop1, am_fv, am_getf, am_putf, am_wr, am_ial, am_lal, am_bal, am_aal, am_ias, am_las, am_bas, am_alen, am_inst, am_cast, am_cpm, am_copy, am_tsw, am_pop, am_cat, am_cS, am_cI, am_cV, am_ri, am_rl, am_ra, am_rv, am_b1, am_b2, am_ent, am_en, am_isL, am_st1, am_st2, am_clr, am_cnd, cc_212, ac_212, nL_212, rb_212, np_158, ok_212_158, nL_158, np_159, ok_212_159, nL_159, np_187, ok_212_187, nL_187, vd_187_12, np_188, ok_212_188, nL_188, vd_188_12, tg_12_8, List.getElem?_cons_succ, List.getElem?_cons_zero, nz_of, nzl_of, Int.toNat_add, Int.toNat_mul, tn_l, lt_t, lt_f, le_t, le_f, eq_t, eq_f, ltn_t, ltn_f, len_t, len_f, eqn_t, eqn_f, up_ne, up_up, sh_101, q0, p0, q1, p1, q2, p2, wm_sizeOf, wm_lesser, dfW_e, absZ_e, ofW_e, c1, c2]
  · have e1 : b1W (μ 102) = 0 := if_neg c1
    have e2 : m1W (μ 102) = ofW (μ 102) 0 := if_neg c1
    unfold b2W m2W
    rw [e1, e2]
    by_cases c2 : ofW (μ 102) 2 < ofW (μ 102) 0
    · rw [if_pos c2, if_pos c2]
      rw [s1_iff [] 200]
      simp (disch := omega) [sz_s, sz_0, gx_s, hx_r, hx_c, hx_b, hx_s, hx_i, hx_n, kx_s, kx_n, kx_i, cx_d, up_at, am_ctl, am_step, am_i1, am_i2, am_i2d, am_l1, am_l2, am_l2d, am_ldi, am_ldl, am_lda, am_sti, am_sta, am_stl, am_inc, am_i2l, am_l2i, am_lcmp, am_dup, am_dup2, am_pop1, am_fv, am_getf, am_putf, am_wr, am_ial, am_lal, am_bal, am_aal, am_ias, am_las, am_bas, am_alen, am_inst, am_cast, am_cpm, am_copy, am_tsw, am_pop, am_cat, am_cS, am_cI, am_cV, am_ri, am_rl, am_ra, am_rv, am_b1, am_b2, am_ent, am_en, am_isL, am_st1, am_st2, am_clr, am_cnd, cc_212, ac_212, nL_212, rb_212, np_158, ok_212_158, nL_158, np_159, ok_212_159, nL_159, np_187, ok_212_187, nL_187, vd_187_12, np_188, ok_212_188, nL_188, vd_188_12, tg_12_8, List.getElem?_cons_succ, List.getElem?_cons_zero, nz_of, nzl_of, Int.toNat_add, Int.toNat_mul, tn_l, lt_t, lt_f, le_t, le_f, eq_t, eq_f, ltn_t, ltn_f, len_t, len_f, eqn_t, eqn_f, up_ne, up_up, sh_101, q0, p0, q1, p1, q2, p2, wm_sizeOf, wm_lesser, dfW_e, absZ_e, ofW_e, c1, c2]
    · rw [if_neg c2, if_neg c2]
      rw [s1_iff [] 200]
      simp (disch := omega) [sz_s, sz_0, gx_s, hx_r, hx_c, hx_b, hx_s, hx_i, hx_n, kx_s, kx_n, kx_i, cx_d, up_at, am_ctl, am_step, am_i1, am_i2, am_i2d, am_l1, am_l2, am_l2d, am_ldi, am_ldl, am_lda, am_sti, am_sta, am_stl, am_inc, am_i2l, am_l2i, am_lcmp, am_dup, am_dup2, am_pop1, am_fv, am_getf, am_putf, am_wr, am_ial, am_lal, am_bal, am_aal, am_ias, am_las, am_bas, am_alen, am_inst, am_cast, am_cpm, am_copy, am_tsw, am_pop, am_cat, am_cS, am_cI, am_cV, am_ri, am_rl, am_ra, am_rv, am_b1, am_b2, am_ent, am_en, am_isL, am_st1, am_st2, am_clr, am_cnd, cc_212, ac_212, nL_212, rb_212, np_158, ok_212_158, nL_158, np_159, ok_212_159, nL_159, np_187, ok_212_187, nL_187, vd_187_12, np_188, ok_212_188, nL_188, vd_188_12, tg_12_8, List.getElem?_cons_succ, List.getElem?_cons_zero, nz_of, nzl_of, Int.toNat_add, Int.toNat_mul, tn_l, lt_t, lt_f, le_t, le_f, eq_t, eq_f, ltn_t, ltn_f, len_t, len_f, eqn_t, eqn_f, up_ne, up_up, sh_101, q0, p0, q1, p1, q2, p2, wm_sizeOf, wm_lesser, dfW_e, absZ_e, ofW_e, c1, c2]
theorem eq_best {B : Int} {μ : Nat → Nat → Int} (h : INV B μ) : EQV B μ 106 212 [] := by
  have hL : LD B μ 73 0 := h.2.2.2.1
  unfold EQV
  rw [wp_best hL]
  refine ⟨_, _, rfl, rfl, ?_⟩
  rw [wm_best (LD_up hL _ _ _ (by decide) (by decide)), up_ne _ _ _ (by decide)]
  exact ⟨rfl, _, rfl, inv_tell h _⟩
