/-! what houses hide: of both sides -/
def vW (w : Nat → Int) (h : Nat) : Int := max (-(lieW w h)) 0
theorem vW_rng {B : Int} {μ : Nat → Nat → Int} (hL : LD B μ 73 0) {h : Nat} (hh : h < nW (μ 102)) : 0 ≤ vW (μ 102) h ∧ vW (μ 102) h ≤ 9 := by
  have := lieW_rng hL hh
  unfold vW; omega
/-- the class has written down what is hidden -/
def HD (μ : Nat → Nat → Int) : Prop := ∀ h, h < nW (μ 102) → μ 44 h = vW (μ 102) h
def H4 (μ : Nat → Nat → Int) : Nat → Nat → Int := rfz μ 44 0 (nW (μ 102)) (vW (μ 102))
theorem H4_ne (μ : Nat → Nat → Int) (k : Nat) (h : ¬ k = 44) : H4 μ k = μ k := rfz_ne _ _ _ _ _ _ h
theorem LD_rf {B : Int} {μ : Nat → Nat → Int} (hL : LD B μ 73 0) (c o k : Nat) (g : Nat → Int) (h1 : ¬ c = 102) (h2 : ¬ (73 ≤ c ∧ c ≤ 79)) : LD B (rfz μ c o k g) 73 0 :=
  LD_of hL (fun j => by rw [rfz_ne _ _ _ _ _ _ (by omega)]) (fun b j hb => by rw [rfz_ne _ _ _ _ _ _ (by omega)])
theorem H4_HD (μ : Nat → Nat → Int) : HD (H4 μ) := fun h hh => by
  rw [H4_ne _ 102 (by decide)] at hh ⊢
  unfold H4; rw [rfz_at, if_pos (by omega), Nat.sub_zero]
set_option maxRecDepth 100000 in
theorem wp_measure {B : Int} {μ : Nat → Nat → Int} (hL : LD B μ 73 0) (Φ : Option AV → ST → Prop) : wpM 150 [.inr (.inr (some 0))] (S μ) Φ ↔ Φ none (S (H4 μ)) := by
  have e0 := ld_n hL
  have step : ∀ j, j < nW (μ 102) → ((fun j : Nat => wpS 150 2 [some (.inr (.inr (some 0))), some (.inl j)] [] (S (rfz μ 44 0 j (vW (μ 102)))) Φ) j ↔ (fun j : Nat => wpS 150 2 [some (.inr (.inr (some 0))), some (.inl j)] [] (S (rfz μ 44 0 j (vW (μ 102)))) Φ) (j + 1)) := by
    intro j hj
    have lr := lieW_rng hL hj
    have L2 := LD_rf hL 44 0 j (vW (μ 102)) (by decide) (by decide)
    have e102 : rfz μ 44 0 j (vW (μ 102)) 102 = μ 102 := rfz_ne _ _ _ _ _ _ (by decide)
    have e73 : rfz μ 44 0 j (vW (μ 102)) 73 = μ 73 := rfz_ne _ _ _ _ _ _ (by decide)
    have K := wp_lie' L2 (h := j) (by rw [e102]; exact hj)
    rw [e102] at K
    have s := rfz_s μ 44 0 j (vW (μ 102))
    rw [Nat.zero_add] at s
    have mx : (if lieW (μ 102) j ≤ 0 then -lieW (μ 102) j else 0) = vW (μ 102) j := by unfold vW; split <;> omega
    dsimp only
    rw [s1_iff [2] 200]
    simp (disch := omega) [sz_s, sz_0, gx_s, hx_r, hx_c, hx_b, hx_s, hx_i, hx_n, kx_s, kx_n, kx_i, cx_d, up_at, am_ctl, am_step, am_i1, am_i2, am_i2d, am_l1, am_l2, am_l2d, am_ldi, am_ldl, am_lda, am_sti, am_sta, am_stl, am_inc, am_i2l, am_l2i, am_lcmp, am_dup, am_dup2, am_pop1, am_fv, am_getf, am_putf, am_wr, am_ial, am_lal, am_bal, am_aal, am_ias, am_las, am_bas, am_alen, am_inst, am_cast, am_cpm, am_copy, am_tsw, am_pop, am_cat, am_cS, am_cI, am_cV, am_ri, am_rl, am_ra, am_rv, am_b1, am_b2, am_ent, am_en, am_isL, am_st1, am_st2, am_clr, am_cnd, cc_150, ac_150, nL_150, rb_150, np_251, ok_150_251, nL_251, np_26, ok_150_26, nL_26, vd_26_4, tg_11_2, tg_4_7, tg_11_7, List.getElem?_cons_succ, List.getElem?_cons_zero, nz_of, nzl_of, Int.toNat_add, Int.toNat_mul, tn_l, lt_t, lt_f, le_t, le_f, eq_t, eq_f, ltn_t, ltn_f, len_t, len_f, eqn_t, eqn_f, up_ne, up_up, sh_0, rf_0_2, rf_0_7, sh_73, sh_44, e73, e0.1, hj, K, wp_max, mx, s]
  have s0 := up_iff _ (nW (μ 102)) step
  rw [rfz_0] at s0
  have e73 : H4 μ 73 = μ 73 := H4_ne _ _ (by decide)
  unfold wpM
  rw [s1_iff [2] 200]
  simp (disch := omega) [sz_s, sz_0, gx_s, hx_r, hx_c, hx_b, hx_s, hx_i, hx_n, kx_s, kx_n, kx_i, cx_d, up_at, am_ctl, am_step, am_i1, am_i2, am_i2d, am_l1, am_l2, am_l2d, am_ldi, am_ldl, am_lda, am_sti, am_sta, am_stl, am_inc, am_i2l, am_l2i, am_lcmp, am_dup, am_dup2, am_pop1, am_fv, am_getf, am_putf, am_wr, am_ial, am_lal, am_bal, am_aal, am_ias, am_las, am_bas, am_alen, am_inst, am_cast, am_cpm, am_copy, am_tsw, am_pop, am_cat, am_cS, am_cI, am_cV, am_ri, am_rl, am_ra, am_rv, am_b1, am_b2, am_ent, am_en, am_isL, am_st1, am_st2, am_clr, am_cnd, cc_150, ac_150, nL_150, rb_150, np_251, ok_150_251, nL_251, np_26, ok_150_26, nL_26, vd_26_4, tg_11_2, tg_4_7, tg_11_7, List.getElem?_cons_succ, List.getElem?_cons_zero, nz_of, nzl_of, Int.toNat_add, Int.toNat_mul, tn_l, lt_t, lt_f, le_t, le_f, eq_t, eq_f, ltn_t, ltn_f, len_t, len_f, eqn_t, eqn_f, up_ne, up_up, sh_0]
  refine s0.trans ?_
  show wpS 150 2 _ [] (S (H4 μ)) Φ ↔ _
  rw [s1_iff [2] 200]
  simp (disch := omega) [sz_s, sz_0, gx_s, hx_r, hx_c, hx_b, hx_s, hx_i, hx_n, kx_s, kx_n, kx_i, cx_d, up_at, am_ctl, am_step, am_i1, am_i2, am_i2d, am_l1, am_l2, am_l2d, am_ldi, am_ldl, am_lda, am_sti, am_sta, am_stl, am_inc, am_i2l, am_l2i, am_lcmp, am_dup, am_dup2, am_pop1, am_fv, am_getf, am_putf, am_wr, am_ial, am_lal, am_bal, am_aal, am_ias, am_las, am_bas, am_alen, am_inst, am_cast, am_cpm, am_copy, am_tsw, am_pop, am_cat, am_cS, am_cI, am_cV, am_ri, am_rl, am_ra, am_rv, am_b1, am_b2, am_ent, am_en, am_isL, am_st1, am_st2, am_clr, am_cnd, cc_150, ac_150, nL_150, rb_150, np_251, ok_150_251, nL_251, np_26, ok_150_26, nL_26, vd_26_4, tg_11_2, tg_4_7, tg_11_7, List.getElem?_cons_succ, List.getElem?_cons_zero, nz_of, nzl_of, Int.toNat_add, Int.toNat_mul, tn_l, lt_t, lt_f, le_t, le_f, eq_t, eq_f, ltn_t, ltn_f, len_t, len_f, eqn_t, eqn_f, up_ne, up_up, sh_0, rf_0_2, sh_73, e73, e0.1]
theorem hd_rng {B : Int} {μ : Nat → Nat → Int} (hL : LD B μ 73 0) (T : Nat) : 0 ≤ hdZ (vW (μ 102)) (nW (μ 102)) T ∧ hdZ (vW (μ 102)) (nW (μ 102)) T ≤ 72 := by
  have n8 := (ld_n hL).2.2
  have := @sumZ_rng (fun h => if T.testBit h = true then vW (μ 102) h else 0) 0 9 (nW (μ 102)) (fun i hi => by
    have := vW_rng hL hi
    try dsimp only
    split <;> omega)
  unfold hdZ; omega
theorem hdZ_s (v : Nat → Int) (n T : Nat) : hdZ v (n + 1) T = hdZ v n T + (if T.testBit n = true then v n else 0) := rfl
theorem hdj_rng {B : Int} {μ : Nat → Nat → Int} (hL : LD B μ 73 0) (T : Nat) {j : Nat} (hj : j ≤ nW (μ 102)) : 0 ≤ hdZ (vW (μ 102)) j T ∧ hdZ (vW (μ 102)) j T ≤ 72 := by
  have n8 := (ld_n hL).2.2
  have := @sumZ_rng (fun h => if T.testBit h = true then vW (μ 102) h else 0) 0 9 j (fun i hi => by
    have := vW_rng hL (h := i) (by omega)
    try dsimp only
    split <;> omega)
  unfold hdZ; omega
set_option maxRecDepth 100000 in
theorem wp_hiddenBy {B : Int} {μ : Nat → Nat → Int} (hL : LD B μ 73 0) (hH : HD μ) (T : Nat) (hT : T < 256) (Φ : Option AV → ST → Prop) : wpM 151 [.inr (.inr (some 0)), .inl T] (S μ) Φ ↔ Φ (some (.inl (hdZ (vW (μ 102)) (nW (μ 102)) T))) (S μ) := by
  have e0 := ld_n hL
  have step : ∀ j, j < nW (μ 102) → ((fun j : Nat => wpS 151 4 [some (.inr (.inr (some 0))), some (.inl T), some (.inl (hdZ (vW (μ 102)) j T)), some (.inl j)] [] (S μ) Φ) j ↔ (fun j : Nat => wpS 151 4 [some (.inr (.inr (some 0))), some (.inl T), some (.inl (hdZ (vW (μ 102)) j T)), some (.inl j)] [] (S μ) Φ) (j + 1)) := by
    intro j hj
    have b := bit_r T hT j (by omega)
    have e := hH j hj
    have r := hdj_rng hL T (j := j) (by omega)
    have rv := vW_rng hL hj
    dsimp only
    rw [hdZ_s]
    by_cases c : T.testBit j = true
    · rw [if_pos c] at b ⊢
      rw [s1_iff [4] 200]
      simp (disch := omega) [sz_s, sz_0, gx_s, hx_r, hx_c, hx_b, hx_s, hx_i, hx_n, kx_s, kx_n, kx_i, cx_d, up_at, am_ctl, am_step, am_i1, am_i2, am_i2d, am_l1, am_l2, am_l2d, am_ldi, am_ldl, am_lda, am_sti, am_sta, am_stl, am_inc, am_i2l, am_l2i, am_lcmp, am_dup, am_dup2, am_pop1, am_fv, am_getf, am_putf, am_wr, am_ial, am_lal, am_bal, am_aal, am_ias, am_las, am_bas, am_alen, am_inst, am_cast, am_cpm, am_copy, am_tsw, am_pop, am_cat, am_cS, am_cI, am_cV, am_ri, am_rl, am_ra, am_rv, am_b1, am_b2, am_ent, am_en, am_isL, am_st1, am_st2, am_clr, am_cnd, cc_151, ac_151, nL_151, rb_151, tg_11_2, tg_4_7, tg_11_7, List.getElem?_cons_succ, List.getElem?_cons_zero, nz_of, nzl_of, Int.toNat_add, Int.toNat_mul, tn_l, lt_t, lt_f, le_t, le_f, eq_t, eq_f, ltn_t, ltn_f, len_t, len_f, eqn_t, eqn_f, up_ne, up_up, sh_0, rf_0_2, rf_0_7, sh_73, sh_44, e0.1, hj, b, e]
    · rw [if_neg c] at b ⊢
      rw [s1_iff [4] 200]
      simp (disch := omega) [sz_s, sz_0, gx_s, hx_r, hx_c, hx_b, hx_s, hx_i, hx_n, kx_s, kx_n, kx_i, cx_d, up_at, am_ctl, am_step, am_i1, am_i2, am_i2d, am_l1, am_l2, am_l2d, am_ldi, am_ldl, am_lda, am_sti, am_sta, am_stl, am_inc, am_i2l, am_l2i, am_lcmp, am_dup, am_dup2, am_pop1, am_fv, am_getf, am_putf, am_wr, am_ial, am_lal, am_bal, am_aal, am_ias, am_las, am_bas, am_alen, am_inst, am_cast, am_cpm, am_copy, am_tsw, am_pop, am_cat, am_cS, am_cI, am_cV, am_ri, am_rl, am_ra, am_rv, am_b1, am_b2, am_ent, am_en, am_isL, am_st1, am_st2, am_clr, am_cnd, cc_151, ac_151, nL_151, rb_151, tg_11_2, tg_4_7, tg_11_7, List.getElem?_cons_succ, List.getElem?_cons_zero, nz_of, nzl_of, Int.toNat_add, Int.toNat_mul, tn_l, lt_t, lt_f, le_t, le_f, eq_t, eq_f, ltn_t, ltn_f, len_t, len_f, eqn_t, eqn_f, up_ne, up_up, sh_0, rf_0_2, rf_0_7, sh_73, sh_44, e0.1, hj, b, e]
  have s0 := up_iff _ (nW (μ 102)) step
  have z : hdZ (vW (μ 102)) 0 T = 0 := rfl
  rw [z] at s0
  unfold wpM
  rw [s1_iff [4] 200]
  simp (disch := omega) [sz_s, sz_0, gx_s, hx_r, hx_c, hx_b, hx_s, hx_i, hx_n, kx_s, kx_n, kx_i, cx_d, up_at, am_ctl, am_step, am_i1, am_i2, am_i2d, am_l1, am_l2, am_l2d, am_ldi, am_ldl, am_lda, am_sti, am_sta, am_stl, am_inc, am_i2l, am_l2i, am_lcmp, am_dup, am_dup2, am_pop1, am_fv, am_getf, am_putf, am_wr, am_ial, am_lal, am_bal, am_aal, am_ias, am_las, am_bas, am_alen, am_inst, am_cast, am_cpm, am_copy, am_tsw, am_pop, am_cat, am_cS, am_cI, am_cV, am_ri, am_rl, am_ra, am_rv, am_b1, am_b2, am_ent, am_en, am_isL, am_st1, am_st2, am_clr, am_cnd, cc_151, ac_151, nL_151, rb_151, tg_11_2, tg_4_7, tg_11_7, List.getElem?_cons_succ, List.getElem?_cons_zero, nz_of, nzl_of, Int.toNat_add, Int.toNat_mul, tn_l, lt_t, lt_f, le_t, le_f, eq_t, eq_f, ltn_t, ltn_f, len_t, len_f, eqn_t, eqn_f, up_ne, up_up, sh_0]
  refine s0.trans ?_
  rw [s1_iff [4] 200]
  simp (disch := omega) [sz_s, sz_0, gx_s, hx_r, hx_c, hx_b, hx_s, hx_i, hx_n, kx_s, kx_n, kx_i, cx_d, up_at, am_ctl, am_step, am_i1, am_i2, am_i2d, am_l1, am_l2, am_l2d, am_ldi, am_ldl, am_lda, am_sti, am_sta, am_stl, am_inc, am_i2l, am_l2i, am_lcmp, am_dup, am_dup2, am_pop1, am_fv, am_getf, am_putf, am_wr, am_ial, am_lal, am_bal, am_aal, am_ias, am_las, am_bas, am_alen, am_inst, am_cast, am_cpm, am_copy, am_tsw, am_pop, am_cat, am_cS, am_cI, am_cV, am_ri, am_rl, am_ra, am_rv, am_b1, am_b2, am_ent, am_en, am_isL, am_st1, am_st2, am_clr, am_cnd, cc_151, ac_151, nL_151, rb_151, tg_11_2, tg_4_7, tg_11_7, List.getElem?_cons_succ, List.getElem?_cons_zero, nz_of, nzl_of, Int.toNat_add, Int.toNat_mul, tn_l, lt_t, lt_f, le_t, le_f, eq_t, eq_f, ltn_t, ltn_f, len_t, len_f, eqn_t, eqn_f, up_ne, up_up, sh_0, rf_0_2, sh_73, e0.1]
set_option maxRecDepth 100000 in
theorem wp_bits (T : Nat) (hT : T < 256) (σ : ST) (Φ : Option AV → ST → Prop) : wpM 253 [.inl T] σ Φ ↔ Φ (some (.inl (pcZ T))) σ := by
  unfold wpM
  rw [s1_iff [] 90]
  simp [sz_s, sz_0, gx_s, hx_r, hx_c, hx_b, hx_s, hx_i, hx_n, kx_s, kx_n, kx_i, cx_d, up_at, am_ctl, am_step, am_i1, am_i2, am_i2d, am_l1, am_l2, am_l2d, am_ldi, am_ldl, am_lda, am_sti, am_sta, am_stl, am_inc, am_i2l, am_l2i, am_lcmp, am_dup, am_dup2, am_pop1, am_fv, am_getf, am_putf, am_wr, am_ial, am_lal, am_bal, am_aal, am_ias, am_las, am_bas, am_alen, am_inst, am_cast, am_cpm, am_copy, am_tsw, am_pop, am_cat, am_cS, am_cI, am_cV, am_ri, am_rl, am_ra, am_rv, am_b1, am_b2, am_ent, am_en, am_isL, am_st1, am_st2, am_clr, am_cnd, cc_253, ac_253, nL_253, rb_253]
  refine an_iff ?_
  revert T
  decide +kernel
set_option maxRecDepth 100000 in
theorem wm_ones (T : Nat) (hT : T < 256) (σ : ST) (Φ : Option AV → ST → Prop) : wpM 225 [.inl T] σ Φ ↔ Φ (some (.inl (pcZ T))) σ := by
  have step : ∀ j, j < 8 → ((fun j : Nat => wpS 225 4 [some (.inl T), some (.inl (sumZ (fun h => if T.testBit h = true then 1 else 0) j)), some (.inl j)] [] σ Φ) j ↔ (fun j : Nat => wpS 225 4 [some (.inl T), some (.inl (sumZ (fun h => if T.testBit h = true then 1 else 0) j)), some (.inl j)] [] σ Φ) (j + 1)) := by
    intro j hj
    have b := bit_r T hT j hj
    have r := @sumZ_rng (fun h => if T.testBit h = true then 1 else 0) 0 1 j (fun i _ => by (try dsimp only); split <;> omega)
    dsimp only
    rw [sumZ_s]
    generalize sumZ (fun h => if T.testBit h = true then 1 else 0) j = z at r ⊢
    by_cases c : T.testBit j = true
    · rw [if_pos c] at b
      rw [s1_iff [4] 200]
      simp (disch := omega) [sz_s, sz_0, gx_s, hx_r, hx_c, hx_b, hx_s, hx_i, hx_n, kx_s, kx_n, kx_i, cx_d, up_at, am_ctl, am_step, am_i1, am_i2, am_i2d, am_l1, am_l2, am_l2d, am_ldi, am_ldl, am_lda, am_sti, am_sta, am_stl, am_inc, am_i2l, am_l2i, am_lcmp, am_dup, am_dup2, am_pop1, am_fv, am_getf, am_putf, am_wr, am_ial, am_lal, am_bal, am_aal, am_ias, am_las, am_bas, am_alen, am_inst, am_cast, am_cpm, am_copy, am_tsw, am_pop, am_cat, am_cS, am_cI, am_cV, am_ri, am_rl, am_ra, am_rv, am_b1, am_b2, am_ent, am_en, am_isL, am_st1, am_st2, am_clr, am_cnd, cc_225, ac_225, nL_225, rb_225, List.getElem?_cons_succ, List.getElem?_cons_zero, nz_of, nzl_of, Int.toNat_add, Int.toNat_mul, tn_l, lt_t, lt_f, le_t, le_f, eq_t, eq_f, ltn_t, ltn_f, len_t, len_f, eqn_t, eqn_f, up_ne, up_up, hj, b, c]
    · rw [if_neg c] at b
      rw [s1_iff [4] 200]
      simp (disch := omega) [sz_s, sz_0, gx_s, hx_r, hx_c, hx_b, hx_s, hx_i, hx_n, kx_s, kx_n, kx_i, cx_d, up_at, am_ctl, am_step, am_i1, am_i2, am_i2d, am_l1, am_l2, am_l2d, am_ldi, am_ldl, am_lda, am_sti, am_sta, am_stl, am_inc, am_i2l, am_l2i, am_lcmp, am_dup, am_dup2, am_pop1, am_fv, am_getf, am_putf, am_wr, am_ial, am_lal, am_bal, am_aal, am_ias, am_las, am_bas, am_alen, am_inst, am_cast, am_cpm, am_copy, am_tsw, am_pop, am_cat, am_cS, am_cI, am_cV, am_ri, am_rl, am_ra, am_rv, am_b1, am_b2, am_ent, am_en, am_isL, am_st1, am_st2, am_clr, am_cnd, cc_225, ac_225, nL_225, rb_225, List.getElem?_cons_succ, List.getElem?_cons_zero, nz_of, nzl_of, Int.toNat_add, Int.toNat_mul, tn_l, lt_t, lt_f, le_t, le_f, eq_t, eq_f, ltn_t, ltn_f, len_t, len_f, eqn_t, eqn_f, up_ne, up_up, hj, b, c]
  have s0 := up_iff _ 8 step
  rw [sumZ_0] at s0
  unfold wpM
  rw [s1_iff [4] 200]
  simp (disch := omega) [sz_s, sz_0, gx_s, hx_r, hx_c, hx_b, hx_s, hx_i, hx_n, kx_s, kx_n, kx_i, cx_d, up_at, am_ctl, am_step, am_i1, am_i2, am_i2d, am_l1, am_l2, am_l2d, am_ldi, am_ldl, am_lda, am_sti, am_sta, am_stl, am_inc, am_i2l, am_l2i, am_lcmp, am_dup, am_dup2, am_pop1, am_fv, am_getf, am_putf, am_wr, am_ial, am_lal, am_bal, am_aal, am_ias, am_las, am_bas, am_alen, am_inst, am_cast, am_cpm, am_copy, am_tsw, am_pop, am_cat, am_cS, am_cI, am_cV, am_ri, am_rl, am_ra, am_rv, am_b1, am_b2, am_ent, am_en, am_isL, am_st1, am_st2, am_clr, am_cnd, cc_225, ac_225, nL_225, rb_225, List.getElem?_cons_succ, List.getElem?_cons_zero, nz_of, nzl_of, Int.toNat_add, Int.toNat_mul, tn_l, lt_t, lt_f, le_t, le_f, eq_t, eq_f, ltn_t, ltn_f, len_t, len_f, eqn_t, eqn_f, up_ne, up_up]
  refine s0.trans ?_
  rw [s1_iff [4] 200]
  simp (disch := omega) [sz_s, sz_0, gx_s, hx_r, hx_c, hx_b, hx_s, hx_i, hx_n, kx_s, kx_n, kx_i, cx_d, up_at, am_ctl, am_step, am_i1, am_i2, am_i2d, am_l1, am_l2, am_l2d, am_ldi, am_ldl, am_lda, am_sti, am_sta, am_stl, am_inc, am_i2l, am_l2i, am_lcmp, am_dup, am_dup2, am_pop1, am_fv, am_getf, am_putf, am_wr, am_ial, am_lal, am_bal, am_aal, am_ias, am_las, am_bas, am_alen, am_inst, am_cast, am_cpm, am_copy, am_tsw, am_pop, am_cat, am_cS, am_cI, am_cV, am_ri, am_rl, am_ra, am_rv, am_b1, am_b2, am_ent, am_en, am_isL, am_st1, am_st2, am_clr, am_cnd, cc_225, ac_225, nL_225, rb_225, List.getElem?_cons_succ, List.getElem?_cons_zero, nz_of, nzl_of, Int.toNat_add, Int.toNat_mul, tn_l, lt_t, lt_f, le_t, le_f, eq_t, eq_f, ltn_t, ltn_f, len_t, len_f, eqn_t, eqn_f, up_ne, up_up]
  rfl
set_option maxRecDepth 100000 in
theorem wm_has (T h : Nat) (hT : T < 256) (hh : h < 8) (σ : ST) (Φ : Option AV → ST → Prop) : wpM 157 [.inl T, .inl h] σ Φ ↔ Φ (some (.inl (if T.testBit h = true then 1 else 0))) σ := by
  have b := bit_r T hT h hh
  unfold wpM
  by_cases c : T.testBit h = true
  · rw [if_pos c] at b ⊢
    rw [s1_iff [] 200]
    simp (disch := omega) [sz_s, sz_0, gx_s, hx_r, hx_c, hx_b, hx_s, hx_i, hx_n, kx_s, kx_n, kx_i, cx_d, up_at, am_ctl, am_step, am_i1, am_i2, am_i2d, am_l1, am_l2, am_l2d, am_ldi, am_ldl, am_lda, am_sti, am_sta, am_stl, am_inc, am_i2l, am_l2i, am_lcmp, am_dup, am_dup2, am_pop1, am_fv, am_getf, am_putf, am_wr, am_ial, am_lal, am_bal, am_aal, am_ias, am_las, am_bas, am_alen, am_inst, am_cast, am_cpm, am_copy, am_tsw, am_pop, am_cat, am_cS, am_cI, am_cV, am_ri, am_rl, am_ra, am_rv, am_b1, am_b2, am_ent, am_en, am_isL, am_st1, am_st2, am_clr, am_cnd, cc_157, ac_157, nL_157, rb_157, List.getElem?_cons_succ, List.getElem?_cons_zero, nz_of, nzl_of, Int.toNat_add, Int.toNat_mul, tn_l, lt_t, lt_f, le_t, le_f, eq_t, eq_f, ltn_t, ltn_f, len_t, len_f, eqn_t, eqn_f, up_ne, up_up, b]
  · rw [if_neg c] at b ⊢
    rw [s1_iff [] 200]
    simp (disch := omega) [sz_s, sz_0, gx_s, hx_r, hx_c, hx_b, hx_s, hx_i, hx_n, kx_s, kx_n, kx_i, cx_d, up_at, am_ctl, am_step, am_i1, am_i2, am_i2d, am_l1, am_l2, am_l2d, am_ldi, am_ldl, am_lda, am_sti, am_sta, am_stl, am_inc, am_i2l, am_l2i, am_lcmp, am_dup, am_dup2, am_pop1, am_fv, am_getf, am_putf, am_wr, am_ial, am_lal, am_bal, am_aal, am_ias, am_las, am_bas, am_alen, am_inst, am_cast, am_cpm, am_copy, am_tsw, am_pop, am_cat, am_cS, am_cI, am_cV, am_ri, am_rl, am_ra, am_rv, am_b1, am_b2, am_ent, am_en, am_isL, am_st1, am_st2, am_clr, am_cnd, cc_157, ac_157, nL_157, rb_157, List.getElem?_cons_succ, List.getElem?_cons_zero, nz_of, nzl_of, Int.toNat_add, Int.toNat_mul, tn_l, lt_t, lt_f, le_t, le_f, eq_t, eq_f, ltn_t, ltn_f, len_t, len_f, eqn_t, eqn_f, up_ne, up_up, b]
set_option maxRecDepth 100000 in
theorem wm_hidden {B : Int} {μ : Nat → Nat → Int} (hL : LD B μ 73 0) (T : Nat) (hT : T < 256) (Φ : Option AV → ST → Prop) : wpM 224 [.inr (.inr (some 101)), .inl T] (S μ) Φ ↔ Φ (some (.inl (hdZ (vW (μ 102)) (nW (μ 102)) T))) (S μ) := by
  have e0 := ld_n hL
  have step : ∀ j, j < nW (μ 102) → ((fun j : Nat => wpS 224 4 [some (.inr (.inr (some 101))), some (.inl T), some (.inl (hdZ (vW (μ 102)) j T)), some (.inl j)] [] (S μ) Φ) j ↔ (fun j : Nat => wpS 224 4 [some (.inr (.inr (some 101))), some (.inl T), some (.inl (hdZ (vW (μ 102)) j T)), some (.inl j)] [] (S μ) Φ) (j + 1)) := by
    intro j hj
    have b := wm_has T j hT (by omega) (S μ)
    have K := wm_hides hL hj
    have r := hdj_rng hL T (j := j) (by omega)
    have rv := vW_rng hL hj
    have lr := lieW_rng hL hj
    have ev : vW (μ 102) j = max (-(lieW (μ 102) j)) 0 := rfl
    have el : μ 102 (21 + j) - cntW (μ 102) j (μ 102 1) = -lieW (μ 102) j := by unfold lieW; omega
    rw [el] at K
    dsimp only
    rw [hdZ_s]
    by_cases c : T.testBit j = true
    · simp only [if_pos c] at b
      rw [if_pos c]
      by_cases g : lieW (μ 102) j < 0
      · rw [show vW (μ 102) j = -lieW (μ 102) j by omega] at rv ⊢
        rw [s1_iff [4] 200]
        simp (disch := omega) [sz_s, sz_0, gx_s, hx_r, hx_c, hx_b, hx_s, hx_i, hx_n, kx_s, kx_n, kx_i, cx_d, up_at, am_ctl, am_step, am_i1, am_i2, am_i2d, am_l1, am_l2, am_l2d, am_ldi, am_ldl, am_lda, am_sti, am_sta, am_stl, am_inc, am_i2l, am_l2i, am_lcmp, am_dup, am_dup2, am_pop1, am_fv, am_getf, am_putf, am_wr, am_ial, am_lal, am_bal, am_aal, am_ias, am_las, am_bas, am_alen, am_inst, am_cast, am_cpm, am_copy, am_tsw, am_pop, am_cat, am_cS, am_cI, am_cV, am_ri, am_rl, am_ra, am_rv, am_b1, am_b2, am_ent, am_en, am_isL, am_st1, am_st2, am_clr, am_cnd, cc_224, ac_224, nL_224, rb_224, np_157, ok_224_157, nL_157, np_222, ok_224_222, nL_222, vd_222_12, tg_12_0, List.getElem?_cons_succ, List.getElem?_cons_zero, nz_of, nzl_of, Int.toNat_add, Int.toNat_mul, tn_l, lt_t, lt_f, le_t, le_f, eq_t, eq_f, ltn_t, ltn_f, len_t, len_f, eqn_t, eqn_f, up_ne, up_up, sh_101, sh_102, rf_101_0, e0.2.1, hj, b, K]
      · rw [show vW (μ 102) j = 0 by omega] at rv ⊢
        rw [s1_iff [4] 200]
        simp (disch := omega) [sz_s, sz_0, gx_s, hx_r, hx_c, hx_b, hx_s, hx_i, hx_n, kx_s, kx_n, kx_i, cx_d, up_at, am_ctl, am_step, am_i1, am_i2, am_i2d, am_l1, am_l2, am_l2d, am_ldi, am_ldl, am_lda, am_sti, am_sta, am_stl, am_inc, am_i2l, am_l2i, am_lcmp, am_dup, am_dup2, am_pop1, am_fv, am_getf, am_putf, am_wr, am_ial, am_lal, am_bal, am_aal, am_ias, am_las, am_bas, am_alen, am_inst, am_cast, am_cpm, am_copy, am_tsw, am_pop, am_cat, am_cS, am_cI, am_cV, am_ri, am_rl, am_ra, am_rv, am_b1, am_b2, am_ent, am_en, am_isL, am_st1, am_st2, am_clr, am_cnd, cc_224, ac_224, nL_224, rb_224, np_157, ok_224_157, nL_157, np_222, ok_224_222, nL_222, vd_222_12, tg_12_0, List.getElem?_cons_succ, List.getElem?_cons_zero, nz_of, nzl_of, Int.toNat_add, Int.toNat_mul, tn_l, lt_t, lt_f, le_t, le_f, eq_t, eq_f, ltn_t, ltn_f, len_t, len_f, eqn_t, eqn_f, up_ne, up_up, sh_101, sh_102, rf_101_0, e0.2.1, hj, b, K]
    · simp only [if_neg c] at b
      rw [if_neg c]
      rw [s1_iff [4] 200]
      simp (disch := omega) [sz_s, sz_0, gx_s, hx_r, hx_c, hx_b, hx_s, hx_i, hx_n, kx_s, kx_n, kx_i, cx_d, up_at, am_ctl, am_step, am_i1, am_i2, am_i2d, am_l1, am_l2, am_l2d, am_ldi, am_ldl, am_lda, am_sti, am_sta, am_stl, am_inc, am_i2l, am_l2i, am_lcmp, am_dup, am_dup2, am_pop1, am_fv, am_getf, am_putf, am_wr, am_ial, am_lal, am_bal, am_aal, am_ias, am_las, am_bas, am_alen, am_inst, am_cast, am_cpm, am_copy, am_tsw, am_pop, am_cat, am_cS, am_cI, am_cV, am_ri, am_rl, am_ra, am_rv, am_b1, am_b2, am_ent, am_en, am_isL, am_st1, am_st2, am_clr, am_cnd, cc_224, ac_224, nL_224, rb_224, np_157, ok_224_157, nL_157, np_222, ok_224_222, nL_222, vd_222_12, tg_12_0, List.getElem?_cons_succ, List.getElem?_cons_zero, nz_of, nzl_of, Int.toNat_add, Int.toNat_mul, tn_l, lt_t, lt_f, le_t, le_f, eq_t, eq_f, ltn_t, ltn_f, len_t, len_f, eqn_t, eqn_f, up_ne, up_up, sh_101, sh_102, rf_101_0, e0.2.1, hj, b]
  have s0 := up_iff _ (nW (μ 102)) step
  have z : hdZ (vW (μ 102)) 0 T = 0 := rfl
  rw [z] at s0
  unfold wpM
  rw [s1_iff [4] 200]
  simp (disch := omega) [sz_s, sz_0, gx_s, hx_r, hx_c, hx_b, hx_s, hx_i, hx_n, kx_s, kx_n, kx_i, cx_d, up_at, am_ctl, am_step, am_i1, am_i2, am_i2d, am_l1, am_l2, am_l2d, am_ldi, am_ldl, am_lda, am_sti, am_sta, am_stl, am_inc, am_i2l, am_l2i, am_lcmp, am_dup, am_dup2, am_pop1, am_fv, am_getf, am_putf, am_wr, am_ial, am_lal, am_bal, am_aal, am_ias, am_las, am_bas, am_alen, am_inst, am_cast, am_cpm, am_copy, am_tsw, am_pop, am_cat, am_cS, am_cI, am_cV, am_ri, am_rl, am_ra, am_rv, am_b1, am_b2, am_ent, am_en, am_isL, am_st1, am_st2, am_clr, am_cnd, cc_224, ac_224, nL_224, rb_224, np_157, ok_224_157, nL_157, np_222, ok_224_222, nL_222, vd_222_12, tg_12_0, List.getElem?_cons_succ, List.getElem?_cons_zero, nz_of, nzl_of, Int.toNat_add, Int.toNat_mul, tn_l, lt_t, lt_f, le_t, le_f, eq_t, eq_f, ltn_t, ltn_f, len_t, len_f, eqn_t, eqn_f, up_ne, up_up, sh_101]
  refine s0.trans ?_
  rw [s1_iff [4] 200]
  simp (disch := omega) [sz_s, sz_0, gx_s, hx_r, hx_c, hx_b, hx_s, hx_i, hx_n, kx_s, kx_n, kx_i, cx_d, up_at, am_ctl, am_step, am_i1, am_i2, am_i2d, am_l1, am_l2, am_l2d, am_ldi, am_ldl, am_lda, am_sti, am_sta, am_stl, am_inc, am_i2l, am_l2i, am_lcmp, am_dup, am_dup2, am_pop1, am_fv, am_getf, am_putf, am_wr, am_ial, am_lal, am_bal, am_aal, am_ias, am_las, am_bas, am_alen, am_inst, am_cast, am_cpm, am_copy, am_tsw, am_pop, am_cat, am_cS, am_cI, am_cV, am_ri, am_rl, am_ra, am_rv, am_b1, am_b2, am_ent, am_en, am_isL, am_st1, am_st2, am_clr, am_cnd, cc_224, ac_224, nL_224, rb_224, np_157, ok_224_157, nL_157, np_222, ok_224_222, nL_222, vd_222_12, tg_12_0, List.getElem?_cons_succ, List.getElem?_cons_zero, nz_of, nzl_of, Int.toNat_add, Int.toNat_mul, tn_l, lt_t, lt_f, le_t, le_f, eq_t, eq_f, ltn_t, ltn_f, len_t, len_f, eqn_t, eqn_f, up_ne, up_up, sh_101, sh_102, rf_101_0, e0.2.1]
set_option maxRecDepth 100000 in
theorem wp_all {B : Int} {μ : Nat → Nat → Int} (hL : LD B μ 73 0) (al : Nat) (ha : al = 2 ^ nW (μ 102) - 1) (Φ : Option AV → ST → Prop) : wpM 149 [.inr (.inr (some 0))] (S μ) Φ ↔ Φ (some (.inl al)) (S μ) := by
  have e0 := ld_n hL
  have e := bit_a (nW (μ 102)) (by omega)
  rw [← ha] at e
  unfold wpM
  rw [s1_iff [] 200]
  simp (disch := omega) [sz_s, sz_0, gx_s, hx_r, hx_c, hx_b, hx_s, hx_i, hx_n, kx_s, kx_n, kx_i, cx_d, up_at, am_ctl, am_step, am_i1, am_i2, am_i2d, am_l1, am_l2, am_l2d, am_ldi, am_ldl, am_lda, am_sti, am_sta, am_stl, am_inc, am_i2l, am_l2i, am_lcmp, am_dup, am_dup2, am_pop1, am_fv, am_getf, am_putf, am_wr, am_ial, am_lal, am_bal, am_aal, am_ias, am_las, am_bas, am_alen, am_inst, am_cast, am_cpm, am_copy, am_tsw, am_pop, am_cat, am_cS, am_cI, am_cV, am_ri, am_rl, am_ra, am_rv, am_b1, am_b2, am_ent, am_en, am_isL, am_st1, am_st2, am_clr, am_cnd, cc_149, ac_149, nL_149, rb_149, tg_11_2, tg_4_7, List.getElem?_cons_succ, List.getElem?_cons_zero, nz_of, nzl_of, Int.toNat_add, Int.toNat_mul, tn_l, lt_t, lt_f, le_t, le_f, eq_t, eq_f, ltn_t, ltn_f, len_t, len_f, eqn_t, eqn_f, up_ne, up_up, sh_0, rf_0_2, sh_73, e0.1, e]
/-- the best set yet, of those ahead of j -/
def lkZ (v : Nat → Int) (n : Nat) (fine due : Int) : Nat → Int
  | 0 => -1
  | j + 1 => if (lkZ v n fine due j < 0 ∨ pcZ j < pcZ (lkZ v n fine due j).toNat) ∧ due ≤ fine * hdZ v n j then (j : Int) else lkZ v n fine due j
theorem lkZ_rng (v : Nat → Int) (n : Nat) (fine due : Int) : ∀ j : Nat, -1 ≤ lkZ v n fine due j ∧ lkZ v n fine due j < j
  | 0 => by rw [lkZ]; omega
  | j + 1 => by
    have := lkZ_rng v n fine due j
    rw [lkZ]; split <;> omega
theorem mul_rn2 {a b : Int} (ha : 0 ≤ a ∧ a ≤ 99) (hb : 0 ≤ b ∧ b ≤ 100) : 0 ≤ a * b ∧ a * b ≤ 9900 := by
  have h1 : 0 ≤ a * (100 - b) := Int.mul_nonneg ha.1 (by omega)
  have h2 : 0 ≤ a * b := Int.mul_nonneg ha.1 (by omega)
  rw [Int.mul_sub] at h1
  omega
