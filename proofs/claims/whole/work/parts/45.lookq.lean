/-! look, fine: equal on both sides -/
def duW (w : Nat → Int) : Int := w 3 * hdZ (vW w) (nW w) (2 ^ nW w - 1)
def loW_ (w : Nat → Int) (j : Nat) : Int := lkZ (vW w) (nW w) (w 4) (duW w) j
def feZ (b : Int) : Int := if b < 0 then 9 else pcZ b.toNat
def whZ (b : Int) : Int := if b < 0 then 0 else b
set_option maxRecDepth 100000 in
theorem wp_look {B : Int} {μ : Nat → Nat → Int} (hL : LD B μ 73 0) (Φ : Option AV → ST → Prop) (k1 : loW_ (μ 102) (2 ^ nW (μ 102)) < 0 → Φ (some (.inl (-9))) (S (H4 μ))) (k2 : ∀ b : Nat, loW_ (μ 102) (2 ^ nW (μ 102)) = b → b < 256 → Φ (some (.inl (pcZ b))) (S (am_up (H4 μ) 0 10 b))) : wpM 114 [.inr (.inr (some 0))] (S μ) Φ := by
  have n8 := (ld_n hL).2.2
  have l0 := ld_0 hL
  obtain ⟨al, ha⟩ : ∃ al, al = 2 ^ nW (μ 102) - 1 := ⟨_, rfl⟩
  have p8 := pow8 n8
  have p0 := Nat.two_pow_pos (nW (μ 102))
  have hal : 2 ^ nW (μ 102) = al + 1 := by omega
  have hL4 : LD B (H4 μ) 73 0 := LD_rf hL 44 0 _ _ (by decide) (by decide)
  have hH4 := H4_HD μ
  have e102 : H4 μ 102 = μ 102 := H4_ne _ _ (by decide)
  have e73 : H4 μ 73 = μ 73 := H4_ne _ _ (by decide)
  have A := wp_all hL4 al (by rw [e102]; exact ha)
  have Hd := fun (T : Nat) (hT : T < 256) => wp_hiddenBy hL4 hH4 T hT
  rw [e102] at Hd
  have Ha := Hd al (by omega)
  have rd := hd_rng hL al
  have rm := mul_rn2 l0.2.2.2.2.2.2.2.2.1 (show 0 ≤ hdZ (vW (μ 102)) (nW (μ 102)) al ∧ hdZ (vW (μ 102)) (nW (μ 102)) al ≤ 100 by omega)
  have ed : μ 102 3 * hdZ (vW (μ 102)) (nW (μ 102)) al = duW (μ 102) := by unfold duW; rw [ha]
  rw [ed] at rm
  have step : ∀ j, j < al + 1 → ((fun j : Nat => wpS 114 29 [some (.inr (.inr (some 0))), some (.inl (duW (μ 102))), some (.inl (feZ (loW_ (μ 102) j))), some (.inl (whZ (loW_ (μ 102) j))), some (.inl j)] [] (S (H4 μ)) Φ) j ↔ (fun j : Nat => wpS 114 29 [some (.inr (.inr (some 0))), some (.inl (duW (μ 102))), some (.inl (feZ (loW_ (μ 102) j))), some (.inl (whZ (loW_ (μ 102) j))), some (.inl j)] [] (S (H4 μ)) Φ) (j + 1)) := by
    intro j hj
    have Hj := Hd j (by omega)
    have Bj := fun Ψ => wp_bits j (by omega) (S (H4 μ)) Ψ
    have rj := hd_rng hL j
    have rq := mul_rn2 l0.2.2.2.2.2.2.2.2.2 (show 0 ≤ hdZ (vW (μ 102)) (nW (μ 102)) j ∧ hdZ (vW (μ 102)) (nW (μ 102)) j ≤ 100 by omega)
    have pj := pcZ_rng j
    have lr := lkZ_rng (vW (μ 102)) (nW (μ 102)) (μ 102 4) (duW (μ 102)) j
    have ex : loW_ (μ 102) (j + 1) = if (loW_ (μ 102) j < 0 ∨ pcZ j < pcZ (loW_ (μ 102) j).toNat) ∧ duW (μ 102) ≤ μ 102 4 * hdZ (vW (μ 102)) (nW (μ 102)) j then (j : Int) else loW_ (μ 102) j := rfl
    have lr' : -1 ≤ loW_ (μ 102) j ∧ loW_ (μ 102) j < j := lr
    dsimp only
    rw [ex]
    generalize loW_ (μ 102) j = b at *
    generalize hM : μ 102 4 * hdZ (vW (μ 102)) (nW (μ 102)) j = m at *
    have fe : feZ (j : Int) = pcZ j := by unfold feZ; rw [if_neg (by omega), Int.toNat_natCast]
    have wh : whZ (j : Int) = j := by unfold whZ; rw [if_neg (by omega)]
    have c1 : (b < 0 ∨ pcZ j < pcZ b.toNat) ↔ pcZ j < feZ b := by
      unfold feZ
      by_cases z : b < 0
      · rw [if_pos z]; omega
      · rw [if_neg z]; omega
    simp only [c1]
    by_cases c : pcZ j < feZ b
    · by_cases d : duW (μ 102) ≤ m
      · rw [if_pos ⟨c, d⟩, fe, wh]
        rw [s1_iff [29] 200]
        simp (disch := omega) [sz_s, sz_0, gx_s, hx_r, hx_c, hx_b, hx_s, hx_i, hx_n, kx_s, kx_n, kx_i, cx_d, up_at, am_ctl, am_step, am_i1, am_i2, am_i2d, am_l1, am_l2, am_l2d, am_ldi, am_ldl, am_lda, am_sti, am_sta, am_stl, am_inc, am_i2l, am_l2i, am_lcmp, am_dup, am_dup2, am_pop1, am_fv, am_getf, am_putf, am_wr, am_ial, am_lal, am_bal, am_aal, am_ias, am_las, am_bas, am_alen, am_inst, am_cast, am_cpm, am_copy, am_tsw, am_pop, am_cat, am_cS, am_cI, am_cV, am_ri, am_rl, am_ra, am_rv, am_b1, am_b2, am_ent, am_en, am_isL, am_st1, am_st2, am_clr, am_cnd, cc_114, ac_114, nL_114, rb_114, np_253, ok_114_253, nL_253, np_134, ok_114_134, nL_134, vd_134_11, np_149, ok_114_149, nL_149, vd_149_11, np_150, ok_114_150, nL_150, vd_150_11, np_151, ok_114_151, nL_151, vd_151_11, tg_11_2, tg_4_10, tg_4_11, List.getElem?_cons_succ, List.getElem?_cons_zero, nz_of, nzl_of, Int.toNat_add, Int.toNat_mul, tn_l, lt_t, lt_f, le_t, le_f, eq_t, eq_f, ltn_t, ltn_f, len_t, len_f, eqn_t, eqn_f, up_ne, up_up, sh_0, rf_0_2, sh_73, e73, A, Bj, c, Hj, l0.2.2.2.2.1, hM, d]
      · rw [if_neg (fun q => d q.2)]
        rw [s1_iff [29] 200]
        simp (disch := omega) [sz_s, sz_0, gx_s, hx_r, hx_c, hx_b, hx_s, hx_i, hx_n, kx_s, kx_n, kx_i, cx_d, up_at, am_ctl, am_step, am_i1, am_i2, am_i2d, am_l1, am_l2, am_l2d, am_ldi, am_ldl, am_lda, am_sti, am_sta, am_stl, am_inc, am_i2l, am_l2i, am_lcmp, am_dup, am_dup2, am_pop1, am_fv, am_getf, am_putf, am_wr, am_ial, am_lal, am_bal, am_aal, am_ias, am_las, am_bas, am_alen, am_inst, am_cast, am_cpm, am_copy, am_tsw, am_pop, am_cat, am_cS, am_cI, am_cV, am_ri, am_rl, am_ra, am_rv, am_b1, am_b2, am_ent, am_en, am_isL, am_st1, am_st2, am_clr, am_cnd, cc_114, ac_114, nL_114, rb_114, np_253, ok_114_253, nL_253, np_134, ok_114_134, nL_134, vd_134_11, np_149, ok_114_149, nL_149, vd_149_11, np_150, ok_114_150, nL_150, vd_150_11, np_151, ok_114_151, nL_151, vd_151_11, tg_11_2, tg_4_10, tg_4_11, List.getElem?_cons_succ, List.getElem?_cons_zero, nz_of, nzl_of, Int.toNat_add, Int.toNat_mul, tn_l, lt_t, lt_f, le_t, le_f, eq_t, eq_f, ltn_t, ltn_f, len_t, len_f, eqn_t, eqn_f, up_ne, up_up, sh_0, rf_0_2, sh_73, e73, A, Bj, c, Hj, l0.2.2.2.2.1, hM, d]
    · rw [if_neg (fun q => c q.1)]
      rw [s1_iff [29] 200]
      simp (disch := omega) [sz_s, sz_0, gx_s, hx_r, hx_c, hx_b, hx_s, hx_i, hx_n, kx_s, kx_n, kx_i, cx_d, up_at, am_ctl, am_step, am_i1, am_i2, am_i2d, am_l1, am_l2, am_l2d, am_ldi, am_ldl, am_lda, am_sti, am_sta, am_stl, am_inc, am_i2l, am_l2i, am_lcmp, am_dup, am_dup2, am_pop1, am_fv, am_getf, am_putf, am_wr, am_ial, am_lal, am_bal, am_aal, am_ias, am_las, am_bas, am_alen, am_inst, am_cast, am_cpm, am_copy, am_tsw, am_pop, am_cat, am_cS, am_cI, am_cV, am_ri, am_rl, am_ra, am_rv, am_b1, am_b2, am_ent, am_en, am_isL, am_st1, am_st2, am_clr, am_cnd, cc_114, ac_114, nL_114, rb_114, np_253, ok_114_253, nL_253, np_134, ok_114_134, nL_134, vd_134_11, np_149, ok_114_149, nL_149, vd_149_11, np_150, ok_114_150, nL_150, vd_150_11, np_151, ok_114_151, nL_151, vd_151_11, tg_11_2, tg_4_10, tg_4_11, List.getElem?_cons_succ, List.getElem?_cons_zero, nz_of, nzl_of, Int.toNat_add, Int.toNat_mul, tn_l, lt_t, lt_f, le_t, le_f, eq_t, eq_f, ltn_t, ltn_f, len_t, len_f, eqn_t, eqn_f, up_ne, up_up, sh_0, rf_0_2, sh_73, e73, A, Bj, c]
  have s0 := up_iff _ (al + 1) step
  have z0 : loW_ (μ 102) 0 = -1 := rfl
  have z1 : feZ (-1) = 9 := rfl
  have z2 : whZ (-1) = 0 := rfl
  rw [z0, z1, z2] at s0
  unfold wpM
  rw [s1_iff [29] 200]
  simp (disch := omega) [sz_s, sz_0, gx_s, hx_r, hx_c, hx_b, hx_s, hx_i, hx_n, kx_s, kx_n, kx_i, cx_d, up_at, am_ctl, am_step, am_i1, am_i2, am_i2d, am_l1, am_l2, am_l2d, am_ldi, am_ldl, am_lda, am_sti, am_sta, am_stl, am_inc, am_i2l, am_l2i, am_lcmp, am_dup, am_dup2, am_pop1, am_fv, am_getf, am_putf, am_wr, am_ial, am_lal, am_bal, am_aal, am_ias, am_las, am_bas, am_alen, am_inst, am_cast, am_cpm, am_copy, am_tsw, am_pop, am_cat, am_cS, am_cI, am_cV, am_ri, am_rl, am_ra, am_rv, am_b1, am_b2, am_ent, am_en, am_isL, am_st1, am_st2, am_clr, am_cnd, cc_114, ac_114, nL_114, rb_114, np_253, ok_114_253, nL_253, np_134, ok_114_134, nL_134, vd_134_11, np_149, ok_114_149, nL_149, vd_149_11, np_150, ok_114_150, nL_150, vd_150_11, np_151, ok_114_151, nL_151, vd_151_11, tg_11_2, tg_4_10, tg_4_11, List.getElem?_cons_succ, List.getElem?_cons_zero, nz_of, nzl_of, Int.toNat_add, Int.toNat_mul, tn_l, lt_t, lt_f, le_t, le_f, eq_t, eq_f, ltn_t, ltn_f, len_t, len_f, eqn_t, eqn_f, up_ne, up_up, sh_0, rf_0_2, sh_73, wp_measure hL, A, Ha, e73, l0.2.2.2.1, ed]
  refine s0.mpr ?_
  rw [hal] at k1 k2
  have lr : -1 ≤ loW_ (μ 102) (al + 1) ∧ loW_ (μ 102) (al + 1) < ((al + 1 : Nat) : Int) := lkZ_rng (vW (μ 102)) (nW (μ 102)) (μ 102 4) (duW (μ 102)) (al + 1)
  generalize loW_ (μ 102) (al + 1) = b at *
  by_cases c : b < 0
  · have k1 := k1 c
    have f1 : feZ b = 9 := if_pos c
    rw [f1]
    rw [s1_iff [29] 200]
    simp (disch := omega) [sz_s, sz_0, gx_s, hx_r, hx_c, hx_b, hx_s, hx_i, hx_n, kx_s, kx_n, kx_i, cx_d, up_at, am_ctl, am_step, am_i1, am_i2, am_i2d, am_l1, am_l2, am_l2d, am_ldi, am_ldl, am_lda, am_sti, am_sta, am_stl, am_inc, am_i2l, am_l2i, am_lcmp, am_dup, am_dup2, am_pop1, am_fv, am_getf, am_putf, am_wr, am_ial, am_lal, am_bal, am_aal, am_ias, am_las, am_bas, am_alen, am_inst, am_cast, am_cpm, am_copy, am_tsw, am_pop, am_cat, am_cS, am_cI, am_cV, am_ri, am_rl, am_ra, am_rv, am_b1, am_b2, am_ent, am_en, am_isL, am_st1, am_st2, am_clr, am_cnd, cc_114, ac_114, nL_114, rb_114, np_253, ok_114_253, nL_253, np_134, ok_114_134, nL_134, vd_134_11, np_149, ok_114_149, nL_149, vd_149_11, np_150, ok_114_150, nL_150, vd_150_11, np_151, ok_114_151, nL_151, vd_151_11, tg_11_2, tg_4_10, tg_4_11, List.getElem?_cons_succ, List.getElem?_cons_zero, nz_of, nzl_of, Int.toNat_add, Int.toNat_mul, tn_l, lt_t, lt_f, le_t, le_f, eq_t, eq_f, ltn_t, ltn_f, len_t, len_f, eqn_t, eqn_f, up_ne, up_up, sh_0, rf_0_2, A]
    exact k1
  · obtain ⟨x, rfl⟩ : ∃ x : Nat, b = x := ⟨b.toNat, by omega⟩
    have k2 := k2 x rfl (by omega)
    have px := pcZ_rng x
    have fe : feZ (x : Int) = pcZ x := by unfold feZ; rw [if_neg (by omega), Int.toNat_natCast]
    have wh : whZ (x : Int) = x := by unfold whZ; rw [if_neg (by omega)]
    rw [fe, wh]
    rw [s1_iff [29] 200]
    simp (disch := omega) [sz_s, sz_0, gx_s, hx_r, hx_c, hx_b, hx_s, hx_i, hx_n, kx_s, kx_n, kx_i, cx_d, up_at, am_ctl, am_step, am_i1, am_i2, am_i2d, am_l1, am_l2, am_l2d, am_ldi, am_ldl, am_lda, am_sti, am_sta, am_stl, am_inc, am_i2l, am_l2i, am_lcmp, am_dup, am_dup2, am_pop1, am_fv, am_getf, am_putf, am_wr, am_ial, am_lal, am_bal, am_aal, am_ias, am_las, am_bas, am_alen, am_inst, am_cast, am_cpm, am_copy, am_tsw, am_pop, am_cat, am_cS, am_cI, am_cV, am_ri, am_rl, am_ra, am_rv, am_b1, am_b2, am_ent, am_en, am_isL, am_st1, am_st2, am_clr, am_cnd, cc_114, ac_114, nL_114, rb_114, np_253, ok_114_253, nL_253, np_134, ok_114_134, nL_134, vd_134_11, np_149, ok_114_149, nL_149, vd_149_11, np_150, ok_114_150, nL_150, vd_150_11, np_151, ok_114_151, nL_151, vd_151_11, tg_11_2, tg_4_10, tg_4_11, List.getElem?_cons_succ, List.getElem?_cons_zero, nz_of, nzl_of, Int.toNat_add, Int.toNat_mul, tn_l, lt_t, lt_f, le_t, le_f, eq_t, eq_f, ltn_t, ltn_f, len_t, len_f, eqn_t, eqn_f, up_ne, up_up, sh_0, rf_0_2, A, wp_tell]
    exact k2
set_option maxRecDepth 100000 in
theorem wm_look {B : Int} {μ : Nat → Nat → Int} (hL : LD B μ 73 0) (Φ : Option AV → ST → Prop) (k1 : loW_ (μ 102) (2 ^ nW (μ 102)) < 0 → Φ (some (.inl (-9))) (S μ)) (k2 : ∀ b : Nat, loW_ (μ 102) (2 ^ nW (μ 102)) = b → b < 256 → Φ (some (.inl (pcZ b))) (S (am_up μ 101 8 b))) : wpM 226 [.inr (.inr (some 101))] (S μ) Φ := by
  have e0 := ld_n hL
  have n8 := e0.2.2
  have l0 := ld_0 hL
  obtain ⟨al, ha⟩ : ∃ al, al = 2 ^ nW (μ 102) - 1 := ⟨_, rfl⟩
  have p8 := pow8 n8
  have p0 := Nat.two_pow_pos (nW (μ 102))
  have hal : 2 ^ nW (μ 102) = al + 1 := by omega
  have eA := bit_a (nW (μ 102)) (by omega)
  rw [← ha] at eA
  have Ha := wm_hidden hL al (by omega)
  have rd := hd_rng hL al
  have rm := mul_rn2 l0.2.2.2.2.2.2.2.2.1 (show 0 ≤ hdZ (vW (μ 102)) (nW (μ 102)) al ∧ hdZ (vW (μ 102)) (nW (μ 102)) al ≤ 100 by omega)
  have ed : μ 102 3 * hdZ (vW (μ 102)) (nW (μ 102)) al = duW (μ 102) := by unfold duW; rw [ha]
  rw [ed] at rm
  have key := up_to (fun (j : Nat) (s : Option AV) => wpS 226 29 [some (.inr (.inr (some 101))), some (.inl al), some (.inl (duW (μ 102))), some (.inl (loW_ (μ 102) j)), some (.inl j), s] [] (S μ) Φ) (fun _ _ => True) (al + 1) (fun j s hj _ hs' => by
    have Hj := wm_hidden hL j (by omega)
    have Oj := fun Ψ => wm_ones j (by omega) (S μ) Ψ
    have rj := hd_rng hL j
    have rq := mul_rn2 l0.2.2.2.2.2.2.2.2.2 (show 0 ≤ hdZ (vW (μ 102)) (nW (μ 102)) j ∧ hdZ (vW (μ 102)) (nW (μ 102)) j ≤ 100 by omega)
    have pj := pcZ_rng j
    have ex : loW_ (μ 102) (j + 1) = if (loW_ (μ 102) j < 0 ∨ pcZ j < pcZ (loW_ (μ 102) j).toNat) ∧ duW (μ 102) ≤ μ 102 4 * hdZ (vW (μ 102)) (nW (μ 102)) j then (j : Int) else loW_ (μ 102) j := rfl
    have lr : -1 ≤ loW_ (μ 102) j ∧ loW_ (μ 102) j < j := lkZ_rng (vW (μ 102)) (nW (μ 102)) (μ 102 4) (duW (μ 102)) j
    try dsimp only at hs' ⊢
    rw [ex] at hs'
    clear ex
    generalize loW_ (μ 102) j = b at *
    generalize hM : μ 102 4 * hdZ (vW (μ 102)) (nW (μ 102)) j = m at *
    by_cases z : b < 0
    · by_cases d : duW (μ 102) ≤ m
      · have q := hs' (some (.inl 1)) trivial
        rw [if_pos ⟨Or.inl z, d⟩] at q
        rw [s1_iff [29] 200]
        simp (disch := omega) [sz_s, sz_0, gx_s, hx_r, hx_c, hx_b, hx_s, hx_i, hx_n, kx_s, kx_n, kx_i, cx_d, up_at, am_ctl, am_step, am_i1, am_i2, am_i2d, am_l1, am_l2, am_l2d, am_ldi, am_ldl, am_lda, am_sti, am_sta, am_stl, am_inc, am_i2l, am_l2i, am_lcmp, am_dup, am_dup2, am_pop1, am_fv, am_getf, am_putf, am_wr, am_ial, am_lal, am_bal, am_aal, am_ias, am_las, am_bas, am_alen, am_inst, am_cast, am_cpm, am_copy, am_tsw, am_pop, am_cat, am_cS, am_cI, am_cV, am_ri, am_rl, am_ra, am_rv, am_b1, am_b2, am_ent, am_en, am_isL, am_st1, am_st2, am_clr, am_cnd, cc_226, ac_226, nL_226, rb_226, np_225, ok_226_225, nL_225, np_224, ok_226_224, nL_224, vd_224_12, tg_12_0, List.getElem?_cons_succ, List.getElem?_cons_zero, nz_of, nzl_of, Int.toNat_add, Int.toNat_mul, tn_l, lt_t, lt_f, le_t, le_f, eq_t, eq_f, ltn_t, ltn_f, len_t, len_f, eqn_t, eqn_f, up_ne, up_up, sh_101, sh_102, rf_101_0, Hj, hM, d, z]
        simpa using q
      · have q := hs' (some (.inl 1)) trivial
        rw [if_neg (fun q => d q.2)] at q
        rw [s1_iff [29] 200]
        simp (disch := omega) [sz_s, sz_0, gx_s, hx_r, hx_c, hx_b, hx_s, hx_i, hx_n, kx_s, kx_n, kx_i, cx_d, up_at, am_ctl, am_step, am_i1, am_i2, am_i2d, am_l1, am_l2, am_l2d, am_ldi, am_ldl, am_lda, am_sti, am_sta, am_stl, am_inc, am_i2l, am_l2i, am_lcmp, am_dup, am_dup2, am_pop1, am_fv, am_getf, am_putf, am_wr, am_ial, am_lal, am_bal, am_aal, am_ias, am_las, am_bas, am_alen, am_inst, am_cast, am_cpm, am_copy, am_tsw, am_pop, am_cat, am_cS, am_cI, am_cV, am_ri, am_rl, am_ra, am_rv, am_b1, am_b2, am_ent, am_en, am_isL, am_st1, am_st2, am_clr, am_cnd, cc_226, ac_226, nL_226, rb_226, np_225, ok_226_225, nL_225, np_224, ok_226_224, nL_224, vd_224_12, tg_12_0, List.getElem?_cons_succ, List.getElem?_cons_zero, nz_of, nzl_of, Int.toNat_add, Int.toNat_mul, tn_l, lt_t, lt_f, le_t, le_f, eq_t, eq_f, ltn_t, ltn_f, len_t, len_f, eqn_t, eqn_f, up_ne, up_up, sh_101, sh_102, rf_101_0, Hj, hM, d, z]
        simpa using q
    · obtain ⟨x, rfl⟩ : ∃ x : Nat, b = x := ⟨b.toNat, by omega⟩
      have Ox := fun Ψ => wm_ones x (by omega) (S μ) Ψ
      rw [Int.toNat_natCast] at hs'
      by_cases c : pcZ j < pcZ x
      · by_cases d : duW (μ 102) ≤ m
        · have q := hs' (some (.inl 1)) trivial
          rw [if_pos ⟨Or.inr c, d⟩] at q
          rw [s1_iff [29] 200]
          simp (disch := omega) [sz_s, sz_0, gx_s, hx_r, hx_c, hx_b, hx_s, hx_i, hx_n, kx_s, kx_n, kx_i, cx_d, up_at, am_ctl, am_step, am_i1, am_i2, am_i2d, am_l1, am_l2, am_l2d, am_ldi, am_ldl, am_lda, am_sti, am_sta, am_stl, am_inc, am_i2l, am_l2i, am_lcmp, am_dup, am_dup2, am_pop1, am_fv, am_getf, am_putf, am_wr, am_ial, am_lal, am_bal, am_aal, am_ias, am_las, am_bas, am_alen, am_inst, am_cast, am_cpm, am_copy, am_tsw, am_pop, am_cat, am_cS, am_cI, am_cV, am_ri, am_rl, am_ra, am_rv, am_b1, am_b2, am_ent, am_en, am_isL, am_st1, am_st2, am_clr, am_cnd, cc_226, ac_226, nL_226, rb_226, np_225, ok_226_225, nL_225, np_224, ok_226_224, nL_224, vd_224_12, tg_12_0, List.getElem?_cons_succ, List.getElem?_cons_zero, nz_of, nzl_of, Int.toNat_add, Int.toNat_mul, tn_l, lt_t, lt_f, le_t, le_f, eq_t, eq_f, ltn_t, ltn_f, len_t, len_f, eqn_t, eqn_f, up_ne, up_up, sh_101, sh_102, rf_101_0, Hj, Oj, Ox, hM, d, c]
          simpa using q
        · have q := hs' (some (.inl 1)) trivial
          rw [if_neg (fun q => d q.2)] at q
          rw [s1_iff [29] 200]
          simp (disch := omega) [sz_s, sz_0, gx_s, hx_r, hx_c, hx_b, hx_s, hx_i, hx_n, kx_s, kx_n, kx_i, cx_d, up_at, am_ctl, am_step, am_i1, am_i2, am_i2d, am_l1, am_l2, am_l2d, am_ldi, am_ldl, am_lda, am_sti, am_sta, am_stl, am_inc, am_i2l, am_l2i, am_lcmp, am_dup, am_dup2, am_pop1, am_fv, am_getf, am_putf, am_wr, am_ial, am_lal, am_bal, am_aal, am_ias, am_las, am_bas, am_alen, am_inst, am_cast, am_cpm, am_copy, am_tsw, am_pop, am_cat, am_cS, am_cI, am_cV, am_ri, am_rl, am_ra, am_rv, am_b1, am_b2, am_ent, am_en, am_isL, am_st1, am_st2, am_clr, am_cnd, cc_226, ac_226, nL_226, rb_226, np_225, ok_226_225, nL_225, np_224, ok_226_224, nL_224, vd_224_12, tg_12_0, List.getElem?_cons_succ, List.getElem?_cons_zero, nz_of, nzl_of, Int.toNat_add, Int.toNat_mul, tn_l, lt_t, lt_f, le_t, le_f, eq_t, eq_f, ltn_t, ltn_f, len_t, len_f, eqn_t, eqn_f, up_ne, up_up, sh_101, sh_102, rf_101_0, Hj, Oj, Ox, hM, d, c]
          simpa using q
      · have q := hs' (some (.inl 0)) trivial
        rw [if_neg (fun q => q.1.elim z c)] at q
        rw [s1_iff [29] 200]
        simp (disch := omega) [sz_s, sz_0, gx_s, hx_r, hx_c, hx_b, hx_s, hx_i, hx_n, kx_s, kx_n, kx_i, cx_d, up_at, am_ctl, am_step, am_i1, am_i2, am_i2d, am_l1, am_l2, am_l2d, am_ldi, am_ldl, am_lda, am_sti, am_sta, am_stl, am_inc, am_i2l, am_l2i, am_lcmp, am_dup, am_dup2, am_pop1, am_fv, am_getf, am_putf, am_wr, am_ial, am_lal, am_bal, am_aal, am_ias, am_las, am_bas, am_alen, am_inst, am_cast, am_cpm, am_copy, am_tsw, am_pop, am_cat, am_cS, am_cI, am_cV, am_ri, am_rl, am_ra, am_rv, am_b1, am_b2, am_ent, am_en, am_isL, am_st1, am_st2, am_clr, am_cnd, cc_226, ac_226, nL_226, rb_226, np_225, ok_226_225, nL_225, np_224, ok_226_224, nL_224, vd_224_12, tg_12_0, List.getElem?_cons_succ, List.getElem?_cons_zero, nz_of, nzl_of, Int.toNat_add, Int.toNat_mul, tn_l, lt_t, lt_f, le_t, le_f, eq_t, eq_f, ltn_t, ltn_f, len_t, len_f, eqn_t, eqn_f, up_ne, up_up, sh_101, sh_102, rf_101_0, Hj, Oj, Ox, hM, c]
        simpa using q) (fun s _ => by
    rw [hal] at k1 k2
    have lr : -1 ≤ loW_ (μ 102) (al + 1) ∧ loW_ (μ 102) (al + 1) < ((al + 1 : Nat) : Int) := lkZ_rng (vW (μ 102)) (nW (μ 102)) (μ 102 4) (duW (μ 102)) (al + 1)
    try dsimp only
    generalize loW_ (μ 102) (al + 1) = b at *
    by_cases c : b < 0
    · have k1 := k1 c
      rw [s1_iff [29] 200]
      simp (disch := omega) [sz_s, sz_0, gx_s, hx_r, hx_c, hx_b, hx_s, hx_i, hx_n, kx_s, kx_n, kx_i, cx_d, up_at, am_ctl, am_step, am_i1, am_i2, am_i2d, am_l1, am_l2, am_l2d, am_ldi, am_ldl, am_lda, am_sti, am_sta, am_stl, am_inc, am_i2l, am_l2i, am_lcmp, am_dup, am_dup2, am_pop1, am_fv, am_getf, am_putf, am_wr, am_ial, am_lal, am_bal, am_aal, am_ias, am_las, am_bas, am_alen, am_inst, am_cast, am_cpm, am_copy, am_tsw, am_pop, am_cat, am_cS, am_cI, am_cV, am_ri, am_rl, am_ra, am_rv, am_b1, am_b2, am_ent, am_en, am_isL, am_st1, am_st2, am_clr, am_cnd, cc_226, ac_226, nL_226, rb_226, np_225, ok_226_225, nL_225, np_224, ok_226_224, nL_224, vd_224_12, tg_12_0, List.getElem?_cons_succ, List.getElem?_cons_zero, nz_of, nzl_of, Int.toNat_add, Int.toNat_mul, tn_l, lt_t, lt_f, le_t, le_f, eq_t, eq_f, ltn_t, ltn_f, len_t, len_f, eqn_t, eqn_f, up_ne, up_up, sh_101, c]
      exact k1
    · obtain ⟨x, rfl⟩ : ∃ x : Nat, b = x := ⟨b.toNat, by omega⟩
      have k2 := k2 x rfl (by omega)
      have Ox := fun Ψ => wm_ones x (by omega) (S (am_up μ 101 8 (x : Int))) Ψ
      rw [s1_iff [29] 200]
      simp (disch := omega) [sz_s, sz_0, gx_s, hx_r, hx_c, hx_b, hx_s, hx_i, hx_n, kx_s, kx_n, kx_i, cx_d, up_at, am_ctl, am_step, am_i1, am_i2, am_i2d, am_l1, am_l2, am_l2d, am_ldi, am_ldl, am_lda, am_sti, am_sta, am_stl, am_inc, am_i2l, am_l2i, am_lcmp, am_dup, am_dup2, am_pop1, am_fv, am_getf, am_putf, am_wr, am_ial, am_lal, am_bal, am_aal, am_ias, am_las, am_bas, am_alen, am_inst, am_cast, am_cpm, am_copy, am_tsw, am_pop, am_cat, am_cS, am_cI, am_cV, am_ri, am_rl, am_ra, am_rv, am_b1, am_b2, am_ent, am_en, am_isL, am_st1, am_st2, am_clr, am_cnd, cc_226, ac_226, nL_226, rb_226, np_225, ok_226_225, nL_225, np_224, ok_226_224, nL_224, vd_224_12, tg_12_0, List.getElem?_cons_succ, List.getElem?_cons_zero, nz_of, nzl_of, Int.toNat_add, Int.toNat_mul, tn_l, lt_t, lt_f, le_t, le_f, eq_t, eq_f, ltn_t, ltn_f, len_t, len_f, eqn_t, eqn_f, up_ne, up_up, sh_101, Ox]
      exact k2) none trivial
  have z0 : loW_ (μ 102) 0 = -1 := rfl
  try dsimp only at key
  rw [z0] at key
  unfold wpM
  rw [s1_iff [29] 200]
  simp (disch := omega) [sz_s, sz_0, gx_s, hx_r, hx_c, hx_b, hx_s, hx_i, hx_n, kx_s, kx_n, kx_i, cx_d, up_at, am_ctl, am_step, am_i1, am_i2, am_i2d, am_l1, am_l2, am_l2d, am_ldi, am_ldl, am_lda, am_sti, am_sta, am_stl, am_inc, am_i2l, am_l2i, am_lcmp, am_dup, am_dup2, am_pop1, am_fv, am_getf, am_putf, am_wr, am_ial, am_lal, am_bal, am_aal, am_ias, am_las, am_bas, am_alen, am_inst, am_cast, am_cpm, am_copy, am_tsw, am_pop, am_cat, am_cS, am_cI, am_cV, am_ri, am_rl, am_ra, am_rv, am_b1, am_b2, am_ent, am_en, am_isL, am_st1, am_st2, am_clr, am_cnd, cc_226, ac_226, nL_226, rb_226, np_225, ok_226_225, nL_225, np_224, ok_226_224, nL_224, vd_224_12, tg_12_0, List.getElem?_cons_succ, List.getElem?_cons_zero, nz_of, nzl_of, Int.toNat_add, Int.toNat_mul, tn_l, lt_t, lt_f, le_t, le_f, eq_t, eq_f, ltn_t, ltn_f, len_t, len_f, eqn_t, eqn_f, up_ne, up_up, sh_101, sh_102, rf_101_0, e0.2.1, eA, Ha, ed]
  exact key
theorem eq_look {B : Int} {μ : Nat → Nat → Int} (h : INV B μ) : EQV B μ 114 226 [] := by
  have hL : LD B μ 73 0 := h.2.2.2.1
  have e102 : H4 μ 102 = μ 102 := H4_ne _ _ (by decide)
  have hL4 : LD B (H4 μ) 73 0 := LD_rf hL 44 0 _ _ (by decide) (by decide)
  have i4 : INV B (H4 μ) := INV_ans h (fun k i hk => by rw [H4_ne _ _ (by omega)]) (by rw [H4_ne _ _ (by omega)]) (by rw [H4_ne _ _ (by omega)]) (fun i => by rw [H4_ne _ _ (by omega)]) (fun i => by rw [H4_ne _ _ (by omega)]) (by rw [H4_ne _ _ (by omega), H4_ne _ _ (by omega)]; exact h.1.2.1) (by rw [H4_ne _ _ (by omega), H4_ne _ _ (by omega)]; exact h.1.2.2.1) (by rw [H4_ne _ _ (by omega), H4_ne _ _ (by omega)]; exact h.1.2.2.2.1)
  unfold EQV
  refine wp_look hL _ (fun c => ⟨_, _, rfl, rfl, ?_⟩) (fun b hb h8 => ⟨_, _, rfl, rfl, ?_⟩)
  · refine wm_look hL4 _ (fun _ => ⟨rfl, _, rfl, i4⟩) (fun b hb _ => ?_)
    rw [e102] at hb; omega
  · have q : (am_up (H4 μ) 0 10 (b : Int)) 102 = μ 102 := by rw [up_ne _ _ _ (by decide), e102]
    refine wm_look (LD_up hL4 _ _ _ (by decide) (by decide)) _ (fun c => ?_) (fun b' hb' _ => ?_)
    · rw [q] at c; omega
    · rw [q] at hb'
      obtain rfl : b = b' := by omega
      exact ⟨rfl, _, rfl, inv_tell i4 _⟩
