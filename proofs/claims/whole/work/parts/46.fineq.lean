/-! fine: equal on both sides -/
theorem agZ_lt (v : Nat → Int) (T : Nat) : ∀ n, (agZ v T n).2 < n ∨ (agZ v T n).2 = 0
  | 0 => Or.inr rfl
  | n + 1 => by
    have := agZ_lt v T n
    rw [agZ]
    split
    · exact Or.inl (by dsimp only; omega)
    · omega
theorem agZ_r {v : Nat → Int} {T : Nat} : ∀ n, (∀ i, i < n → 0 ≤ v i ∧ v i ≤ 9) → -1 ≤ (agZ v T n).1 ∧ (agZ v T n).1 ≤ 9
  | 0, _ => by rw [agZ]; dsimp only; omega
  | n + 1, h => by
    have := agZ_r (T := T) n (fun i hi => h i (by omega))
    have hn := h n (by omega)
    rw [agZ]
    split
    · dsimp only; omega
    · omega
set_option maxRecDepth 100000 in
theorem wp_beside {B : Int} {μ : Nat → Nat → Int} (hL : LD B μ 73 0) (hH : HD μ) (T : Nat) (hT : T < 256) (Φ : Option AV → ST → Prop) : wpM 153 [.inr (.inr (some 0)), .inl T] (S μ) Φ ↔ Φ (some (.inl ((agZ (vW (μ 102)) T (nW (μ 102))).2 : Nat))) (S μ) := by
  have e0 := ld_n hL
  have step : ∀ j, j < nW (μ 102) → ((fun j : Nat => wpS 153 7 [some (.inr (.inr (some 0))), some (.inl T), some (.inl (agZ (vW (μ 102)) T j).1), some (.inl ((agZ (vW (μ 102)) T j).2 : Nat)), some (.inl j)] [] (S μ) Φ) j ↔ (fun j : Nat => wpS 153 7 [some (.inr (.inr (some 0))), some (.inl T), some (.inl (agZ (vW (μ 102)) T j).1), some (.inl ((agZ (vW (μ 102)) T j).2 : Nat)), some (.inl j)] [] (S μ) Φ) (j + 1)) := by
    intro j hj
    have b := bit_r T hT j (by omega)
    have e := hH j hj
    have rv := vW_rng hL hj
    have ex : agZ (vW (μ 102)) T (j + 1) = if T.testBit j = false ∧ (agZ (vW (μ 102)) T j).1 < vW (μ 102) j then (vW (μ 102) j, j) else agZ (vW (μ 102)) T j := rfl
    dsimp only
    rw [ex]
    generalize agZ (vW (μ 102)) T j = z at *
    obtain ⟨z1, z2⟩ := z
    dsimp only
    by_cases c : T.testBit j = true
    · rw [if_pos c] at b
      rw [if_neg (by rw [c]; simp)]
      rw [s1_iff [7] 200]
      simp (disch := omega) [sz_s, sz_0, gx_s, hx_r, hx_c, hx_b, hx_s, hx_i, hx_n, kx_s, kx_n, kx_i, cx_d, up_at, am_ctl, am_step, am_i1, am_i2, am_i2d, am_l1, am_l2, am_l2d, am_ldi, am_ldl, am_lda, am_sti, am_sta, am_stl, am_inc, am_i2l, am_l2i, am_lcmp, am_dup, am_dup2, am_pop1, am_fv, am_getf, am_putf, am_wr, am_ial, am_lal, am_bal, am_aal, am_ias, am_las, am_bas, am_alen, am_inst, am_cast, am_cpm, am_copy, am_tsw, am_pop, am_cat, am_cS, am_cI, am_cV, am_ri, am_rl, am_ra, am_rv, am_b1, am_b2, am_ent, am_en, am_isL, am_st1, am_st2, am_clr, am_cnd, cc_153, ac_153, nL_153, rb_153, tg_11_2, tg_4_7, tg_11_7, List.getElem?_cons_succ, List.getElem?_cons_zero, nz_of, nzl_of, Int.toNat_add, Int.toNat_mul, tn_l, lt_t, lt_f, le_t, le_f, eq_t, eq_f, ltn_t, ltn_f, len_t, len_f, eqn_t, eqn_f, up_ne, up_up, sh_0, rf_0_2, rf_0_7, sh_73, sh_44, e0.1, hj, b, e]
    · rw [if_neg c] at b
      have c' : T.testBit j = false := by simpa using c
      by_cases g : z1 < vW (μ 102) j
      · rw [if_pos ⟨c', g⟩]
        rw [s1_iff [7] 200]
        simp (disch := omega) [sz_s, sz_0, gx_s, hx_r, hx_c, hx_b, hx_s, hx_i, hx_n, kx_s, kx_n, kx_i, cx_d, up_at, am_ctl, am_step, am_i1, am_i2, am_i2d, am_l1, am_l2, am_l2d, am_ldi, am_ldl, am_lda, am_sti, am_sta, am_stl, am_inc, am_i2l, am_l2i, am_lcmp, am_dup, am_dup2, am_pop1, am_fv, am_getf, am_putf, am_wr, am_ial, am_lal, am_bal, am_aal, am_ias, am_las, am_bas, am_alen, am_inst, am_cast, am_cpm, am_copy, am_tsw, am_pop, am_cat, am_cS, am_cI, am_cV, am_ri, am_rl, am_ra, am_rv, am_b1, am_b2, am_ent, am_en, am_isL, am_st1, am_st2, am_clr, am_cnd, cc_153, ac_153, nL_153, rb_153, tg_11_2, tg_4_7, tg_11_7, List.getElem?_cons_succ, List.getElem?_cons_zero, nz_of, nzl_of, Int.toNat_add, Int.toNat_mul, tn_l, lt_t, lt_f, le_t, le_f, eq_t, eq_f, ltn_t, ltn_f, len_t, len_f, eqn_t, eqn_f, up_ne, up_up, sh_0, rf_0_2, rf_0_7, sh_73, sh_44, e0.1, hj, b, e, g]
      · rw [if_neg (fun q => g q.2)]
        rw [s1_iff [7] 200]
        simp (disch := omega) [sz_s, sz_0, gx_s, hx_r, hx_c, hx_b, hx_s, hx_i, hx_n, kx_s, kx_n, kx_i, cx_d, up_at, am_ctl, am_step, am_i1, am_i2, am_i2d, am_l1, am_l2, am_l2d, am_ldi, am_ldl, am_lda, am_sti, am_sta, am_stl, am_inc, am_i2l, am_l2i, am_lcmp, am_dup, am_dup2, am_pop1, am_fv, am_getf, am_putf, am_wr, am_ial, am_lal, am_bal, am_aal, am_ias, am_las, am_bas, am_alen, am_inst, am_cast, am_cpm, am_copy, am_tsw, am_pop, am_cat, am_cS, am_cI, am_cV, am_ri, am_rl, am_ra, am_rv, am_b1, am_b2, am_ent, am_en, am_isL, am_st1, am_st2, am_clr, am_cnd, cc_153, ac_153, nL_153, rb_153, tg_11_2, tg_4_7, tg_11_7, List.getElem?_cons_succ, List.getElem?_cons_zero, nz_of, nzl_of, Int.toNat_add, Int.toNat_mul, tn_l, lt_t, lt_f, le_t, le_f, eq_t, eq_f, ltn_t, ltn_f, len_t, len_f, eqn_t, eqn_f, up_ne, up_up, sh_0, rf_0_2, rf_0_7, sh_73, sh_44, e0.1, hj, b, e, g]
  have s0 := up_iff _ (nW (μ 102)) step
  have z : agZ (vW (μ 102)) T 0 = (-1, 0) := rfl
  try dsimp only at s0
  rw [z] at s0
  unfold wpM
  rw [s1_iff [7] 200]
  simp (disch := omega) [sz_s, sz_0, gx_s, hx_r, hx_c, hx_b, hx_s, hx_i, hx_n, kx_s, kx_n, kx_i, cx_d, up_at, am_ctl, am_step, am_i1, am_i2, am_i2d, am_l1, am_l2, am_l2d, am_ldi, am_ldl, am_lda, am_sti, am_sta, am_stl, am_inc, am_i2l, am_l2i, am_lcmp, am_dup, am_dup2, am_pop1, am_fv, am_getf, am_putf, am_wr, am_ial, am_lal, am_bal, am_aal, am_ias, am_las, am_bas, am_alen, am_inst, am_cast, am_cpm, am_copy, am_tsw, am_pop, am_cat, am_cS, am_cI, am_cV, am_ri, am_rl, am_ra, am_rv, am_b1, am_b2, am_ent, am_en, am_isL, am_st1, am_st2, am_clr, am_cnd, cc_153, ac_153, nL_153, rb_153, tg_11_2, tg_4_7, tg_11_7, List.getElem?_cons_succ, List.getElem?_cons_zero, nz_of, nzl_of, Int.toNat_add, Int.toNat_mul, tn_l, lt_t, lt_f, le_t, le_f, eq_t, eq_f, ltn_t, ltn_f, len_t, len_f, eqn_t, eqn_f, up_ne, up_up, sh_0]
  refine s0.trans ?_
  rw [s1_iff [7] 200]
  simp (disch := omega) [sz_s, sz_0, gx_s, hx_r, hx_c, hx_b, hx_s, hx_i, hx_n, kx_s, kx_n, kx_i, cx_d, up_at, am_ctl, am_step, am_i1, am_i2, am_i2d, am_l1, am_l2, am_l2d, am_ldi, am_ldl, am_lda, am_sti, am_sta, am_stl, am_inc, am_i2l, am_l2i, am_lcmp, am_dup, am_dup2, am_pop1, am_fv, am_getf, am_putf, am_wr, am_ial, am_lal, am_bal, am_aal, am_ias, am_las, am_bas, am_alen, am_inst, am_cast, am_cpm, am_copy, am_tsw, am_pop, am_cat, am_cS, am_cI, am_cV, am_ri, am_rl, am_ra, am_rv, am_b1, am_b2, am_ent, am_en, am_isL, am_st1, am_st2, am_clr, am_cnd, cc_153, ac_153, nL_153, rb_153, tg_11_2, tg_4_7, tg_11_7, List.getElem?_cons_succ, List.getElem?_cons_zero, nz_of, nzl_of, Int.toNat_add, Int.toNat_mul, tn_l, lt_t, lt_f, le_t, le_f, eq_t, eq_f, ltn_t, ltn_f, len_t, len_f, eqn_t, eqn_f, up_ne, up_up, sh_0, rf_0_2, sh_73, e0.1]
set_option maxRecDepth 100000 in
theorem wp_mostHidden {B : Int} {μ : Nat → Nat → Int} (hL : LD B μ 73 0) (hH : HD μ) (k : Nat) (Φ : Option AV → ST → Prop) : wpM 152 [.inr (.inr (some 0)), .inl k] (S μ) Φ ↔ Φ (some (.inl (hdZ (vW (μ 102)) (nW (μ 102)) (grZ (vW (μ 102)) (nW (μ 102)) (min k (nW (μ 102))))))) (S μ) := by
  have e0 := ld_n hL
  have p8 := pow8 e0.2.2
  have g := fun j hj => grZ_ok (v := vW (μ 102)) e0.2.2 (fun i hi => (vW_rng hL hi).1) j hj
  have step : ∀ j, j < min k (nW (μ 102)) → ((fun j : Nat => wpS 152 4 [some (.inr (.inr (some 0))), some (.inl k), some (.inl (grZ (vW (μ 102)) (nW (μ 102)) j : Nat)), some (.inl j)] [] (S μ) Φ) j ↔ (fun j : Nat => wpS 152 4 [some (.inr (.inr (some 0))), some (.inl k), some (.inl (grZ (vW (μ 102)) (nW (μ 102)) j : Nat)), some (.inl j)] [] (S μ) Φ) (j + 1)) := by
    intro j hj
    have gj := (g j (by omega)).1
    have ex : grZ (vW (μ 102)) (nW (μ 102)) (j + 1) = grZ (vW (μ 102)) (nW (μ 102)) j ||| 2 ^ (agZ (vW (μ 102)) (grZ (vW (μ 102)) (nW (μ 102)) j) (nW (μ 102))).2 := rfl
    have K := wp_beside hL hH (grZ (vW (μ 102)) (nW (μ 102)) j) (by omega)
    have lt := agZ_lt (vW (μ 102)) (grZ (vW (μ 102)) (nW (μ 102)) j) (nW (μ 102))
    have bo := bit_o (grZ (vW (μ 102)) (nW (μ 102)) j) (by omega) (agZ (vW (μ 102)) (grZ (vW (μ 102)) (nW (μ 102)) j) (nW (μ 102))).2 (by omega)
    dsimp only
    rw [ex]
    generalize (agZ (vW (μ 102)) (grZ (vW (μ 102)) (nW (μ 102)) j) (nW (μ 102))).2 = a at *
    generalize grZ (vW (μ 102)) (nW (μ 102)) j = T at *
    generalize hU : T ||| 2 ^ a = U at *
    rw [s1_iff [4] 200]
    simp (disch := omega) [sz_s, sz_0, gx_s, hx_r, hx_c, hx_b, hx_s, hx_i, hx_n, kx_s, kx_n, kx_i, cx_d, up_at, am_ctl, am_step, am_i1, am_i2, am_i2d, am_l1, am_l2, am_l2d, am_ldi, am_ldl, am_lda, am_sti, am_sta, am_stl, am_inc, am_i2l, am_l2i, am_lcmp, am_dup, am_dup2, am_pop1, am_fv, am_getf, am_putf, am_wr, am_ial, am_lal, am_bal, am_aal, am_ias, am_las, am_bas, am_alen, am_inst, am_cast, am_cpm, am_copy, am_tsw, am_pop, am_cat, am_cS, am_cI, am_cV, am_ri, am_rl, am_ra, am_rv, am_b1, am_b2, am_ent, am_en, am_isL, am_st1, am_st2, am_clr, am_cnd, cc_152, ac_152, nL_152, rb_152, np_151, ok_152_151, nL_151, vd_151_11, np_153, ok_152_153, nL_153, vd_153_11, tg_11_2, tg_4_7, List.getElem?_cons_succ, List.getElem?_cons_zero, nz_of, nzl_of, Int.toNat_add, Int.toNat_mul, tn_l, lt_t, lt_f, le_t, le_f, eq_t, eq_f, ltn_t, ltn_f, len_t, len_f, eqn_t, eqn_f, up_ne, up_up, sh_0, rf_0_2, sh_73, e0.1, K, bo]
  have s0 := up_iff _ (min k (nW (μ 102))) step
  have gm := (g (min k (nW (μ 102))) (by omega)).1
  have K := wp_hiddenBy hL hH (grZ (vW (μ 102)) (nW (μ 102)) (min k (nW (μ 102)))) (by omega)
  have z : grZ (vW (μ 102)) (nW (μ 102)) 0 = 0 := rfl
  try dsimp only at s0
  rw [z] at s0
  unfold wpM
  rw [s1_iff [4] 200]
  simp (disch := omega) [sz_s, sz_0, gx_s, hx_r, hx_c, hx_b, hx_s, hx_i, hx_n, kx_s, kx_n, kx_i, cx_d, up_at, am_ctl, am_step, am_i1, am_i2, am_i2d, am_l1, am_l2, am_l2d, am_ldi, am_ldl, am_lda, am_sti, am_sta, am_stl, am_inc, am_i2l, am_l2i, am_lcmp, am_dup, am_dup2, am_pop1, am_fv, am_getf, am_putf, am_wr, am_ial, am_lal, am_bal, am_aal, am_ias, am_las, am_bas, am_alen, am_inst, am_cast, am_cpm, am_copy, am_tsw, am_pop, am_cat, am_cS, am_cI, am_cV, am_ri, am_rl, am_ra, am_rv, am_b1, am_b2, am_ent, am_en, am_isL, am_st1, am_st2, am_clr, am_cnd, cc_152, ac_152, nL_152, rb_152, np_151, ok_152_151, nL_151, vd_151_11, np_153, ok_152_153, nL_153, vd_153_11, tg_11_2, tg_4_7, List.getElem?_cons_succ, List.getElem?_cons_zero, nz_of, nzl_of, Int.toNat_add, Int.toNat_mul, tn_l, lt_t, lt_f, le_t, le_f, eq_t, eq_f, ltn_t, ltn_f, len_t, len_f, eqn_t, eqn_f, up_ne, up_up, sh_0]
  refine s0.trans ?_
  generalize grZ (vW (μ 102)) (nW (μ 102)) (min k (nW (μ 102))) = T at *
  by_cases c : k ≤ nW (μ 102)
  · rw [s1_iff [4] 200]
    simp (disch := omega) [sz_s, sz_0, gx_s, hx_r, hx_c, hx_b, hx_s, hx_i, hx_n, kx_s, kx_n, kx_i, cx_d, up_at, am_ctl, am_step, am_i1, am_i2, am_i2d, am_l1, am_l2, am_l2d, am_ldi, am_ldl, am_lda, am_sti, am_sta, am_stl, am_inc, am_i2l, am_l2i, am_lcmp, am_dup, am_dup2, am_pop1, am_fv, am_getf, am_putf, am_wr, am_ial, am_lal, am_bal, am_aal, am_ias, am_las, am_bas, am_alen, am_inst, am_cast, am_cpm, am_copy, am_tsw, am_pop, am_cat, am_cS, am_cI, am_cV, am_ri, am_rl, am_ra, am_rv, am_b1, am_b2, am_ent, am_en, am_isL, am_st1, am_st2, am_clr, am_cnd, cc_152, ac_152, nL_152, rb_152, np_151, ok_152_151, nL_151, vd_151_11, np_153, ok_152_153, nL_153, vd_153_11, tg_11_2, tg_4_7, List.getElem?_cons_succ, List.getElem?_cons_zero, nz_of, nzl_of, Int.toNat_add, Int.toNat_mul, tn_l, lt_t, lt_f, le_t, le_f, eq_t, eq_f, ltn_t, ltn_f, len_t, len_f, eqn_t, eqn_f, up_ne, up_up, sh_0, rf_0_2, sh_73, e0.1, show min k (nW (μ 102)) = k by omega, K]
  · rw [s1_iff [4] 200]
    simp (disch := omega) [sz_s, sz_0, gx_s, hx_r, hx_c, hx_b, hx_s, hx_i, hx_n, kx_s, kx_n, kx_i, cx_d, up_at, am_ctl, am_step, am_i1, am_i2, am_i2d, am_l1, am_l2, am_l2d, am_ldi, am_ldl, am_lda, am_sti, am_sta, am_stl, am_inc, am_i2l, am_l2i, am_lcmp, am_dup, am_dup2, am_pop1, am_fv, am_getf, am_putf, am_wr, am_ial, am_lal, am_bal, am_aal, am_ias, am_las, am_bas, am_alen, am_inst, am_cast, am_cpm, am_copy, am_tsw, am_pop, am_cat, am_cS, am_cI, am_cV, am_ri, am_rl, am_ra, am_rv, am_b1, am_b2, am_ent, am_en, am_isL, am_st1, am_st2, am_clr, am_cnd, cc_152, ac_152, nL_152, rb_152, np_151, ok_152_151, nL_151, vd_151_11, np_153, ok_152_153, nL_153, vd_153_11, tg_11_2, tg_4_7, List.getElem?_cons_succ, List.getElem?_cons_zero, nz_of, nzl_of, Int.toNat_add, Int.toNat_mul, tn_l, lt_t, lt_f, le_t, le_f, eq_t, eq_f, ltn_t, ltn_f, len_t, len_f, eqn_t, eqn_f, up_ne, up_up, sh_0, rf_0_2, sh_73, e0.1, show min k (nW (μ 102)) = nW (μ 102) by omega, K]
/-- the least fine that is enough -/
def fnZ (found due : Int) : Nat → Nat → Int
  | 0, _ => -9
  | d + 1, f => if due ≤ (f : Int) * found then (f : Int) else fnZ found due d (f + 1)
def mxZ (v : Nat → Int) (n : Nat) (k : Int) : Nat → Int
  | 0 => 0
  | j + 1 => if pcZ j ≤ k ∧ mxZ v n k j < hdZ v n j then hdZ v n j else mxZ v n k j
theorem mxZ_le {v : Nat → Int} {n : Nat} {k m : Int} (h0 : 0 ≤ m) : ∀ j, (∀ T, T < j → pcZ T ≤ k → hdZ v n T ≤ m) → mxZ v n k j ≤ m
  | 0, _ => h0
  | j + 1, h => by
    have := mxZ_le (k := k) h0 j (fun T hT => h T (by omega))
    rw [mxZ]
    split
    · rename_i q; exact h j (by omega) q.1
    · exact this
theorem mxZ_ge {v : Nat → Int} {n : Nat} {k : Int} : ∀ j T, T < j → pcZ T ≤ k → hdZ v n T ≤ mxZ v n k j
  | 0, T, h, _ => absurd h (by omega)
  | j + 1, T, h, hp => by
    rw [mxZ]
    by_cases e : T = j
    · subst e
      split
      · exact Int.le_refl _
      · rename_i q
        by_cases z : mxZ v n k T < hdZ v n T
        · exact absurd ⟨hp, z⟩ q
        · omega
    · have := mxZ_ge (v := v) (n := n) (k := k) j T (by omega) hp
      split <;> omega
theorem mxZ_n {v : Nat → Int} {n : Nat} {k : Int} (hv : ∀ T, 0 ≤ hdZ v n T ∧ hdZ v n T ≤ 72) : ∀ j, 0 ≤ mxZ v n k j ∧ mxZ v n k j ≤ 72
  | 0 => by rw [mxZ]; omega
  | j + 1 => by
    have := mxZ_n (k := k) hv j
    have := hv j
    rw [mxZ]; split <;> omega
/-- the greedy choice is the best -/
theorem mx_gr {v : Nat → Int} {n : Nat} (hn : n ≤ 8) (hv : ∀ i, i < n → 0 ≤ v i) (k : Nat) : mxZ v n k (2 ^ n) = hdZ v n (grZ v n (min k n)) := by
  obtain ⟨g1, g2, g3⟩ := grZ_ok hn hv (min k n) (by omega)
  have h0 : 0 ≤ hdZ v n (grZ v n (min k n)) := by
    have := @sumZ_le (fun _ => 0) (fun h => if (grZ v n (min k n)).testBit h = true then v h else 0) n (fun i hi => by
      have := hv i hi
      try dsimp only
      split <;> omega)
    rw [sumZ_zero (f := fun _ => 0) (fun _ _ => rfl)] at this
    exact this
  refine Int.le_antisymm (mxZ_le h0 _ (fun T hT hp => ?_)) (mxZ_ge _ _ g1 (by omega))
  by_cases c : k ≤ n
  · rw [show min k n = k by omega]
    exact gr_max hn hv c hT hp
  · rw [show min k n = n by omega]
    refine gr_max hn hv (Nat.le_refl n) hT ?_
    rw [pc_n hn hT]
    have := @sumZ_rng (fun h => if T.testBit h = true then 1 else 0) 0 1 n (fun i _ => by (try dsimp only); split <;> omega)
    omega
def fiW (w : Nat → Int) (k : Nat) : Int := fnZ (hdZ (vW w) (nW w) (grZ (vW w) (nW w) (min k (nW w)))) (duW w) 100 0
set_option maxRecDepth 100000 in
theorem wp_fine {B : Int} {μ : Nat → Nat → Int} (hL : LD B μ 73 0) (k : Nat) (hk : k < 9) (Φ : Option AV → ST → Prop) : wpM 115 [.inr (.inr (some 0)), .inl k] (S μ) Φ ↔ Φ (some (.inl (fiW (μ 102) k))) (S (H4 μ)) := by
  have n8 := (ld_n hL).2.2
  have l0 := ld_0 hL
  obtain ⟨al, ha⟩ : ∃ al, al = 2 ^ nW (μ 102) - 1 := ⟨_, rfl⟩
  have p8 := pow8 n8
  have p0 := Nat.two_pow_pos (nW (μ 102))
  have hL4 : LD B (H4 μ) 73 0 := LD_rf hL 44 0 _ _ (by decide) (by decide)
  have hH4 := H4_HD μ
  have e102 : H4 μ 102 = μ 102 := H4_ne _ _ (by decide)
  have e73 : H4 μ 73 = μ 73 := H4_ne _ _ (by decide)
  have A := wp_all hL4 al (by rw [e102]; exact ha)
  have Hd := wp_hiddenBy hL4 hH4 al (by omega)
  have Mh := wp_mostHidden hL4 hH4 k
  rw [e102] at Hd Mh
  have rd := hd_rng hL al
  have rm := mul_rn2 l0.2.2.2.2.2.2.2.2.1 (show 0 ≤ hdZ (vW (μ 102)) (nW (μ 102)) al ∧ hdZ (vW (μ 102)) (nW (μ 102)) al ≤ 100 by omega)
  have ed : μ 102 3 * hdZ (vW (μ 102)) (nW (μ 102)) al = duW (μ 102) := by unfold duW; rw [ha]
  rw [ed] at rm
  have rf := hd_rng hL (grZ (vW (μ 102)) (nW (μ 102)) (min k (nW (μ 102))))
  unfold fiW
  generalize hdZ (vW (μ 102)) (nW (μ 102)) (grZ (vW (μ 102)) (nW (μ 102)) (min k (nW (μ 102)))) = fo at *
  have lp : ∀ (d f : Nat), f + d = 100 → (wpS 115 41 [some (.inr (.inr (some 0))), some (.inl k), some (.inl (duW (μ 102))), some (.inl fo), some (.inl f)] [] (S (H4 μ)) Φ ↔ Φ (some (.inl (fnZ fo (duW (μ 102)) d f))) (S (H4 μ))) := by
    intro d
    induction d with
    | zero =>
      intro f hf
      rw [fnZ]
      rw [s1_iff [41] 200]
      simp (disch := omega) [sz_s, sz_0, gx_s, hx_r, hx_c, hx_b, hx_s, hx_i, hx_n, kx_s, kx_n, kx_i, cx_d, up_at, am_ctl, am_step, am_i1, am_i2, am_i2d, am_l1, am_l2, am_l2d, am_ldi, am_ldl, am_lda, am_sti, am_sta, am_stl, am_inc, am_i2l, am_l2i, am_lcmp, am_dup, am_dup2, am_pop1, am_fv, am_getf, am_putf, am_wr, am_ial, am_lal, am_bal, am_aal, am_ias, am_las, am_bas, am_alen, am_inst, am_cast, am_cpm, am_copy, am_tsw, am_pop, am_cat, am_cS, am_cI, am_cV, am_ri, am_rl, am_ra, am_rv, am_b1, am_b2, am_ent, am_en, am_isL, am_st1, am_st2, am_clr, am_cnd, cc_115, ac_115, nL_115, rb_115, np_129, ok_115_129, nL_129, np_149, ok_115_149, nL_149, vd_149_11, np_150, ok_115_150, nL_150, vd_150_11, np_151, ok_115_151, nL_151, vd_151_11, np_152, ok_115_152, nL_152, vd_152_11, tg_11_2, tg_4_10, List.getElem?_cons_succ, List.getElem?_cons_zero, nz_of, nzl_of, Int.toNat_add, Int.toNat_mul, tn_l, lt_t, lt_f, le_t, le_f, eq_t, eq_f, ltn_t, ltn_f, len_t, len_f, eqn_t, eqn_f, up_ne, up_up, sh_0]
    | succ d ih =>
      intro f hf
      have rq := mul_rn2 (a := (f : Int)) (b := fo) (by omega) (by omega)
      have ih' := ih (f + 1) (by omega)
      simp only [Int.natCast_add, Int.natCast_one] at ih'
      rw [fnZ]
      by_cases c : duW (μ 102) ≤ (f : Int) * fo
      · rw [if_pos c]
        rw [s1_iff [41] 200]
        simp (disch := omega) [sz_s, sz_0, gx_s, hx_r, hx_c, hx_b, hx_s, hx_i, hx_n, kx_s, kx_n, kx_i, cx_d, up_at, am_ctl, am_step, am_i1, am_i2, am_i2d, am_l1, am_l2, am_l2d, am_ldi, am_ldl, am_lda, am_sti, am_sta, am_stl, am_inc, am_i2l, am_l2i, am_lcmp, am_dup, am_dup2, am_pop1, am_fv, am_getf, am_putf, am_wr, am_ial, am_lal, am_bal, am_aal, am_ias, am_las, am_bas, am_alen, am_inst, am_cast, am_cpm, am_copy, am_tsw, am_pop, am_cat, am_cS, am_cI, am_cV, am_ri, am_rl, am_ra, am_rv, am_b1, am_b2, am_ent, am_en, am_isL, am_st1, am_st2, am_clr, am_cnd, cc_115, ac_115, nL_115, rb_115, np_129, ok_115_129, nL_129, np_149, ok_115_149, nL_149, vd_149_11, np_150, ok_115_150, nL_150, vd_150_11, np_151, ok_115_151, nL_151, vd_151_11, np_152, ok_115_152, nL_152, vd_152_11, tg_11_2, tg_4_10, List.getElem?_cons_succ, List.getElem?_cons_zero, nz_of, nzl_of, Int.toNat_add, Int.toNat_mul, tn_l, lt_t, lt_f, le_t, le_f, eq_t, eq_f, ltn_t, ltn_f, len_t, len_f, eqn_t, eqn_f, up_ne, up_up, sh_0, c]
      · rw [if_neg c]
        rw [s1_iff [41] 200]
        simp (disch := omega) [sz_s, sz_0, gx_s, hx_r, hx_c, hx_b, hx_s, hx_i, hx_n, kx_s, kx_n, kx_i, cx_d, up_at, am_ctl, am_step, am_i1, am_i2, am_i2d, am_l1, am_l2, am_l2d, am_ldi, am_ldl, am_lda, am_sti, am_sta, am_stl, am_inc, am_i2l, am_l2i, am_lcmp, am_dup, am_dup2, am_pop1, am_fv, am_getf, am_putf, am_wr, am_ial, am_lal, am_bal, am_aal, am_ias, am_las, am_bas, am_alen, am_inst, am_cast, am_cpm, am_copy, am_tsw, am_pop, am_cat, am_cS, am_cI, am_cV, am_ri, am_rl, am_ra, am_rv, am_b1, am_b2, am_ent, am_en, am_isL, am_st1, am_st2, am_clr, am_cnd, cc_115, ac_115, nL_115, rb_115, np_129, ok_115_129, nL_129, np_149, ok_115_149, nL_149, vd_149_11, np_150, ok_115_150, nL_150, vd_150_11, np_151, ok_115_151, nL_151, vd_151_11, np_152, ok_115_152, nL_152, vd_152_11, tg_11_2, tg_4_10, List.getElem?_cons_succ, List.getElem?_cons_zero, nz_of, nzl_of, Int.toNat_add, Int.toNat_mul, tn_l, lt_t, lt_f, le_t, le_f, eq_t, eq_f, ltn_t, ltn_f, len_t, len_f, eqn_t, eqn_f, up_ne, up_up, sh_0, c, ih']
  have lp0 := lp 100 0 (by omega)
  unfold wpM
  rw [s1_iff [41] 200]
  simp (disch := omega) [sz_s, sz_0, gx_s, hx_r, hx_c, hx_b, hx_s, hx_i, hx_n, kx_s, kx_n, kx_i, cx_d, up_at, am_ctl, am_step, am_i1, am_i2, am_i2d, am_l1, am_l2, am_l2d, am_ldi, am_ldl, am_lda, am_sti, am_sta, am_stl, am_inc, am_i2l, am_l2i, am_lcmp, am_dup, am_dup2, am_pop1, am_fv, am_getf, am_putf, am_wr, am_ial, am_lal, am_bal, am_aal, am_ias, am_las, am_bas, am_alen, am_inst, am_cast, am_cpm, am_copy, am_tsw, am_pop, am_cat, am_cS, am_cI, am_cV, am_ri, am_rl, am_ra, am_rv, am_b1, am_b2, am_ent, am_en, am_isL, am_st1, am_st2, am_clr, am_cnd, cc_115, ac_115, nL_115, rb_115, np_129, ok_115_129, nL_129, np_149, ok_115_149, nL_149, vd_149_11, np_150, ok_115_150, nL_150, vd_150_11, np_151, ok_115_151, nL_151, vd_151_11, np_152, ok_115_152, nL_152, vd_152_11, tg_11_2, tg_4_10, List.getElem?_cons_succ, List.getElem?_cons_zero, nz_of, nzl_of, Int.toNat_add, Int.toNat_mul, tn_l, lt_t, lt_f, le_t, le_f, eq_t, eq_f, ltn_t, ltn_f, len_t, len_f, eqn_t, eqn_f, up_ne, up_up, sh_0, rf_0_2, sh_73, wp_within, hk, wp_measure hL, A, Hd, Mh, e73, l0.2.2.2.1, ed]
  exact lp0
set_option maxRecDepth 100000 in
theorem wp_fine_no (x : Int) (hx : ¬ (0 ≤ x ∧ x < 9)) (μ : Nat → Nat → Int) (Φ : Option AV → ST → Prop) : wpM 115 [.inr (.inr (some 0)), .inl x] (S μ) Φ ↔ Φ (some (.inl (-1))) (S μ) := by
  unfold wpM
  rw [s1_iff [] 200]
  simp (disch := omega) [sz_s, sz_0, gx_s, hx_r, hx_c, hx_b, hx_s, hx_i, hx_n, kx_s, kx_n, kx_i, cx_d, up_at, am_ctl, am_step, am_i1, am_i2, am_i2d, am_l1, am_l2, am_l2d, am_ldi, am_ldl, am_lda, am_sti, am_sta, am_stl, am_inc, am_i2l, am_l2i, am_lcmp, am_dup, am_dup2, am_pop1, am_fv, am_getf, am_putf, am_wr, am_ial, am_lal, am_bal, am_aal, am_ias, am_las, am_bas, am_alen, am_inst, am_cast, am_cpm, am_copy, am_tsw, am_pop, am_cat, am_cS, am_cI, am_cV, am_ri, am_rl, am_ra, am_rv, am_b1, am_b2, am_ent, am_en, am_isL, am_st1, am_st2, am_clr, am_cnd, cc_115, ac_115, nL_115, rb_115, np_129, ok_115_129, nL_129, np_149, ok_115_149, nL_149, vd_149_11, np_150, ok_115_150, nL_150, vd_150_11, np_151, ok_115_151, nL_151, vd_151_11, np_152, ok_115_152, nL_152, vd_152_11, tg_11_2, tg_4_10, List.getElem?_cons_succ, List.getElem?_cons_zero, nz_of, nzl_of, Int.toNat_add, Int.toNat_mul, tn_l, lt_t, lt_f, le_t, le_f, eq_t, eq_f, ltn_t, ltn_f, len_t, len_f, eqn_t, eqn_f, up_ne, up_up, sh_0, wp_within, hx]
set_option maxRecDepth 100000 in
theorem wm_fine_no (x : Int) (hx : ¬ (0 ≤ x ∧ x < 9)) (μ : Nat → Nat → Int) (Φ : Option AV → ST → Prop) : wpM 227 [.inr (.inr (some 101)), .inl x] (S μ) Φ ↔ Φ (some (.inl (-1))) (S μ) := by
  unfold wpM
  rw [s1_iff [] 200]
  simp (disch := omega) [sz_s, sz_0, gx_s, hx_r, hx_c, hx_b, hx_s, hx_i, hx_n, kx_s, kx_n, kx_i, cx_d, up_at, am_ctl, am_step, am_i1, am_i2, am_i2d, am_l1, am_l2, am_l2d, am_ldi, am_ldl, am_lda, am_sti, am_sta, am_stl, am_inc, am_i2l, am_l2i, am_lcmp, am_dup, am_dup2, am_pop1, am_fv, am_getf, am_putf, am_wr, am_ial, am_lal, am_bal, am_aal, am_ias, am_las, am_bas, am_alen, am_inst, am_cast, am_cpm, am_copy, am_tsw, am_pop, am_cat, am_cS, am_cI, am_cV, am_ri, am_rl, am_ra, am_rv, am_b1, am_b2, am_ent, am_en, am_isL, am_st1, am_st2, am_clr, am_cnd, cc_227, ac_227, nL_227, rb_227, np_156, ok_227_156, nL_156, np_225, ok_227_225, nL_225, np_224, ok_227_224, nL_224, vd_224_12, tg_12_0, List.getElem?_cons_succ, List.getElem?_cons_zero, nz_of, nzl_of, Int.toNat_add, Int.toNat_mul, tn_l, lt_t, lt_f, le_t, le_f, eq_t, eq_f, ltn_t, ltn_f, len_t, len_f, eqn_t, eqn_f, up_ne, up_up, sh_101, wm_in, show ¬ (0 ≤ x ∧ x ≤ 8) by omega]
set_option maxRecDepth 100000 in
theorem wm_fine {B : Int} {μ : Nat → Nat → Int} (hL : LD B μ 73 0) (k : Nat) (hk : k < 9) (Φ : Option AV → ST → Prop) : wpM 227 [.inr (.inr (some 101)), .inl k] (S μ) Φ ↔ Φ (some (.inl (fiW (μ 102) k))) (S μ) := by
  have e0 := ld_n hL
  have n8 := e0.2.2
  have l0 := ld_0 hL
  obtain ⟨al, ha⟩ : ∃ al, al = 2 ^ nW (μ 102) - 1 := ⟨_, rfl⟩
  have p8 := pow8 n8
  have p0 := Nat.two_pow_pos (nW (μ 102))
  have hal : 2 ^ nW (μ 102) = al + 1 := by omega
  have eA := bit_a (nW (μ 102)) (by omega)
  rw [← ha] at eA
  have Ha := wm_hidden hL al (by omega)
  have rd := hd_rng hL al
  have rm := mul_rn2 l0.2.2.2.2.2.2.2.2.1 (show 0 ≤ hdZ (vW (μ 102)) (nW (μ 102)) al ∧ hdZ (vW (μ 102)) (nW (μ 102)) al ≤ 100 by omega)
  have ed : μ 102 3 * hdZ (vW (μ 102)) (nW (μ 102)) al = duW (μ 102) := by unfold duW; rw [ha]
  rw [ed] at rm
  have step : ∀ j, j < al + 1 → ((fun j : Nat => wpS 227 44 [some (.inr (.inr (some 101))), some (.inl k), some (.inl al), some (.inl (duW (μ 102))), some (.inl (mxZ (vW (μ 102)) (nW (μ 102)) k j)), some (.inl j)] [] (S μ) Φ) j ↔ (fun j : Nat => wpS 227 44 [some (.inr (.inr (some 101))), some (.inl k), some (.inl al), some (.inl (duW (μ 102))), some (.inl (mxZ (vW (μ 102)) (nW (μ 102)) k j)), some (.inl j)] [] (S μ) Φ) (j + 1)) := by
    intro j hj
    have Hj := wm_hidden hL j (by omega)
    have Oj := fun Ψ => wm_ones j (by omega) (S μ) Ψ
    have pj := pcZ_rng j
    have rj := hd_rng hL j
    have ex : mxZ (vW (μ 102)) (nW (μ 102)) k (j + 1) = if pcZ j ≤ k ∧ mxZ (vW (μ 102)) (nW (μ 102)) k j < hdZ (vW (μ 102)) (nW (μ 102)) j then hdZ (vW (μ 102)) (nW (μ 102)) j else mxZ (vW (μ 102)) (nW (μ 102)) k j := rfl
    dsimp only
    rw [ex]
    generalize mxZ (vW (μ 102)) (nW (μ 102)) k j = m at *
    generalize hdZ (vW (μ 102)) (nW (μ 102)) j = hd at *
    by_cases c : pcZ j ≤ k
    · by_cases d : m < hd
      · rw [if_pos ⟨c, d⟩]
        rw [s1_iff [44] 200]
        simp (disch := omega) [sz_s, sz_0, gx_s, hx_r, hx_c, hx_b, hx_s, hx_i, hx_n, kx_s, kx_n, kx_i, cx_d, up_at, am_ctl, am_step, am_i1, am_i2, am_i2d, am_l1, am_l2, am_l2d, am_ldi, am_ldl, am_lda, am_sti, am_sta, am_stl, am_inc, am_i2l, am_l2i, am_lcmp, am_dup, am_dup2, am_pop1, am_fv, am_getf, am_putf, am_wr, am_ial, am_lal, am_bal, am_aal, am_ias, am_las, am_bas, am_alen, am_inst, am_cast, am_cpm, am_copy, am_tsw, am_pop, am_cat, am_cS, am_cI, am_cV, am_ri, am_rl, am_ra, am_rv, am_b1, am_b2, am_ent, am_en, am_isL, am_st1, am_st2, am_clr, am_cnd, cc_227, ac_227, nL_227, rb_227, np_156, ok_227_156, nL_156, np_225, ok_227_225, nL_225, np_224, ok_227_224, nL_224, vd_224_12, tg_12_0, List.getElem?_cons_succ, List.getElem?_cons_zero, nz_of, nzl_of, Int.toNat_add, Int.toNat_mul, tn_l, lt_t, lt_f, le_t, le_f, eq_t, eq_f, ltn_t, ltn_f, len_t, len_f, eqn_t, eqn_f, up_ne, up_up, sh_101, Oj, Hj, c, d]
      · rw [if_neg (fun q => d q.2)]
        rw [s1_iff [44] 200]
        simp (disch := omega) [sz_s, sz_0, gx_s, hx_r, hx_c, hx_b, hx_s, hx_i, hx_n, kx_s, kx_n, kx_i, cx_d, up_at, am_ctl, am_step, am_i1, am_i2, am_i2d, am_l1, am_l2, am_l2d, am_ldi, am_ldl, am_lda, am_sti, am_sta, am_stl, am_inc, am_i2l, am_l2i, am_lcmp, am_dup, am_dup2, am_pop1, am_fv, am_getf, am_putf, am_wr, am_ial, am_lal, am_bal, am_aal, am_ias, am_las, am_bas, am_alen, am_inst, am_cast, am_cpm, am_copy, am_tsw, am_pop, am_cat, am_cS, am_cI, am_cV, am_ri, am_rl, am_ra, am_rv, am_b1, am_b2, am_ent, am_en, am_isL, am_st1, am_st2, am_clr, am_cnd, cc_227, ac_227, nL_227, rb_227, np_156, ok_227_156, nL_156, np_225, ok_227_225, nL_225, np_224, ok_227_224, nL_224, vd_224_12, tg_12_0, List.getElem?_cons_succ, List.getElem?_cons_zero, nz_of, nzl_of, Int.toNat_add, Int.toNat_mul, tn_l, lt_t, lt_f, le_t, le_f, eq_t, eq_f, ltn_t, ltn_f, len_t, len_f, eqn_t, eqn_f, up_ne, up_up, sh_101, Oj, Hj, c, d]
    · rw [if_neg (fun q => c q.1)]
      rw [s1_iff [44] 200]
      simp (disch := omega) [sz_s, sz_0, gx_s, hx_r, hx_c, hx_b, hx_s, hx_i, hx_n, kx_s, kx_n, kx_i, cx_d, up_at, am_ctl, am_step, am_i1, am_i2, am_i2d, am_l1, am_l2, am_l2d, am_ldi, am_ldl, am_lda, am_sti, am_sta, am_stl, am_inc, am_i2l, am_l2i, am_lcmp, am_dup, am_dup2, am_pop1, am_fv, am_getf, am_putf, am_wr, am_ial, am_lal, am_bal, am_aal, am_ias, am_las, am_bas, am_alen, am_inst, am_cast, am_cpm, am_copy, am_tsw, am_pop, am_cat, am_cS, am_cI, am_cV, am_ri, am_rl, am_ra, am_rv, am_b1, am_b2, am_ent, am_en, am_isL, am_st1, am_st2, am_clr, am_cnd, cc_227, ac_227, nL_227, rb_227, np_156, ok_227_156, nL_156, np_225, ok_227_225, nL_225, np_224, ok_227_224, nL_224, vd_224_12, tg_12_0, List.getElem?_cons_succ, List.getElem?_cons_zero, nz_of, nzl_of, Int.toNat_add, Int.toNat_mul, tn_l, lt_t, lt_f, le_t, le_f, eq_t, eq_f, ltn_t, ltn_f, len_t, len_f, eqn_t, eqn_f, up_ne, up_up, sh_101, Oj, Hj, c]
  have s0 := up_iff _ (al + 1) step
  have z0 : mxZ (vW (μ 102)) (nW (μ 102)) k 0 = 0 := rfl
  have z1 : mxZ (vW (μ 102)) (nW (μ 102)) k (al + 1) = hdZ (vW (μ 102)) (nW (μ 102)) (grZ (vW (μ 102)) (nW (μ 102)) (min k (nW (μ 102)))) := by
    rw [← hal]; exact mx_gr n8 (fun i hi => (vW_rng hL hi).1) k
  try dsimp only at s0
  rw [z0, z1] at s0
  have rf := hd_rng hL (grZ (vW (μ 102)) (nW (μ 102)) (min k (nW (μ 102))))
  unfold fiW
  generalize hdZ (vW (μ 102)) (nW (μ 102)) (grZ (vW (μ 102)) (nW (μ 102)) (min k (nW (μ 102)))) = fo at *
  have lp : ∀ (d f : Nat), f + d = 100 → (wpS 227 92 [some (.inr (.inr (some 101))), some (.inl k), some (.inl al), some (.inl (duW (μ 102))), some (.inl fo), some (.inl f)] [] (S μ) Φ ↔ Φ (some (.inl (fnZ fo (duW (μ 102)) d f))) (S μ)) := by
    intro d
    induction d with
    | zero =>
      intro f hf
      rw [fnZ]
      rw [s1_iff [92] 200]
      simp (disch := omega) [sz_s, sz_0, gx_s, hx_r, hx_c, hx_b, hx_s, hx_i, hx_n, kx_s, kx_n, kx_i, cx_d, up_at, am_ctl, am_step, am_i1, am_i2, am_i2d, am_l1, am_l2, am_l2d, am_ldi, am_ldl, am_lda, am_sti, am_sta, am_stl, am_inc, am_i2l, am_l2i, am_lcmp, am_dup, am_dup2, am_pop1, am_fv, am_getf, am_putf, am_wr, am_ial, am_lal, am_bal, am_aal, am_ias, am_las, am_bas, am_alen, am_inst, am_cast, am_cpm, am_copy, am_tsw, am_pop, am_cat, am_cS, am_cI, am_cV, am_ri, am_rl, am_ra, am_rv, am_b1, am_b2, am_ent, am_en, am_isL, am_st1, am_st2, am_clr, am_cnd, cc_227, ac_227, nL_227, rb_227, np_156, ok_227_156, nL_156, np_225, ok_227_225, nL_225, np_224, ok_227_224, nL_224, vd_224_12, tg_12_0, List.getElem?_cons_succ, List.getElem?_cons_zero, nz_of, nzl_of, Int.toNat_add, Int.toNat_mul, tn_l, lt_t, lt_f, le_t, le_f, eq_t, eq_f, ltn_t, ltn_f, len_t, len_f, eqn_t, eqn_f, up_ne, up_up, sh_101]
    | succ d ih =>
      intro f hf
      have rq := mul_rn2 (a := (f : Int)) (b := fo) (by omega) (by omega)
      have ih' := ih (f + 1) (by omega)
      simp only [Int.natCast_add, Int.natCast_one] at ih'
      rw [fnZ]
      by_cases c : duW (μ 102) ≤ (f : Int) * fo
      · rw [if_pos c]
        rw [s1_iff [92] 200]
        simp (disch := omega) [sz_s, sz_0, gx_s, hx_r, hx_c, hx_b, hx_s, hx_i, hx_n, kx_s, kx_n, kx_i, cx_d, up_at, am_ctl, am_step, am_i1, am_i2, am_i2d, am_l1, am_l2, am_l2d, am_ldi, am_ldl, am_lda, am_sti, am_sta, am_stl, am_inc, am_i2l, am_l2i, am_lcmp, am_dup, am_dup2, am_pop1, am_fv, am_getf, am_putf, am_wr, am_ial, am_lal, am_bal, am_aal, am_ias, am_las, am_bas, am_alen, am_inst, am_cast, am_cpm, am_copy, am_tsw, am_pop, am_cat, am_cS, am_cI, am_cV, am_ri, am_rl, am_ra, am_rv, am_b1, am_b2, am_ent, am_en, am_isL, am_st1, am_st2, am_clr, am_cnd, cc_227, ac_227, nL_227, rb_227, np_156, ok_227_156, nL_156, np_225, ok_227_225, nL_225, np_224, ok_227_224, nL_224, vd_224_12, tg_12_0, List.getElem?_cons_succ, List.getElem?_cons_zero, nz_of, nzl_of, Int.toNat_add, Int.toNat_mul, tn_l, lt_t, lt_f, le_t, le_f, eq_t, eq_f, ltn_t, ltn_f, len_t, len_f, eqn_t, eqn_f, up_ne, up_up, sh_101, c]
      · rw [if_neg c]
        rw [s1_iff [92] 200]
        simp (disch := omega) [sz_s, sz_0, gx_s, hx_r, hx_c, hx_b, hx_s, hx_i, hx_n, kx_s, kx_n, kx_i, cx_d, up_at, am_ctl, am_step, am_i1, am_i2, am_i2d, am_l1, am_l2, am_l2d, am_ldi, am_ldl, am_lda, am_sti, am_sta, am_stl, am_inc, am_i2l, am_l2i, am_lcmp, am_dup, am_dup2, am_pop1, am_fv, am_getf, am_putf, am_wr, am_ial, am_lal, am_bal, am_aal, am_ias, am_las, am_bas, am_alen, am_inst, am_cast, am_cpm, am_copy, am_tsw, am_pop, am_cat, am_cS, am_cI, am_cV, am_ri, am_rl, am_ra, am_rv, am_b1, am_b2, am_ent, am_en, am_isL, am_st1, am_st2, am_clr, am_cnd, cc_227, ac_227, nL_227, rb_227, np_156, ok_227_156, nL_156, np_225, ok_227_225, nL_225, np_224, ok_227_224, nL_224, vd_224_12, tg_12_0, List.getElem?_cons_succ, List.getElem?_cons_zero, nz_of, nzl_of, Int.toNat_add, Int.toNat_mul, tn_l, lt_t, lt_f, le_t, le_f, eq_t, eq_f, ltn_t, ltn_f, len_t, len_f, eqn_t, eqn_f, up_ne, up_up, sh_101, c, ih']
  have lp0 := lp 100 0 (by omega)
  unfold wpM
  rw [s1_iff [44] 200]
  simp (disch := omega) [sz_s, sz_0, gx_s, hx_r, hx_c, hx_b, hx_s, hx_i, hx_n, kx_s, kx_n, kx_i, cx_d, up_at, am_ctl, am_step, am_i1, am_i2, am_i2d, am_l1, am_l2, am_l2d, am_ldi, am_ldl, am_lda, am_sti, am_sta, am_stl, am_inc, am_i2l, am_l2i, am_lcmp, am_dup, am_dup2, am_pop1, am_fv, am_getf, am_putf, am_wr, am_ial, am_lal, am_bal, am_aal, am_ias, am_las, am_bas, am_alen, am_inst, am_cast, am_cpm, am_copy, am_tsw, am_pop, am_cat, am_cS, am_cI, am_cV, am_ri, am_rl, am_ra, am_rv, am_b1, am_b2, am_ent, am_en, am_isL, am_st1, am_st2, am_clr, am_cnd, cc_227, ac_227, nL_227, rb_227, np_156, ok_227_156, nL_156, np_225, ok_227_225, nL_225, np_224, ok_227_224, nL_224, vd_224_12, tg_12_0, List.getElem?_cons_succ, List.getElem?_cons_zero, nz_of, nzl_of, Int.toNat_add, Int.toNat_mul, tn_l, lt_t, lt_f, le_t, le_f, eq_t, eq_f, ltn_t, ltn_f, len_t, len_f, eqn_t, eqn_f, up_ne, up_up, sh_101, sh_102, rf_101_0, wm_in, show k ≤ 8 by omega, e0.2.1, eA, Ha, ed]
  refine s0.trans ?_
  rw [s1_iff [44, 92] 200]
  simp (disch := omega) [sz_s, sz_0, gx_s, hx_r, hx_c, hx_b, hx_s, hx_i, hx_n, kx_s, kx_n, kx_i, cx_d, up_at, am_ctl, am_step, am_i1, am_i2, am_i2d, am_l1, am_l2, am_l2d, am_ldi, am_ldl, am_lda, am_sti, am_sta, am_stl, am_inc, am_i2l, am_l2i, am_lcmp, am_dup, am_dup2, am_pop1, am_fv, am_getf, am_putf, am_wr, am_ial, am_lal, am_bal, am_aal, am_ias, am_las, am_bas, am_alen, am_inst, am_cast, am_cpm, am_copy, am_tsw, am_pop, am_cat, am_cS, am_cI, am_cV, am_ri, am_rl, am_ra, am_rv, am_b1, am_b2, am_ent, am_en, am_isL, am_st1, am_st2, am_clr, am_cnd, cc_227, ac_227, nL_227, rb_227, np_156, ok_227_156, nL_156, np_225, ok_227_225, nL_225, np_224, ok_227_224, nL_224, vd_224_12, tg_12_0, List.getElem?_cons_succ, List.getElem?_cons_zero, nz_of, nzl_of, Int.toNat_add, Int.toNat_mul, tn_l, lt_t, lt_f, le_t, le_f, eq_t, eq_f, ltn_t, ltn_f, len_t, len_f, eqn_t, eqn_f, up_ne, up_up, sh_101]
  exact lp0
theorem INV_H4 {B : Int} {μ : Nat → Nat → Int} (h : INV B μ) : INV B (H4 μ) := INV_ans h (fun k i hk => by rw [H4_ne _ _ (by omega)]) (by rw [H4_ne _ _ (by omega)]) (by rw [H4_ne _ _ (by omega)]) (fun i => by rw [H4_ne _ _ (by omega)]) (fun i => by rw [H4_ne _ _ (by omega)]) (by rw [H4_ne _ _ (by omega), H4_ne _ _ (by omega)]; exact h.1.2.1) (by rw [H4_ne _ _ (by omega), H4_ne _ _ (by omega)]; exact h.1.2.2.1) (by rw [H4_ne _ _ (by omega), H4_ne _ _ (by omega)]; exact h.1.2.2.2.1)
theorem eq_fine {B : Int} {μ : Nat → Nat → Int} (h : INV B μ) (x : Int) : EQV B μ 115 227 [.inl x] := by
  have hL : LD B μ 73 0 := h.2.2.2.1
  have e102 : H4 μ 102 = μ 102 := H4_ne _ _ (by decide)
  have hL4 : LD B (H4 μ) 73 0 := LD_rf hL 44 0 _ _ (by decide) (by decide)
  unfold EQV
  by_cases hx : 0 ≤ x ∧ x < 9
  · obtain ⟨k, rfl⟩ : ∃ k : Nat, x = k := ⟨x.toNat, by omega⟩
    rw [wp_fine hL k (by omega)]
    refine ⟨_, _, rfl, rfl, ?_⟩
    rw [wm_fine hL4 k (by omega), e102]
    exact ⟨rfl, _, rfl, INV_H4 h⟩
  · rw [wp_fine_no x hx]
    refine ⟨_, _, rfl, rfl, ?_⟩
    rw [wm_fine_no x hx]
    exact ⟨rfl, _, rfl, h⟩
