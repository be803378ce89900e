/-! land: equal on both sides -/
def EM (μ : Nat → Nat → Int) : Nat → Nat → Int := am_up (am_up (am_up (am_up (am_up (fl μ 78 64 0) 73 7 0) 73 8 0) 73 9 0) 73 10 1) 73 11 0
set_option maxRecDepth 100000 in
theorem wp_empty (μ : Nat → Nat → Int) (Φ : Option AV → ST → Prop) : wpM 13 [.inr (.inr (some 73))] (S μ) Φ ↔ Φ none (S (EM μ)) := by
  unfold wpM
  rw [s1_iff [] 200]
  simp (disch := omega) [sz_s, sz_0, gx_s, hx_r, hx_c, hx_b, hx_s, hx_i, hx_n, kx_s, kx_n, kx_i, cx_d, up_at, am_ctl, am_step, am_i1, am_i2, am_i2d, am_l1, am_l2, am_l2d, am_ldi, am_ldl, am_lda, am_sti, am_sta, am_stl, am_inc, am_i2l, am_l2i, am_lcmp, am_dup, am_dup2, am_pop1, am_fv, am_getf, am_putf, am_wr, am_ial, am_lal, am_bal, am_aal, am_ias, am_las, am_bas, am_alen, am_inst, am_cast, am_cpm, am_copy, am_tsw, am_pop, am_cat, am_cS, am_cI, am_cV, am_ri, am_rl, am_ra, am_rv, am_b1, am_b2, am_ent, am_en, am_isL, am_st1, am_st2, am_clr, am_cnd, cc_13, ac_13, nL_13, rb_13, np_249, ok_13_249, nL_249, tg_4_5, List.getElem?_cons_succ, List.getElem?_cons_zero, nz_of, nzl_of, Int.toNat_add, Int.toNat_mul, tn_l, lt_t, lt_f, le_t, le_f, eq_t, eq_f, ltn_t, ltn_f, len_t, len_f, eqn_t, eqn_f, up_ne, up_up, sh_73, sh_78, rf_73_5, wp_fill 78 64 0 (by decide) sh_78 (by decide), EM]
def CL (μ : Nat → Nat → Int) : Nat → Nat → Int := am_up (am_up (am_up (am_up (am_up μ 4 4 0) 4 5 0) 80 12 0) 87 12 0) 94 12 0
set_option maxRecDepth 100000 in
theorem wp_forget (μ : Nat → Nat → Int) (Φ : Option AV → ST → Prop) : wpM 3 [.inr (.inr (some 4))] (S μ) Φ ↔ Φ none (S (am_up (am_up μ 4 4 0) 4 5 0)) := by
  unfold wpM
  rw [s1_iff [] 200]
  simp (disch := omega) [sz_s, sz_0, gx_s, hx_r, hx_c, hx_b, hx_s, hx_i, hx_n, kx_s, kx_n, kx_i, cx_d, up_at, am_ctl, am_step, am_i1, am_i2, am_i2d, am_l1, am_l2, am_l2d, am_ldi, am_ldl, am_lda, am_sti, am_sta, am_stl, am_inc, am_i2l, am_l2i, am_lcmp, am_dup, am_dup2, am_pop1, am_fv, am_getf, am_putf, am_wr, am_ial, am_lal, am_bal, am_aal, am_ias, am_las, am_bas, am_alen, am_inst, am_cast, am_cpm, am_copy, am_tsw, am_pop, am_cat, am_cS, am_cI, am_cV, am_ri, am_rl, am_ra, am_rv, am_b1, am_b2, am_ent, am_en, am_isL, am_st1, am_st2, am_clr, am_cnd, cc_3, ac_3, nL_3, rb_3, List.getElem?_cons_succ, List.getElem?_cons_zero, nz_of, nzl_of, Int.toNat_add, Int.toNat_mul, tn_l, lt_t, lt_f, le_t, le_f, eq_t, eq_f, ltn_t, ltn_f, len_t, len_f, eqn_t, eqn_f, up_ne, up_up, sh_4]
theorem EM_ne (μ : Nat → Nat → Int) (k : Nat) (h1 : ¬ k = 73) (h2 : ¬ k = 78) : EM μ k = μ k := by
  unfold EM
  simp (disch := omega) only [up_ne]
  funext j; rw [fl_at, if_neg (fun q => h2 q.1)]
set_option maxRecDepth 100000 in
theorem wp_settle_all {μ : Nat → Nat → Int} (hl : LT μ) {n s : Nat} {x : Nat → Int} (hn : n < 4) (hT : TX μ n s x) (rd : Nat → Int) (c : (fmZ x s s 0 0 0 rd).1 = -9) (sE : SE μ μ 0 rd) (Φ : Option AV → ST → Prop) (k : ∀ ν, SE μ ν (fmZ x s s 0 0 0 rd).2.1 (fmZ x s s 0 0 0 rd).2.2 → Φ none (S ν)) : wpM 143 [.inr (.inr (some 0)), .inr (.inr (some (58 + 2 * n)))] (S μ) Φ := by
  have q := wp_settleBy hl hn hT Φ s 0 0 rd μ (by omega) (by omega) (by rw [Nat.sub_zero]; exact c) sE (by rw [Nat.sub_zero]; exact k)
  unfold wpM
  rw [s1_iff [2] 200]
  simp (disch := omega) [sz_s, sz_0, gx_s, hx_r, hx_c, hx_b, hx_s, hx_i, hx_n, kx_s, kx_n, kx_i, cx_d, up_at, am_ctl, am_step, am_i1, am_i2, am_i2d, am_l1, am_l2, am_l2d, am_ldi, am_ldl, am_lda, am_sti, am_sta, am_stl, am_inc, am_i2l, am_l2i, am_lcmp, am_dup, am_dup2, am_pop1, am_fv, am_getf, am_putf, am_wr, am_ial, am_lal, am_bal, am_aal, am_ias, am_las, am_bas, am_alen, am_inst, am_cast, am_cpm, am_copy, am_tsw, am_pop, am_cat, am_cS, am_cI, am_cV, am_ri, am_rl, am_ra, am_rv, am_b1, am_b2, am_ent, am_en, am_isL, am_st1, am_st2, am_clr, am_cnd, cc_143, ac_143, nL_143, rb_143, np_139, ok_143_139, nL_139, np_15, ok_143_15, nL_15, vd_15_4, tg_8_1, tg_8_0, tg_11_2, List.getElem?_cons_succ, List.getElem?_cons_zero, nz_of, nzl_of, Int.toNat_add, Int.toNat_mul, tn_l, lt_t, lt_f, le_t, le_f, eq_t, eq_f, ltn_t, ltn_f, len_t, len_f, eqn_t, eqn_f, up_ne, up_up]
  exact q
set_option maxRecDepth 100000 in
theorem wp_land {μ : Nat → Nat → Int} (hl : LT μ) {n s : Nat} {x : Nat → Int} (hn : n < 4) (hT : TX μ n s x) (rd : Nat → Int) (Φ : Option AV → ST → Prop) (k1 : ¬ (fmZ x s s 0 0 0 rd).1 = -9 → Φ (some (.inl (-4))) (S μ)) (k2 : (fmZ x s s 0 0 0 rd).1 = -9 → ∀ ν, SE (EM μ) ν (fmZ x s s 0 0 0 rd).2.1 (fmZ x s s 0 0 0 rd).2.2 → Φ (some (.inl ((fmZ x s s 0 0 0 rd).2.1 : Nat))) (S (CL ν))) : wpM 88 [.inr (.inr (some 0)), .inl n] (S μ) Φ := by
  obtain ⟨g1, g2, g3, g4⟩ := g_text n hn
  have K := wp_faultOf hl hn hT rd
  have t2 := hT.2.1
  by_cases c : (fmZ x s s 0 0 0 rd).1 = -9
  · have k2 := k2 c
    rw [c] at K
    have lE : LT (EM μ) := by
      obtain ⟨l0, l1, l2, l3, l4, l5⟩ := hl
      unfold LT; rw [EM_ne _ _ (by decide) (by decide)]; exact ⟨l0, l1, l2, l3, l4, l5⟩
    have TE : TX (EM μ) n s x := TX_as hT (fun k hk => EM_ne _ _ (by omega) (by omega))
    have sE : SE (EM μ) (EM μ) 0 rd := ⟨fun _ _ _ _ => rfl, by unfold EM; simp [up_at], by omega, fun k hk => absurd hk (by omega)⟩
    unfold wpM
    rw [s1_iff [] 200]
    simp (disch := omega) [sz_s, sz_0, gx_s, hx_r, hx_c, hx_b, hx_s, hx_i, hx_n, kx_s, kx_n, kx_i, cx_d, up_at, am_ctl, am_step, am_i1, am_i2, am_i2d, am_l1, am_l2, am_l2d, am_ldi, am_ldl, am_lda, am_sti, am_sta, am_stl, am_inc, am_i2l, am_l2i, am_lcmp, am_dup, am_dup2, am_pop1, am_fv, am_getf, am_putf, am_wr, am_ial, am_lal, am_bal, am_aal, am_ias, am_las, am_bas, am_alen, am_inst, am_cast, am_cpm, am_copy, am_tsw, am_pop, am_cat, am_cS, am_cI, am_cV, am_ri, am_rl, am_ra, am_rv, am_b1, am_b2, am_ent, am_en, am_isL, am_st1, am_st2, am_clr, am_cnd, cc_88, ac_88, nL_88, rb_88, np_129, ok_88_129, nL_129, np_140, ok_88_140, nL_140, np_3, ok_88_3, nL_3, vd_3_1, np_13, ok_88_13, nL_13, vd_13_4, np_56, ok_88_56, nL_56, vd_56_8, np_133, ok_88_133, nL_133, vd_133_11, np_143, ok_88_143, nL_143, vd_143_11, tg_11_1, tg_11_2, tg_11_4, tg_11_3, tg_4_7, List.getElem?_cons_succ, List.getElem?_cons_zero, nz_of, nzl_of, Int.toNat_add, Int.toNat_mul, tn_l, lt_t, lt_f, le_t, le_f, eq_t, eq_f, ltn_t, ltn_f, len_t, len_f, eqn_t, eqn_f, up_ne, up_up, sh_0, sh_2, rf_0_1, rf_0_2, sh_73, wp_within, hn, g1, g2, wp_isThere (58 + 2 * n) (by omega) g2, t2, K, wp_empty]
    have e2 : rf0 2 n = some (58 + 2 * n) := g1
    refine wp_settle_all lE hn TE rd c sE _ (fun ν hν => ?_)
    have k2 := k2 ν hν
    have h7 := hν.2.1
    generalize (fmZ x s s 0 0 0 rd).2.1 = m at *
    simp (disch := omega) [sz_s, sz_0, gx_s, hx_r, hx_c, hx_b, hx_s, hx_i, hx_n, kx_s, kx_n, kx_i, cx_d, up_at, am_ctl, am_step, am_i1, am_i2, am_i2d, am_l1, am_l2, am_l2d, am_ldi, am_ldl, am_lda, am_sti, am_sta, am_stl, am_inc, am_i2l, am_l2i, am_lcmp, am_dup, am_dup2, am_pop1, am_fv, am_getf, am_putf, am_wr, am_ial, am_lal, am_bal, am_aal, am_ias, am_las, am_bas, am_alen, am_inst, am_cast, am_cpm, am_copy, am_tsw, am_pop, am_cat, am_cS, am_cI, am_cV, am_ri, am_rl, am_ra, am_rv, am_b1, am_b2, am_ent, am_en, am_isL, am_st1, am_st2, am_clr, am_cnd, cc_88, ac_88, nL_88, rb_88, np_129, ok_88_129, nL_129, np_140, ok_88_140, nL_140, np_3, ok_88_3, nL_3, vd_3_1, np_13, ok_88_13, nL_13, vd_13_4, np_56, ok_88_56, nL_56, vd_56_8, np_133, ok_88_133, nL_133, vd_133_11, np_143, ok_88_143, nL_143, vd_143_11, tg_11_1, tg_11_2, tg_11_4, tg_11_3, tg_4_7, List.getElem?_cons_succ, List.getElem?_cons_zero, nz_of, nzl_of, Int.toNat_add, Int.toNat_mul, tn_l, lt_t, lt_f, le_t, le_f, eq_t, eq_f, ltn_t, ltn_f, len_t, len_f, eqn_t, eqn_f, up_ne, up_up, sh_0, sh_3, sh_4, sh_73, sh_80, sh_87, sh_94, rf_0_2, rf_0_3, rf_0_4, rf_3_0, rf_3_1, rf_3_2, wp_forget, h7]
    exact k2
  · have k1 := k1 c
    unfold wpM
    rw [s1_iff [] 200]
    simp (disch := omega) [sz_s, sz_0, gx_s, hx_r, hx_c, hx_b, hx_s, hx_i, hx_n, kx_s, kx_n, kx_i, cx_d, up_at, am_ctl, am_step, am_i1, am_i2, am_i2d, am_l1, am_l2, am_l2d, am_ldi, am_ldl, am_lda, am_sti, am_sta, am_stl, am_inc, am_i2l, am_l2i, am_lcmp, am_dup, am_dup2, am_pop1, am_fv, am_getf, am_putf, am_wr, am_ial, am_lal, am_bal, am_aal, am_ias, am_las, am_bas, am_alen, am_inst, am_cast, am_cpm, am_copy, am_tsw, am_pop, am_cat, am_cS, am_cI, am_cV, am_ri, am_rl, am_ra, am_rv, am_b1, am_b2, am_ent, am_en, am_isL, am_st1, am_st2, am_clr, am_cnd, cc_88, ac_88, nL_88, rb_88, np_129, ok_88_129, nL_129, np_140, ok_88_140, nL_140, np_3, ok_88_3, nL_3, vd_3_1, np_13, ok_88_13, nL_13, vd_13_4, np_56, ok_88_56, nL_56, vd_56_8, np_133, ok_88_133, nL_133, vd_133_11, np_143, ok_88_143, nL_143, vd_143_11, tg_11_1, tg_11_2, tg_11_4, tg_11_3, tg_4_7, List.getElem?_cons_succ, List.getElem?_cons_zero, nz_of, nzl_of, Int.toNat_add, Int.toNat_mul, tn_l, lt_t, lt_f, le_t, le_f, eq_t, eq_f, ltn_t, ltn_f, len_t, len_f, eqn_t, eqn_f, up_ne, up_up, sh_0, sh_2, rf_0_1, wp_within, hn, g1, g2, wp_isThere (58 + 2 * n) (by omega) g2, t2, K, c]
    exact k1
/-- the reference's land, h houses of it laid -/
def wlZ (μ : Nat → Nat → Int) (rd : Nat → Int) (m h j : Nat) : Int := if j = 0 then (m : Int) else if j = 3 then 1 else if 5 ≤ j ∧ j < 5 + h then rd (4 * (j - 5)) else if 13 ≤ j ∧ j < 13 + h then rd (4 * (j - 13) + 1) else if 21 ≤ j ∧ j < 21 + h then rd (4 * (j - 21) + 2) else if 29 ≤ j ∧ j < 29 + h then rd (4 * (j - 29) + 3) else if j < 200 then 0 else μ 102 j
def ML (μ : Nat → Nat → Int) : Nat → Nat → Int := am_up (am_up (am_up (am_up μ 101 12 0) 103 0 0) 103 1 0) 103 2 0
set_option maxRecDepth 100000 in
theorem wm_land {n s : Nat} {x : Nat → Int} (hn : n < 4) {μ : Nat → Nat → Int} (hT : TX μ n s x) (hm8 : (fmZ x s s 0 0 0 (μ 111)).1 = -9 → (fmZ x s s 0 0 0 (μ 111)).2.1 ≤ 8) (Φ : Option AV → ST → Prop) (k1 : ¬ (fmZ x s s 0 0 0 (μ 111)).1 = -9 → Φ (some (.inl (-4))) (S (mrd μ (fmZ x s s 0 0 0 (μ 111)).2.1 (fmZ x s s 0 0 0 (μ 111)).2.2))) (k2 : (fmZ x s s 0 0 0 (μ 111)).1 = -9 → ∀ ν, (∀ k, ¬ k = 102 → ν k = mrd μ (fmZ x s s 0 0 0 (μ 111)).2.1 (fmZ x s s 0 0 0 (μ 111)).2.2 k) → (∀ j, ν 102 j = wlZ μ (fmZ x s s 0 0 0 (μ 111)).2.2 (fmZ x s s 0 0 0 (μ 111)).2.1 (fmZ x s s 0 0 0 (μ 111)).2.1 j) → Φ (some (.inl ((fmZ x s s 0 0 0 (μ 111)).2.1 : Nat))) (S (ML ν))) : wpM 177 [.inr (.inr (some 101)), .inl n] (S μ) Φ := by
  have K := wm_faultOf hn hT
  have t3 := hT.2.2.1
  by_cases c : (fmZ x s s 0 0 0 (μ 111)).1 = -9
  · have k2 := k2 c
    have hm8 := hm8 c
    rw [c] at K
    generalize (fmZ x s s 0 0 0 (μ 111)).2.1 = m at *
    generalize (fmZ x s s 0 0 0 (μ 111)).2.2 = rd at *
    have m15 := mrd_15 μ m rd
    have step1 : ∀ j, j < 200 → ((fun j : Nat => wpS 177 39 [some (.inr (.inr (some 101))), some (.inl n), some (.inl j)] [] (S (rfz (mrd μ m rd) 102 0 j (fun _ => 0))) Φ) j ↔ (fun j : Nat => wpS 177 39 [some (.inr (.inr (some 101))), some (.inl n), some (.inl j)] [] (S (rfz (mrd μ m rd) 102 0 j (fun _ => 0))) Φ) (j + 1)) := by
      intro j hj
      have e := rfz_s (mrd μ m rd) 102 0 j (fun _ => 0)
      rw [Nat.zero_add] at e
      dsimp only at e ⊢
      rw [s1_iff [39] 200]
      simp (disch := omega) [sz_s, sz_0, gx_s, hx_r, hx_c, hx_b, hx_s, hx_i, hx_n, kx_s, kx_n, kx_i, cx_d, up_at, am_ctl, am_step, am_i1, am_i2, am_i2d, am_l1, am_l2, am_l2d, am_ldi, am_ldl, am_lda, am_sti, am_sta, am_stl, am_inc, am_i2l, am_l2i, am_lcmp, am_dup, am_dup2, am_pop1, am_fv, am_getf, am_putf, am_wr, am_ial, am_lal, am_bal, am_aal, am_ias, am_las, am_bas, am_alen, am_inst, am_cast, am_cpm, am_copy, am_tsw, am_pop, am_cat, am_cS, am_cI, am_cV, am_ri, am_rl, am_ra, am_rv, am_b1, am_b2, am_ent, am_en, am_isL, am_st1, am_st2, am_clr, am_cnd, cc_177, ac_177, nL_177, rb_177, np_164, ok_177_164, nL_164, np_160, ok_177_160, nL_160, vd_160_12, np_175, ok_177_175, nL_175, vd_175_12, tg_12_5, tg_12_0, tg_12_15, tg_12_14, tg_12_1, List.getElem?_cons_succ, List.getElem?_cons_zero, nz_of, nzl_of, Int.toNat_add, Int.toNat_mul, tn_l, lt_t, lt_f, le_t, le_f, eq_t, eq_f, ltn_t, ltn_f, len_t, len_f, eqn_t, eqn_f, up_ne, up_up, sh_101, sh_102, rf_101_0, e]
    have s1 := up_iff _ 200 step1
    rw [rfz_0] at s1
    have key := up_to (fun (h : Nat) (ν : Nat → Nat → Int) => wpS 177 78 [some (.inr (.inr (some 101))), some (.inl n), some (.inl h)] [] (S ν) Φ) (fun h ν => (∀ k, ¬ k = 102 → ν k = mrd μ m rd k) ∧ ∀ j, ν 102 j = wlZ μ rd m h j) m (fun h ν hh hI hs' => by
      try dsimp only at hI hs' ⊢
      obtain ⟨i1, i2⟩ := hI
      have v15 : ν 101 15 = m := by rw [i1 101 (by decide)]; exact m15
      have v111 : ν 111 = rd := by rw [i1 111 (by decide)]; exact mrd_111 _ _ _
      have q := hs' (am_up (am_up (am_up (am_up ν 102 (5 + h) (rd (4 * h))) 102 (13 + h) (rd (4 * h + 1))) 102 (21 + h) (rd (4 * h + 2))) 102 (29 + h) (rd (4 * h + 3))) ⟨fun k hk => by simp (disch := omega) only [up_ne]; exact i1 k hk, fun j => by
        simp only [up_at, true_and, i2]
        unfold wlZ
        by_cases a : j = 5 + h
        · subst a
          simp (disch := omega) only [eqn_t, eqn_f, if_true, if_false]
          rw [if_pos (by omega), show 5 + h - 5 = h by omega]
        · by_cases b : j = 13 + h
          · subst b
            simp (disch := omega) only [eqn_t, eqn_f, if_true, if_false]
            rw [if_neg (by omega), if_pos (by omega), show 13 + h - 13 = h by omega]
          · by_cases c : j = 21 + h
            · subst c
              simp (disch := omega) only [eqn_t, eqn_f, if_true, if_false]
              rw [if_neg (by omega), if_neg (by omega), if_pos (by omega), show 21 + h - 21 = h by omega]
            · by_cases d : j = 29 + h
              · subst d
                simp (disch := omega) only [eqn_t, eqn_f, if_true, if_false]
                rw [if_neg (by omega), if_neg (by omega), if_neg (by omega), if_pos (by omega), show 29 + h - 29 = h by omega]
              · rw [if_neg d, if_neg c, if_neg b, if_neg a]
                simp only [show (5 ≤ j ∧ j < 5 + (h + 1)) = (5 ≤ j ∧ j < 5 + h) from propext ⟨fun q => by omega, fun q => by omega⟩, show (13 ≤ j ∧ j < 13 + (h + 1)) = (13 ≤ j ∧ j < 13 + h) from propext ⟨fun q => by omega, fun q => by omega⟩, show (21 ≤ j ∧ j < 21 + (h + 1)) = (21 ≤ j ∧ j < 21 + h) from propext ⟨fun q => by omega, fun q => by omega⟩, show (29 ≤ j ∧ j < 29 + (h + 1)) = (29 ≤ j ∧ j < 29 + h) from propext ⟨fun q => by omega, fun q => by omega⟩]⟩
      rw [s1_iff [78] 200]
      simp (disch := omega) [sz_s, sz_0, gx_s, hx_r, hx_c, hx_b, hx_s, hx_i, hx_n, kx_s, kx_n, kx_i, cx_d, up_at, am_ctl, am_step, am_i1, am_i2, am_i2d, am_l1, am_l2, am_l2d, am_ldi, am_ldl, am_lda, am_sti, am_sta, am_stl, am_inc, am_i2l, am_l2i, am_lcmp, am_dup, am_dup2, am_pop1, am_fv, am_getf, am_putf, am_wr, am_ial, am_lal, am_bal, am_aal, am_ias, am_las, am_bas, am_alen, am_inst, am_cast, am_cpm, am_copy, am_tsw, am_pop, am_cat, am_cS, am_cI, am_cV, am_ri, am_rl, am_ra, am_rv, am_b1, am_b2, am_ent, am_en, am_isL, am_st1, am_st2, am_clr, am_cnd, cc_177, ac_177, nL_177, rb_177, np_164, ok_177_164, nL_164, np_160, ok_177_160, nL_160, vd_160_12, np_175, ok_177_175, nL_175, vd_175_12, tg_12_5, tg_12_0, tg_12_15, tg_12_14, tg_12_1, List.getElem?_cons_succ, List.getElem?_cons_zero, nz_of, nzl_of, Int.toNat_add, Int.toNat_mul, tn_l, lt_t, lt_f, le_t, le_f, eq_t, eq_f, ltn_t, ltn_f, len_t, len_f, eqn_t, eqn_f, up_ne, up_up, sh_101, sh_102, sh_111, rf_101_0, rf_101_14, v15, hh, v111]
      simpa using q) (fun ν hI => by
      try dsimp only
      have k2 := k2 ν hI.1 hI.2
      have v15 : ν 101 15 = m := by rw [hI.1 101 (by decide)]; exact m15
      rw [s1_iff [78] 200]
      simp (disch := omega) [sz_s, sz_0, gx_s, hx_r, hx_c, hx_b, hx_s, hx_i, hx_n, kx_s, kx_n, kx_i, cx_d, up_at, am_ctl, am_step, am_i1, am_i2, am_i2d, am_l1, am_l2, am_l2d, am_ldi, am_ldl, am_lda, am_sti, am_sta, am_stl, am_inc, am_i2l, am_l2i, am_lcmp, am_dup, am_dup2, am_pop1, am_fv, am_getf, am_putf, am_wr, am_ial, am_lal, am_bal, am_aal, am_ias, am_las, am_bas, am_alen, am_inst, am_cast, am_cpm, am_copy, am_tsw, am_pop, am_cat, am_cS, am_cI, am_cV, am_ri, am_rl, am_ra, am_rv, am_b1, am_b2, am_ent, am_en, am_isL, am_st1, am_st2, am_clr, am_cnd, cc_177, ac_177, nL_177, rb_177, np_164, ok_177_164, nL_164, np_160, ok_177_160, nL_160, vd_160_12, np_175, ok_177_175, nL_175, vd_175_12, tg_12_5, tg_12_0, tg_12_15, tg_12_14, tg_12_1, List.getElem?_cons_succ, List.getElem?_cons_zero, nz_of, nzl_of, Int.toNat_add, Int.toNat_mul, tn_l, lt_t, lt_f, le_t, le_f, eq_t, eq_f, ltn_t, ltn_f, len_t, len_f, eqn_t, eqn_f, up_ne, up_up, sh_101, sh_103, rf_101_1, v15]
      exact k2)
    have e15 : rfz (mrd μ m rd) 102 0 200 (fun _ => 0) 101 15 = m := by rw [rfz_ne _ _ _ _ _ _ (by decide)]; exact m15
    have q := key (am_up (am_up (rfz (mrd μ m rd) 102 0 200 (fun _ => 0)) 102 3 1) 102 0 m) ⟨fun k hk => by rw [up_ne _ _ _ hk, up_ne _ _ _ hk, rfz_ne _ _ _ _ _ _ hk], fun j => by
      simp only [up_at, true_and, rfz_at]
      unfold wlZ
      rw [mrd_ne _ _ _ _ (by decide) (by decide)]
      by_cases a : j = 0
      · rw [if_pos a, if_pos a]
      · rw [if_neg a, if_neg a]
        by_cases b : j = 3
        · rw [if_pos b, if_pos b]
        · rw [if_neg b, if_neg b, if_neg (c := 5 ≤ j ∧ j < 5 + 0) (by omega), if_neg (c := 13 ≤ j ∧ j < 13 + 0) (by omega), if_neg (c := 21 ≤ j ∧ j < 21 + 0) (by omega), if_neg (c := 29 ≤ j ∧ j < 29 + 0) (by omega)]
          by_cases d : j < 200
          · rw [if_pos (by omega), if_pos d]
          · rw [if_neg (by omega), if_neg d]⟩
    unfold wpM
    rw [s1_iff [39] 200]
    simp (disch := omega) [sz_s, sz_0, gx_s, hx_r, hx_c, hx_b, hx_s, hx_i, hx_n, kx_s, kx_n, kx_i, cx_d, up_at, am_ctl, am_step, am_i1, am_i2, am_i2d, am_l1, am_l2, am_l2d, am_ldi, am_ldl, am_lda, am_sti, am_sta, am_stl, am_inc, am_i2l, am_l2i, am_lcmp, am_dup, am_dup2, am_pop1, am_fv, am_getf, am_putf, am_wr, am_ial, am_lal, am_bal, am_aal, am_ias, am_las, am_bas, am_alen, am_inst, am_cast, am_cpm, am_copy, am_tsw, am_pop, am_cat, am_cS, am_cI, am_cV, am_ri, am_rl, am_ra, am_rv, am_b1, am_b2, am_ent, am_en, am_isL, am_st1, am_st2, am_clr, am_cnd, cc_177, ac_177, nL_177, rb_177, np_164, ok_177_164, nL_164, np_160, ok_177_160, nL_160, vd_160_12, np_175, ok_177_175, nL_175, vd_175_12, tg_12_5, tg_12_0, tg_12_15, tg_12_14, tg_12_1, List.getElem?_cons_succ, List.getElem?_cons_zero, nz_of, nzl_of, Int.toNat_add, Int.toNat_mul, tn_l, lt_t, lt_f, le_t, le_f, eq_t, eq_f, ltn_t, ltn_f, len_t, len_f, eqn_t, eqn_f, up_ne, up_up, sh_101, sh_107, rf_101_5, wm_isText, t3, K]
    refine s1.mpr ?_
    rw [s1_iff [39, 78] 200]
    simp (disch := omega) [sz_s, sz_0, gx_s, hx_r, hx_c, hx_b, hx_s, hx_i, hx_n, kx_s, kx_n, kx_i, cx_d, up_at, am_ctl, am_step, am_i1, am_i2, am_i2d, am_l1, am_l2, am_l2d, am_ldi, am_ldl, am_lda, am_sti, am_sta, am_stl, am_inc, am_i2l, am_l2i, am_lcmp, am_dup, am_dup2, am_pop1, am_fv, am_getf, am_putf, am_wr, am_ial, am_lal, am_bal, am_aal, am_ias, am_las, am_bas, am_alen, am_inst, am_cast, am_cpm, am_copy, am_tsw, am_pop, am_cat, am_cS, am_cI, am_cV, am_ri, am_rl, am_ra, am_rv, am_b1, am_b2, am_ent, am_en, am_isL, am_st1, am_st2, am_clr, am_cnd, cc_177, ac_177, nL_177, rb_177, np_164, ok_177_164, nL_164, np_160, ok_177_160, nL_160, vd_160_12, np_175, ok_177_175, nL_175, vd_175_12, tg_12_5, tg_12_0, tg_12_15, tg_12_14, tg_12_1, List.getElem?_cons_succ, List.getElem?_cons_zero, nz_of, nzl_of, Int.toNat_add, Int.toNat_mul, tn_l, lt_t, lt_f, le_t, le_f, eq_t, eq_f, ltn_t, ltn_f, len_t, len_f, eqn_t, eqn_f, up_ne, up_up, sh_101, sh_102, rf_101_0, e15]
    simpa using q
  · have k1 := k1 c
    unfold wpM
    rw [s1_iff [] 200]
    simp (disch := omega) [sz_s, sz_0, gx_s, hx_r, hx_c, hx_b, hx_s, hx_i, hx_n, kx_s, kx_n, kx_i, cx_d, up_at, am_ctl, am_step, am_i1, am_i2, am_i2d, am_l1, am_l2, am_l2d, am_ldi, am_ldl, am_lda, am_sti, am_sta, am_stl, am_inc, am_i2l, am_l2i, am_lcmp, am_dup, am_dup2, am_pop1, am_fv, am_getf, am_putf, am_wr, am_ial, am_lal, am_bal, am_aal, am_ias, am_las, am_bas, am_alen, am_inst, am_cast, am_cpm, am_copy, am_tsw, am_pop, am_cat, am_cS, am_cI, am_cV, am_ri, am_rl, am_ra, am_rv, am_b1, am_b2, am_ent, am_en, am_isL, am_st1, am_st2, am_clr, am_cnd, cc_177, ac_177, nL_177, rb_177, np_164, ok_177_164, nL_164, np_160, ok_177_160, nL_160, vd_160_12, np_175, ok_177_175, nL_175, vd_175_12, tg_12_5, tg_12_0, tg_12_15, tg_12_14, tg_12_1, List.getElem?_cons_succ, List.getElem?_cons_zero, nz_of, nzl_of, Int.toNat_add, Int.toNat_mul, tn_l, lt_t, lt_f, le_t, le_f, eq_t, eq_f, ltn_t, ltn_f, len_t, len_f, eqn_t, eqn_f, up_ne, up_up, sh_101, sh_107, rf_101_5, wm_isText, t3, K, c]
    exact k1
