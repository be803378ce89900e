/-! land: the class's side, the reference's -/
theorem fm_tail {x : Nat → Int} {s : Nat} : ∀ (d i h : Nat) (rd : Nat → Int), i + d = s → d < 4 → h ≤ 8 → (fmZ x s d i 0 h rd).1 = -9 → fmZ x s d i 0 h rd = (-9, h, rd)
  | 0, i, h, rd, hi, _, _, _ => by rw [fmZ]; rfl
  | d + 1, i, h, rd, hi, hd, hh, e => by
    have his : i < s := by omega
    have sd : s - i = d + 1 := by omega
    by_cases b : x i = 32
    · have q := fm_blank (h := h) (rd := rd) his b
      rw [sd, show s - (i + 1) = d by omega] at q
      rw [q] at e ⊢
      exact fm_tail d (i + 1) h rd (by omega) (by omega) hh e
    · by_cases h8 : h = 8
      · subst h8
        have q := fm_full (rd := rd) his b
        rw [sd] at q
        rw [q] at e; omega
      · obtain ⟨q1, q2⟩ := fm_item (rd := rd) his b (show h < 8 by omega)
        rw [sd] at q1 q2
        by_cases f : itF x s i = -9
        · have := (q2 f).1; omega
        · rw [q1 f] at e; exact absurd e f
theorem itV_d {c : Int} {p : Nat} (hp : 0 < p) (h : 0 ≤ itV c p) : itV c p = c - 48 := by
  unfold itV at h ⊢
  rw [if_neg (by omega)] at h ⊢
  by_cases z : 48 ≤ c ∧ c ≤ (if p = 1 then 50 else 57)
  · rw [if_pos z]
  · rw [if_neg z] at h; omega
/-- h houses settled as rd says, no more changed -/
def SE (μ ν : Nat → Nat → Int) (h : Nat) (rd : Nat → Int) : Prop := (∀ k i, ¬ (74 ≤ k ∧ k ≤ 77) → ¬ (k = 73 ∧ i = 7) → ν k i = μ k i) ∧ ν 73 7 = h ∧ h ≤ 8 ∧ ∀ k, k < h → (ν 74 k = rd (4 * k) ∧ ν 75 k = rd (4 * k + 1) ∧ ν 76 k = rd (4 * k + 2) ∧ ν 77 k = rd (4 * k + 3)) ∧ (0 ≤ rd (4 * k) ∧ rd (4 * k) ≤ 5) ∧ (0 ≤ rd (4 * k + 1) ∧ rd (4 * k + 1) ≤ 2) ∧ (0 ≤ rd (4 * k + 2) ∧ rd (4 * k + 2) ≤ 9) ∧ (0 ≤ rd (4 * k + 3) ∧ rd (4 * k + 3) ≤ 9)
set_option maxRecDepth 100000 in
theorem wp_settle (h : Nat) (a b c d : Int) (hh : h < 8) (ha : 0 ≤ a ∧ a ≤ 5) {μ : Nat → Nat → Int} (h7 : μ 73 7 = h) (Φ : Option AV → ST → Prop) : wpM 15 [.inr (.inr (some 73)), .inl a, .inl b, .inl c, .inl d] (S μ) Φ ↔ Φ none (S (am_up (am_up (am_up (am_up (am_up μ 74 h a) 75 h b) 76 h c) 77 h d) 73 7 ((h : Int) + 1))) := by
  unfold wpM
  rw [s1_iff [] 200]
  simp (disch := omega) [sz_s, sz_0, gx_s, hx_r, hx_c, hx_b, hx_s, hx_i, hx_n, kx_s, kx_n, kx_i, cx_d, up_at, am_ctl, am_step, am_i1, am_i2, am_i2d, am_l1, am_l2, am_l2d, am_ldi, am_ldl, am_lda, am_sti, am_sta, am_stl, am_inc, am_i2l, am_l2i, am_lcmp, am_dup, am_dup2, am_pop1, am_fv, am_getf, am_putf, am_wr, am_ial, am_lal, am_bal, am_aal, am_ias, am_las, am_bas, am_alen, am_inst, am_cast, am_cpm, am_copy, am_tsw, am_pop, am_cat, am_cS, am_cI, am_cV, am_ri, am_rl, am_ra, am_rv, am_b1, am_b2, am_ent, am_en, am_isL, am_st1, am_st2, am_clr, am_cnd, cc_15, ac_15, nL_15, rb_15, np_129, ok_15_129, nL_129, tg_4_7, tg_4_1, tg_4_2, tg_4_3, tg_4_4, List.getElem?_cons_succ, List.getElem?_cons_zero, nz_of, nzl_of, Int.toNat_add, Int.toNat_mul, tn_l, lt_t, lt_f, le_t, le_f, eq_t, eq_f, ltn_t, ltn_f, len_t, len_f, eqn_t, eqn_f, up_ne, up_up, sh_73, sh_74, sh_75, sh_76, sh_77, rf_73_1, rf_73_2, rf_73_3, rf_73_4, wp_within, h7, ha.1, ha.2, hh]
set_option maxRecDepth 100000 in
theorem wp_settleBy {μ : Nat → Nat → Int} (hl : LT μ) {n s : Nat} {x : Nat → Int} (hn : n < 4) (hT : TX μ n s x) (Φ : Option AV → ST → Prop) : ∀ (m i h : Nat) (rd : Nat → Int) (ν : Nat → Nat → Int), s - i ≤ m → i ≤ s → (fmZ x s (s - i) i 0 h rd).1 = -9 → SE μ ν h rd → (∀ ν', SE μ ν' (fmZ x s (s - i) i 0 h rd).2.1 (fmZ x s (s - i) i 0 h rd).2.2 → Φ none (S ν')) → wpS 143 2 [some (.inr (.inr (some 0))), some (.inr (.inr (some (58 + 2 * n)))), some (.inl i)] [] (S ν) Φ := by
  obtain ⟨g1, g2, g3, g4⟩ := g_text n hn
  obtain ⟨t1, t2, t3, t4⟩ := hT
  intro m
  induction m with
  | zero =>
    intro i h rd ν hm hi hf hS k
    obtain rfl : i = s := by omega
    rw [Nat.sub_self, fmZ] at k
    have s2 : ν (58 + 2 * n) 1 = i := by rw [hS.1 _ _ (by omega) (by omega)]; exact t2
    have k := k ν hS
    rw [s1_iff [2] 200]
    simp (disch := omega) [sz_s, sz_0, gx_s, hx_r, hx_c, hx_b, hx_s, hx_i, hx_n, kx_s, kx_n, kx_i, cx_d, up_at, am_ctl, am_step, am_i1, am_i2, am_i2d, am_l1, am_l2, am_l2d, am_ldi, am_ldl, am_lda, am_sti, am_sta, am_stl, am_inc, am_i2l, am_l2i, am_lcmp, am_dup, am_dup2, am_pop1, am_fv, am_getf, am_putf, am_wr, am_ial, am_lal, am_bal, am_aal, am_ias, am_las, am_bas, am_alen, am_inst, am_cast, am_cpm, am_copy, am_tsw, am_pop, am_cat, am_cS, am_cI, am_cV, am_ri, am_rl, am_ra, am_rv, am_b1, am_b2, am_ent, am_en, am_isL, am_st1, am_st2, am_clr, am_cnd, cc_143, ac_143, nL_143, rb_143, np_139, ok_143_139, nL_139, np_15, ok_143_15, nL_15, vd_15_4, tg_8_1, tg_8_0, tg_11_2, List.getElem?_cons_succ, List.getElem?_cons_zero, nz_of, nzl_of, Int.toNat_add, Int.toNat_mul, tn_l, lt_t, lt_f, le_t, le_f, eq_t, eq_f, ltn_t, ltn_f, len_t, len_f, eqn_t, eqn_f, up_ne, up_up, g2, s2]
    exact k
  | succ m ih =>
    intro i h rd ν hm hi hf hS k
    have s2 : ν (58 + 2 * n) 1 = s := by rw [hS.1 _ _ (by omega) (by omega)]; exact t2
    have sx : ∀ j, j < s → ν (59 + 2 * n) j = x j := fun j hj => by rw [hS.1 _ _ (by omega) (by omega)]; exact (t4 j hj).1
    have lt : LT ν := by
      obtain ⟨l0, l1, l2, l3, l4, l5⟩ := hl
      exact ⟨by rw [hS.1 _ _ (by omega) (by omega)]; exact l0, by rw [hS.1 _ _ (by omega) (by omega)]; exact l1, by rw [hS.1 _ _ (by omega) (by omega)]; exact l2, by rw [hS.1 _ _ (by omega) (by omega)]; exact l3, by rw [hS.1 _ _ (by omega) (by omega)]; exact l4, by rw [hS.1 _ _ (by omega) (by omega)]; exact l5⟩
    have h8 := hS.2.2.1
    by_cases far : s < i + 4
    · have q := fm_tail (s - i) i h rd (by omega) (by omega) h8 hf
      rw [q] at k
      have k := k ν hS
      rw [s1_iff [2] 200]
      simp (disch := omega) [sz_s, sz_0, gx_s, hx_r, hx_c, hx_b, hx_s, hx_i, hx_n, kx_s, kx_n, kx_i, cx_d, up_at, am_ctl, am_step, am_i1, am_i2, am_i2d, am_l1, am_l2, am_l2d, am_ldi, am_ldl, am_lda, am_sti, am_sta, am_stl, am_inc, am_i2l, am_l2i, am_lcmp, am_dup, am_dup2, am_pop1, am_fv, am_getf, am_putf, am_wr, am_ial, am_lal, am_bal, am_aal, am_ias, am_las, am_bas, am_alen, am_inst, am_cast, am_cpm, am_copy, am_tsw, am_pop, am_cat, am_cS, am_cI, am_cV, am_ri, am_rl, am_ra, am_rv, am_b1, am_b2, am_ent, am_en, am_isL, am_st1, am_st2, am_clr, am_cnd, cc_143, ac_143, nL_143, rb_143, np_139, ok_143_139, nL_139, np_15, ok_143_15, nL_15, vd_15_4, tg_8_1, tg_8_0, tg_11_2, List.getElem?_cons_succ, List.getElem?_cons_zero, nz_of, nzl_of, Int.toNat_add, Int.toNat_mul, tn_l, lt_t, lt_f, le_t, le_f, eq_t, eq_f, ltn_t, ltn_f, len_t, len_f, eqn_t, eqn_f, up_ne, up_up, g2, s2]
      exact k
    · have his : i < s := by omega
      have x0 := sx i his
      by_cases b : x i = 32
      · rw [fm_blank his b] at hf k
        have q := ih (i + 1) h rd ν (by omega) (by omega) hf hS k
        rw [show ((i + 1 : Nat) : Int) = (i : Int) + 1 by omega] at q
        rw [s1_iff [2] 200]
        simp (disch := omega) [sz_s, sz_0, gx_s, hx_r, hx_c, hx_b, hx_s, hx_i, hx_n, kx_s, kx_n, kx_i, cx_d, up_at, am_ctl, am_step, am_i1, am_i2, am_i2d, am_l1, am_l2, am_l2d, am_ldi, am_ldl, am_lda, am_sti, am_sta, am_stl, am_inc, am_i2l, am_l2i, am_lcmp, am_dup, am_dup2, am_pop1, am_fv, am_getf, am_putf, am_wr, am_ial, am_lal, am_bal, am_aal, am_ias, am_las, am_bas, am_alen, am_inst, am_cast, am_cpm, am_copy, am_tsw, am_pop, am_cat, am_cS, am_cI, am_cV, am_ri, am_rl, am_ra, am_rv, am_b1, am_b2, am_ent, am_en, am_isL, am_st1, am_st2, am_clr, am_cnd, cc_143, ac_143, nL_143, rb_143, np_139, ok_143_139, nL_139, np_15, ok_143_15, nL_15, vd_15_4, tg_8_1, tg_8_0, tg_11_2, List.getElem?_cons_succ, List.getElem?_cons_zero, nz_of, nzl_of, Int.toNat_add, Int.toNat_mul, tn_l, lt_t, lt_f, le_t, le_f, eq_t, eq_f, ltn_t, ltn_f, len_t, len_f, eqn_t, eqn_f, up_ne, up_up, g2, g3, g4, s2, x0, b]
        exact q
      · by_cases e8 : h = 8
        · subst e8
          rw [fm_full his b] at hf; omega
        · obtain ⟨q1, q2⟩ := fm_item (rd := rd) his b (show h < 8 by omega)
          by_cases f : itF x s i = -9
          · obtain ⟨q3, q4, v0, v1, v2, v3⟩ := q2 f
            rw [q4] at hf k
            have x1 := sx (i + 1) (by omega)
            have x2 := sx (i + 2) (by omega)
            have x3 := sx (i + 3) (by omega)
            have r0 := itV_rng (x i) 0
            have r1 := itV_rng (x (i + 1)) 1
            have r2 := itV_rng (x (i + 2)) 2
            have r3 := itV_rng (x (i + 3)) 3
            have w0 : itV (x i) 0 = koZ (x i) := rfl
            have r00 := r0.2.2.1 rfl
            have r11 := r1.2.2.2 rfl
            have w1 := itV_d (by omega) v1
            have w2 := itV_d (by omega) v2
            have w3 := itV_d (by omega) v3
            simp only [w0, w1, w2, w3] at hf k v0 v1 v2 v3 r0 r1 r2 r3 r00 r11
            have K := wp_kind lt (x i)
            rw [if_neg (show ¬ koZ (x i) = -1 by omega)] at K
            have Z := wp_settle h (koZ (x i)) (x (i + 1) - 48) (x (i + 2) - 48) (x (i + 3) - 48) (by omega) (by omega) hS.2.1
            have q := ih (i + 4) (h + 1) _ (am_up (am_up (am_up (am_up (am_up ν 74 h (koZ (x i))) 75 h (x (i + 1) - 48)) 76 h (x (i + 2) - 48)) 77 h (x (i + 3) - 48)) 73 7 ((h : Int) + 1)) (by omega) q3 hf ⟨fun k i h1 h2 => by
              simp only [up_at]
              rw [if_neg (by omega), if_neg (by omega), if_neg (by omega), if_neg (by omega), if_neg (by omega)]
              exact hS.1 k i h1 h2, by simp [up_at], by omega, fun j hj => by
              by_cases e : j = h
              · subst e
                simp (disch := omega) only [up_at, am_u1, eqn_t, eqn_f, true_and, and_true, false_and, and_false, and_self, if_true, if_false]
                omega
              · have := hS.2.2.2 j (by omega)
                simp (disch := omega) only [up_at, am_u1, eqn_t, eqn_f, true_and, and_true, false_and, and_false, and_self, if_true, if_false]
                exact this⟩ k
            rw [show ((i + 4 : Nat) : Int) = (i : Int) + 4 by omega] at q
            have y1 := (t4 (i + 1) (by omega)).2.2
            have y2 := (t4 (i + 2) (by omega)).2.2
            have y3 := (t4 (i + 3) (by omega)).2.2
            rw [s1_iff [2] 200]
            simp (disch := omega) [sz_s, sz_0, gx_s, hx_r, hx_c, hx_b, hx_s, hx_i, hx_n, kx_s, kx_n, kx_i, cx_d, up_at, am_ctl, am_step, am_i1, am_i2, am_i2d, am_l1, am_l2, am_l2d, am_ldi, am_ldl, am_lda, am_sti, am_sta, am_stl, am_inc, am_i2l, am_l2i, am_lcmp, am_dup, am_dup2, am_pop1, am_fv, am_getf, am_putf, am_wr, am_ial, am_lal, am_bal, am_aal, am_ias, am_las, am_bas, am_alen, am_inst, am_cast, am_cpm, am_copy, am_tsw, am_pop, am_cat, am_cS, am_cI, am_cV, am_ri, am_rl, am_ra, am_rv, am_b1, am_b2, am_ent, am_en, am_isL, am_st1, am_st2, am_clr, am_cnd, cc_143, ac_143, nL_143, rb_143, np_139, ok_143_139, nL_139, np_15, ok_143_15, nL_15, vd_15_4, tg_8_1, tg_8_0, tg_11_2, List.getElem?_cons_succ, List.getElem?_cons_zero, nz_of, nzl_of, Int.toNat_add, Int.toNat_mul, tn_l, lt_t, lt_f, le_t, le_f, eq_t, eq_f, ltn_t, ltn_f, len_t, len_f, eqn_t, eqn_f, up_ne, up_up, sh_0, rf_0_2, sh_73, g2, g3, g4, s2, x0, x1, x2, x3, b, K, Z]
            exact q
          · rw [q1 f] at hf; exact absurd hf f
