/-! keep, on: equal on both sides -/
def cpz (μ : Nat → Nat → Int) (a b n : Nat) : Nat → Nat → Int := am_row μ b (fun j => if j < n then μ a j else μ b j)
def tk (μ : Nat → Nat → Int) (c d : Nat) : Nat → Nat → Int := cpz (cpz (cpz (cpz (cpz (cpz μ (d + 1) (c + 1) 8) (d + 2) (c + 2) 8) (d + 3) (c + 3) 8) (d + 4) (c + 4) 8) (d + 5) (c + 5) 64) (d + 6) (c + 6) 90
def xtake (μ : Nat → Nat → Int) (c d : Nat) : Nat → Nat → Int := am_up (am_up (am_up (am_up (am_up (tk μ c d) c 7 (μ d 7)) c 8 (μ d 8)) c 9 (μ d 9)) c 10 (μ d 10)) c 11 (μ d 11)
theorem tk_ne (μ : Nat → Nat → Int) (c d k : Nat) (h : ¬ (c + 1 ≤ k ∧ k ≤ c + 6)) : tk μ c d k = μ k := by
  have e : ∀ (ν : Nat → Nat → Int) (a b n : Nat), ¬ k = b → cpz ν a b n k = ν k := fun ν a b n q => by
    funext i; unfold cpz am_row; rw [if_neg q]
  unfold tk
  rw [e _ _ _ _ (by omega), e _ _ _ _ (by omega), e _ _ _ _ (by omega), e _ _ _ _ (by omega), e _ _ _ _ (by omega), e _ _ _ _ (by omega)]
theorem tk_1 (μ : Nat → Nat → Int) (c d : Nat) (h : d + 6 < c ∨ c + 6 < d) (i : Nat) (hi : i < 8) : tk μ c d (c + 1) i = μ (d + 1) i := by
  unfold tk cpz
  simp (disch := omega) only [row_at, eqn_f, eqn_t, ltn_t, if_true, if_false]
theorem tk_2 (μ : Nat → Nat → Int) (c d : Nat) (h : d + 6 < c ∨ c + 6 < d) (i : Nat) (hi : i < 8) : tk μ c d (c + 2) i = μ (d + 2) i := by
  unfold tk cpz
  simp (disch := omega) only [row_at, eqn_f, eqn_t, ltn_t, if_true, if_false]
theorem tk_3 (μ : Nat → Nat → Int) (c d : Nat) (h : d + 6 < c ∨ c + 6 < d) (i : Nat) (hi : i < 8) : tk μ c d (c + 3) i = μ (d + 3) i := by
  unfold tk cpz
  simp (disch := omega) only [row_at, eqn_f, eqn_t, ltn_t, if_true, if_false]
theorem tk_4 (μ : Nat → Nat → Int) (c d : Nat) (h : d + 6 < c ∨ c + 6 < d) (i : Nat) (hi : i < 8) : tk μ c d (c + 4) i = μ (d + 4) i := by
  unfold tk cpz
  simp (disch := omega) only [row_at, eqn_f, eqn_t, ltn_t, if_true, if_false]
theorem tk_5 (μ : Nat → Nat → Int) (c d : Nat) (h : d + 6 < c ∨ c + 6 < d) (i : Nat) (hi : i < 64) : tk μ c d (c + 5) i = μ (d + 5) i := by
  unfold tk cpz
  simp (disch := omega) only [row_at, eqn_f, eqn_t, ltn_t, if_true, if_false]
theorem tk_6 (μ : Nat → Nat → Int) (c d : Nat) (h : d + 6 < c ∨ c + 6 < d) (i : Nat) (hi : i < 90) : tk μ c d (c + 6) i = μ (d + 6) i := by
  unfold tk cpz
  simp (disch := omega) only [row_at, eqn_f, eqn_t, ltn_t, if_true, if_false]
theorem xt_ne (μ : Nat → Nat → Int) (c d k : Nat) (h : ¬ (c ≤ k ∧ k ≤ c + 6)) : xtake μ c d k = μ k := by
  unfold xtake
  simp (disch := omega) only [up_ne]
  exact tk_ne μ c d k (by omega)
theorem xt_up (μ : Nat → Nat → Int) (c d k : Nat) (h : ¬ k = c) : xtake μ c d k = tk μ c d k := by
  unfold xtake
  simp (disch := omega) only [up_ne]
theorem xt_f (μ : Nat → Nat → Int) (c d i : Nat) (h : 7 ≤ i ∧ i ≤ 11) : xtake μ c d c i = μ d i := by
  unfold xtake
  have : i = 7 ∨ i = 8 ∨ i = 9 ∨ i = 10 ∨ i = 11 := by omega
  rcases this with rfl | rfl | rfl | rfl | rfl <;> simp [up_at]
/-- a land, brought elsewhere -/
theorem LD_move {B : Int} {μ ν : Nat → Nat → Int} {c o c' o' : Nat} (h : LD B μ c o) (hw : ∀ i, i < 200 → ν 102 (o' + i) = μ 102 (o + i)) (hf : ∀ i, 7 ≤ i ∧ i ≤ 11 → ν c' i = μ c i) (h1 : ∀ i, i < 8 → ν (c' + 1) i = μ (c + 1) i) (h2 : ∀ i, i < 8 → ν (c' + 2) i = μ (c + 2) i) (h3 : ∀ i, i < 8 → ν (c' + 3) i = μ (c + 3) i) (h4 : ∀ i, i < 8 → ν (c' + 4) i = μ (c + 4) i) (h5 : ∀ i, i < 64 → ν (c' + 5) i = μ (c + 5) i) (h6 : ∀ i, i < 90 → ν (c' + 6) i = μ (c + 6) i) : LD B ν c' o' := by
  obtain ⟨g1, g2, g3, g4, g5, g6, g7, g8, g9, g10, g11, g12, g13⟩ := h
  unfold LD
  have w0 := hw 0 (by omega)
  rw [Nat.add_zero, Nat.add_zero] at w0
  rw [w0, hw 1 (by omega), hw 2 (by omega), hw 3 (by omega), hw 4 (by omega), hf 7 (by omega), hf 8 (by omega), hf 9 (by omega), hf 10 (by omega), hf 11 (by omega)]
  refine ⟨g1, g2, g3, g4, g5, g6, g7, g8, g9, g10, fun k hk => ?_, fun j hj => ?_, fun j hj => ?_⟩
  · have hw' : ∀ a b, a + b < 200 → ν 102 (o' + a + b) = μ 102 (o + a + b) := fun a b q => by
      rw [Nat.add_assoc, Nat.add_assoc]; exact hw _ q
    rw [hw' 5 k (by omega), hw' 13 k (by omega), hw' 21 k (by omega), hw' 29 k (by omega), h1 k (by omega), h2 k (by omega), h3 k (by omega), h4 k (by omega)]
    exact g11 k hk
  · rw [Nat.add_assoc o', hw (37 + j) (by omega), h5 j hj, ← Nat.add_assoc]
    exact g12 j hj
  · rw [Nat.add_assoc o', hw (101 + j) (by omega), h6 j (by omega), ← Nat.add_assoc]
    exact g13 j hj
/-- the reference's row of a land, i of it copied from p on to o on -/
def mcp (μ : Nat → Nat → Int) (o p i : Nat) : Nat → Nat → Int := am_row μ 102 (fun j => if o ≤ j ∧ j < o + i then μ 102 (p + (j - o)) else μ 102 j)
theorem mcp_ne (μ : Nat → Nat → Int) (o p i k : Nat) (h : ¬ k = 102) : mcp μ o p i k = μ k := by
  funext j; unfold mcp am_row; rw [if_neg h]
theorem mcp_at (μ : Nat → Nat → Int) (o p i j : Nat) : mcp μ o p i 102 j = if o ≤ j ∧ j < o + i then μ 102 (p + (j - o)) else μ 102 j := by
  unfold mcp am_row; rw [if_pos rfl]
theorem mcp_r (μ : Nat → Nat → Int) (o p i : Nat) (h : o + i ≤ p + i ∨ p + i < o) : mcp μ o p i 102 (p + i) = μ 102 (p + i) := by
  rw [mcp_at, if_neg (by omega)]
theorem mcp_0 (μ : Nat → Nat → Int) (o p : Nat) : mcp μ o p 0 = μ := by
  funext b j
  by_cases h : b = 102
  · subst h; rw [mcp_at, if_neg (by omega)]
  · rw [mcp_ne _ _ _ _ _ h]
theorem mcp_s (μ : Nat → Nat → Int) (o p i : Nat) : am_up (mcp μ o p i) 102 (o + i) (μ 102 (p + i)) = mcp μ o p (i + 1) := by
  funext b j
  unfold am_up
  by_cases h : b = 102
  · subst h
    rw [mcp_at, mcp_at]
    by_cases e : j = o + i
    · subst e
      rw [if_pos ⟨rfl, rfl⟩, if_pos (by omega), show o + i - o = i by omega]
    · rw [if_neg (by omega)]
      by_cases q : o ≤ j ∧ j < o + i
      · rw [if_pos q, if_pos (by omega)]
      · rw [if_neg q, if_neg (by omega)]
  · rw [if_neg (by omega), mcp_ne _ _ _ _ _ h, mcp_ne _ _ _ _ _ h]
set_option maxRecDepth 100000 in
theorem wp_take_80_73 (μ : Nat → Nat → Int) (Φ : Option AV → ST → Prop) : wpM 14 [.inr (.inr (some 80)), .inr (.inr (some 73))] (S μ) Φ ↔ Φ none (S (xtake μ 80 73)) := by
  unfold wpM
  rw [s1_iff [] 200]
  simp (disch := omega) [sz_s, sz_0, gx_s, hx_r, hx_c, hx_b, hx_s, hx_i, hx_n, kx_s, kx_n, kx_i, cx_d, up_at, am_ctl, am_step, am_i1, am_i2, am_i2d, am_l1, am_l2, am_l2d, am_ldi, am_ldl, am_lda, am_sti, am_sta, am_stl, am_inc, am_i2l, am_l2i, am_lcmp, am_dup, am_dup2, am_pop1, am_fv, am_getf, am_putf, am_wr, am_ial, am_lal, am_bal, am_aal, am_ias, am_las, am_bas, am_alen, am_inst, am_cast, am_cpm, am_copy, am_tsw, am_pop, am_cat, am_cS, am_cI, am_cV, am_ri, am_rl, am_ra, am_rv, am_b1, am_b2, am_ent, am_en, am_isL, am_st1, am_st2, am_clr, am_cnd, cc_14, ac_14, nL_14, rb_14, tg_4_1, tg_4_2, tg_4_3, tg_4_4, tg_4_5, tg_4_6, tg_4_7, tg_4_8, tg_4_9, tg_4_10, tg_4_11, List.getElem?_cons_succ, List.getElem?_cons_zero, nz_of, nzl_of, Int.toNat_add, Int.toNat_mul, tn_l, lt_t, lt_f, le_t, le_f, eq_t, eq_f, ltn_t, ltn_f, len_t, len_f, eqn_t, eqn_f, up_ne, up_up, sh_80, sh_81, sh_82, sh_83, sh_84, sh_85, sh_86, sh_73, sh_74, sh_75, sh_76, sh_77, sh_78, sh_79, rf_80_1, rf_80_2, rf_80_3, rf_80_4, rf_80_5, rf_80_6, rf_73_1, rf_73_2, rf_73_3, rf_73_4, rf_73_5, rf_73_6, row_at, xtake, tk, cpz]
set_option maxRecDepth 100000 in
theorem wp_take_87_73 (μ : Nat → Nat → Int) (Φ : Option AV → ST → Prop) : wpM 14 [.inr (.inr (some 87)), .inr (.inr (some 73))] (S μ) Φ ↔ Φ none (S (xtake μ 87 73)) := by
  unfold wpM
  rw [s1_iff [] 200]
  simp (disch := omega) [sz_s, sz_0, gx_s, hx_r, hx_c, hx_b, hx_s, hx_i, hx_n, kx_s, kx_n, kx_i, cx_d, up_at, am_ctl, am_step, am_i1, am_i2, am_i2d, am_l1, am_l2, am_l2d, am_ldi, am_ldl, am_lda, am_sti, am_sta, am_stl, am_inc, am_i2l, am_l2i, am_lcmp, am_dup, am_dup2, am_pop1, am_fv, am_getf, am_putf, am_wr, am_ial, am_lal, am_bal, am_aal, am_ias, am_las, am_bas, am_alen, am_inst, am_cast, am_cpm, am_copy, am_tsw, am_pop, am_cat, am_cS, am_cI, am_cV, am_ri, am_rl, am_ra, am_rv, am_b1, am_b2, am_ent, am_en, am_isL, am_st1, am_st2, am_clr, am_cnd, cc_14, ac_14, nL_14, rb_14, tg_4_1, tg_4_2, tg_4_3, tg_4_4, tg_4_5, tg_4_6, tg_4_7, tg_4_8, tg_4_9, tg_4_10, tg_4_11, List.getElem?_cons_succ, List.getElem?_cons_zero, nz_of, nzl_of, Int.toNat_add, Int.toNat_mul, tn_l, lt_t, lt_f, le_t, le_f, eq_t, eq_f, ltn_t, ltn_f, len_t, len_f, eqn_t, eqn_f, up_ne, up_up, sh_87, sh_88, sh_89, sh_90, sh_91, sh_92, sh_93, sh_73, sh_74, sh_75, sh_76, sh_77, sh_78, sh_79, rf_87_1, rf_87_2, rf_87_3, rf_87_4, rf_87_5, rf_87_6, rf_73_1, rf_73_2, rf_73_3, rf_73_4, rf_73_5, rf_73_6, row_at, xtake, tk, cpz]
set_option maxRecDepth 100000 in
theorem wp_take_94_73 (μ : Nat → Nat → Int) (Φ : Option AV → ST → Prop) : wpM 14 [.inr (.inr (some 94)), .inr (.inr (some 73))] (S μ) Φ ↔ Φ none (S (xtake μ 94 73)) := by
  unfold wpM
  rw [s1_iff [] 200]
  simp (disch := omega) [sz_s, sz_0, gx_s, hx_r, hx_c, hx_b, hx_s, hx_i, hx_n, kx_s, kx_n, kx_i, cx_d, up_at, am_ctl, am_step, am_i1, am_i2, am_i2d, am_l1, am_l2, am_l2d, am_ldi, am_ldl, am_lda, am_sti, am_sta, am_stl, am_inc, am_i2l, am_l2i, am_lcmp, am_dup, am_dup2, am_pop1, am_fv, am_getf, am_putf, am_wr, am_ial, am_lal, am_bal, am_aal, am_ias, am_las, am_bas, am_alen, am_inst, am_cast, am_cpm, am_copy, am_tsw, am_pop, am_cat, am_cS, am_cI, am_cV, am_ri, am_rl, am_ra, am_rv, am_b1, am_b2, am_ent, am_en, am_isL, am_st1, am_st2, am_clr, am_cnd, cc_14, ac_14, nL_14, rb_14, tg_4_1, tg_4_2, tg_4_3, tg_4_4, tg_4_5, tg_4_6, tg_4_7, tg_4_8, tg_4_9, tg_4_10, tg_4_11, List.getElem?_cons_succ, List.getElem?_cons_zero, nz_of, nzl_of, Int.toNat_add, Int.toNat_mul, tn_l, lt_t, lt_f, le_t, le_f, eq_t, eq_f, ltn_t, ltn_f, len_t, len_f, eqn_t, eqn_f, up_ne, up_up, sh_94, sh_95, sh_96, sh_97, sh_98, sh_99, sh_100, sh_73, sh_74, sh_75, sh_76, sh_77, sh_78, sh_79, rf_94_1, rf_94_2, rf_94_3, rf_94_4, rf_94_5, rf_94_6, rf_73_1, rf_73_2, rf_73_3, rf_73_4, rf_73_5, rf_73_6, row_at, xtake, tk, cpz]
set_option maxRecDepth 100000 in
theorem wp_take_73_80 (μ : Nat → Nat → Int) (Φ : Option AV → ST → Prop) : wpM 14 [.inr (.inr (some 73)), .inr (.inr (some 80))] (S μ) Φ ↔ Φ none (S (xtake μ 73 80)) := by
  unfold wpM
  rw [s1_iff [] 200]
  simp (disch := omega) [sz_s, sz_0, gx_s, hx_r, hx_c, hx_b, hx_s, hx_i, hx_n, kx_s, kx_n, kx_i, cx_d, up_at, am_ctl, am_step, am_i1, am_i2, am_i2d, am_l1, am_l2, am_l2d, am_ldi, am_ldl, am_lda, am_sti, am_sta, am_stl, am_inc, am_i2l, am_l2i, am_lcmp, am_dup, am_dup2, am_pop1, am_fv, am_getf, am_putf, am_wr, am_ial, am_lal, am_bal, am_aal, am_ias, am_las, am_bas, am_alen, am_inst, am_cast, am_cpm, am_copy, am_tsw, am_pop, am_cat, am_cS, am_cI, am_cV, am_ri, am_rl, am_ra, am_rv, am_b1, am_b2, am_ent, am_en, am_isL, am_st1, am_st2, am_clr, am_cnd, cc_14, ac_14, nL_14, rb_14, tg_4_1, tg_4_2, tg_4_3, tg_4_4, tg_4_5, tg_4_6, tg_4_7, tg_4_8, tg_4_9, tg_4_10, tg_4_11, List.getElem?_cons_succ, List.getElem?_cons_zero, nz_of, nzl_of, Int.toNat_add, Int.toNat_mul, tn_l, lt_t, lt_f, le_t, le_f, eq_t, eq_f, ltn_t, ltn_f, len_t, len_f, eqn_t, eqn_f, up_ne, up_up, sh_73, sh_74, sh_75, sh_76, sh_77, sh_78, sh_79, sh_80, sh_81, sh_82, sh_83, sh_84, sh_85, sh_86, rf_73_1, rf_73_2, rf_73_3, rf_73_4, rf_73_5, rf_73_6, rf_80_1, rf_80_2, rf_80_3, rf_80_4, rf_80_5, rf_80_6, row_at, xtake, tk, cpz]
set_option maxRecDepth 100000 in
theorem wp_take_73_87 (μ : Nat → Nat → Int) (Φ : Option AV → ST → Prop) : wpM 14 [.inr (.inr (some 73)), .inr (.inr (some 87))] (S μ) Φ ↔ Φ none (S (xtake μ 73 87)) := by
  unfold wpM
  rw [s1_iff [] 200]
  simp (disch := omega) [sz_s, sz_0, gx_s, hx_r, hx_c, hx_b, hx_s, hx_i, hx_n, kx_s, kx_n, kx_i, cx_d, up_at, am_ctl, am_step, am_i1, am_i2, am_i2d, am_l1, am_l2, am_l2d, am_ldi, am_ldl, am_lda, am_sti, am_sta, am_stl, am_inc, am_i2l, am_l2i, am_lcmp, am_dup, am_dup2, am_pop1, am_fv, am_getf, am_putf, am_wr, am_ial, am_lal, am_bal, am_aal, am_ias, am_las, am_bas, am_alen, am_inst, am_cast, am_cpm, am_copy, am_tsw, am_pop, am_cat, am_cS, am_cI, am_cV, am_ri, am_rl, am_ra, am_rv, am_b1, am_b2, am_ent, am_en, am_isL, am_st1, am_st2, am_clr, am_cnd, cc_14, ac_14, nL_14, rb_14, tg_4_1, tg_4_2, tg_4_3, tg_4_4, tg_4_5, tg_4_6, tg_4_7, tg_4_8, tg_4_9, tg_4_10, tg_4_11, List.getElem?_cons_succ, List.getElem?_cons_zero, nz_of, nzl_of, Int.toNat_add, Int.toNat_mul, tn_l, lt_t, lt_f, le_t, le_f, eq_t, eq_f, ltn_t, ltn_f, len_t, len_f, eqn_t, eqn_f, up_ne, up_up, sh_73, sh_74, sh_75, sh_76, sh_77, sh_78, sh_79, sh_87, sh_88, sh_89, sh_90, sh_91, sh_92, sh_93, rf_73_1, rf_73_2, rf_73_3, rf_73_4, rf_73_5, rf_73_6, rf_87_1, rf_87_2, rf_87_3, rf_87_4, rf_87_5, rf_87_6, row_at, xtake, tk, cpz]
set_option maxRecDepth 100000 in
theorem wp_take_73_94 (μ : Nat → Nat → Int) (Φ : Option AV → ST → Prop) : wpM 14 [.inr (.inr (some 73)), .inr (.inr (some 94))] (S μ) Φ ↔ Φ none (S (xtake μ 73 94)) := by
  unfold wpM
  rw [s1_iff [] 200]
  simp (disch := omega) [sz_s, sz_0, gx_s, hx_r, hx_c, hx_b, hx_s, hx_i, hx_n, kx_s, kx_n, kx_i, cx_d, up_at, am_ctl, am_step, am_i1, am_i2, am_i2d, am_l1, am_l2, am_l2d, am_ldi, am_ldl, am_lda, am_sti, am_sta, am_stl, am_inc, am_i2l, am_l2i, am_lcmp, am_dup, am_dup2, am_pop1, am_fv, am_getf, am_putf, am_wr, am_ial, am_lal, am_bal, am_aal, am_ias, am_las, am_bas, am_alen, am_inst, am_cast, am_cpm, am_copy, am_tsw, am_pop, am_cat, am_cS, am_cI, am_cV, am_ri, am_rl, am_ra, am_rv, am_b1, am_b2, am_ent, am_en, am_isL, am_st1, am_st2, am_clr, am_cnd, cc_14, ac_14, nL_14, rb_14, tg_4_1, tg_4_2, tg_4_3, tg_4_4, tg_4_5, tg_4_6, tg_4_7, tg_4_8, tg_4_9, tg_4_10, tg_4_11, List.getElem?_cons_succ, List.getElem?_cons_zero, nz_of, nzl_of, Int.toNat_add, Int.toNat_mul, tn_l, lt_t, lt_f, le_t, le_f, eq_t, eq_f, ltn_t, ltn_f, len_t, len_f, eqn_t, eqn_f, up_ne, up_up, sh_73, sh_74, sh_75, sh_76, sh_77, sh_78, sh_79, sh_94, sh_95, sh_96, sh_97, sh_98, sh_99, sh_100, rf_73_1, rf_73_2, rf_73_3, rf_73_4, rf_73_5, rf_73_6, rf_94_1, rf_94_2, rf_94_3, rf_94_4, rf_94_5, rf_94_6, row_at, xtake, tk, cpz]
set_option maxRecDepth 100000 in
theorem wp_keep0 (μ : Nat → Nat → Int) (h0 : ¬ μ 73 7 = 0) (Φ : Option AV → ST → Prop) : wpM 99 [.inr (.inr (some 0)), .inl 0] (S μ) Φ ↔ Φ (some (.inl (μ 73 9))) (S (am_up (xtake μ 80 73) 80 12 1)) := by
  have e : xtake μ 80 73 73 = μ 73 := xt_ne _ _ _ _ (by omega)
  unfold wpM
  rw [s1_iff [] 200]
  simp (disch := omega) [sz_s, sz_0, gx_s, hx_r, hx_c, hx_b, hx_s, hx_i, hx_n, kx_s, kx_n, kx_i, cx_d, up_at, am_ctl, am_step, am_i1, am_i2, am_i2d, am_l1, am_l2, am_l2d, am_ldi, am_ldl, am_lda, am_sti, am_sta, am_stl, am_inc, am_i2l, am_l2i, am_lcmp, am_dup, am_dup2, am_pop1, am_fv, am_getf, am_putf, am_wr, am_ial, am_lal, am_bal, am_aal, am_ias, am_las, am_bas, am_alen, am_inst, am_cast, am_cpm, am_copy, am_tsw, am_pop, am_cat, am_cS, am_cI, am_cV, am_ri, am_rl, am_ra, am_rv, am_b1, am_b2, am_ent, am_en, am_isL, am_st1, am_st2, am_clr, am_cnd, cc_99, ac_99, nL_99, rb_99, np_129, ok_99_129, nL_129, np_14, ok_99_14, nL_14, vd_14_4, tg_11_2, tg_4_7, tg_11_3, tg_4_9, List.getElem?_cons_succ, List.getElem?_cons_zero, nz_of, nzl_of, Int.toNat_add, Int.toNat_mul, tn_l, lt_t, lt_f, le_t, le_f, eq_t, eq_f, ltn_t, ltn_f, len_t, len_f, eqn_t, eqn_f, up_ne, up_up, sh_0, sh_73, sh_3, sh_80, rf_0_2, rf_0_3, rf_3_0, wp_within, wp_take_80_73, h0, e]
set_option maxRecDepth 100000 in
theorem wp_on0 (μ : Nat → Nat → Int) (Φ : Option AV → ST → Prop) : wpM 100 [.inr (.inr (some 0)), .inl 0] (S μ) Φ ↔ (if μ 80 12 = 0 then Φ (some (.inl (-3))) (S (xfind μ 1)) else Φ (some (.inl (μ 80 9))) (S (am_up (am_up (xtake μ 73 80) 4 4 0) 4 5 0))) := by
  have e : xtake μ 73 80 73 9 = μ 80 9 := xt_f _ _ _ _ (by omega)
  have F : ∀ (ν : Nat → Nat → Int) (Ψ : Option AV → ST → Prop), wpM 3 [.inr (.inr (some 4))] (S ν) Ψ ↔ Ψ none (S (am_up (am_up ν 4 4 0) 4 5 0)) := fun ν Ψ => by
    unfold wpM
    rw [s1_iff [] 200]
    simp (disch := omega) [sz_s, sz_0, gx_s, hx_r, hx_c, hx_b, hx_s, hx_i, hx_n, kx_s, kx_n, kx_i, cx_d, up_at, am_ctl, am_step, am_i1, am_i2, am_i2d, am_l1, am_l2, am_l2d, am_ldi, am_ldl, am_lda, am_sti, am_sta, am_stl, am_inc, am_i2l, am_l2i, am_lcmp, am_dup, am_dup2, am_pop1, am_fv, am_getf, am_putf, am_wr, am_ial, am_lal, am_bal, am_aal, am_ias, am_las, am_bas, am_alen, am_inst, am_cast, am_cpm, am_copy, am_tsw, am_pop, am_cat, am_cS, am_cI, am_cV, am_ri, am_rl, am_ra, am_rv, am_b1, am_b2, am_ent, am_en, am_isL, am_st1, am_st2, am_clr, am_cnd, cc_3, ac_3, nL_3, rb_3, List.getElem?_cons_succ, List.getElem?_cons_zero, nz_of, nzl_of, Int.toNat_add, Int.toNat_mul, tn_l, lt_t, lt_f, le_t, le_f, eq_t, eq_f, ltn_t, ltn_f, len_t, len_f, eqn_t, eqn_f, up_ne, up_up, sh_4]
  unfold wpM
  by_cases h : μ 80 12 = 0
  · rw [if_pos h]
    rw [s1_iff [] 200]
    simp (disch := omega) [sz_s, sz_0, gx_s, hx_r, hx_c, hx_b, hx_s, hx_i, hx_n, kx_s, kx_n, kx_i, cx_d, up_at, am_ctl, am_step, am_i1, am_i2, am_i2d, am_l1, am_l2, am_l2d, am_ldi, am_ldl, am_lda, am_sti, am_sta, am_stl, am_inc, am_i2l, am_l2i, am_lcmp, am_dup, am_dup2, am_pop1, am_fv, am_getf, am_putf, am_wr, am_ial, am_lal, am_bal, am_aal, am_ias, am_las, am_bas, am_alen, am_inst, am_cast, am_cpm, am_copy, am_tsw, am_pop, am_cat, am_cS, am_cI, am_cV, am_ri, am_rl, am_ra, am_rv, am_b1, am_b2, am_ent, am_en, am_isL, am_st1, am_st2, am_clr, am_cnd, cc_100, ac_100, nL_100, rb_100, np_129, ok_100_129, nL_129, np_3, ok_100_3, nL_3, vd_3_1, np_14, ok_100_14, nL_14, vd_14_4, np_133, ok_100_133, nL_133, vd_133_11, tg_11_3, tg_4_12, tg_11_2, tg_11_4, tg_4_9, List.getElem?_cons_succ, List.getElem?_cons_zero, nz_of, nzl_of, Int.toNat_add, Int.toNat_mul, tn_l, lt_t, lt_f, le_t, le_f, eq_t, eq_f, ltn_t, ltn_f, len_t, len_f, eqn_t, eqn_f, up_ne, up_up, sh_0, sh_73, sh_3, sh_4, sh_80, rf_0_2, rf_0_3, rf_0_4, rf_3_0, wp_within, h, wp_find 1 (by decide), xfind]
  · rw [if_neg h]
    rw [s1_iff [] 200]
    simp (disch := omega) [sz_s, sz_0, gx_s, hx_r, hx_c, hx_b, hx_s, hx_i, hx_n, kx_s, kx_n, kx_i, cx_d, up_at, am_ctl, am_step, am_i1, am_i2, am_i2d, am_l1, am_l2, am_l2d, am_ldi, am_ldl, am_lda, am_sti, am_sta, am_stl, am_inc, am_i2l, am_l2i, am_lcmp, am_dup, am_dup2, am_pop1, am_fv, am_getf, am_putf, am_wr, am_ial, am_lal, am_bal, am_aal, am_ias, am_las, am_bas, am_alen, am_inst, am_cast, am_cpm, am_copy, am_tsw, am_pop, am_cat, am_cS, am_cI, am_cV, am_ri, am_rl, am_ra, am_rv, am_b1, am_b2, am_ent, am_en, am_isL, am_st1, am_st2, am_clr, am_cnd, cc_100, ac_100, nL_100, rb_100, np_129, ok_100_129, nL_129, np_3, ok_100_3, nL_3, vd_3_1, np_14, ok_100_14, nL_14, vd_14_4, np_133, ok_100_133, nL_133, vd_133_11, tg_11_3, tg_4_12, tg_11_2, tg_11_4, tg_4_9, List.getElem?_cons_succ, List.getElem?_cons_zero, nz_of, nzl_of, Int.toNat_add, Int.toNat_mul, tn_l, lt_t, lt_f, le_t, le_f, eq_t, eq_f, ltn_t, ltn_f, len_t, len_f, eqn_t, eqn_f, up_ne, up_up, sh_0, sh_73, sh_3, sh_4, sh_80, rf_0_2, rf_0_3, rf_0_4, rf_3_0, wp_within, h, wp_take_73_80, F, e]
set_option maxRecDepth 100000 in
theorem wp_keep1 (μ : Nat → Nat → Int) (h0 : ¬ μ 73 7 = 0) (Φ : Option AV → ST → Prop) : wpM 99 [.inr (.inr (some 0)), .inl 1] (S μ) Φ ↔ Φ (some (.inl (μ 73 9))) (S (am_up (xtake μ 87 73) 87 12 1)) := by
  have e : xtake μ 87 73 73 = μ 73 := xt_ne _ _ _ _ (by omega)
  unfold wpM
  rw [s1_iff [] 200]
  simp (disch := omega) [sz_s, sz_0, gx_s, hx_r, hx_c, hx_b, hx_s, hx_i, hx_n, kx_s, kx_n, kx_i, cx_d, up_at, am_ctl, am_step, am_i1, am_i2, am_i2d, am_l1, am_l2, am_l2d, am_ldi, am_ldl, am_lda, am_sti, am_sta, am_stl, am_inc, am_i2l, am_l2i, am_lcmp, am_dup, am_dup2, am_pop1, am_fv, am_getf, am_putf, am_wr, am_ial, am_lal, am_bal, am_aal, am_ias, am_las, am_bas, am_alen, am_inst, am_cast, am_cpm, am_copy, am_tsw, am_pop, am_cat, am_cS, am_cI, am_cV, am_ri, am_rl, am_ra, am_rv, am_b1, am_b2, am_ent, am_en, am_isL, am_st1, am_st2, am_clr, am_cnd, cc_99, ac_99, nL_99, rb_99, np_129, ok_99_129, nL_129, np_14, ok_99_14, nL_14, vd_14_4, tg_11_2, tg_4_7, tg_11_3, tg_4_9, List.getElem?_cons_succ, List.getElem?_cons_zero, nz_of, nzl_of, Int.toNat_add, Int.toNat_mul, tn_l, lt_t, lt_f, le_t, le_f, eq_t, eq_f, ltn_t, ltn_f, len_t, len_f, eqn_t, eqn_f, up_ne, up_up, sh_0, sh_73, sh_3, sh_87, rf_0_2, rf_0_3, rf_3_1, wp_within, wp_take_87_73, h0, e]
set_option maxRecDepth 100000 in
theorem wp_on1 (μ : Nat → Nat → Int) (Φ : Option AV → ST → Prop) : wpM 100 [.inr (.inr (some 0)), .inl 1] (S μ) Φ ↔ (if μ 87 12 = 0 then Φ (some (.inl (-3))) (S (xfind μ 1)) else Φ (some (.inl (μ 87 9))) (S (am_up (am_up (xtake μ 73 87) 4 4 0) 4 5 0))) := by
  have e : xtake μ 73 87 73 9 = μ 87 9 := xt_f _ _ _ _ (by omega)
  have F : ∀ (ν : Nat → Nat → Int) (Ψ : Option AV → ST → Prop), wpM 3 [.inr (.inr (some 4))] (S ν) Ψ ↔ Ψ none (S (am_up (am_up ν 4 4 0) 4 5 0)) := fun ν Ψ => by
    unfold wpM
    rw [s1_iff [] 200]
    simp (disch := omega) [sz_s, sz_0, gx_s, hx_r, hx_c, hx_b, hx_s, hx_i, hx_n, kx_s, kx_n, kx_i, cx_d, up_at, am_ctl, am_step, am_i1, am_i2, am_i2d, am_l1, am_l2, am_l2d, am_ldi, am_ldl, am_lda, am_sti, am_sta, am_stl, am_inc, am_i2l, am_l2i, am_lcmp, am_dup, am_dup2, am_pop1, am_fv, am_getf, am_putf, am_wr, am_ial, am_lal, am_bal, am_aal, am_ias, am_las, am_bas, am_alen, am_inst, am_cast, am_cpm, am_copy, am_tsw, am_pop, am_cat, am_cS, am_cI, am_cV, am_ri, am_rl, am_ra, am_rv, am_b1, am_b2, am_ent, am_en, am_isL, am_st1, am_st2, am_clr, am_cnd, cc_3, ac_3, nL_3, rb_3, List.getElem?_cons_succ, List.getElem?_cons_zero, nz_of, nzl_of, Int.toNat_add, Int.toNat_mul, tn_l, lt_t, lt_f, le_t, le_f, eq_t, eq_f, ltn_t, ltn_f, len_t, len_f, eqn_t, eqn_f, up_ne, up_up, sh_4]
  unfold wpM
  by_cases h : μ 87 12 = 0
  · rw [if_pos h]
    rw [s1_iff [] 200]
    simp (disch := omega) [sz_s, sz_0, gx_s, hx_r, hx_c, hx_b, hx_s, hx_i, hx_n, kx_s, kx_n, kx_i, cx_d, up_at, am_ctl, am_step, am_i1, am_i2, am_i2d, am_l1, am_l2, am_l2d, am_ldi, am_ldl, am_lda, am_sti, am_sta, am_stl, am_inc, am_i2l, am_l2i, am_lcmp, am_dup, am_dup2, am_pop1, am_fv, am_getf, am_putf, am_wr, am_ial, am_lal, am_bal, am_aal, am_ias, am_las, am_bas, am_alen, am_inst, am_cast, am_cpm, am_copy, am_tsw, am_pop, am_cat, am_cS, am_cI, am_cV, am_ri, am_rl, am_ra, am_rv, am_b1, am_b2, am_ent, am_en, am_isL, am_st1, am_st2, am_clr, am_cnd, cc_100, ac_100, nL_100, rb_100, np_129, ok_100_129, nL_129, np_3, ok_100_3, nL_3, vd_3_1, np_14, ok_100_14, nL_14, vd_14_4, np_133, ok_100_133, nL_133, vd_133_11, tg_11_3, tg_4_12, tg_11_2, tg_11_4, tg_4_9, List.getElem?_cons_succ, List.getElem?_cons_zero, nz_of, nzl_of, Int.toNat_add, Int.toNat_mul, tn_l, lt_t, lt_f, le_t, le_f, eq_t, eq_f, ltn_t, ltn_f, len_t, len_f, eqn_t, eqn_f, up_ne, up_up, sh_0, sh_73, sh_3, sh_4, sh_87, rf_0_2, rf_0_3, rf_0_4, rf_3_1, wp_within, h, wp_find 1 (by decide), xfind]
  · rw [if_neg h]
    rw [s1_iff [] 200]
    simp (disch := omega) [sz_s, sz_0, gx_s, hx_r, hx_c, hx_b, hx_s, hx_i, hx_n, kx_s, kx_n, kx_i, cx_d, up_at, am_ctl, am_step, am_i1, am_i2, am_i2d, am_l1, am_l2, am_l2d, am_ldi, am_ldl, am_lda, am_sti, am_sta, am_stl, am_inc, am_i2l, am_l2i, am_lcmp, am_dup, am_dup2, am_pop1, am_fv, am_getf, am_putf, am_wr, am_ial, am_lal, am_bal, am_aal, am_ias, am_las, am_bas, am_alen, am_inst, am_cast, am_cpm, am_copy, am_tsw, am_pop, am_cat, am_cS, am_cI, am_cV, am_ri, am_rl, am_ra, am_rv, am_b1, am_b2, am_ent, am_en, am_isL, am_st1, am_st2, am_clr, am_cnd, cc_100, ac_100, nL_100, rb_100, np_129, ok_100_129, nL_129, np_3, ok_100_3, nL_3, vd_3_1, np_14, ok_100_14, nL_14, vd_14_4, np_133, ok_100_133, nL_133, vd_133_11, tg_11_3, tg_4_12, tg_11_2, tg_11_4, tg_4_9, List.getElem?_cons_succ, List.getElem?_cons_zero, nz_of, nzl_of, Int.toNat_add, Int.toNat_mul, tn_l, lt_t, lt_f, le_t, le_f, eq_t, eq_f, ltn_t, ltn_f, len_t, len_f, eqn_t, eqn_f, up_ne, up_up, sh_0, sh_73, sh_3, sh_4, sh_87, rf_0_2, rf_0_3, rf_0_4, rf_3_1, wp_within, h, wp_take_73_87, F, e]
set_option maxRecDepth 100000 in
theorem wp_keep2 (μ : Nat → Nat → Int) (h0 : ¬ μ 73 7 = 0) (Φ : Option AV → ST → Prop) : wpM 99 [.inr (.inr (some 0)), .inl 2] (S μ) Φ ↔ Φ (some (.inl (μ 73 9))) (S (am_up (xtake μ 94 73) 94 12 1)) := by
  have e : xtake μ 94 73 73 = μ 73 := xt_ne _ _ _ _ (by omega)
  unfold wpM
  rw [s1_iff [] 200]
  simp (disch := omega) [sz_s, sz_0, gx_s, hx_r, hx_c, hx_b, hx_s, hx_i, hx_n, kx_s, kx_n, kx_i, cx_d, up_at, am_ctl, am_step, am_i1, am_i2, am_i2d, am_l1, am_l2, am_l2d, am_ldi, am_ldl, am_lda, am_sti, am_sta, am_stl, am_inc, am_i2l, am_l2i, am_lcmp, am_dup, am_dup2, am_pop1, am_fv, am_getf, am_putf, am_wr, am_ial, am_lal, am_bal, am_aal, am_ias, am_las, am_bas, am_alen, am_inst, am_cast, am_cpm, am_copy, am_tsw, am_pop, am_cat, am_cS, am_cI, am_cV, am_ri, am_rl, am_ra, am_rv, am_b1, am_b2, am_ent, am_en, am_isL, am_st1, am_st2, am_clr, am_cnd, cc_99, ac_99, nL_99, rb_99, np_129, ok_99_129, nL_129, np_14, ok_99_14, nL_14, vd_14_4, tg_11_2, tg_4_7, tg_11_3, tg_4_9, List.getElem?_cons_succ, List.getElem?_cons_zero, nz_of, nzl_of, Int.toNat_add, Int.toNat_mul, tn_l, lt_t, lt_f, le_t, le_f, eq_t, eq_f, ltn_t, ltn_f, len_t, len_f, eqn_t, eqn_f, up_ne, up_up, sh_0, sh_73, sh_3, sh_94, rf_0_2, rf_0_3, rf_3_2, wp_within, wp_take_94_73, h0, e]
set_option maxRecDepth 100000 in
theorem wp_on2 (μ : Nat → Nat → Int) (Φ : Option AV → ST → Prop) : wpM 100 [.inr (.inr (some 0)), .inl 2] (S μ) Φ ↔ (if μ 94 12 = 0 then Φ (some (.inl (-3))) (S (xfind μ 1)) else Φ (some (.inl (μ 94 9))) (S (am_up (am_up (xtake μ 73 94) 4 4 0) 4 5 0))) := by
  have e : xtake μ 73 94 73 9 = μ 94 9 := xt_f _ _ _ _ (by omega)
  have F : ∀ (ν : Nat → Nat → Int) (Ψ : Option AV → ST → Prop), wpM 3 [.inr (.inr (some 4))] (S ν) Ψ ↔ Ψ none (S (am_up (am_up ν 4 4 0) 4 5 0)) := fun ν Ψ => by
    unfold wpM
    rw [s1_iff [] 200]
    simp (disch := omega) [sz_s, sz_0, gx_s, hx_r, hx_c, hx_b, hx_s, hx_i, hx_n, kx_s, kx_n, kx_i, cx_d, up_at, am_ctl, am_step, am_i1, am_i2, am_i2d, am_l1, am_l2, am_l2d, am_ldi, am_ldl, am_lda, am_sti, am_sta, am_stl, am_inc, am_i2l, am_l2i, am_lcmp, am_dup, am_dup2, am_pop1, am_fv, am_getf, am_putf, am_wr, am_ial, am_lal, am_bal, am_aal, am_ias, am_las, am_bas, am_alen, am_inst, am_cast, am_cpm, am_copy, am_tsw, am_pop, am_cat, am_cS, am_cI, am_cV, am_ri, am_rl, am_ra, am_rv, am_b1, am_b2, am_ent, am_en, am_isL, am_st1, am_st2, am_clr, am_cnd, cc_3, ac_3, nL_3, rb_3, List.getElem?_cons_succ, List.getElem?_cons_zero, nz_of, nzl_of, Int.toNat_add, Int.toNat_mul, tn_l, lt_t, lt_f, le_t, le_f, eq_t, eq_f, ltn_t, ltn_f, len_t, len_f, eqn_t, eqn_f, up_ne, up_up, sh_4]
  unfold wpM
  by_cases h : μ 94 12 = 0
  · rw [if_pos h]
    rw [s1_iff [] 200]
    simp (disch := omega) [sz_s, sz_0, gx_s, hx_r, hx_c, hx_b, hx_s, hx_i, hx_n, kx_s, kx_n, kx_i, cx_d, up_at, am_ctl, am_step, am_i1, am_i2, am_i2d, am_l1, am_l2, am_l2d, am_ldi, am_ldl, am_lda, am_sti, am_sta, am_stl, am_inc, am_i2l, am_l2i, am_lcmp, am_dup, am_dup2, am_pop1, am_fv, am_getf, am_putf, am_wr, am_ial, am_lal, am_bal, am_aal, am_ias, am_las, am_bas, am_alen, am_inst, am_cast, am_cpm, am_copy, am_tsw, am_pop, am_cat, am_cS, am_cI, am_cV, am_ri, am_rl, am_ra, am_rv, am_b1, am_b2, am_ent, am_en, am_isL, am_st1, am_st2, am_clr, am_cnd, cc_100, ac_100, nL_100, rb_100, np_129, ok_100_129, nL_129, np_3, ok_100_3, nL_3, vd_3_1, np_14, ok_100_14, nL_14, vd_14_4, np_133, ok_100_133, nL_133, vd_133_11, tg_11_3, tg_4_12, tg_11_2, tg_11_4, tg_4_9, List.getElem?_cons_succ, List.getElem?_cons_zero, nz_of, nzl_of, Int.toNat_add, Int.toNat_mul, tn_l, lt_t, lt_f, le_t, le_f, eq_t, eq_f, ltn_t, ltn_f, len_t, len_f, eqn_t, eqn_f, up_ne, up_up, sh_0, sh_73, sh_3, sh_4, sh_94, rf_0_2, rf_0_3, rf_0_4, rf_3_2, wp_within, h, wp_find 1 (by decide), xfind]
  · rw [if_neg h]
    rw [s1_iff [] 200]
    simp (disch := omega) [sz_s, sz_0, gx_s, hx_r, hx_c, hx_b, hx_s, hx_i, hx_n, kx_s, kx_n, kx_i, cx_d, up_at, am_ctl, am_step, am_i1, am_i2, am_i2d, am_l1, am_l2, am_l2d, am_ldi, am_ldl, am_lda, am_sti, am_sta, am_stl, am_inc, am_i2l, am_l2i, am_lcmp, am_dup, am_dup2, am_pop1, am_fv, am_getf, am_putf, am_wr, am_ial, am_lal, am_bal, am_aal, am_ias, am_las, am_bas, am_alen, am_inst, am_cast, am_cpm, am_copy, am_tsw, am_pop, am_cat, am_cS, am_cI, am_cV, am_ri, am_rl, am_ra, am_rv, am_b1, am_b2, am_ent, am_en, am_isL, am_st1, am_st2, am_clr, am_cnd, cc_100, ac_100, nL_100, rb_100, np_129, ok_100_129, nL_129, np_3, ok_100_3, nL_3, vd_3_1, np_14, ok_100_14, nL_14, vd_14_4, np_133, ok_100_133, nL_133, vd_133_11, tg_11_3, tg_4_12, tg_11_2, tg_11_4, tg_4_9, List.getElem?_cons_succ, List.getElem?_cons_zero, nz_of, nzl_of, Int.toNat_add, Int.toNat_mul, tn_l, lt_t, lt_f, le_t, le_f, eq_t, eq_f, ltn_t, ltn_f, len_t, len_f, eqn_t, eqn_f, up_ne, up_up, sh_0, sh_73, sh_3, sh_4, sh_94, rf_0_2, rf_0_3, rf_0_4, rf_3_2, wp_within, h, wp_take_73_94, F, e]
set_option maxRecDepth 100000 in
theorem wp_keep_no (μ : Nat → Nat → Int) (x : Int) (h : ¬ (0 ≤ x ∧ x < 3)) (Φ : Option AV → ST → Prop) : wpM 99 [.inr (.inr (some 0)), .inl x] (S μ) Φ ↔ Φ (some (.inl (-1))) (S μ) := by
  unfold wpM
  rw [s1_iff [] 200]
  simp (disch := omega) [sz_s, sz_0, gx_s, hx_r, hx_c, hx_b, hx_s, hx_i, hx_n, kx_s, kx_n, kx_i, cx_d, up_at, am_ctl, am_step, am_i1, am_i2, am_i2d, am_l1, am_l2, am_l2d, am_ldi, am_ldl, am_lda, am_sti, am_sta, am_stl, am_inc, am_i2l, am_l2i, am_lcmp, am_dup, am_dup2, am_pop1, am_fv, am_getf, am_putf, am_wr, am_ial, am_lal, am_bal, am_aal, am_ias, am_las, am_bas, am_alen, am_inst, am_cast, am_cpm, am_copy, am_tsw, am_pop, am_cat, am_cS, am_cI, am_cV, am_ri, am_rl, am_ra, am_rv, am_b1, am_b2, am_ent, am_en, am_isL, am_st1, am_st2, am_clr, am_cnd, cc_99, ac_99, nL_99, rb_99, np_129, ok_99_129, nL_129, np_14, ok_99_14, nL_14, vd_14_4, tg_11_2, tg_4_7, tg_11_3, tg_4_9, List.getElem?_cons_succ, List.getElem?_cons_zero, nz_of, nzl_of, Int.toNat_add, Int.toNat_mul, tn_l, lt_t, lt_f, le_t, le_f, eq_t, eq_f, ltn_t, ltn_f, len_t, len_f, eqn_t, eqn_f, up_ne, up_up, sh_0, wp_within, h]
set_option maxRecDepth 100000 in
theorem wp_keep_st (μ : Nat → Nat → Int) (x : Int) (h : 0 ≤ x ∧ x < 3) (h0 : μ 73 7 = 0) (Φ : Option AV → ST → Prop) : wpM 99 [.inr (.inr (some 0)), .inl x] (S μ) Φ ↔ Φ (some (.inl (-4))) (S μ) := by
  unfold wpM
  rw [s1_iff [] 200]
  simp (disch := omega) [sz_s, sz_0, gx_s, hx_r, hx_c, hx_b, hx_s, hx_i, hx_n, kx_s, kx_n, kx_i, cx_d, up_at, am_ctl, am_step, am_i1, am_i2, am_i2d, am_l1, am_l2, am_l2d, am_ldi, am_ldl, am_lda, am_sti, am_sta, am_stl, am_inc, am_i2l, am_l2i, am_lcmp, am_dup, am_dup2, am_pop1, am_fv, am_getf, am_putf, am_wr, am_ial, am_lal, am_bal, am_aal, am_ias, am_las, am_bas, am_alen, am_inst, am_cast, am_cpm, am_copy, am_tsw, am_pop, am_cat, am_cS, am_cI, am_cV, am_ri, am_rl, am_ra, am_rv, am_b1, am_b2, am_ent, am_en, am_isL, am_st1, am_st2, am_clr, am_cnd, cc_99, ac_99, nL_99, rb_99, np_129, ok_99_129, nL_129, np_14, ok_99_14, nL_14, vd_14_4, tg_11_2, tg_4_7, tg_11_3, tg_4_9, List.getElem?_cons_succ, List.getElem?_cons_zero, nz_of, nzl_of, Int.toNat_add, Int.toNat_mul, tn_l, lt_t, lt_f, le_t, le_f, eq_t, eq_f, ltn_t, ltn_f, len_t, len_f, eqn_t, eqn_f, up_ne, up_up, sh_0, rf_0_2, sh_73, wp_within, h.1, h.2, h0]
set_option maxRecDepth 100000 in
theorem wp_on_no (μ : Nat → Nat → Int) (x : Int) (h : ¬ (0 ≤ x ∧ x < 3)) (Φ : Option AV → ST → Prop) : wpM 100 [.inr (.inr (some 0)), .inl x] (S μ) Φ ↔ Φ (some (.inl (-1))) (S μ) := by
  unfold wpM
  rw [s1_iff [] 200]
  simp (disch := omega) [sz_s, sz_0, gx_s, hx_r, hx_c, hx_b, hx_s, hx_i, hx_n, kx_s, kx_n, kx_i, cx_d, up_at, am_ctl, am_step, am_i1, am_i2, am_i2d, am_l1, am_l2, am_l2d, am_ldi, am_ldl, am_lda, am_sti, am_sta, am_stl, am_inc, am_i2l, am_l2i, am_lcmp, am_dup, am_dup2, am_pop1, am_fv, am_getf, am_putf, am_wr, am_ial, am_lal, am_bal, am_aal, am_ias, am_las, am_bas, am_alen, am_inst, am_cast, am_cpm, am_copy, am_tsw, am_pop, am_cat, am_cS, am_cI, am_cV, am_ri, am_rl, am_ra, am_rv, am_b1, am_b2, am_ent, am_en, am_isL, am_st1, am_st2, am_clr, am_cnd, cc_100, ac_100, nL_100, rb_100, np_129, ok_100_129, nL_129, np_3, ok_100_3, nL_3, vd_3_1, np_14, ok_100_14, nL_14, vd_14_4, np_133, ok_100_133, nL_133, vd_133_11, tg_11_3, tg_4_12, tg_11_2, tg_11_4, tg_4_9, List.getElem?_cons_succ, List.getElem?_cons_zero, nz_of, nzl_of, Int.toNat_add, Int.toNat_mul, tn_l, lt_t, lt_f, le_t, le_f, eq_t, eq_f, ltn_t, ltn_f, len_t, len_f, eqn_t, eqn_f, up_ne, up_up, sh_0, wp_within, h]
set_option maxRecDepth 100000 in
theorem wm_keep_no (μ : Nat → Nat → Int) (x : Int) (h : ¬ (0 ≤ x ∧ x < 3)) (Φ : Option AV → ST → Prop) : wpM 204 [.inr (.inr (some 101)), .inl x] (S μ) Φ ↔ Φ (some (.inl (-1))) (S μ) := by
  unfold wpM
  rw [s1_iff [] 200]
  simp (disch := omega) [sz_s, sz_0, gx_s, hx_r, hx_c, hx_b, hx_s, hx_i, hx_n, kx_s, kx_n, kx_i, cx_d, up_at, am_ctl, am_step, am_i1, am_i2, am_i2d, am_l1, am_l2, am_l2d, am_ldi, am_ldl, am_lda, am_sti, am_sta, am_stl, am_inc, am_i2l, am_l2i, am_lcmp, am_dup, am_dup2, am_pop1, am_fv, am_getf, am_putf, am_wr, am_ial, am_lal, am_bal, am_aal, am_ias, am_las, am_bas, am_alen, am_inst, am_cast, am_cpm, am_copy, am_tsw, am_pop, am_cat, am_cS, am_cI, am_cV, am_ri, am_rl, am_ra, am_rv, am_b1, am_b2, am_ent, am_en, am_isL, am_st1, am_st2, am_clr, am_cnd, cc_204, ac_204, nL_204, rb_204, np_156, ok_204_156, nL_156, tg_12_0, tg_12_1, List.getElem?_cons_succ, List.getElem?_cons_zero, nz_of, nzl_of, Int.toNat_add, Int.toNat_mul, tn_l, lt_t, lt_f, le_t, le_f, eq_t, eq_f, ltn_t, ltn_f, len_t, len_f, eqn_t, eqn_f, up_ne, up_up, sh_101, wm_in, show ¬ (0 ≤ x ∧ x ≤ 2) by omega]
set_option maxRecDepth 100000 in
theorem wm_keep_st (μ : Nat → Nat → Int) (x : Int) (h : 0 ≤ x ∧ x < 3) (h0 : μ 102 0 = 0) (Φ : Option AV → ST → Prop) : wpM 204 [.inr (.inr (some 101)), .inl x] (S μ) Φ ↔ Φ (some (.inl (-4))) (S μ) := by
  unfold wpM
  rw [s1_iff [] 200]
  simp (disch := omega) [sz_s, sz_0, gx_s, hx_r, hx_c, hx_b, hx_s, hx_i, hx_n, kx_s, kx_n, kx_i, cx_d, up_at, am_ctl, am_step, am_i1, am_i2, am_i2d, am_l1, am_l2, am_l2d, am_ldi, am_ldl, am_lda, am_sti, am_sta, am_stl, am_inc, am_i2l, am_l2i, am_lcmp, am_dup, am_dup2, am_pop1, am_fv, am_getf, am_putf, am_wr, am_ial, am_lal, am_bal, am_aal, am_ias, am_las, am_bas, am_alen, am_inst, am_cast, am_cpm, am_copy, am_tsw, am_pop, am_cat, am_cS, am_cI, am_cV, am_ri, am_rl, am_ra, am_rv, am_b1, am_b2, am_ent, am_en, am_isL, am_st1, am_st2, am_clr, am_cnd, cc_204, ac_204, nL_204, rb_204, np_156, ok_204_156, nL_156, tg_12_0, tg_12_1, List.getElem?_cons_succ, List.getElem?_cons_zero, nz_of, nzl_of, Int.toNat_add, Int.toNat_mul, tn_l, lt_t, lt_f, le_t, le_f, eq_t, eq_f, ltn_t, ltn_f, len_t, len_f, eqn_t, eqn_f, up_ne, up_up, sh_101, sh_102, rf_101_0, wm_in, h.1, show x ≤ 2 by omega, h0]
set_option maxRecDepth 100000 in
theorem wm_on_no (μ : Nat → Nat → Int) (x : Int) (h : ¬ (0 ≤ x ∧ x < 3)) (Φ : Option AV → ST → Prop) : wpM 205 [.inr (.inr (some 101)), .inl x] (S μ) Φ ↔ Φ (some (.inl (-1))) (S μ) := by
  unfold wpM
  rw [s1_iff [] 200]
  simp (disch := omega) [sz_s, sz_0, gx_s, hx_r, hx_c, hx_b, hx_s, hx_i, hx_n, kx_s, kx_n, kx_i, cx_d, up_at, am_ctl, am_step, am_i1, am_i2, am_i2d, am_l1, am_l2, am_l2d, am_ldi, am_ldl, am_lda, am_sti, am_sta, am_stl, am_inc, am_i2l, am_l2i, am_lcmp, am_dup, am_dup2, am_pop1, am_fv, am_getf, am_putf, am_wr, am_ial, am_lal, am_bal, am_aal, am_ias, am_las, am_bas, am_alen, am_inst, am_cast, am_cpm, am_copy, am_tsw, am_pop, am_cat, am_cS, am_cI, am_cV, am_ri, am_rl, am_ra, am_rv, am_b1, am_b2, am_ent, am_en, am_isL, am_st1, am_st2, am_clr, am_cnd, cc_205, ac_205, nL_205, rb_205, np_156, ok_205_156, nL_156, np_160, ok_205_160, nL_160, vd_160_12, tg_12_1, tg_12_0, List.getElem?_cons_succ, List.getElem?_cons_zero, nz_of, nzl_of, Int.toNat_add, Int.toNat_mul, tn_l, lt_t, lt_f, le_t, le_f, eq_t, eq_f, ltn_t, ltn_f, len_t, len_f, eqn_t, eqn_f, up_ne, up_up, sh_101, wm_in, show ¬ (0 ≤ x ∧ x ≤ 2) by omega]
set_option maxRecDepth 100000 in
theorem wm_keep (k : Nat) (hk : k < 3) (μ : Nat → Nat → Int) (h0 : ¬ μ 102 0 = 0) (Φ : Option AV → ST → Prop) : wpM 204 [.inr (.inr (some 101)), .inl k] (S μ) Φ ↔ Φ (some (.inl (μ 102 2))) (S (am_up (mcp μ (200 * (k + 1)) 0 200) 103 k 1)) := by
  have r : ∀ i, i < 200 → mcp μ (200 * (k + 1)) 0 i 102 i = μ 102 i := fun i hi => by rw [mcp_at, if_neg (by omega)]
  have s := fun i => mcp_s μ (200 * (k + 1)) 0 i
  simp only [Nat.zero_add] at s
  have step : ∀ i, i < 200 → ((fun i : Nat => wpS 204 28 [some (.inr (.inr (some 101))), some (.inl k), some (.inl i)] [] (S (mcp μ (200 * (k + 1)) 0 i)) Φ) i ↔ (fun i : Nat => wpS 204 28 [some (.inr (.inr (some 101))), some (.inl k), some (.inl i)] [] (S (mcp μ (200 * (k + 1)) 0 i)) Φ) (i + 1)) := by
    intro i hi
    dsimp only
    rw [s1_iff [28] 200]
    simp (disch := omega) [sz_s, sz_0, gx_s, hx_r, hx_c, hx_b, hx_s, hx_i, hx_n, kx_s, kx_n, kx_i, cx_d, up_at, am_ctl, am_step, am_i1, am_i2, am_i2d, am_l1, am_l2, am_l2d, am_ldi, am_ldl, am_lda, am_sti, am_sta, am_stl, am_inc, am_i2l, am_l2i, am_lcmp, am_dup, am_dup2, am_pop1, am_fv, am_getf, am_putf, am_wr, am_ial, am_lal, am_bal, am_aal, am_ias, am_las, am_bas, am_alen, am_inst, am_cast, am_cpm, am_copy, am_tsw, am_pop, am_cat, am_cS, am_cI, am_cV, am_ri, am_rl, am_ra, am_rv, am_b1, am_b2, am_ent, am_en, am_isL, am_st1, am_st2, am_clr, am_cnd, cc_204, ac_204, nL_204, rb_204, np_156, ok_204_156, nL_156, tg_12_0, tg_12_1, List.getElem?_cons_succ, List.getElem?_cons_zero, nz_of, nzl_of, Int.toNat_add, Int.toNat_mul, tn_l, lt_t, lt_f, le_t, le_f, eq_t, eq_f, ltn_t, ltn_f, len_t, len_f, eqn_t, eqn_f, up_ne, up_up, sh_101, sh_102, rf_101_0, r, s]
  have s0 := (up_iff _ 200 step)
  rw [mcp_0] at s0
  have e2 : mcp μ (200 * (k + 1)) 0 200 102 2 = μ 102 2 := by rw [mcp_at, if_neg (by omega)]
  unfold wpM
  rw [s1_iff [28] 200]
  simp (disch := omega) [sz_s, sz_0, gx_s, hx_r, hx_c, hx_b, hx_s, hx_i, hx_n, kx_s, kx_n, kx_i, cx_d, up_at, am_ctl, am_step, am_i1, am_i2, am_i2d, am_l1, am_l2, am_l2d, am_ldi, am_ldl, am_lda, am_sti, am_sta, am_stl, am_inc, am_i2l, am_l2i, am_lcmp, am_dup, am_dup2, am_pop1, am_fv, am_getf, am_putf, am_wr, am_ial, am_lal, am_bal, am_aal, am_ias, am_las, am_bas, am_alen, am_inst, am_cast, am_cpm, am_copy, am_tsw, am_pop, am_cat, am_cS, am_cI, am_cV, am_ri, am_rl, am_ra, am_rv, am_b1, am_b2, am_ent, am_en, am_isL, am_st1, am_st2, am_clr, am_cnd, cc_204, ac_204, nL_204, rb_204, np_156, ok_204_156, nL_156, tg_12_0, tg_12_1, List.getElem?_cons_succ, List.getElem?_cons_zero, nz_of, nzl_of, Int.toNat_add, Int.toNat_mul, tn_l, lt_t, lt_f, le_t, le_f, eq_t, eq_f, ltn_t, ltn_f, len_t, len_f, eqn_t, eqn_f, up_ne, up_up, sh_101, sh_102, rf_101_0, wm_in, h0]
  refine s0.trans ?_
  rw [s1_iff [28] 200]
  simp (disch := omega) [sz_s, sz_0, gx_s, hx_r, hx_c, hx_b, hx_s, hx_i, hx_n, kx_s, kx_n, kx_i, cx_d, up_at, am_ctl, am_step, am_i1, am_i2, am_i2d, am_l1, am_l2, am_l2d, am_ldi, am_ldl, am_lda, am_sti, am_sta, am_stl, am_inc, am_i2l, am_l2i, am_lcmp, am_dup, am_dup2, am_pop1, am_fv, am_getf, am_putf, am_wr, am_ial, am_lal, am_bal, am_aal, am_ias, am_las, am_bas, am_alen, am_inst, am_cast, am_cpm, am_copy, am_tsw, am_pop, am_cat, am_cS, am_cI, am_cV, am_ri, am_rl, am_ra, am_rv, am_b1, am_b2, am_ent, am_en, am_isL, am_st1, am_st2, am_clr, am_cnd, cc_204, ac_204, nL_204, rb_204, np_156, ok_204_156, nL_156, tg_12_0, tg_12_1, List.getElem?_cons_succ, List.getElem?_cons_zero, nz_of, nzl_of, Int.toNat_add, Int.toNat_mul, tn_l, lt_t, lt_f, le_t, le_f, eq_t, eq_f, ltn_t, ltn_f, len_t, len_f, eqn_t, eqn_f, up_ne, up_up, sh_101, sh_102, sh_103, rf_101_0, rf_101_1, e2]
set_option maxRecDepth 100000 in
theorem wm_on (k : Nat) (hk : k < 3) (μ : Nat → Nat → Int) (Φ : Option AV → ST → Prop) : wpM 205 [.inr (.inr (some 101)), .inl k] (S μ) Φ ↔ (if μ 103 k = 0 then Φ (some (.inl (-3))) (S (mfind μ 1)) else Φ (some (.inl (μ 102 (200 * (k + 1) + 2)))) (S (am_up (mcp μ 0 (200 * (k + 1)) 200) 101 12 0))) := by
  by_cases c : μ 103 k = 0
  · rw [if_pos c]
    unfold wpM
    rw [s1_iff [] 200]
    simp (disch := omega) [sz_s, sz_0, gx_s, hx_r, hx_c, hx_b, hx_s, hx_i, hx_n, kx_s, kx_n, kx_i, cx_d, up_at, am_ctl, am_step, am_i1, am_i2, am_i2d, am_l1, am_l2, am_l2d, am_ldi, am_ldl, am_lda, am_sti, am_sta, am_stl, am_inc, am_i2l, am_l2i, am_lcmp, am_dup, am_dup2, am_pop1, am_fv, am_getf, am_putf, am_wr, am_ial, am_lal, am_bal, am_aal, am_ias, am_las, am_bas, am_alen, am_inst, am_cast, am_cpm, am_copy, am_tsw, am_pop, am_cat, am_cS, am_cI, am_cV, am_ri, am_rl, am_ra, am_rv, am_b1, am_b2, am_ent, am_en, am_isL, am_st1, am_st2, am_clr, am_cnd, cc_205, ac_205, nL_205, rb_205, np_156, ok_205_156, nL_156, np_160, ok_205_160, nL_160, vd_160_12, tg_12_1, tg_12_0, List.getElem?_cons_succ, List.getElem?_cons_zero, nz_of, nzl_of, Int.toNat_add, Int.toNat_mul, tn_l, lt_t, lt_f, le_t, le_f, eq_t, eq_f, ltn_t, ltn_f, len_t, len_f, eqn_t, eqn_f, up_ne, up_up, sh_101, sh_103, rf_101_1, wm_in, c, wm_met 1 (by decide), mfind]
  · rw [if_neg c]
    have r : ∀ i, i < 200 → mcp μ 0 (200 * (k + 1)) i 102 (200 * (k + 1) + i) = μ 102 (200 * (k + 1) + i) := fun i hi => by rw [mcp_at, if_neg (by omega)]
    have s := fun i => mcp_s μ 0 (200 * (k + 1)) i
    simp only [Nat.zero_add] at s
    have step : ∀ i, i < 200 → ((fun i : Nat => wpS 205 31 [some (.inr (.inr (some 101))), some (.inl k), some (.inl i)] [] (S (mcp μ 0 (200 * (k + 1)) i)) Φ) i ↔ (fun i : Nat => wpS 205 31 [some (.inr (.inr (some 101))), some (.inl k), some (.inl i)] [] (S (mcp μ 0 (200 * (k + 1)) i)) Φ) (i + 1)) := by
      intro i hi
      dsimp only
      rw [s1_iff [31] 200]
      simp (disch := omega) [sz_s, sz_0, gx_s, hx_r, hx_c, hx_b, hx_s, hx_i, hx_n, kx_s, kx_n, kx_i, cx_d, up_at, am_ctl, am_step, am_i1, am_i2, am_i2d, am_l1, am_l2, am_l2d, am_ldi, am_ldl, am_lda, am_sti, am_sta, am_stl, am_inc, am_i2l, am_l2i, am_lcmp, am_dup, am_dup2, am_pop1, am_fv, am_getf, am_putf, am_wr, am_ial, am_lal, am_bal, am_aal, am_ias, am_las, am_bas, am_alen, am_inst, am_cast, am_cpm, am_copy, am_tsw, am_pop, am_cat, am_cS, am_cI, am_cV, am_ri, am_rl, am_ra, am_rv, am_b1, am_b2, am_ent, am_en, am_isL, am_st1, am_st2, am_clr, am_cnd, cc_205, ac_205, nL_205, rb_205, np_156, ok_205_156, nL_156, np_160, ok_205_160, nL_160, vd_160_12, tg_12_1, tg_12_0, List.getElem?_cons_succ, List.getElem?_cons_zero, nz_of, nzl_of, Int.toNat_add, Int.toNat_mul, tn_l, lt_t, lt_f, le_t, le_f, eq_t, eq_f, ltn_t, ltn_f, len_t, len_f, eqn_t, eqn_f, up_ne, up_up, sh_101, sh_102, rf_101_0, r, s]
    have s0 := (up_iff _ 200 step)
    rw [mcp_0] at s0
    have e2 : mcp μ 0 (200 * (k + 1)) 200 102 2 = μ 102 (200 * (k + 1) + 2) := by rw [mcp_at, if_pos (by omega)]
    unfold wpM
    rw [s1_iff [31] 200]
    simp (disch := omega) [sz_s, sz_0, gx_s, hx_r, hx_c, hx_b, hx_s, hx_i, hx_n, kx_s, kx_n, kx_i, cx_d, up_at, am_ctl, am_step, am_i1, am_i2, am_i2d, am_l1, am_l2, am_l2d, am_ldi, am_ldl, am_lda, am_sti, am_sta, am_stl, am_inc, am_i2l, am_l2i, am_lcmp, am_dup, am_dup2, am_pop1, am_fv, am_getf, am_putf, am_wr, am_ial, am_lal, am_bal, am_aal, am_ias, am_las, am_bas, am_alen, am_inst, am_cast, am_cpm, am_copy, am_tsw, am_pop, am_cat, am_cS, am_cI, am_cV, am_ri, am_rl, am_ra, am_rv, am_b1, am_b2, am_ent, am_en, am_isL, am_st1, am_st2, am_clr, am_cnd, cc_205, ac_205, nL_205, rb_205, np_156, ok_205_156, nL_156, np_160, ok_205_160, nL_160, vd_160_12, tg_12_1, tg_12_0, List.getElem?_cons_succ, List.getElem?_cons_zero, nz_of, nzl_of, Int.toNat_add, Int.toNat_mul, tn_l, lt_t, lt_f, le_t, le_f, eq_t, eq_f, ltn_t, ltn_f, len_t, len_f, eqn_t, eqn_f, up_ne, up_up, sh_101, sh_103, rf_101_1, wm_in, c]
    refine s0.trans ?_
    rw [s1_iff [31] 200]
    simp (disch := omega) [sz_s, sz_0, gx_s, hx_r, hx_c, hx_b, hx_s, hx_i, hx_n, kx_s, kx_n, kx_i, cx_d, up_at, am_ctl, am_step, am_i1, am_i2, am_i2d, am_l1, am_l2, am_l2d, am_ldi, am_ldl, am_lda, am_sti, am_sta, am_stl, am_inc, am_i2l, am_l2i, am_lcmp, am_dup, am_dup2, am_pop1, am_fv, am_getf, am_putf, am_wr, am_ial, am_lal, am_bal, am_aal, am_ias, am_las, am_bas, am_alen, am_inst, am_cast, am_cpm, am_copy, am_tsw, am_pop, am_cat, am_cS, am_cI, am_cV, am_ri, am_rl, am_ra, am_rv, am_b1, am_b2, am_ent, am_en, am_isL, am_st1, am_st2, am_clr, am_cnd, cc_205, ac_205, nL_205, rb_205, np_156, ok_205_156, nL_156, np_160, ok_205_160, nL_160, vd_160_12, tg_12_1, tg_12_0, List.getElem?_cons_succ, List.getElem?_cons_zero, nz_of, nzl_of, Int.toNat_add, Int.toNat_mul, tn_l, lt_t, lt_f, le_t, le_f, eq_t, eq_f, ltn_t, ltn_f, len_t, len_f, eqn_t, eqn_f, up_ne, up_up, sh_101, sh_102, rf_101_0, e2]
