/-! lowest terms: of both sides -/
def pE : Nat → Nat
  | 0 => 0
  | k + 1 => (3 * pE k + 2) / 2
theorem pE_99 : 8589934592 ≤ pE 99 := by decide +kernel
def GI (G : Nat) (j : Nat) (a b : Nat) : Prop := Nat.gcd a b = G ∧ 0 < G ∧ (j = 0 → a ≤ 2147483648 ∧ b ≤ 2147483648) ∧ (0 < j → b ≤ a ∧ (0 < b → a + b ≤ pE (100 - j)))
theorem GI_s {G j a b : Nat} (h : GI G j a b) (hb : 0 < b) (hj : j < 100) : GI G (j + 1) b (a % b) := by
  obtain ⟨h1, h2, h3, h4⟩ := h
  have hlt := Nat.mod_lt a hb
  refine ⟨?_, h2, fun q => absurd q (by omega), fun _ => ⟨by omega, fun hm => ?_⟩⟩
  · rw [← h1, Nat.gcd_comm b, ← Nat.gcd_rec, Nat.gcd_comm]
  · by_cases e : j = 0
    · subst e
      have := h3 rfl
      have := pE_99
      show _ ≤ pE 99
      omega
    · obtain ⟨g1, g2⟩ := h4 (by omega)
      have g2 := g2 hb
      obtain ⟨k, hk⟩ : ∃ k, 100 - j = k + 1 := ⟨100 - j - 1, by omega⟩
      rw [hk, pE] at g2
      rw [show 100 - (j + 1) = k by omega]
      have d := Nat.div_add_mod a b
      have q1 : 1 ≤ a / b := Nat.div_pos g1 hb
      have : b ≤ b * (a / b) := Nat.le_mul_of_pos_right b q1
      omega
theorem GI_e {G a b : Nat} (h : GI G 100 a b) : b = 0 := by
  obtain ⟨h1, h2, h3, h4⟩ := h
  obtain ⟨g1, g2⟩ := h4 (by omega)
  by_cases e : 0 < b
  · have := g2 e
    rw [Nat.sub_self, pE] at this
    omega
  · omega
theorem GI_z {G j a : Nat} (h : GI G j a 0) : a = G := by
  have := h.1
  rwa [Nat.gcd_zero_right] at this
set_option maxRecDepth 100000 in
theorem wp_gs (x y : Nat) (hx : x ≤ 2147483647) (hy : 0 < y ∧ y ≤ 2147483647) (σ : ST) (Φ : Option AV → ST → Prop) (k : Φ (some (.inl (Nat.gcd y x : Nat))) σ) : wpM 136 [.inl x, .inl y] σ Φ := by
  have G0 : 0 < Nat.gcd y x := Nat.gcd_pos_of_pos_left _ hy.1
  have fin : ∀ (j a b : Nat) (s : Option AV), GI (Nat.gcd y x) j a b → b = 0 → wpS 136 34 [some (.inl x), some (.inl y), some (.inl a), some (.inl b), some (.inl j), s] [] σ Φ := fun j a b s h e => by
    subst e
    have := GI_z h
    subst this
    rw [s1_iff [] 200]
    simp (disch := omega) [sz_s, sz_0, gx_s, hx_r, hx_c, hx_b, hx_s, hx_i, hx_n, kx_s, kx_n, kx_i, cx_d, up_at, am_ctl, am_step, am_i1, am_i2, am_i2d, am_l1, am_l2, am_l2d, am_ldi, am_ldl, am_lda, am_sti, am_sta, am_stl, am_inc, am_i2l, am_l2i, am_lcmp, am_dup, am_dup2, am_pop1, am_fv, am_getf, am_putf, am_wr, am_ial, am_lal, am_bal, am_aal, am_ias, am_las, am_bas, am_alen, am_inst, am_cast, am_cpm, am_copy, am_tsw, am_pop, am_cat, am_cS, am_cI, am_cV, am_ri, am_rl, am_ra, am_rv, am_b1, am_b2, am_ent, am_en, am_isL, am_st1, am_st2, am_clr, am_cnd, cc_136, ac_136, nL_136, rb_136, List.getElem?_cons_succ, List.getElem?_cons_zero, nz_of, nzl_of, Int.toNat_add, Int.toNat_mul, tn_l, lt_t, lt_f, le_t, le_f, eq_t, eq_f, ltn_t, ltn_f, len_t, len_f, eqn_t, eqn_f, up_ne, up_up, show ¬ (((Nat.gcd y x : Nat) : Int) = 0) by omega]
    exact k
  have key := up_to (fun (j : Nat) (s : Nat × Nat × Option AV) => wpS 136 7 [some (.inl x), some (.inl y), some (.inl s.1), some (.inl s.2.1), some (.inl j), s.2.2] [] σ Φ) (fun j s => GI (Nat.gcd y x) j s.1 s.2.1 ∧ (s.1 ≤ 2147483647 ∧ s.2.1 ≤ 2147483647)) 100 (fun j s hj hI hs' => by
    obtain ⟨a, b, s⟩ := s
    dsimp only at hI hs' ⊢
    by_cases e : b = 0
    · have f := fin j a b s hI.1 e
      subst e
      rw [s1_iff [7, 34] 200]
      simp (disch := omega) [sz_s, sz_0, gx_s, hx_r, hx_c, hx_b, hx_s, hx_i, hx_n, kx_s, kx_n, kx_i, cx_d, up_at, am_ctl, am_step, am_i1, am_i2, am_i2d, am_l1, am_l2, am_l2d, am_ldi, am_ldl, am_lda, am_sti, am_sta, am_stl, am_inc, am_i2l, am_l2i, am_lcmp, am_dup, am_dup2, am_pop1, am_fv, am_getf, am_putf, am_wr, am_ial, am_lal, am_bal, am_aal, am_ias, am_las, am_bas, am_alen, am_inst, am_cast, am_cpm, am_copy, am_tsw, am_pop, am_cat, am_cS, am_cI, am_cV, am_ri, am_rl, am_ra, am_rv, am_b1, am_b2, am_ent, am_en, am_isL, am_st1, am_st2, am_clr, am_cnd, cc_136, ac_136, nL_136, rb_136, List.getElem?_cons_succ, List.getElem?_cons_zero, nz_of, nzl_of, Int.toNat_add, Int.toNat_mul, tn_l, lt_t, lt_f, le_t, le_f, eq_t, eq_f, ltn_t, ltn_f, len_t, len_f, eqn_t, eqn_f, up_ne, up_up]
      simpa using f
    · have hm := Nat.mod_lt a (by omega : 0 < b)
      have q := hs' (b, a % b, some (.inl ((a % b : Nat) : Int))) ⟨GI_s hI.1 (by omega) hj, by omega, by dsimp only; omega⟩
      have t : ((a : Int)).tmod b = ((a % b : Nat) : Int) := (Int.ofNat_tmod a b).symm
      rw [s1_iff [7] 200]
      simp (disch := omega) [sz_s, sz_0, gx_s, hx_r, hx_c, hx_b, hx_s, hx_i, hx_n, kx_s, kx_n, kx_i, cx_d, up_at, am_ctl, am_step, am_i1, am_i2, am_i2d, am_l1, am_l2, am_l2d, am_ldi, am_ldl, am_lda, am_sti, am_sta, am_stl, am_inc, am_i2l, am_l2i, am_lcmp, am_dup, am_dup2, am_pop1, am_fv, am_getf, am_putf, am_wr, am_ial, am_lal, am_bal, am_aal, am_ias, am_las, am_bas, am_alen, am_inst, am_cast, am_cpm, am_copy, am_tsw, am_pop, am_cat, am_cS, am_cI, am_cV, am_ri, am_rl, am_ra, am_rv, am_b1, am_b2, am_ent, am_en, am_isL, am_st1, am_st2, am_clr, am_cnd, cc_136, ac_136, nL_136, rb_136, List.getElem?_cons_succ, List.getElem?_cons_zero, nz_of, nzl_of, Int.toNat_add, Int.toNat_mul, tn_l, lt_t, lt_f, le_t, le_f, eq_t, eq_f, ltn_t, ltn_f, len_t, len_f, eqn_t, eqn_f, up_ne, up_up, t, show ¬ ((b : Int) = 0) by omega, e]
      simpa using q) (fun s hI => by
    obtain ⟨a, b, s⟩ := s
    dsimp only at hI ⊢
    have f := fin 100 a b s hI.1 (GI_e hI.1)
    rw [s1_iff [7, 34] 200]
    simp (disch := omega) [sz_s, sz_0, gx_s, hx_r, hx_c, hx_b, hx_s, hx_i, hx_n, kx_s, kx_n, kx_i, cx_d, up_at, am_ctl, am_step, am_i1, am_i2, am_i2d, am_l1, am_l2, am_l2d, am_ldi, am_ldl, am_lda, am_sti, am_sta, am_stl, am_inc, am_i2l, am_l2i, am_lcmp, am_dup, am_dup2, am_pop1, am_fv, am_getf, am_putf, am_wr, am_ial, am_lal, am_bal, am_aal, am_ias, am_las, am_bas, am_alen, am_inst, am_cast, am_cpm, am_copy, am_tsw, am_pop, am_cat, am_cS, am_cI, am_cV, am_ri, am_rl, am_ra, am_rv, am_b1, am_b2, am_ent, am_en, am_isL, am_st1, am_st2, am_clr, am_cnd, cc_136, ac_136, nL_136, rb_136, List.getElem?_cons_succ, List.getElem?_cons_zero, nz_of, nzl_of, Int.toNat_add, Int.toNat_mul, tn_l, lt_t, lt_f, le_t, le_f, eq_t, eq_f, ltn_t, ltn_f, len_t, len_f, eqn_t, eqn_f, up_ne, up_up]
    simpa using f) (y, x, none) ⟨⟨rfl, G0, fun _ => by dsimp only; omega, fun q => absurd q (by omega)⟩, by dsimp only; omega⟩
  unfold wpM
  rw [s1_iff [7] 200]
  simp (disch := omega) [sz_s, sz_0, gx_s, hx_r, hx_c, hx_b, hx_s, hx_i, hx_n, kx_s, kx_n, kx_i, cx_d, up_at, am_ctl, am_step, am_i1, am_i2, am_i2d, am_l1, am_l2, am_l2d, am_ldi, am_ldl, am_lda, am_sti, am_sta, am_stl, am_inc, am_i2l, am_l2i, am_lcmp, am_dup, am_dup2, am_pop1, am_fv, am_getf, am_putf, am_wr, am_ial, am_lal, am_bal, am_aal, am_ias, am_las, am_bas, am_alen, am_inst, am_cast, am_cpm, am_copy, am_tsw, am_pop, am_cat, am_cS, am_cI, am_cV, am_ri, am_rl, am_ra, am_rv, am_b1, am_b2, am_ent, am_en, am_isL, am_st1, am_st2, am_clr, am_cnd, cc_136, ac_136, nL_136, rb_136, List.getElem?_cons_succ, List.getElem?_cons_zero, nz_of, nzl_of, Int.toNat_add, Int.toNat_mul, tn_l, lt_t, lt_f, le_t, le_f, eq_t, eq_f, ltn_t, ltn_f, len_t, len_f, eqn_t, eqn_f, up_ne, up_up]
  simpa using key
set_option maxRecDepth 100000 in
theorem wp_tellFraction (x y : Nat) (hx : x ≤ 2147483647) (hy : 0 < y ∧ y ≤ 2147483647) (μ : Nat → Nat → Int) (Φ : Option AV → ST → Prop) (k : Φ none (S (am_up (am_up μ 0 11 (x / Nat.gcd y x : Nat)) 0 12 (y / Nat.gcd y x : Nat)))) : wpM 135 [.inr (.inr (some 0)), .inl x, .inl y] (S μ) Φ := by
  have G0 : 0 < Nat.gcd y x := Nat.gcd_pos_of_pos_left _ hy.1
  have d1 := Nat.div_le_self x (Nat.gcd y x)
  have d2 := Nat.div_le_self y (Nat.gcd y x)
  have t1 : ((x : Int)).tdiv ((Nat.gcd y x : Nat) : Int) = ((x / Nat.gcd y x : Nat) : Int) := (Int.ofNat_tdiv _ _).symm
  have t2 : ((y : Int)).tdiv ((Nat.gcd y x : Nat) : Int) = ((y / Nat.gcd y x : Nat) : Int) := (Int.ofNat_tdiv _ _).symm
  unfold wpM
  rw [s1_iff [] 200]
  simp (disch := omega) [sz_s, sz_0, gx_s, hx_r, hx_c, hx_b, hx_s, hx_i, hx_n, kx_s, kx_n, kx_i, cx_d, up_at, am_ctl, am_step, am_i1, am_i2, am_i2d, am_l1, am_l2, am_l2d, am_ldi, am_ldl, am_lda, am_sti, am_sta, am_stl, am_inc, am_i2l, am_l2i, am_lcmp, am_dup, am_dup2, am_pop1, am_fv, am_getf, am_putf, am_wr, am_ial, am_lal, am_bal, am_aal, am_ias, am_las, am_bas, am_alen, am_inst, am_cast, am_cpm, am_copy, am_tsw, am_pop, am_cat, am_cS, am_cI, am_cV, am_ri, am_rl, am_ra, am_rv, am_b1, am_b2, am_ent, am_en, am_isL, am_st1, am_st2, am_clr, am_cnd, cc_135, ac_135, nL_135, rb_135, np_136, ok_135_136, nL_136, List.getElem?_cons_succ, List.getElem?_cons_zero, nz_of, nzl_of, Int.toNat_add, Int.toNat_mul, tn_l, lt_t, lt_f, le_t, le_f, eq_t, eq_f, ltn_t, ltn_f, len_t, len_f, eqn_t, eqn_f, up_ne, up_up, sh_0]
  refine wp_gs x y hx hy _ _ ?_
  generalize x / Nat.gcd y x = u at *
  generalize y / Nat.gcd y x = w at *
  generalize Nat.gcd y x = g at *
  simp (disch := omega) [sz_s, sz_0, gx_s, hx_r, hx_c, hx_b, hx_s, hx_i, hx_n, kx_s, kx_n, kx_i, cx_d, up_at, am_ctl, am_step, am_i1, am_i2, am_i2d, am_l1, am_l2, am_l2d, am_ldi, am_ldl, am_lda, am_sti, am_sta, am_stl, am_inc, am_i2l, am_l2i, am_lcmp, am_dup, am_dup2, am_pop1, am_fv, am_getf, am_putf, am_wr, am_ial, am_lal, am_bal, am_aal, am_ias, am_las, am_bas, am_alen, am_inst, am_cast, am_cpm, am_copy, am_tsw, am_pop, am_cat, am_cS, am_cI, am_cV, am_ri, am_rl, am_ra, am_rv, am_b1, am_b2, am_ent, am_en, am_isL, am_st1, am_st2, am_clr, am_cnd, cc_135, ac_135, nL_135, rb_135, np_136, ok_135_136, nL_136, List.getElem?_cons_succ, List.getElem?_cons_zero, nz_of, nzl_of, Int.toNat_add, Int.toNat_mul, tn_l, lt_t, lt_f, le_t, le_f, eq_t, eq_f, ltn_t, ltn_f, len_t, len_f, eqn_t, eqn_f, up_ne, up_up, sh_0, t1, t2, show ¬ ((g : Int) = 0) by omega, show ¬ g = 0 by omega]
  exact k
set_option maxRecDepth 100000 in
theorem wm_share (x y : Nat) (hx : x ≤ 2147483647) (hy : 0 < y ∧ y ≤ 2147483647) (μ : Nat → Nat → Int) (Φ : Option AV → ST → Prop) (k : Φ (some (.inl 1)) (S (am_up (am_up μ 101 9 (x / Nat.gcd y x : Nat)) 101 10 (y / Nat.gcd y x : Nat)))) : wpM 162 [.inr (.inr (some 101)), .inr (.inl x), .inr (.inl y)] (S μ) Φ := by
  have G0 : 0 < Nat.gcd y x := Nat.gcd_pos_of_pos_left _ hy.1
  have d1 := Nat.div_le_self x (Nat.gcd y x)
  have d2 := Nat.div_le_self y (Nat.gcd y x)
  have t1 : ((x : Int)).tdiv ((Nat.gcd y x : Nat) : Int) = ((x / Nat.gcd y x : Nat) : Int) := (Int.ofNat_tdiv _ _).symm
  have t2 : ((y : Int)).tdiv ((Nat.gcd y x : Nat) : Int) = ((y / Nat.gcd y x : Nat) : Int) := (Int.ofNat_tdiv _ _).symm
  have fin : ∀ (j a b : Nat) (s : Option AV), GI (Nat.gcd y x) j a b → b = 0 → wpS 162 42 [some (.inr (.inr (some 101))), some (.inr (.inl x)), none, some (.inr (.inl y)), none, some (.inr (.inl a)), none, some (.inr (.inl b)), none, s, none] [] (S μ) Φ := fun j a b s h e => by
    subst e
    have := GI_z h
    subst this
    generalize x / Nat.gcd y x = u at *
    generalize y / Nat.gcd y x = w at *
    generalize Nat.gcd y x = g at *
    rw [s1_iff [] 200]
    simp (disch := omega) [sz_s, sz_0, gx_s, hx_r, hx_c, hx_b, hx_s, hx_i, hx_n, kx_s, kx_n, kx_i, cx_d, up_at, am_ctl, am_step, am_i1, am_i2, am_i2d, am_l1, am_l2, am_l2d, am_ldi, am_ldl, am_lda, am_sti, am_sta, am_stl, am_inc, am_i2l, am_l2i, am_lcmp, am_dup, am_dup2, am_pop1, am_fv, am_getf, am_putf, am_wr, am_ial, am_lal, am_bal, am_aal, am_ias, am_las, am_bas, am_alen, am_inst, am_cast, am_cpm, am_copy, am_tsw, am_pop, am_cat, am_cS, am_cI, am_cV, am_ri, am_rl, am_ra, am_rv, am_b1, am_b2, am_ent, am_en, am_isL, am_st1, am_st2, am_clr, am_cnd, cc_162, ac_162, nL_162, rb_162, List.getElem?_cons_succ, List.getElem?_cons_zero, nz_of, nzl_of, Int.toNat_add, Int.toNat_mul, tn_l, lt_t, lt_f, le_t, le_f, eq_t, eq_f, ltn_t, ltn_f, len_t, len_f, eqn_t, eqn_f, up_ne, up_up, sh_101, t1, t2, show ¬ ((g : Int) = 0) by omega, show ¬ g = 0 by omega]
    exact k
  have key := up_to (fun (j : Nat) (s : Nat × Nat × Option AV) => wpS 162 17 [some (.inr (.inr (some 101))), some (.inr (.inl x)), none, some (.inr (.inl y)), none, some (.inr (.inl s.1)), none, some (.inr (.inl s.2.1)), none, s.2.2, none] [] (S μ) Φ) (fun j s => GI (Nat.gcd y x) j s.1 s.2.1 ∧ (s.1 ≤ 2147483647 ∧ s.2.1 ≤ 2147483647)) 100 (fun j s hj hI hs' => by
    obtain ⟨a, b, s⟩ := s
    dsimp only at hI hs' ⊢
    by_cases e : b = 0
    · have f := fin j a b s hI.1 e
      subst e
      rw [s1_iff [17, 42] 200]
      simp (disch := omega) [sz_s, sz_0, gx_s, hx_r, hx_c, hx_b, hx_s, hx_i, hx_n, kx_s, kx_n, kx_i, cx_d, up_at, am_ctl, am_step, am_i1, am_i2, am_i2d, am_l1, am_l2, am_l2d, am_ldi, am_ldl, am_lda, am_sti, am_sta, am_stl, am_inc, am_i2l, am_l2i, am_lcmp, am_dup, am_dup2, am_pop1, am_fv, am_getf, am_putf, am_wr, am_ial, am_lal, am_bal, am_aal, am_ias, am_las, am_bas, am_alen, am_inst, am_cast, am_cpm, am_copy, am_tsw, am_pop, am_cat, am_cS, am_cI, am_cV, am_ri, am_rl, am_ra, am_rv, am_b1, am_b2, am_ent, am_en, am_isL, am_st1, am_st2, am_clr, am_cnd, cc_162, ac_162, nL_162, rb_162, List.getElem?_cons_succ, List.getElem?_cons_zero, nz_of, nzl_of, Int.toNat_add, Int.toNat_mul, tn_l, lt_t, lt_f, le_t, le_f, eq_t, eq_f, ltn_t, ltn_f, len_t, len_f, eqn_t, eqn_f, up_ne, up_up, am_cmp]
      simpa using f
    · have hm := Nat.mod_lt a (by omega : 0 < b)
      have q := hs' (b, a % b, some (.inr (.inl ((a % b : Nat) : Int)))) ⟨GI_s hI.1 (by omega) hj, by omega, by dsimp only; omega⟩
      have t : ((a : Int)).tmod b = ((a % b : Nat) : Int) := (Int.ofNat_tmod a b).symm
      rw [s1_iff [17] 200]
      simp (disch := omega) [sz_s, sz_0, gx_s, hx_r, hx_c, hx_b, hx_s, hx_i, hx_n, kx_s, kx_n, kx_i, cx_d, up_at, am_ctl, am_step, am_i1, am_i2, am_i2d, am_l1, am_l2, am_l2d, am_ldi, am_ldl, am_lda, am_sti, am_sta, am_stl, am_inc, am_i2l, am_l2i, am_lcmp, am_dup, am_dup2, am_pop1, am_fv, am_getf, am_putf, am_wr, am_ial, am_lal, am_bal, am_aal, am_ias, am_las, am_bas, am_alen, am_inst, am_cast, am_cpm, am_copy, am_tsw, am_pop, am_cat, am_cS, am_cI, am_cV, am_ri, am_rl, am_ra, am_rv, am_b1, am_b2, am_ent, am_en, am_isL, am_st1, am_st2, am_clr, am_cnd, cc_162, ac_162, nL_162, rb_162, List.getElem?_cons_succ, List.getElem?_cons_zero, nz_of, nzl_of, Int.toNat_add, Int.toNat_mul, tn_l, lt_t, lt_f, le_t, le_f, eq_t, eq_f, ltn_t, ltn_f, len_t, len_f, eqn_t, eqn_f, up_ne, up_up, am_cmp, t, show ¬ ((b : Int) = 0) by omega, e]
      simpa using q) (fun s hI => by
    obtain ⟨a, b, s⟩ := s
    dsimp only at hI ⊢
    have f := fin 100 a b s hI.1 (GI_e hI.1)
    have e := GI_e hI.1
    subst e
    rw [s1_iff [17, 42] 200]
    simp (disch := omega) [sz_s, sz_0, gx_s, hx_r, hx_c, hx_b, hx_s, hx_i, hx_n, kx_s, kx_n, kx_i, cx_d, up_at, am_ctl, am_step, am_i1, am_i2, am_i2d, am_l1, am_l2, am_l2d, am_ldi, am_ldl, am_lda, am_sti, am_sta, am_stl, am_inc, am_i2l, am_l2i, am_lcmp, am_dup, am_dup2, am_pop1, am_fv, am_getf, am_putf, am_wr, am_ial, am_lal, am_bal, am_aal, am_ias, am_las, am_bas, am_alen, am_inst, am_cast, am_cpm, am_copy, am_tsw, am_pop, am_cat, am_cS, am_cI, am_cV, am_ri, am_rl, am_ra, am_rv, am_b1, am_b2, am_ent, am_en, am_isL, am_st1, am_st2, am_clr, am_cnd, cc_162, ac_162, nL_162, rb_162, List.getElem?_cons_succ, List.getElem?_cons_zero, nz_of, nzl_of, Int.toNat_add, Int.toNat_mul, tn_l, lt_t, lt_f, le_t, le_f, eq_t, eq_f, ltn_t, ltn_f, len_t, len_f, eqn_t, eqn_f, up_ne, up_up, am_cmp]
    simpa using f) (x, y, none) ⟨⟨by rw [Nat.gcd_comm], G0, fun _ => by dsimp only; omega, fun q => absurd q (by omega)⟩, by dsimp only; omega⟩
  unfold wpM
  rw [s1_iff [17] 200]
  simp (disch := omega) [sz_s, sz_0, gx_s, hx_r, hx_c, hx_b, hx_s, hx_i, hx_n, kx_s, kx_n, kx_i, cx_d, up_at, am_ctl, am_step, am_i1, am_i2, am_i2d, am_l1, am_l2, am_l2d, am_ldi, am_ldl, am_lda, am_sti, am_sta, am_stl, am_inc, am_i2l, am_l2i, am_lcmp, am_dup, am_dup2, am_pop1, am_fv, am_getf, am_putf, am_wr, am_ial, am_lal, am_bal, am_aal, am_ias, am_las, am_bas, am_alen, am_inst, am_cast, am_cpm, am_copy, am_tsw, am_pop, am_cat, am_cS, am_cI, am_cV, am_ri, am_rl, am_ra, am_rv, am_b1, am_b2, am_ent, am_en, am_isL, am_st1, am_st2, am_clr, am_cnd, cc_162, ac_162, nL_162, rb_162, List.getElem?_cons_succ, List.getElem?_cons_zero, nz_of, nzl_of, Int.toNat_add, Int.toNat_mul, tn_l, lt_t, lt_f, le_t, le_f, eq_t, eq_f, ltn_t, ltn_f, len_t, len_f, eqn_t, eqn_f, up_ne, up_up, am_cmp]
  simpa using key
