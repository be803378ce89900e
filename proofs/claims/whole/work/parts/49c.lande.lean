/-! land: equal on both sides, the end -/
set_option maxRecDepth 100000 in
theorem wp_land_no (t : Int) (h : ¬ (0 ≤ t ∧ t < 4)) (μ : Nat → Nat → Int) (Φ : Option AV → ST → Prop) : wpM 88 [.inr (.inr (some 0)), .inl t] (S μ) Φ ↔ Φ (some (.inl (-1))) (S μ) := by
  unfold wpM
  rw [s1_iff [] 200]
  simp (disch := omega) [sz_s, sz_0, gx_s, hx_r, hx_c, hx_b, hx_s, hx_i, hx_n, kx_s, kx_n, kx_i, cx_d, up_at, am_ctl, am_step, am_i1, am_i2, am_i2d, am_l1, am_l2, am_l2d, am_ldi, am_ldl, am_lda, am_sti, am_sta, am_stl, am_inc, am_i2l, am_l2i, am_lcmp, am_dup, am_dup2, am_pop1, am_fv, am_getf, am_putf, am_wr, am_ial, am_lal, am_bal, am_aal, am_ias, am_las, am_bas, am_alen, am_inst, am_cast, am_cpm, am_copy, am_tsw, am_pop, am_cat, am_cS, am_cI, am_cV, am_ri, am_rl, am_ra, am_rv, am_b1, am_b2, am_ent, am_en, am_isL, am_st1, am_st2, am_clr, am_cnd, cc_88, ac_88, nL_88, rb_88, np_129, ok_88_129, nL_129, np_140, ok_88_140, nL_140, np_3, ok_88_3, nL_3, vd_3_1, np_13, ok_88_13, nL_13, vd_13_4, np_56, ok_88_56, nL_56, vd_56_8, np_133, ok_88_133, nL_133, vd_133_11, np_143, ok_88_143, nL_143, vd_143_11, tg_11_1, tg_11_2, tg_11_4, tg_11_3, tg_4_7, List.getElem?_cons_succ, List.getElem?_cons_zero, nz_of, nzl_of, Int.toNat_add, Int.toNat_mul, tn_l, lt_t, lt_f, le_t, le_f, eq_t, eq_f, ltn_t, ltn_f, len_t, len_f, eqn_t, eqn_f, up_ne, up_up, sh_0, wp_within, h]
set_option maxRecDepth 100000 in
theorem wm_land_no (t : Int) (h : ¬ (0 ≤ t ∧ t < 4)) (μ : Nat → Nat → Int) (Φ : Option AV → ST → Prop) : wpM 177 [.inr (.inr (some 101)), .inl t] (S μ) Φ ↔ Φ (some (.inl (-1))) (S μ) := by
  unfold wpM
  rw [s1_iff [] 200]
  simp (disch := omega) [sz_s, sz_0, gx_s, hx_r, hx_c, hx_b, hx_s, hx_i, hx_n, kx_s, kx_n, kx_i, cx_d, up_at, am_ctl, am_step, am_i1, am_i2, am_i2d, am_l1, am_l2, am_l2d, am_ldi, am_ldl, am_lda, am_sti, am_sta, am_stl, am_inc, am_i2l, am_l2i, am_lcmp, am_dup, am_dup2, am_pop1, am_fv, am_getf, am_putf, am_wr, am_ial, am_lal, am_bal, am_aal, am_ias, am_las, am_bas, am_alen, am_inst, am_cast, am_cpm, am_copy, am_tsw, am_pop, am_cat, am_cS, am_cI, am_cV, am_ri, am_rl, am_ra, am_rv, am_b1, am_b2, am_ent, am_en, am_isL, am_st1, am_st2, am_clr, am_cnd, cc_177, ac_177, nL_177, rb_177, np_164, ok_177_164, nL_164, np_160, ok_177_160, nL_160, vd_160_12, np_175, ok_177_175, nL_175, vd_175_12, tg_12_5, tg_12_0, tg_12_15, tg_12_14, tg_12_1, List.getElem?_cons_succ, List.getElem?_cons_zero, nz_of, nzl_of, Int.toNat_add, Int.toNat_mul, tn_l, lt_t, lt_f, le_t, le_f, eq_t, eq_f, ltn_t, ltn_f, len_t, len_f, eqn_t, eqn_f, up_ne, up_up, sh_101, wm_isText, show ¬ (0 ≤ t ∧ t ≤ 3) by omega]
set_option maxRecDepth 100000 in
theorem wp_land_mi {n : Nat} (hn : n < 4) {μ : Nat → Nat → Int} (h : μ (58 + 2 * n) 1 = -1) (Φ : Option AV → ST → Prop) : wpM 88 [.inr (.inr (some 0)), .inl n] (S μ) Φ ↔ Φ (some (.inl (-3))) (S (xfind μ 1)) := by
  obtain ⟨g1, g2, g3, g4⟩ := g_text n hn
  unfold wpM
  rw [s1_iff [] 200]
  simp (disch := omega) [sz_s, sz_0, gx_s, hx_r, hx_c, hx_b, hx_s, hx_i, hx_n, kx_s, kx_n, kx_i, cx_d, up_at, am_ctl, am_step, am_i1, am_i2, am_i2d, am_l1, am_l2, am_l2d, am_ldi, am_ldl, am_lda, am_sti, am_sta, am_stl, am_inc, am_i2l, am_l2i, am_lcmp, am_dup, am_dup2, am_pop1, am_fv, am_getf, am_putf, am_wr, am_ial, am_lal, am_bal, am_aal, am_ias, am_las, am_bas, am_alen, am_inst, am_cast, am_cpm, am_copy, am_tsw, am_pop, am_cat, am_cS, am_cI, am_cV, am_ri, am_rl, am_ra, am_rv, am_b1, am_b2, am_ent, am_en, am_isL, am_st1, am_st2, am_clr, am_cnd, cc_88, ac_88, nL_88, rb_88, np_129, ok_88_129, nL_129, np_140, ok_88_140, nL_140, np_3, ok_88_3, nL_3, vd_3_1, np_13, ok_88_13, nL_13, vd_13_4, np_56, ok_88_56, nL_56, vd_56_8, np_133, ok_88_133, nL_133, vd_133_11, np_143, ok_88_143, nL_143, vd_143_11, tg_11_1, tg_11_2, tg_11_4, tg_11_3, tg_4_7, List.getElem?_cons_succ, List.getElem?_cons_zero, nz_of, nzl_of, Int.toNat_add, Int.toNat_mul, tn_l, lt_t, lt_f, le_t, le_f, eq_t, eq_f, ltn_t, ltn_f, len_t, len_f, eqn_t, eqn_f, up_ne, up_up, sh_0, sh_2, rf_0_1, wp_within, hn, g1, g2, wp_isThere (58 + 2 * n) (by omega) g2, h, wp_find 1 (by decide), xfind]
set_option maxRecDepth 100000 in
theorem wm_land_mi {n : Nat} (hn : n < 4) {μ : Nat → Nat → Int} (h : μ 107 n = -1) (Φ : Option AV → ST → Prop) : wpM 177 [.inr (.inr (some 101)), .inl n] (S μ) Φ ↔ Φ (some (.inl (-3))) (S (mfind μ 1)) := by
  unfold wpM
  rw [s1_iff [] 200]
  simp (disch := omega) [sz_s, sz_0, gx_s, hx_r, hx_c, hx_b, hx_s, hx_i, hx_n, kx_s, kx_n, kx_i, cx_d, up_at, am_ctl, am_step, am_i1, am_i2, am_i2d, am_l1, am_l2, am_l2d, am_ldi, am_ldl, am_lda, am_sti, am_sta, am_stl, am_inc, am_i2l, am_l2i, am_lcmp, am_dup, am_dup2, am_pop1, am_fv, am_getf, am_putf, am_wr, am_ial, am_lal, am_bal, am_aal, am_ias, am_las, am_bas, am_alen, am_inst, am_cast, am_cpm, am_copy, am_tsw, am_pop, am_cat, am_cS, am_cI, am_cV, am_ri, am_rl, am_ra, am_rv, am_b1, am_b2, am_ent, am_en, am_isL, am_st1, am_st2, am_clr, am_cnd, cc_177, ac_177, nL_177, rb_177, np_164, ok_177_164, nL_164, np_160, ok_177_160, nL_160, vd_160_12, np_175, ok_177_175, nL_175, vd_175_12, tg_12_5, tg_12_0, tg_12_15, tg_12_14, tg_12_1, List.getElem?_cons_succ, List.getElem?_cons_zero, nz_of, nzl_of, Int.toNat_add, Int.toNat_mul, tn_l, lt_t, lt_f, le_t, le_f, eq_t, eq_f, ltn_t, ltn_f, len_t, len_f, eqn_t, eqn_f, up_ne, up_up, sh_101, sh_107, rf_101_5, wm_isText, h, wm_met 1 (by decide), mfind]
theorem CL_ne (μ : Nat → Nat → Int) (k : Nat) (h : ¬ (k = 4 ∨ k = 80 ∨ k = 87 ∨ k = 94)) : CL μ k = μ k := by
  unfold CL; simp (disch := omega) only [up_ne]
theorem ML_ne (μ : Nat → Nat → Int) (k : Nat) (h : ¬ (k = 101 ∨ k = 103)) : ML μ k = μ k := by
  unfold ML; simp (disch := omega) only [up_ne]
theorem INV_landed {B : Int} {μ ν ρ : Nat → Nat → Int} (h : INV B μ) {m : Nat} {rd : Nat → Int} (hS : SE (EM μ) ν m rd) (h1 : ∀ k, ¬ k = 102 → ρ k = mrd (CL ν) m rd k) (h2 : ∀ j, ρ 102 j = wlZ (CL ν) rd m m j) : INV B (ML ρ) := by
  have hL : LD B μ 73 0 := h.2.2.2.1
  have B0 : 0 ≤ B := by have := ld_d hL (j := 0) (by omega); omega
  obtain ⟨s1, s2, s3, s4⟩ := hS
  have nu : ∀ k, ¬ (74 ≤ k ∧ k ≤ 77) → ¬ k = 73 → ν k = EM μ k := fun k q1 q2 => funext fun i => s1 k i q1 (by omega)
  have lo : ∀ k, ¬ (73 ≤ k ∧ k ≤ 78) → ¬ (k = 4 ∨ k = 80 ∨ k = 87 ∨ k = 94) → ¬ (k = 101 ∨ k = 102 ∨ k = 103 ∨ k = 111) → ML ρ k = μ k := fun k q1 q2 q3 => by
    rw [ML_ne _ _ (by omega), h1 k (by omega), mrd_ne _ _ _ _ (by omega) (by omega), CL_ne _ _ q2, nu k (by omega) (by omega), EM_ne _ _ (by omega) (by omega)]
  have ke : ∀ k i, k = 80 ∨ k = 87 ∨ k = 94 → ¬ i = 12 → ML ρ k i = μ k i := fun k i q1 q2 => by
    rw [ML_ne _ _ (by omega), h1 k (by omega), mrd_ne _ _ _ _ (by omega) (by omega)]
    unfold CL
    simp only [up_at]
    rw [if_neg (by omega), if_neg (by omega), if_neg (by omega), if_neg (by omega), if_neg (by omega), nu k (by omega) (by omega), EM_ne _ _ (by omega) (by omega)]
  have ki : ∀ k, k < 3 → ML ρ (80 + 7 * k) 12 = 0 := fun k hk => by
    rw [ML_ne _ _ (by omega), h1 _ (by omega), mrd_ne _ _ _ _ (by omega) (by omega)]
    have : k = 0 ∨ k = 1 ∨ k = 2 := by omega
    rcases this with rfl | rfl | rfl <;> simp [CL, up_at]
  have a101 : ∀ i, ¬ i = 12 → ¬ i = 15 → ML ρ 101 i = μ 101 i := fun i q1 q2 => by
    unfold ML
    simp only [up_at]
    rw [if_neg (by omega), if_neg (by omega), if_neg (by omega), if_neg (by omega), h1 101 (by decide), mrd_101 _ _ _ _ q2, CL_ne _ _ (by omega), nu 101 (by omega) (by omega), EM_ne _ _ (by omega) (by omega)]
  have a12 : ML ρ 101 12 = 0 := by unfold ML; simp [up_at]
  have a103 : ∀ k, k < 3 → ML ρ 103 k = 0 := fun k hk => by
    have : k = 0 ∨ k = 1 ∨ k = 2 := by omega
    rcases this with rfl | rfl | rfl <;> simp [ML, up_at]
  have x4 : ∀ i, i = 4 ∨ i = 5 → ML ρ 4 i = 0 := fun i hi => by
    rw [ML_ne _ _ (by omega), h1 _ (by omega), mrd_ne _ _ _ _ (by omega) (by omega)]
    rcases hi with rfl | rfl <;> simp [CL, up_at]
  have w : ∀ j, ML ρ 102 j = wlZ (CL ν) rd m m j := fun j => by rw [ML_ne _ _ (by omega)]; exact h2 j
  have c : ∀ k, 73 ≤ k → k ≤ 79 → ML ρ k = ν k := fun k q1 q2 => by
    rw [ML_ne _ _ (by omega), h1 k (by omega), mrd_ne _ _ _ _ (by omega) (by omega), CL_ne _ _ (by omega)]
  have f8 : ν 73 8 = 0 ∧ ν 73 9 = 0 ∧ ν 73 10 = 1 ∧ ν 73 11 = 0 := by
    rw [s1 73 8 (by omega) (by omega), s1 73 9 (by omega) (by omega), s1 73 10 (by omega) (by omega), s1 73 11 (by omega) (by omega)]
    simp [EM, up_at]
  have d78 : ∀ j, j < 64 → ν 78 j = 0 := fun j hj => by
    rw [s1 78 j (by omega) (by omega)]
    unfold EM
    simp (disch := omega) only [up_ne]
    rw [fl_at, if_pos ⟨rfl, hj⟩]
  have w0 : wlZ (CL ν) rd m m 0 = m := rfl
  have w1 : wlZ (CL ν) rd m m 1 = 0 := by unfold wlZ; simp
  have w2 : wlZ (CL ν) rd m m 2 = 0 := by unfold wlZ; simp
  have w3 : wlZ (CL ν) rd m m 3 = 1 := rfl
  have w4 : wlZ (CL ν) rd m m 4 = 0 := by unfold wlZ; simp
  have L9 : LD B (ML ρ) 73 0 := by
    unfold LD
    simp only [Nat.zero_add, w, c 73 (by omega) (by omega), c (73 + 1) (by omega) (by omega), c (73 + 2) (by omega) (by omega), c (73 + 3) (by omega) (by omega), c (73 + 4) (by omega) (by omega), c (73 + 5) (by omega) (by omega), c (73 + 6) (by omega) (by omega), w0, w1, w2, w3, w4, s2, f8]
    refine ⟨by omega, trivial, by omega, trivial, by omega, trivial, by omega, trivial, by omega, trivial, fun k hk => ?_, fun j hj => ?_, fun j hj => absurd hj (by omega)⟩
    · have := s4 k (by omega)
      have z1 : wlZ (CL ν) rd m m (5 + k) = rd (4 * k) := by
        unfold wlZ; rw [if_neg (by omega), if_neg (by omega), if_pos (by omega), show 5 + k - 5 = k by omega]
      have z2 : wlZ (CL ν) rd m m (13 + k) = rd (4 * k + 1) := by
        unfold wlZ; rw [if_neg (by omega), if_neg (by omega), if_neg (by omega), if_pos (by omega), show 13 + k - 13 = k by omega]
      have z3 : wlZ (CL ν) rd m m (21 + k) = rd (4 * k + 2) := by
        unfold wlZ; rw [if_neg (by omega), if_neg (by omega), if_neg (by omega), if_neg (by omega), if_pos (by omega), show 21 + k - 21 = k by omega]
      have z4 : wlZ (CL ν) rd m m (29 + k) = rd (4 * k + 3) := by
        unfold wlZ; rw [if_neg (by omega), if_neg (by omega), if_neg (by omega), if_neg (by omega), if_neg (by omega), if_pos (by omega), show 29 + k - 29 = k by omega]
      rw [z1, z2, z3, z4]
      exact ⟨this.1, this.2.1, this.2.2.1, this.2.2.2.1, by omega⟩
    · have z : wlZ (CL ν) rd m m (37 + j) = 0 := by
        unfold wlZ; rw [if_neg (by omega), if_neg (by omega), if_neg (by omega), if_neg (by omega), if_neg (by omega), if_neg (by omega), if_pos (by omega)]
      rw [z]
      exact ⟨d78 j hj, by omega, B0⟩
  obtain ⟨⟨a1, a2, a3, a4, a5⟩, hI, ht, -, -, -⟩ := h
  refine ⟨⟨?_, ?_, ?_, ?_, fun g hg => ?_⟩, I_r_of hI (fun k i hk => by rw [lo k (by omega) (by omega) (by omega)]), I_t_of ht (fun k i hk => by rw [lo k (by omega) (by omega) (by omega)]), L9, fun k hk => ⟨Or.inl (a103 k hk), by rw [a103 k hk]; exact ki k hk, fun q => absurd q (by rw [a103 k hk]; decide)⟩, ?_⟩
  · rw [lo 0 (by omega) (by omega) (by omega), a101 7 (by omega) (by omega)]; exact a1
  · rw [lo 0 (by omega) (by omega) (by omega), a101 8 (by omega) (by omega)]; exact a2
  · rw [lo 0 (by omega) (by omega) (by omega), a101 9 (by omega) (by omega)]; exact a3
  · rw [lo 0 (by omega) (by omega) (by omega), a101 10 (by omega) (by omega)]; exact a4
  · rw [lo 45 (by omega) (by omega) (by omega), lo 108 (by omega) (by omega) (by omega)]; exact a5 g hg
  · unfold I_d
    rw [a12, x4 4 (Or.inl rfl), x4 5 (Or.inr rfl)]
    exact ⟨LD_RG L9, by omega, rfl, by omega, fun j hj => absurd hj (by omega)⟩
theorem eq_land {B : Int} {μ : Nat → Nat → Int} (h : INV B μ) (hl : LT μ) (t : Int) : EQV B μ 88 177 [.inl t] := by
  unfold EQV
  by_cases ht : 0 ≤ t ∧ t < 4
  · obtain ⟨n, rfl⟩ : ∃ n : Nat, t = n := ⟨t.toNat, by omega⟩
    have hn : n < 4 := by omega
    have b2 := (h.2.2.1 n hn).2.1
    by_cases c : μ 107 n = -1
    · rw [wp_land_mi hn (by omega)]
      refine ⟨_, _, rfl, rfl, ?_⟩
      rw [wm_land_mi hn (by rw [xf_102 _ _ _ (by decide) (by decide)]; exact c)]
      exact ⟨rfl, _, rfl, inv_find h 1 (by decide)⟩
    · obtain ⟨s, hs, hT⟩ := TX_of h hn c
      refine wp_land hl hn hT (μ 111) _ (fun c1 => ⟨_, _, rfl, rfl, ?_⟩) (fun c1 ν hS => ⟨_, _, rfl, rfl, ?_⟩)
      · exact wm_land hn hT (fun q => absurd q c1) _ (fun _ => ⟨rfl, _, rfl, INV_mrd h _ _⟩) (fun q => absurd q c1)
      · have xk : ∀ k, ¬ (73 ≤ k ∧ k ≤ 78) → ¬ (k = 4 ∨ k = 80 ∨ k = 87 ∨ k = 94) → CL ν k = μ k := fun k q1 q2 => by
          rw [CL_ne _ _ q2, show ν k = EM μ k from funext fun i => hS.1 k i (by omega) (by omega), EM_ne _ _ (by omega) (by omega)]
        have hT2 : TX (CL ν) n s (fun i => μ 106 (80 * n + i)) := TX_as hT (fun k hk => xk k (by omega) (by omega))
        have e111 : CL ν 111 = μ 111 := xk 111 (by omega) (by omega)
        refine wm_land hn hT2 (fun _ => ?_) _ (fun q => ?_) (fun _ ρ p1 p2 => ?_)
        · rw [e111]; exact hS.2.2.1
        · rw [e111] at q; exact absurd c1 q
        · rw [e111] at p1 p2 ⊢
          exact ⟨rfl, _, rfl, INV_landed h hS p1 p2⟩
  · rw [wp_land_no t ht]
    refine ⟨_, _, rfl, rfl, ?_⟩
    rw [wm_land_no t ht]
    exact ⟨rfl, _, rfl, h⟩
