/-! ways: houses of a province gathered, by both sides -/
def gN (w : Nat → Int) (p : Int) : Nat → Nat
  | 0 => 0
  | h + 1 => if w (13 + h) = p then gN w p h + 1 else gN w p h
def gH (w : Nat → Int) (p : Int) : Nat → Nat → Nat
  | 0, _ => 0
  | h + 1, i => if w (13 + h) = p ∧ i = gN w p h then h else gH w p h i
theorem gN_le (w : Nat → Int) (p : Int) : ∀ h, gN w p h ≤ h
  | 0 => by rw [gN]; omega
  | h + 1 => by have := gN_le w p h; rw [gN]; split <;> omega
theorem gN_mono (w : Nat → Int) (p : Int) (h : Nat) : ∀ d, gN w p h ≤ gN w p (h + d)
  | 0 => Nat.le_refl _
  | d + 1 => by have := gN_mono w p h d; rw [← Nat.add_assoc, gN]; split <;> omega
theorem gH_in (w : Nat → Int) (p : Int) : ∀ h i, i < gN w p h → gH w p h i < h ∧ w (13 + gH w p h i) = p ∧ gN w p (gH w p h i) = i
  | 0, i, hi => by rw [gN] at hi; omega
  | h + 1, i, hi => by
    rw [gN] at hi
    rw [gH]
    by_cases c : w (13 + h) = p
    · rw [if_pos c] at hi
      by_cases e : i = gN w p h
      · rw [if_pos ⟨c, e⟩]; exact ⟨by omega, c, e.symm⟩
      · rw [if_neg (fun q => e q.2)]
        have := gH_in w p h i (by omega)
        exact ⟨by omega, this.2⟩
    · rw [if_neg c] at hi
      rw [if_neg (fun q => c q.1)]
      have := gH_in w p h i hi
      exact ⟨by omega, this.2⟩
/-- the place of a house of the province -/
theorem gH_of (w : Nat → Int) (p : Int) : ∀ n h, h < n → w (13 + h) = p → gH w p n (gN w p h) = h ∧ gN w p h < gN w p n
  | 0, h, hh, _ => absurd hh (by omega)
  | n + 1, h, hh, hp => by
    rw [gH, gN]
    by_cases e : h = n
    · subst e
      rw [if_pos ⟨hp, rfl⟩, if_pos hp]; exact ⟨rfl, by omega⟩
    · have := gH_of w p n h (by omega) hp
      rw [if_neg (fun q => by omega)]
      refine ⟨this.1, ?_⟩
      split <;> omega
/-- counted of so many mouths of the i-th house there -/
def gC (w : Nat → Int) (p : Int) (i m : Nat) : Int := cntP (w (5 + gH w p (nW w) i)) m m (w 2) (w 1)
def gS (w : Nat → Int) (p : Int) : Nat := gN w p (nW w)
theorem gC_rng (w : Nat → Int) (p : Int) (i m : Nat) (hm : m < 10) : 0 ≤ gC w p i m ∧ gC w p i m ≤ 10 := by
  unfold gC
  have := @cntP_rng (w (5 + gH w p (nW w) i)) m m (w 2) (w 1) (by omega) (by omega)
  omega
/-- all the class's ways are written down -/
def WG (μ ν : Nat → Nat → Int) (s : Nat) (hs : Nat → Nat) (c : Nat → Nat → Int) : Prop := (∀ k, ¬ (9 ≤ k ∧ k ≤ 37) → ν k = μ k) ∧ WC ν s c ∧ (∀ i, i < s → ν 10 i = hs i) ∧ (∀ i, i ≤ s → ∀ z : Nat, z ≤ 50 → ν (18 + i) z = dW tt_ c i z) ∧ (∀ i, i ≤ s → ∀ z : Nat, z ≤ 50 → ν (25 + i) z = dW tt_ (rv c s) (s - i) z)
theorem gH_st (w : Nat → Int) (p : Int) (h i : Nat) : ∀ d, i < gN w p h → gH w p (h + d) i = gH w p h i
  | 0, _ => rfl
  | d + 1, hi => by
    have a := gH_st w p h i d hi
    have b := gN_mono w p h d
    rw [← Nat.add_assoc, gH, if_neg (fun q => by omega)]
    exact a
set_option maxHeartbeats 8000000 in
set_option maxRecDepth 100000 in
theorem wp_gather {B : Int} {μ : Nat → Nat → Int} (hL : LD B μ 73 0) (p : Int) (Φ : Option AV → ST → Prop) (kF : 5 < gS (μ 102) p → ∀ ν, (∀ k, ¬ (9 ≤ k ∧ k ≤ 37) → ν k = μ k) → Φ (some (.inl 0)) (S ν)) (kT : gS (μ 102) p ≤ 5 → ∀ ν, WG μ ν (gS (μ 102) p) (gH (μ 102) p (nW (μ 102))) (gC (μ 102) p) → Φ (some (.inl 1)) (S ν)) : wpM 66 [.inr (.inr (some 9)), .inr (.inr (some 73)), .inl p] (S μ) Φ := by
  have e0 := ld_n hL
  have l0 := ld_0 hL
  have key := up_to (fun (h : Nat) (s : (Nat → Nat → Int) × Option AV) => wpS 66 7 [some (.inr (.inr (some 9))), some (.inr (.inr (some 73))), some (.inl p), some (.inl h), s.2] [] (S s.1) Φ) (fun h s => ((∀ k, ¬ (9 ≤ k ∧ k ≤ 16) → s.1 k = μ k) ∧ s.1 9 5 = gN (μ 102) p h ∧ gN (μ 102) p h ≤ 5 ∧ (∀ i, i < gN (μ 102) p h → s.1 10 i = gH (μ 102) p (nW (μ 102)) i) ∧ ∀ i, i < gN (μ 102) p h → ∀ m, m < 10 → s.1 (12 + i) m = gC (μ 102) p i m) ∧ ∀ z, ¬ s.2 = some (.inr (.inl z))) (nW (μ 102)) (fun h s hh hI hs' => by
    obtain ⟨ν, s2⟩ := s
    obtain ⟨⟨i1, i2, i3, i4, i5⟩, i6⟩ := hI
    try dsimp only at i1 i2 i3 i4 i5 i6 hs' ⊢
    have lh := ld_h hL hh
    have n73 : ν 73 7 = (nW (μ 102) : Int) := by rw [i1 73 (by omega)]; exact e0.1
    have v75 : ν 75 h = μ 102 (13 + h) := by rw [i1 75 (by omega)]; exact lh.1.2.1
    by_cases c : μ 102 (13 + h) = p
    · have gs : gN (μ 102) p (h + 1) = gN (μ 102) p h + 1 := by rw [gN, if_pos c]
      have gm := gN_mono (μ 102) p (h + 1) (nW (μ 102) - (h + 1))
      rw [show h + 1 + (nW (μ 102) - (h + 1)) = nW (μ 102) by omega, gs] at gm
      by_cases full : gN (μ 102) p h = 5
      · have kF := kF (by unfold gS; omega) ν (fun k hk => i1 k (by omega))
        rw [s1_iff [7] 200]
        simp (disch := omega) [sz_s, sz_0, gx_s, hx_r, hx_c, hx_b, hx_s, hx_i, hx_n, kx_s, kx_n, kx_i, cx_d, up_at, am_ctl, am_step, am_i1, am_i2, am_i2d, am_l1, am_l2, am_l2d, am_ldi, am_ldl, am_lda, am_sti, am_sta, am_stl, am_inc, am_i2l, am_l2i, am_lcmp, am_dup, am_dup2, am_pop1, am_fv, am_getf, am_putf, am_wr, am_ial, am_lal, am_bal, am_aal, am_ias, am_las, am_bas, am_alen, am_inst, am_cast, am_cpm, am_copy, am_tsw, am_pop, am_cat, am_cS, am_cI, am_cV, am_ri, am_rl, am_ra, am_rv, am_b1, am_b2, am_ent, am_en, am_isL, am_st1, am_st2, am_clr, am_cnd, cc_66, ac_66, nL_66, rb_66, np_11, ok_66_11, nL_11, ok_66_63, nL_63, vd_11_0, vd_11_2, vd_11_3, vd_11_6, vd_11_7, vd_11_9, np_16, ok_66_16, nL_16, vd_16_4, np_67, ok_66_67, nL_67, vd_67_10, np_68, ok_66_68, nL_68, vd_68_10, tg_4_7, tg_4_2, tg_10_5, tg_10_0, tg_10_1, tg_4_8, tg_4_9, List.getElem?_cons_succ, List.getElem?_cons_zero, nz_of, nzl_of, Int.toNat_add, Int.toNat_mul, tn_l, lt_t, lt_f, le_t, le_f, eq_t, eq_f, ltn_t, ltn_f, len_t, len_f, eqn_t, eqn_f, up_ne, up_up, sh_9, sh_73, sh_75, rf_73_2, n73, hh, v75, c, i2, full]
        exact kF
      · generalize hg : gN (μ 102) p h = g at *
        obtain ⟨g1, g2⟩ := g_way g (by omega)
        have hgh : gH (μ 102) p (nW (μ 102)) g = h := by rw [← hg]; exact (gH_of (μ 102) p (nW (μ 102)) h hh c).1
        have cg : ∀ m : Nat, gC (μ 102) p g m = cntP (μ 102 (5 + h)) m m (μ 102 2) (μ 102 1) := fun m => by unfold gC; rw [hgh]
        have inner := up_to (fun (m : Nat) (ρ : Nat → Nat → Int) => wpS 66 48 [some (.inr (.inr (some 9))), some (.inr (.inr (some 73))), some (.inl p), some (.inl h), some (.inl m)] [] (S ρ) Φ) (fun m ρ => (∀ k, ¬ k = 12 + g → ρ k = (am_up ν 10 g (h : Int)) k) ∧ ∀ j, j < m → ρ (12 + g) j = gC (μ 102) p g j) 10 (fun m ρ hm hI hs'' => by
          try dsimp only at hI hs'' ⊢
          obtain ⟨j1, j2⟩ := hI
          have w5 : ρ 9 5 = g := by rw [j1 9 (by omega), up_ne _ _ _ (by decide)]; exact i2
          have e102 : ρ 102 = μ 102 := by rw [j1 102 (by omega), up_ne _ _ _ (by decide), i1 102 (by omega)]
          have Lρ : LD B ρ 73 0 := LD_of hL (fun i => by rw [e102]) (fun k i hk => by rw [j1 k (by omega), up_ne _ _ _ (by omega), i1 k (by omega)])
          have R := wp_rule Lρ (h := h) (by rw [e102]; exact hh)
          rw [e102] at R
          have f8 := (ld_0 Lρ).2.1
          have f9 := (ld_0 Lρ).2.2.1
          rw [e102] at f8 f9
          have q := hs'' (am_up ρ (12 + g) m (gC (μ 102) p g m)) ⟨fun k hk => by rw [up_ne _ _ _ hk]; exact j1 k hk, fun j hj => by
            rw [up_at]
            by_cases e : j = m
            · subst e; rw [if_pos ⟨rfl, rfl⟩]
            · rw [if_neg (fun q => e q.2)]; exact j2 j (by omega)⟩
          rw [cg] at q
          have hmm : 0 ≤ (m : Int) ∧ (m : Int) ≤ 9 := by omega
          have hms : 0 ≤ (m : Int) ∧ (m : Int) ≤ 30 := by omega
          rcases six lh.2.1 with ho | ho | ho | ho | ho | ho
          · rw [ho] at R q
            rw [s1_iff [48] 200]
            simp (disch := omega) [sz_s, sz_0, gx_s, hx_r, hx_c, hx_b, hx_s, hx_i, hx_n, kx_s, kx_n, kx_i, cx_d, up_at, am_ctl, am_step, am_i1, am_i2, am_i2d, am_l1, am_l2, am_l2d, am_ldi, am_ldl, am_lda, am_sti, am_sta, am_stl, am_inc, am_i2l, am_l2i, am_lcmp, am_dup, am_dup2, am_pop1, am_fv, am_getf, am_putf, am_wr, am_ial, am_lal, am_bal, am_aal, am_ias, am_las, am_bas, am_alen, am_inst, am_cast, am_cpm, am_copy, am_tsw, am_pop, am_cat, am_cS, am_cI, am_cV, am_ri, am_rl, am_ra, am_rv, am_b1, am_b2, am_ent, am_en, am_isL, am_st1, am_st2, am_clr, am_cnd, cc_66, ac_66, nL_66, rb_66, np_11, ok_66_11, nL_11, ok_66_63, nL_63, vd_11_0, vd_11_2, vd_11_3, vd_11_6, vd_11_7, vd_11_9, np_16, ok_66_16, nL_16, vd_16_4, np_67, ok_66_67, nL_67, vd_67_10, np_68, ok_66_68, nL_68, vd_68_10, tg_4_7, tg_4_2, tg_10_5, tg_10_0, tg_10_1, tg_4_8, tg_4_9, List.getElem?_cons_succ, List.getElem?_cons_zero, nz_of, nzl_of, Int.toNat_add, Int.toNat_mul, tn_l, lt_t, lt_f, le_t, le_f, eq_t, eq_f, ltn_t, ltn_f, len_t, len_f, eqn_t, eqn_f, up_ne, up_up, sh_9, rf_9_1, sh_11, g1, g2, sh_73, w5, hm, R, sh_67, f8, f9, wp_cby0 (μ 102 1) m m (μ 102 2) hmm hms]
            simpa using q
          · rw [ho] at R q
            rw [s1_iff [48] 200]
            simp (disch := omega) [sz_s, sz_0, gx_s, hx_r, hx_c, hx_b, hx_s, hx_i, hx_n, kx_s, kx_n, kx_i, cx_d, up_at, am_ctl, am_step, am_i1, am_i2, am_i2d, am_l1, am_l2, am_l2d, am_ldi, am_ldl, am_lda, am_sti, am_sta, am_stl, am_inc, am_i2l, am_l2i, am_lcmp, am_dup, am_dup2, am_pop1, am_fv, am_getf, am_putf, am_wr, am_ial, am_lal, am_bal, am_aal, am_ias, am_las, am_bas, am_alen, am_inst, am_cast, am_cpm, am_copy, am_tsw, am_pop, am_cat, am_cS, am_cI, am_cV, am_ri, am_rl, am_ra, am_rv, am_b1, am_b2, am_ent, am_en, am_isL, am_st1, am_st2, am_clr, am_cnd, cc_66, ac_66, nL_66, rb_66, np_11, ok_66_11, nL_11, ok_66_63, nL_63, vd_11_0, vd_11_2, vd_11_3, vd_11_6, vd_11_7, vd_11_9, np_16, ok_66_16, nL_16, vd_16_4, np_67, ok_66_67, nL_67, vd_67_10, np_68, ok_66_68, nL_68, vd_68_10, tg_4_7, tg_4_2, tg_10_5, tg_10_0, tg_10_1, tg_4_8, tg_4_9, List.getElem?_cons_succ, List.getElem?_cons_zero, nz_of, nzl_of, Int.toNat_add, Int.toNat_mul, tn_l, lt_t, lt_f, le_t, le_f, eq_t, eq_f, ltn_t, ltn_f, len_t, len_f, eqn_t, eqn_f, up_ne, up_up, sh_9, rf_9_1, sh_11, g1, g2, sh_73, w5, hm, R, sh_68, f8, f9, wp_cby1 (μ 102 1) m m (μ 102 2) hmm hms]
            simpa using q
          · rw [ho] at R q
            rw [s1_iff [48] 200]
            simp (disch := omega) [sz_s, sz_0, gx_s, hx_r, hx_c, hx_b, hx_s, hx_i, hx_n, kx_s, kx_n, kx_i, cx_d, up_at, am_ctl, am_step, am_i1, am_i2, am_i2d, am_l1, am_l2, am_l2d, am_ldi, am_ldl, am_lda, am_sti, am_sta, am_stl, am_inc, am_i2l, am_l2i, am_lcmp, am_dup, am_dup2, am_pop1, am_fv, am_getf, am_putf, am_wr, am_ial, am_lal, am_bal, am_aal, am_ias, am_las, am_bas, am_alen, am_inst, am_cast, am_cpm, am_copy, am_tsw, am_pop, am_cat, am_cS, am_cI, am_cV, am_ri, am_rl, am_ra, am_rv, am_b1, am_b2, am_ent, am_en, am_isL, am_st1, am_st2, am_clr, am_cnd, cc_66, ac_66, nL_66, rb_66, np_11, ok_66_11, nL_11, ok_66_63, nL_63, vd_11_0, vd_11_2, vd_11_3, vd_11_6, vd_11_7, vd_11_9, np_16, ok_66_16, nL_16, vd_16_4, np_67, ok_66_67, nL_67, vd_67_10, np_68, ok_66_68, nL_68, vd_68_10, tg_4_7, tg_4_2, tg_10_5, tg_10_0, tg_10_1, tg_4_8, tg_4_9, List.getElem?_cons_succ, List.getElem?_cons_zero, nz_of, nzl_of, Int.toNat_add, Int.toNat_mul, tn_l, lt_t, lt_f, le_t, le_f, eq_t, eq_f, ltn_t, ltn_f, len_t, len_f, eqn_t, eqn_f, up_ne, up_up, sh_9, rf_9_1, sh_11, g1, g2, sh_73, w5, hm, R, sh_69, f8, f9, wp_cby2 (μ 102 1) m m (μ 102 2) hmm hms]
            simpa using q
          · rw [ho] at R q
            rw [s1_iff [48] 200]
            simp (disch := omega) [sz_s, sz_0, gx_s, hx_r, hx_c, hx_b, hx_s, hx_i, hx_n, kx_s, kx_n, kx_i, cx_d, up_at, am_ctl, am_step, am_i1, am_i2, am_i2d, am_l1, am_l2, am_l2d, am_ldi, am_ldl, am_lda, am_sti, am_sta, am_stl, am_inc, am_i2l, am_l2i, am_lcmp, am_dup, am_dup2, am_pop1, am_fv, am_getf, am_putf, am_wr, am_ial, am_lal, am_bal, am_aal, am_ias, am_las, am_bas, am_alen, am_inst, am_cast, am_cpm, am_copy, am_tsw, am_pop, am_cat, am_cS, am_cI, am_cV, am_ri, am_rl, am_ra, am_rv, am_b1, am_b2, am_ent, am_en, am_isL, am_st1, am_st2, am_clr, am_cnd, cc_66, ac_66, nL_66, rb_66, np_11, ok_66_11, nL_11, ok_66_63, nL_63, vd_11_0, vd_11_2, vd_11_3, vd_11_6, vd_11_7, vd_11_9, np_16, ok_66_16, nL_16, vd_16_4, np_67, ok_66_67, nL_67, vd_67_10, np_68, ok_66_68, nL_68, vd_68_10, tg_4_7, tg_4_2, tg_10_5, tg_10_0, tg_10_1, tg_4_8, tg_4_9, List.getElem?_cons_succ, List.getElem?_cons_zero, nz_of, nzl_of, Int.toNat_add, Int.toNat_mul, tn_l, lt_t, lt_f, le_t, le_f, eq_t, eq_f, ltn_t, ltn_f, len_t, len_f, eqn_t, eqn_f, up_ne, up_up, sh_9, rf_9_1, sh_11, g1, g2, sh_73, w5, hm, R, sh_70, f8, f9, wp_cby3 (μ 102 1) m m (μ 102 2) hmm hms]
            simpa using q
          · rw [ho] at R q
            rw [s1_iff [48] 200]
            simp (disch := omega) [sz_s, sz_0, gx_s, hx_r, hx_c, hx_b, hx_s, hx_i, hx_n, kx_s, kx_n, kx_i, cx_d, up_at, am_ctl, am_step, am_i1, am_i2, am_i2d, am_l1, am_l2, am_l2d, am_ldi, am_ldl, am_lda, am_sti, am_sta, am_stl, am_inc, am_i2l, am_l2i, am_lcmp, am_dup, am_dup2, am_pop1, am_fv, am_getf, am_putf, am_wr, am_ial, am_lal, am_bal, am_aal, am_ias, am_las, am_bas, am_alen, am_inst, am_cast, am_cpm, am_copy, am_tsw, am_pop, am_cat, am_cS, am_cI, am_cV, am_ri, am_rl, am_ra, am_rv, am_b1, am_b2, am_ent, am_en, am_isL, am_st1, am_st2, am_clr, am_cnd, cc_66, ac_66, nL_66, rb_66, np_11, ok_66_11, nL_11, ok_66_63, nL_63, vd_11_0, vd_11_2, vd_11_3, vd_11_6, vd_11_7, vd_11_9, np_16, ok_66_16, nL_16, vd_16_4, np_67, ok_66_67, nL_67, vd_67_10, np_68, ok_66_68, nL_68, vd_68_10, tg_4_7, tg_4_2, tg_10_5, tg_10_0, tg_10_1, tg_4_8, tg_4_9, List.getElem?_cons_succ, List.getElem?_cons_zero, nz_of, nzl_of, Int.toNat_add, Int.toNat_mul, tn_l, lt_t, lt_f, le_t, le_f, eq_t, eq_f, ltn_t, ltn_f, len_t, len_f, eqn_t, eqn_f, up_ne, up_up, sh_9, rf_9_1, sh_11, g1, g2, sh_73, w5, hm, R, sh_71, f8, f9, wp_cby4 (μ 102 1) m m (μ 102 2) hmm hms]
            simpa using q
          · rw [ho] at R q
            rw [s1_iff [48] 200]
            simp (disch := omega) [sz_s, sz_0, gx_s, hx_r, hx_c, hx_b, hx_s, hx_i, hx_n, kx_s, kx_n, kx_i, cx_d, up_at, am_ctl, am_step, am_i1, am_i2, am_i2d, am_l1, am_l2, am_l2d, am_ldi, am_ldl, am_lda, am_sti, am_sta, am_stl, am_inc, am_i2l, am_l2i, am_lcmp, am_dup, am_dup2, am_pop1, am_fv, am_getf, am_putf, am_wr, am_ial, am_lal, am_bal, am_aal, am_ias, am_las, am_bas, am_alen, am_inst, am_cast, am_cpm, am_copy, am_tsw, am_pop, am_cat, am_cS, am_cI, am_cV, am_ri, am_rl, am_ra, am_rv, am_b1, am_b2, am_ent, am_en, am_isL, am_st1, am_st2, am_clr, am_cnd, cc_66, ac_66, nL_66, rb_66, np_11, ok_66_11, nL_11, ok_66_63, nL_63, vd_11_0, vd_11_2, vd_11_3, vd_11_6, vd_11_7, vd_11_9, np_16, ok_66_16, nL_16, vd_16_4, np_67, ok_66_67, nL_67, vd_67_10, np_68, ok_66_68, nL_68, vd_68_10, tg_4_7, tg_4_2, tg_10_5, tg_10_0, tg_10_1, tg_4_8, tg_4_9, List.getElem?_cons_succ, List.getElem?_cons_zero, nz_of, nzl_of, Int.toNat_add, Int.toNat_mul, tn_l, lt_t, lt_f, le_t, le_f, eq_t, eq_f, ltn_t, ltn_f, len_t, len_f, eqn_t, eqn_f, up_ne, up_up, sh_9, rf_9_1, sh_11, g1, g2, sh_73, w5, hm, R, sh_72, f8, f9, wp_cby5 (μ 102 1) m m (μ 102 2) hmm hms]
            simpa using q) (fun ρ hI => by
          try dsimp only at hI ⊢
          obtain ⟨j1, j2⟩ := hI
          have w5 : ρ 9 5 = g := by rw [j1 9 (by omega), up_ne _ _ _ (by decide)]; exact i2
          have q := hs' (am_up ρ 9 5 ((g : Int) + 1), some (.inl 10)) ⟨⟨fun k hk => by (try dsimp only); rw [up_ne _ _ _ (by omega), j1 k (by omega), up_ne _ _ _ (by omega)]; exact i1 k hk, by (try dsimp only); rw [gs]; simp [up_at], by omega, fun i hi => by
            try dsimp only
            rw [gs] at hi
            rw [up_ne _ _ _ (by decide), j1 10 (by omega), up_at]
            by_cases e : i = g
            · subst e; rw [if_pos ⟨rfl, rfl⟩, hgh]
            · rw [if_neg (fun q => e q.2)]; exact i4 i (by omega), fun i hi m hm => by
            try dsimp only
            rw [gs] at hi
            rw [up_ne _ _ _ (by omega)]
            by_cases e : i = g
            · subst e; exact j2 m hm
            · rw [j1 (12 + i) (by omega), up_ne _ _ _ (by omega)]; exact i5 i (by omega) m hm⟩, by simp⟩
          rw [s1_iff [7, 48] 200]
          simp (disch := omega) [sz_s, sz_0, gx_s, hx_r, hx_c, hx_b, hx_s, hx_i, hx_n, kx_s, kx_n, kx_i, cx_d, up_at, am_ctl, am_step, am_i1, am_i2, am_i2d, am_l1, am_l2, am_l2d, am_ldi, am_ldl, am_lda, am_sti, am_sta, am_stl, am_inc, am_i2l, am_l2i, am_lcmp, am_dup, am_dup2, am_pop1, am_fv, am_getf, am_putf, am_wr, am_ial, am_lal, am_bal, am_aal, am_ias, am_las, am_bas, am_alen, am_inst, am_cast, am_cpm, am_copy, am_tsw, am_pop, am_cat, am_cS, am_cI, am_cV, am_ri, am_rl, am_ra, am_rv, am_b1, am_b2, am_ent, am_en, am_isL, am_st1, am_st2, am_clr, am_cnd, cc_66, ac_66, nL_66, rb_66, np_11, ok_66_11, nL_11, ok_66_63, nL_63, vd_11_0, vd_11_2, vd_11_3, vd_11_6, vd_11_7, vd_11_9, np_16, ok_66_16, nL_16, vd_16_4, np_67, ok_66_67, nL_67, vd_67_10, np_68, ok_66_68, nL_68, vd_68_10, tg_4_7, tg_4_2, tg_10_5, tg_10_0, tg_10_1, tg_4_8, tg_4_9, List.getElem?_cons_succ, List.getElem?_cons_zero, nz_of, nzl_of, Int.toNat_add, Int.toNat_mul, tn_l, lt_t, lt_f, le_t, le_f, eq_t, eq_f, ltn_t, ltn_f, len_t, len_f, eqn_t, eqn_f, up_ne, up_up, sh_9, w5]
          simpa using q) (am_up ν 10 g (h : Int)) ⟨fun _ _ => rfl, fun j hj => absurd hj (by omega)⟩
        try dsimp only at inner
        rw [s1_iff [7, 48] 200]
        simp (disch := omega) [sz_s, sz_0, gx_s, hx_r, hx_c, hx_b, hx_s, hx_i, hx_n, kx_s, kx_n, kx_i, cx_d, up_at, am_ctl, am_step, am_i1, am_i2, am_i2d, am_l1, am_l2, am_l2d, am_ldi, am_ldl, am_lda, am_sti, am_sta, am_stl, am_inc, am_i2l, am_l2i, am_lcmp, am_dup, am_dup2, am_pop1, am_fv, am_getf, am_putf, am_wr, am_ial, am_lal, am_bal, am_aal, am_ias, am_las, am_bas, am_alen, am_inst, am_cast, am_cpm, am_copy, am_tsw, am_pop, am_cat, am_cS, am_cI, am_cV, am_ri, am_rl, am_ra, am_rv, am_b1, am_b2, am_ent, am_en, am_isL, am_st1, am_st2, am_clr, am_cnd, cc_66, ac_66, nL_66, rb_66, np_11, ok_66_11, nL_11, ok_66_63, nL_63, vd_11_0, vd_11_2, vd_11_3, vd_11_6, vd_11_7, vd_11_9, np_16, ok_66_16, nL_16, vd_16_4, np_67, ok_66_67, nL_67, vd_67_10, np_68, ok_66_68, nL_68, vd_68_10, tg_4_7, tg_4_2, tg_10_5, tg_10_0, tg_10_1, tg_4_8, tg_4_9, List.getElem?_cons_succ, List.getElem?_cons_zero, nz_of, nzl_of, Int.toNat_add, Int.toNat_mul, tn_l, lt_t, lt_f, le_t, le_f, eq_t, eq_f, ltn_t, ltn_f, len_t, len_f, eqn_t, eqn_f, up_ne, up_up, sh_9, rf_9_0, sh_10, sh_73, sh_75, rf_73_2, n73, hh, v75, c, i2, show ¬ g = 5 by omega]
        simpa using inner
    · have gs : gN (μ 102) p (h + 1) = gN (μ 102) p h := by rw [gN, if_neg c]
      have q := hs' (ν, s2) ⟨⟨i1, by rw [gs]; exact i2, by rw [gs]; exact i3, by rw [gs]; exact i4, by rw [gs]; exact i5⟩, i6⟩
      rw [s1_iff [7] 200]
      simp (disch := omega) [sz_s, sz_0, gx_s, hx_r, hx_c, hx_b, hx_s, hx_i, hx_n, kx_s, kx_n, kx_i, cx_d, up_at, am_ctl, am_step, am_i1, am_i2, am_i2d, am_l1, am_l2, am_l2d, am_ldi, am_ldl, am_lda, am_sti, am_sta, am_stl, am_inc, am_i2l, am_l2i, am_lcmp, am_dup, am_dup2, am_pop1, am_fv, am_getf, am_putf, am_wr, am_ial, am_lal, am_bal, am_aal, am_ias, am_las, am_bas, am_alen, am_inst, am_cast, am_cpm, am_copy, am_tsw, am_pop, am_cat, am_cS, am_cI, am_cV, am_ri, am_rl, am_ra, am_rv, am_b1, am_b2, am_ent, am_en, am_isL, am_st1, am_st2, am_clr, am_cnd, cc_66, ac_66, nL_66, rb_66, np_11, ok_66_11, nL_11, ok_66_63, nL_63, vd_11_0, vd_11_2, vd_11_3, vd_11_6, vd_11_7, vd_11_9, np_16, ok_66_16, nL_16, vd_16_4, np_67, ok_66_67, nL_67, vd_67_10, np_68, ok_66_68, nL_68, vd_68_10, tg_4_7, tg_4_2, tg_10_5, tg_10_0, tg_10_1, tg_4_8, tg_4_9, List.getElem?_cons_succ, List.getElem?_cons_zero, nz_of, nzl_of, Int.toNat_add, Int.toNat_mul, tn_l, lt_t, lt_f, le_t, le_f, eq_t, eq_f, ltn_t, ltn_f, len_t, len_f, eqn_t, eqn_f, up_ne, up_up, sh_9, sh_73, sh_75, rf_73_2, n73, hh, v75, c]
      simpa using q) (fun s hI => by
    obtain ⟨ν, s2⟩ := s
    obtain ⟨⟨i1, i2, i3, i4, i5⟩, i6⟩ := hI
    try dsimp only at i1 i2 i3 i4 i5 i6 ⊢
    have kT := kT i3
    have hs5 : gS (μ 102) p ≤ 5 := i3
    have n73 : ν 73 7 = (nW (μ 102) : Int) := by rw [i1 73 (by omega)]; exact e0.1
    have hW : WC ν (gS (μ 102) p) (gC (μ 102) p) := ⟨i2, i3, fun i hi m hm => ⟨i5 i hi m hm, (gC_rng _ _ _ _ hm).1, (gC_rng _ _ _ _ hm).2⟩⟩
    rw [s1_iff [7] 200]
    simp (disch := omega) [sz_s, sz_0, gx_s, hx_r, hx_c, hx_b, hx_s, hx_i, hx_n, kx_s, kx_n, kx_i, cx_d, up_at, am_ctl, am_step, am_i1, am_i2, am_i2d, am_l1, am_l2, am_l2d, am_ldi, am_ldl, am_lda, am_sti, am_sta, am_stl, am_inc, am_i2l, am_l2i, am_lcmp, am_dup, am_dup2, am_pop1, am_fv, am_getf, am_putf, am_wr, am_ial, am_lal, am_bal, am_aal, am_ias, am_las, am_bas, am_alen, am_inst, am_cast, am_cpm, am_copy, am_tsw, am_pop, am_cat, am_cS, am_cI, am_cV, am_ri, am_rl, am_ra, am_rv, am_b1, am_b2, am_ent, am_en, am_isL, am_st1, am_st2, am_clr, am_cnd, cc_66, ac_66, nL_66, rb_66, np_11, ok_66_11, nL_11, ok_66_63, nL_63, vd_11_0, vd_11_2, vd_11_3, vd_11_6, vd_11_7, vd_11_9, np_16, ok_66_16, nL_16, vd_16_4, np_67, ok_66_67, nL_67, vd_67_10, np_68, ok_66_68, nL_68, vd_68_10, tg_4_7, tg_4_2, tg_10_5, tg_10_0, tg_10_1, tg_4_8, tg_4_9, List.getElem?_cons_succ, List.getElem?_cons_zero, nz_of, nzl_of, Int.toNat_add, Int.toNat_mul, tn_l, lt_t, lt_f, le_t, le_f, eq_t, eq_f, ltn_t, ltn_f, len_t, len_f, eqn_t, eqn_f, up_ne, up_up, sh_9, sh_73, n73]
    refine wp_ahead hW _ (fun ρ r1 r2 => ?_)
    have hW2 : WC ρ (gS (μ 102) p) (gC (μ 102) p) := WC_as hW (fun k hk => r1 k (by omega))
    simp (disch := omega) [sz_s, sz_0, gx_s, hx_r, hx_c, hx_b, hx_s, hx_i, hx_n, kx_s, kx_n, kx_i, cx_d, up_at, am_ctl, am_step, am_i1, am_i2, am_i2d, am_l1, am_l2, am_l2d, am_ldi, am_ldl, am_lda, am_sti, am_sta, am_stl, am_inc, am_i2l, am_l2i, am_lcmp, am_dup, am_dup2, am_pop1, am_fv, am_getf, am_putf, am_wr, am_ial, am_lal, am_bal, am_aal, am_ias, am_las, am_bas, am_alen, am_inst, am_cast, am_cpm, am_copy, am_tsw, am_pop, am_cat, am_cS, am_cI, am_cV, am_ri, am_rl, am_ra, am_rv, am_b1, am_b2, am_ent, am_en, am_isL, am_st1, am_st2, am_clr, am_cnd, cc_66, ac_66, nL_66, rb_66, np_11, ok_66_11, nL_11, ok_66_63, nL_63, vd_11_0, vd_11_2, vd_11_3, vd_11_6, vd_11_7, vd_11_9, np_16, ok_66_16, nL_16, vd_16_4, np_67, ok_66_67, nL_67, vd_67_10, np_68, ok_66_68, nL_68, vd_68_10, tg_4_7, tg_4_2, tg_10_5, tg_10_0, tg_10_1, tg_4_8, tg_4_9, List.getElem?_cons_succ, List.getElem?_cons_zero, nz_of, nzl_of, Int.toNat_add, Int.toNat_mul, tn_l, lt_t, lt_f, le_t, le_f, eq_t, eq_f, ltn_t, ltn_f, len_t, len_f, eqn_t, eqn_f, up_ne, up_up, sh_9]
    refine wp_behind hW2 _ (fun τ t1 t2 => ?_)
    have k := kT τ ⟨fun k hk => by rw [t1 k (by omega), r1 k (by omega), i1 k (by omega)], WC_as hW2 (fun k hk => t1 k (by omega)), fun i hi => by rw [t1 10 (by omega), r1 10 (by omega)]; exact i4 i hi, fun i hi z hz => by rw [t1 (18 + i) (by omega)]; exact r2 i hi z hz, t2⟩
    simp (disch := omega) [sz_s, sz_0, gx_s, hx_r, hx_c, hx_b, hx_s, hx_i, hx_n, kx_s, kx_n, kx_i, cx_d, up_at, am_ctl, am_step, am_i1, am_i2, am_i2d, am_l1, am_l2, am_l2d, am_ldi, am_ldl, am_lda, am_sti, am_sta, am_stl, am_inc, am_i2l, am_l2i, am_lcmp, am_dup, am_dup2, am_pop1, am_fv, am_getf, am_putf, am_wr, am_ial, am_lal, am_bal, am_aal, am_ias, am_las, am_bas, am_alen, am_inst, am_cast, am_cpm, am_copy, am_tsw, am_pop, am_cat, am_cS, am_cI, am_cV, am_ri, am_rl, am_ra, am_rv, am_b1, am_b2, am_ent, am_en, am_isL, am_st1, am_st2, am_clr, am_cnd, cc_66, ac_66, nL_66, rb_66, np_11, ok_66_11, nL_11, ok_66_63, nL_63, vd_11_0, vd_11_2, vd_11_3, vd_11_6, vd_11_7, vd_11_9, np_16, ok_66_16, nL_16, vd_16_4, np_67, ok_66_67, nL_67, vd_67_10, np_68, ok_66_68, nL_68, vd_68_10, tg_4_7, tg_4_2, tg_10_5, tg_10_0, tg_10_1, tg_4_8, tg_4_9, List.getElem?_cons_succ, List.getElem?_cons_zero, nz_of, nzl_of, Int.toNat_add, Int.toNat_mul, tn_l, lt_t, lt_f, le_t, le_f, eq_t, eq_f, ltn_t, ltn_f, len_t, len_f, eqn_t, eqn_f, up_ne, up_up, sh_9]
    exact k) (am_up μ 9 5 0, none) ⟨⟨fun k hk => up_ne _ _ _ (by omega), by (try dsimp only); rw [gN]; simp [up_at], by rw [gN]; omega, fun i hi => by rw [gN] at hi; omega, fun i hi => by rw [gN] at hi; omega⟩, by simp⟩
  try dsimp only at key
  unfold wpM
  rw [s1_iff [7] 200]
  simp (disch := omega) [sz_s, sz_0, gx_s, hx_r, hx_c, hx_b, hx_s, hx_i, hx_n, kx_s, kx_n, kx_i, cx_d, up_at, am_ctl, am_step, am_i1, am_i2, am_i2d, am_l1, am_l2, am_l2d, am_ldi, am_ldl, am_lda, am_sti, am_sta, am_stl, am_inc, am_i2l, am_l2i, am_lcmp, am_dup, am_dup2, am_pop1, am_fv, am_getf, am_putf, am_wr, am_ial, am_lal, am_bal, am_aal, am_ias, am_las, am_bas, am_alen, am_inst, am_cast, am_cpm, am_copy, am_tsw, am_pop, am_cat, am_cS, am_cI, am_cV, am_ri, am_rl, am_ra, am_rv, am_b1, am_b2, am_ent, am_en, am_isL, am_st1, am_st2, am_clr, am_cnd, cc_66, ac_66, nL_66, rb_66, np_11, ok_66_11, nL_11, ok_66_63, nL_63, vd_11_0, vd_11_2, vd_11_3, vd_11_6, vd_11_7, vd_11_9, np_16, ok_66_16, nL_16, vd_16_4, np_67, ok_66_67, nL_67, vd_67_10, np_68, ok_66_68, nL_68, vd_68_10, tg_4_7, tg_4_2, tg_10_5, tg_10_0, tg_10_1, tg_4_8, tg_4_9, List.getElem?_cons_succ, List.getElem?_cons_zero, nz_of, nzl_of, Int.toNat_add, Int.toNat_mul, tn_l, lt_t, lt_f, le_t, le_f, eq_t, eq_f, ltn_t, ltn_f, len_t, len_f, eqn_t, eqn_f, up_ne, up_up, sh_9]
  simpa using key
