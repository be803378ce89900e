/-! the reference's ways found -/
set_option maxHeartbeats 8000000 in
set_option maxRecDepth 100000 in
theorem fw_E {a : Nat → Nat → Bool} {c : Nat → Nat → Int} {i m : Nat} {μ : Nat → Nat → Int} (told mouths kd : Int) (h b : Nat) (hi : i < 5) (hm : m < 10) (hc : c i m = (b : Nat)) (hb : b ≤ 10) (hN : ∀ z, z < 0 → dW a c i z = 0) (hh : μ 112 i = (h : Nat)) (ha : a i m = true ↔ (¬ (h : Int) = told ∨ (m : Int) = mouths)) (hT : ∀ z, z < 100 → TS a c i m μ z) (hW : WS a c i μ) (Φ : Option AV → ST → Prop) (k : ∀ ν l7, (∀ k, ¬ (k = 114 ∨ k = 116 ∨ k = 118) → ν k = μ k) → (∀ z : Nat, z < 100 → TS a c i (m + 1) ν z) → wpS 214 274 [some (.inr (.inr (some 101))), some (.inl told), some (.inl mouths), some (.inl i), some (.inl kd), some (.inl m), some (.inl b), l7] [] (S ν) Φ) : wpS 214 147 [some (.inr (.inr (some 101))), some (.inl told), some (.inl mouths), some (.inl i), some (.inl kd), some (.inl m), some (.inl b), some (.inl b)] [] (S μ) Φ := by
  by_cases al : a i m = true
  · have al' := ha.mp al
    have key := up_to (fun (j : Nat) (ν : Nat → Nat → Int) => wpS 214 147 [some (.inr (.inr (some 101))), some (.inl told), some (.inl mouths), some (.inl i), some (.inl kd), some (.inl m), some (.inl b), some (.inl ((b + j : Nat) : Int))] [] (S ν) Φ) (fun j ν => (∀ k, ¬ (k = 114 ∨ k = 116 ∨ k = 118) → ν k = μ k) ∧ ∀ z : Nat, z < 100 → TS a c i (if z < b + j then m + 1 else m) ν z) (100 - b) (fun j ν hj hI hs' => by
      try dsimp only at hI hs' ⊢
      obtain ⟨i1, i2⟩ := hI
      obtain ⟨q, hq⟩ : ∃ q, q = b + j := ⟨_, rfl⟩
      rw [← hq] at i2 ⊢
      rw [show b + (j + 1) = q + 1 by omega] at hs'
      have tq := i2 q (by omega)
      rw [if_neg (by omega)] at tq
      obtain ⟨w1, w2⟩ := hW j (by omega)
      have v1 : ν 113 j = dW a c i j := by rw [i1 113 (by omega)]; exact w1
      have v2 : ν 112 i = (h : Nat) := by rw [i1 112 (by omega)]; exact hh
      have zj : (q : Int) - c i m = j := by rw [hc]; omega
      have ij : (q : Int) - b = j := by omega
      have nx : ∀ z, ¬ z = q → (z < q ↔ z < q + 1) := fun z hz => by omega
      by_cases p : dW a c i j = 0
      · have q' := hs' ν ⟨i1, fun z hz => by
          by_cases e : z = q
          · subst e
            rw [if_pos (by omega)]
            exact TS_no tq (fun _ => by rw [zj]; exact p)
          · have := i2 z hz
            rwa [show (if z < q then m + 1 else m) = (if z < q + 1 then m + 1 else m) by simp only [nx z e]] at this⟩
        rw [p] at v1
        by_cases t : (h : Int) = told
        · have t2 : (m : Int) = mouths := al'.resolve_left (fun y => y t)
          rw [s1_iff [147, 274] 200]
          simp (disch := omega) [sz_s, sz_0, gx_s, hx_r, hx_c, hx_b, hx_s, hx_i, hx_n, kx_s, kx_n, kx_i, cx_d, up_at, am_ctl, am_step, am_i1, am_i2, am_i2d, am_l1, am_l2, am_l2d, am_ldi, am_ldl, am_lda, am_sti, am_sta, am_stl, am_inc, am_i2l, am_l2i, am_lcmp, am_dup, am_dup2, am_pop1, am_fv, am_getf, am_putf, am_wr, am_ial, am_lal, am_bal, am_aal, am_ias, am_las, am_bas, am_alen, am_inst, am_cast, am_cpm, am_copy, am_tsw, am_pop, am_cat, am_cS, am_cI, am_cV, am_ri, am_rl, am_ra, am_rv, am_b1, am_b2, am_ent, am_en, am_isL, am_st1, am_st2, am_clr, am_cnd, cc_214, ac_214, nL_214, rb_214, ac_214_0, ac_214_1, np_158, ok_214_158, nL_158, np_185, ok_214_185, nL_185, tg_12_18, tg_12_20, tg_12_22, tg_12_17, tg_12_0, tg_12_16, tg_12_19, tg_12_21, tg_12_23, List.getElem?_cons_succ, List.getElem?_cons_zero, nz_of, nzl_of, Int.toNat_add, Int.toNat_mul, tn_l, lt_t, lt_f, le_t, le_f, eq_t, eq_f, ltn_t, ltn_f, len_t, len_f, eqn_t, eqn_f, up_ne, up_up, sh_101, sh_112, sh_113, rf_101_16, rf_101_18, am_cmp, v1, v2, t, t2, ij]
          simpa [t2] using q'
        · rw [s1_iff [147, 274] 200]
          simp (disch := omega) [sz_s, sz_0, gx_s, hx_r, hx_c, hx_b, hx_s, hx_i, hx_n, kx_s, kx_n, kx_i, cx_d, up_at, am_ctl, am_step, am_i1, am_i2, am_i2d, am_l1, am_l2, am_l2d, am_ldi, am_ldl, am_lda, am_sti, am_sta, am_stl, am_inc, am_i2l, am_l2i, am_lcmp, am_dup, am_dup2, am_pop1, am_fv, am_getf, am_putf, am_wr, am_ial, am_lal, am_bal, am_aal, am_ias, am_las, am_bas, am_alen, am_inst, am_cast, am_cpm, am_copy, am_tsw, am_pop, am_cat, am_cS, am_cI, am_cV, am_ri, am_rl, am_ra, am_rv, am_b1, am_b2, am_ent, am_en, am_isL, am_st1, am_st2, am_clr, am_cnd, cc_214, ac_214, nL_214, rb_214, ac_214_0, ac_214_1, np_158, ok_214_158, nL_158, np_185, ok_214_185, nL_185, tg_12_18, tg_12_20, tg_12_22, tg_12_17, tg_12_0, tg_12_16, tg_12_19, tg_12_21, tg_12_23, List.getElem?_cons_succ, List.getElem?_cons_zero, nz_of, nzl_of, Int.toNat_add, Int.toNat_mul, tn_l, lt_t, lt_f, le_t, le_f, eq_t, eq_f, ltn_t, ltn_f, len_t, len_f, eqn_t, eqn_f, up_ne, up_up, sh_101, sh_112, sh_113, rf_101_16, rf_101_18, am_cmp, v1, v2, t, ij]
          simpa using q'
      · obtain ⟨u1, u2, u3⟩ := w2 (by have := dW_le (a := a) (c := c) (i := i) (by omega) (j : Int); omega)
        have p1 := dW_le (a := a) (c := c) (i := i) (by omega) (j : Int)
        have p2 := pt_rng (a := a) (c := c) (i := i) (m := m) q (by omega) (by omega)
        obtain ⟨t1, t2⟩ := tq
        have p3 := LG_rng (by omega) (by omega) t2
        have r1 := AT_rng _ _ _ u1
        have r2 := AT_rng _ _ _ u2
        have v3 : ν 115 j = μ 115 j := by rw [i1 115 (by omega)]
        have v4 : ν 117 j = μ 117 j := by rw [i1 117 (by omega)]
        rw [← zj] at u1 u2 u3
        have ly := LG_yes t2 (by omega) hm al u1 u2 u3
        have pts : ptZ a c i (m + 1) q = ptZ a c i m q + dW a c i j := by unfold ptZ; rw [sumZ_s, if_pos al, zj]
        have ev := fun (F G : Int) (z : Nat) (hF : F = min (ν 116 q) (μ 115 j + m)) (hG : G = max (ν 118 q) (μ 117 j + m)) => (⟨by
          by_cases e : z = q
          · subst e; simp [up_at, pts]
          · simp [up_at, e], by
          by_cases e : z = q
          · subst e; simp [up_at, hF]
          · simp [up_at, e], by
          by_cases e : z = q
          · subst e; simp [up_at, hG]
          · simp [up_at, e]⟩ : (am_up (am_up (am_up ν 114 q (ptZ a c i m q + dW a c i j)) 116 q F) 118 q G 114 z = (if z = q then ptZ a c i (m + 1) q else ν 114 z)) ∧ (am_up (am_up (am_up ν 114 q (ptZ a c i m q + dW a c i j)) 116 q F) 118 q G 116 z = (if z = q then min (ν 116 q) (μ 115 j + m) else ν 116 z)) ∧ (am_up (am_up (am_up ν 114 q (ptZ a c i m q + dW a c i j)) 116 q F) 118 q G 118 z = (if z = q then max (ν 118 q) (μ 117 j + m) else ν 118 z)))
        have q' := hs' (am_up (am_up (am_up ν 114 q (ptZ a c i m q + dW a c i j)) 116 q (min (ν 116 q) (μ 115 j + m))) 118 q (-(min (-(ν 118 q)) (-(μ 117 j) - m)))) ⟨fun k hk => by rw [up_ne _ _ _ (by omega), up_ne _ _ _ (by omega), up_ne _ _ _ (by omega)]; exact i1 k hk, fun z hz => by
          obtain ⟨e1, e2, e3⟩ := ev _ _ z rfl (by omega : -(min (-(ν 118 q)) (-(μ 117 j) - m)) = max (ν 118 q) (μ 117 j + m))
          unfold TS
          rw [e1, e2, e3]
          by_cases e : z = q
          · subst e
            rw [if_pos rfl, if_pos rfl, if_pos rfl, if_pos (by omega)]
            exact ⟨rfl, ly⟩
          · rw [if_neg e, if_neg e, if_neg e]
            have := i2 z hz
            rwa [show (if z < q then m + 1 else m) = (if z < q + 1 then m + 1 else m) by simp only [nx z e]] at this⟩
        clear ev ly i2 hs'
        generalize hx1 : ν 116 q = x1 at *
        generalize hx2 : ν 118 q = x2 at *
        generalize hx3 : μ 115 j = x3 at *
        generalize hx4 : μ 117 j = x4 at *
        generalize ptZ a c i m q = x5 at *
        generalize dW a c i j = x6 at *
        by_cases t : (h : Int) = told
        · have t2 : (m : Int) = mouths := al'.resolve_left (fun y => y t)
          rw [s1_iff [147, 274] 200]
          simp (disch := omega) [sz_s, sz_0, gx_s, hx_r, hx_c, hx_b, hx_s, hx_i, hx_n, kx_s, kx_n, kx_i, cx_d, up_at, am_ctl, am_step, am_i1, am_i2, am_i2d, am_l1, am_l2, am_l2d, am_ldi, am_ldl, am_lda, am_sti, am_sta, am_stl, am_inc, am_i2l, am_l2i, am_lcmp, am_dup, am_dup2, am_pop1, am_fv, am_getf, am_putf, am_wr, am_ial, am_lal, am_bal, am_aal, am_ias, am_las, am_bas, am_alen, am_inst, am_cast, am_cpm, am_copy, am_tsw, am_pop, am_cat, am_cS, am_cI, am_cV, am_ri, am_rl, am_ra, am_rv, am_b1, am_b2, am_ent, am_en, am_isL, am_st1, am_st2, am_clr, am_cnd, cc_214, ac_214, nL_214, rb_214, ac_214_0, ac_214_1, np_158, ok_214_158, nL_158, np_185, ok_214_185, nL_185, tg_12_18, tg_12_20, tg_12_22, tg_12_17, tg_12_0, tg_12_16, tg_12_19, tg_12_21, tg_12_23, List.getElem?_cons_succ, List.getElem?_cons_zero, nz_of, nzl_of, Int.toNat_add, Int.toNat_mul, tn_l, lt_t, lt_f, le_t, le_f, eq_t, eq_f, ltn_t, ltn_f, len_t, len_f, eqn_t, eqn_f, up_ne, up_up, sh_101, sh_112, sh_113, sh_114, sh_115, sh_116, sh_117, sh_118, rf_101_16, rf_101_18, rf_101_19, rf_101_20, rf_101_21, rf_101_22, rf_101_23, am_cmp, v1, v2, v3, v4, t1, hx1, hx2, t, t2, ij, wm_lesser, mn_l]
          simpa [t2] using q'
        · rw [s1_iff [147, 274] 200]
          simp (disch := omega) [sz_s, sz_0, gx_s, hx_r, hx_c, hx_b, hx_s, hx_i, hx_n, kx_s, kx_n, kx_i, cx_d, up_at, am_ctl, am_step, am_i1, am_i2, am_i2d, am_l1, am_l2, am_l2d, am_ldi, am_ldl, am_lda, am_sti, am_sta, am_stl, am_inc, am_i2l, am_l2i, am_lcmp, am_dup, am_dup2, am_pop1, am_fv, am_getf, am_putf, am_wr, am_ial, am_lal, am_bal, am_aal, am_ias, am_las, am_bas, am_alen, am_inst, am_cast, am_cpm, am_copy, am_tsw, am_pop, am_cat, am_cS, am_cI, am_cV, am_ri, am_rl, am_ra, am_rv, am_b1, am_b2, am_ent, am_en, am_isL, am_st1, am_st2, am_clr, am_cnd, cc_214, ac_214, nL_214, rb_214, ac_214_0, ac_214_1, np_158, ok_214_158, nL_158, np_185, ok_214_185, nL_185, tg_12_18, tg_12_20, tg_12_22, tg_12_17, tg_12_0, tg_12_16, tg_12_19, tg_12_21, tg_12_23, List.getElem?_cons_succ, List.getElem?_cons_zero, nz_of, nzl_of, Int.toNat_add, Int.toNat_mul, tn_l, lt_t, lt_f, le_t, le_f, eq_t, eq_f, ltn_t, ltn_f, len_t, len_f, eqn_t, eqn_f, up_ne, up_up, sh_101, sh_112, sh_113, sh_114, sh_115, sh_116, sh_117, sh_118, rf_101_16, rf_101_18, rf_101_19, rf_101_20, rf_101_21, rf_101_22, rf_101_23, am_cmp, v1, v2, v3, v4, t1, hx1, hx2, t, ij, wm_lesser, mn_l]
          simpa using q') (fun ν hI => by
      try dsimp only at hI ⊢
      have k := k ν (some (.inl 100)) hI.1 (fun z hz => by
        have := hI.2 z hz
        rwa [if_pos (by omega)] at this)
      rw [show b + (100 - b) = 100 by omega]
      rw [s1_iff [147, 274] 200]
      simp (disch := omega) [sz_s, sz_0, gx_s, hx_r, hx_c, hx_b, hx_s, hx_i, hx_n, kx_s, kx_n, kx_i, cx_d, up_at, am_ctl, am_step, am_i1, am_i2, am_i2d, am_l1, am_l2, am_l2d, am_ldi, am_ldl, am_lda, am_sti, am_sta, am_stl, am_inc, am_i2l, am_l2i, am_lcmp, am_dup, am_dup2, am_pop1, am_fv, am_getf, am_putf, am_wr, am_ial, am_lal, am_bal, am_aal, am_ias, am_las, am_bas, am_alen, am_inst, am_cast, am_cpm, am_copy, am_tsw, am_pop, am_cat, am_cS, am_cI, am_cV, am_ri, am_rl, am_ra, am_rv, am_b1, am_b2, am_ent, am_en, am_isL, am_st1, am_st2, am_clr, am_cnd, cc_214, ac_214, nL_214, rb_214, ac_214_0, ac_214_1, np_158, ok_214_158, nL_158, np_185, ok_214_185, nL_185, tg_12_18, tg_12_20, tg_12_22, tg_12_17, tg_12_0, tg_12_16, tg_12_19, tg_12_21, tg_12_23, List.getElem?_cons_succ, List.getElem?_cons_zero, nz_of, nzl_of, Int.toNat_add, Int.toNat_mul, tn_l, lt_t, lt_f, le_t, le_f, eq_t, eq_f, ltn_t, ltn_f, len_t, len_f, eqn_t, eqn_f, up_ne, up_up, sh_101]
      simpa using k) μ ⟨fun _ _ => rfl, fun z hz => by
      by_cases e : z < b + 0
      · rw [if_pos e]
        exact TS_no (hT z hz) (fun _ => hN _ (by rw [hc]; omega))
      · rw [if_neg e]
        exact hT z hz⟩
    simpa using key
  · have no : (h : Int) = told ∧ ¬ (m : Int) = mouths := by
      by_cases t : (h : Int) = told
      · exact ⟨t, fun y => al (ha.mpr (Or.inr y))⟩
      · exact absurd (ha.mpr (Or.inl t)) al
    have k := k μ (some (.inl b)) (fun _ _ => rfl) (fun z hz => TS_no (hT z hz) (fun y => absurd y al))
    rw [s1_iff [147, 274] 200]
    simp (disch := omega) [sz_s, sz_0, gx_s, hx_r, hx_c, hx_b, hx_s, hx_i, hx_n, kx_s, kx_n, kx_i, cx_d, up_at, am_ctl, am_step, am_i1, am_i2, am_i2d, am_l1, am_l2, am_l2d, am_ldi, am_ldl, am_lda, am_sti, am_sta, am_stl, am_inc, am_i2l, am_l2i, am_lcmp, am_dup, am_dup2, am_pop1, am_fv, am_getf, am_putf, am_wr, am_ial, am_lal, am_bal, am_aal, am_ias, am_las, am_bas, am_alen, am_inst, am_cast, am_cpm, am_copy, am_tsw, am_pop, am_cat, am_cS, am_cI, am_cV, am_ri, am_rl, am_ra, am_rv, am_b1, am_b2, am_ent, am_en, am_isL, am_st1, am_st2, am_clr, am_cnd, cc_214, ac_214, nL_214, rb_214, ac_214_0, ac_214_1, np_158, ok_214_158, nL_158, np_185, ok_214_185, nL_185, tg_12_18, tg_12_20, tg_12_22, tg_12_17, tg_12_0, tg_12_16, tg_12_19, tg_12_21, tg_12_23, List.getElem?_cons_succ, List.getElem?_cons_zero, nz_of, nzl_of, Int.toNat_add, Int.toNat_mul, tn_l, lt_t, lt_f, le_t, le_f, eq_t, eq_f, ltn_t, ltn_f, len_t, len_f, eqn_t, eqn_f, up_ne, up_up, sh_101, sh_112, rf_101_16, hh, no.1, no.2]
    simpa using k
set_option maxHeartbeats 8000000 in
set_option maxRecDepth 100000 in
theorem fw_D {a : Nat → Nat → Bool} {c : Nat → Nat → Int} {i : Nat} {μ : Nat → Nat → Int} (told mouths kd t l : Int) (h : Nat) (hi : i < 5) (hk : 0 ≤ kd ∧ kd ≤ 5) (ht : μ 102 2 = t) (hl : μ 102 1 = l ∧ 0 ≤ l) (hc : ∀ m : Nat, m < 10 → cntP kd m m t l = c i m ∧ 0 ≤ c i m ∧ c i m ≤ 10) (hN : ∀ z, z < 0 → dW a c i z = 0) (hh : μ 112 i = (h : Nat)) (ha : ∀ m : Nat, m < 10 → (a i m = true ↔ (¬ (h : Int) = told ∨ (m : Int) = mouths))) (hT : ∀ z, z < 100 → TS a c i 0 μ z) (hW : WS a c i μ) (l6 l7 : Option AV) (Φ : Option AV → ST → Prop) (k : ∀ ν l6 l7, (∀ k, ¬ (k = 114 ∨ k = 116 ∨ k = 118) → ν k = μ k) → (∀ z : Nat, z < 100 → TS a c i 10 ν z) → wpS 214 283 [some (.inr (.inr (some 101))), some (.inl told), some (.inl mouths), some (.inl i), some (.inl kd), some (.inl 0), l6, l7] [] (S ν) Φ) : wpS 214 113 [some (.inr (.inr (some 101))), some (.inl told), some (.inl mouths), some (.inl i), some (.inl kd), some (.inl 0), l6, l7] [] (S μ) Φ := by
  have key := up_to (fun (m : Nat) (s : (Nat → Nat → Int) × Option AV × Option AV) => wpS 214 113 [some (.inr (.inr (some 101))), some (.inl told), some (.inl mouths), some (.inl i), some (.inl kd), some (.inl m), s.2.1, s.2.2] [] (S s.1) Φ) (fun m s => (∀ k, ¬ (k = 114 ∨ k = 116 ∨ k = 118) → s.1 k = μ k) ∧ ∀ z : Nat, z < 100 → TS a c i m s.1 z) 10 (fun m s hm hI hs' => by
    obtain ⟨ν, s1, s2⟩ := s
    try dsimp only at hI hs' ⊢
    obtain ⟨i1, i2⟩ := hI
    obtain ⟨c1, c2, c3⟩ := hc m hm
    obtain ⟨b, hb⟩ : ∃ b : Nat, c i m = b := ⟨(c i m).toNat, by omega⟩
    have v1 : ν 102 = μ 102 := i1 102 (by omega)
    have K : ∀ (σ : ST) (Φ : Option AV → ST → Prop), wpM 185 [.inl kd, .inl m, .inl m, .inl t, .inl l] σ Φ ↔ Φ (some (.inl (b : Int))) σ := fun σ Φ => by
      rw [wm_counted kd m m t l hk (by omega) (by omega) hl.2, c1, hb]
    have E := fw_E told mouths kd h b hi hm hb (by omega) hN (by rw [i1 112 (by omega)]; exact hh) (ha m hm) i2 (fun z hz => by rw [i1 113 (by omega), i1 115 (by omega), i1 117 (by omega)]; exact hW z hz) Φ (fun ρ l7 r1 r2 => by
      have q := hs' (ρ, some (.inl b), l7) ⟨fun k hk => by (try dsimp only); rw [r1 k hk]; exact i1 k hk, r2⟩
      rw [s1_iff [113] 200]
      simp (disch := omega) [sz_s, sz_0, gx_s, hx_r, hx_c, hx_b, hx_s, hx_i, hx_n, kx_s, kx_n, kx_i, cx_d, up_at, am_ctl, am_step, am_i1, am_i2, am_i2d, am_l1, am_l2, am_l2d, am_ldi, am_ldl, am_lda, am_sti, am_sta, am_stl, am_inc, am_i2l, am_l2i, am_lcmp, am_dup, am_dup2, am_pop1, am_fv, am_getf, am_putf, am_wr, am_ial, am_lal, am_bal, am_aal, am_ias, am_las, am_bas, am_alen, am_inst, am_cast, am_cpm, am_copy, am_tsw, am_pop, am_cat, am_cS, am_cI, am_cV, am_ri, am_rl, am_ra, am_rv, am_b1, am_b2, am_ent, am_en, am_isL, am_st1, am_st2, am_clr, am_cnd, cc_214, ac_214, nL_214, rb_214, ac_214_0, ac_214_1, np_158, ok_214_158, nL_158, np_185, ok_214_185, nL_185, tg_12_18, tg_12_20, tg_12_22, tg_12_17, tg_12_0, tg_12_16, tg_12_19, tg_12_21, tg_12_23, List.getElem?_cons_succ, List.getElem?_cons_zero, nz_of, nzl_of, Int.toNat_add, Int.toNat_mul, tn_l, lt_t, lt_f, le_t, le_f, eq_t, eq_f, ltn_t, ltn_f, len_t, len_f, eqn_t, eqn_f, up_ne, up_up, sh_101]
      simpa using q)
    rw [s1_iff [113, 147, 283] 200]
    simp (disch := omega) [sz_s, sz_0, gx_s, hx_r, hx_c, hx_b, hx_s, hx_i, hx_n, kx_s, kx_n, kx_i, cx_d, up_at, am_ctl, am_step, am_i1, am_i2, am_i2d, am_l1, am_l2, am_l2d, am_ldi, am_ldl, am_lda, am_sti, am_sta, am_stl, am_inc, am_i2l, am_l2i, am_lcmp, am_dup, am_dup2, am_pop1, am_fv, am_getf, am_putf, am_wr, am_ial, am_lal, am_bal, am_aal, am_ias, am_las, am_bas, am_alen, am_inst, am_cast, am_cpm, am_copy, am_tsw, am_pop, am_cat, am_cS, am_cI, am_cV, am_ri, am_rl, am_ra, am_rv, am_b1, am_b2, am_ent, am_en, am_isL, am_st1, am_st2, am_clr, am_cnd, cc_214, ac_214, nL_214, rb_214, ac_214_0, ac_214_1, np_158, ok_214_158, nL_158, np_185, ok_214_185, nL_185, tg_12_18, tg_12_20, tg_12_22, tg_12_17, tg_12_0, tg_12_16, tg_12_19, tg_12_21, tg_12_23, List.getElem?_cons_succ, List.getElem?_cons_zero, nz_of, nzl_of, Int.toNat_add, Int.toNat_mul, tn_l, lt_t, lt_f, le_t, le_f, eq_t, eq_f, ltn_t, ltn_f, len_t, len_f, eqn_t, eqn_f, up_ne, up_up, sh_101, sh_102, rf_101_0, v1, ht, hl.1, K]
    simpa using E) (fun s hI => by
    obtain ⟨ν, s1, s2⟩ := s
    try dsimp only at hI ⊢
    have k := k ν s1 s2 hI.1 hI.2
    rw [s1_iff [113, 283] 200]
    simp (disch := omega) [sz_s, sz_0, gx_s, hx_r, hx_c, hx_b, hx_s, hx_i, hx_n, kx_s, kx_n, kx_i, cx_d, up_at, am_ctl, am_step, am_i1, am_i2, am_i2d, am_l1, am_l2, am_l2d, am_ldi, am_ldl, am_lda, am_sti, am_sta, am_stl, am_inc, am_i2l, am_l2i, am_lcmp, am_dup, am_dup2, am_pop1, am_fv, am_getf, am_putf, am_wr, am_ial, am_lal, am_bal, am_aal, am_ias, am_las, am_bas, am_alen, am_inst, am_cast, am_cpm, am_copy, am_tsw, am_pop, am_cat, am_cS, am_cI, am_cV, am_ri, am_rl, am_ra, am_rv, am_b1, am_b2, am_ent, am_en, am_isL, am_st1, am_st2, am_clr, am_cnd, cc_214, ac_214, nL_214, rb_214, ac_214_0, ac_214_1, np_158, ok_214_158, nL_158, np_185, ok_214_185, nL_185, tg_12_18, tg_12_20, tg_12_22, tg_12_17, tg_12_0, tg_12_16, tg_12_19, tg_12_21, tg_12_23, List.getElem?_cons_succ, List.getElem?_cons_zero, nz_of, nzl_of, Int.toNat_add, Int.toNat_mul, tn_l, lt_t, lt_f, le_t, le_f, eq_t, eq_f, ltn_t, ltn_f, len_t, len_f, eqn_t, eqn_f, up_ne, up_up, sh_101]
    simpa using k) (μ, l6, l7) ⟨fun _ _ => rfl, hT⟩
  simpa using key
set_option maxHeartbeats 8000000 in
set_option maxRecDepth 100000 in
theorem wm_findWays {μ : Nat → Nat → Int} (s : Nat) (hs : Nat → Nat) (kd : Nat → Int) (t l : Int) (c : Nat → Nat → Int) (a : Nat → Nat → Bool) (told mouths : Int) (h17 : μ 101 17 = s) (hs5 : s ≤ 5) (hh : ∀ i, i < s → μ 112 i = (hs i : Int) ∧ hs i < 8 ∧ μ 102 (5 + hs i) = kd i ∧ 0 ≤ kd i ∧ kd i ≤ 5) (ht : μ 102 2 = t) (hl : μ 102 1 = l ∧ 0 ≤ l) (hc : ∀ i, i < s → ∀ m : Nat, m < 10 → cntP (kd i) m m t l = c i m ∧ 0 ≤ c i m ∧ c i m ≤ 10) (ha : ∀ i, i < s → ∀ m : Nat, m < 10 → (a i m = true ↔ (¬ (hs i : Int) = told ∨ (m : Int) = mouths))) (Φ : Option AV → ST → Prop) (k : ∀ ν, FR_ μ ν → WS a c s ν → Φ none (S ν)) : wpM 214 [.inr (.inr (some 101)), .inl told, .inl mouths] (S μ) Φ := by
  have hCB : CB c s := fun i hi m hm => (hc i hi m hm).2
  have key := up_to (fun (i : Nat) (s : (Nat → Nat → Int) × Option AV × Option AV × Option AV × Option AV) => wpS 214 45 [some (.inr (.inr (some 101))), some (.inl told), some (.inl mouths), some (.inl i), s.2.1, s.2.2.1, s.2.2.2.1, s.2.2.2.2] [] (S s.1) Φ) (fun i s => FR_ μ s.1 ∧ WS a c i s.1) s (fun i σ hi hI hs' => by
    obtain ⟨ν, s1, s2, s3, s4⟩ := σ
    try dsimp only at hI hs' ⊢
    obtain ⟨i1, i2⟩ := hI
    obtain ⟨h1, h2, h3, h4⟩ := hh i hi
    have v17 : ν 101 17 = s := by rw [i1 101 (by omega)]; exact h17
    have v1 : ν 102 = μ 102 := i1 102 (by omega)
    have v2 : ν 112 i = (hs i : Int) := by rw [i1 112 (by omega)]; exact h1
    have C := fw_C ν told mouths i (kd i) s3 s4 Φ (fun ρ r1 r2 => fw_D told mouths (kd i) t l (hs i) (by omega) h4 (by rw [r1 102 (by omega), v1]; exact ht) (by rw [r1 102 (by omega), v1]; exact hl) (hc i hi) (fun z hz => dW_neg hCB i z (by omega) hz) (by rw [r1 112 (by omega)]; exact v2) (ha i hi) (fun z hz => by
        obtain ⟨q1, q2, q3⟩ := r2 z hz
        refine ⟨by rw [q1]; rfl, ?_⟩
        rw [q2, q3]
        exact ⟨fun u ⟨q, hq, _⟩ => absurd hq (by omega), Or.inr rfl, Or.inr rfl⟩) (fun z hz => by rw [r1 113 (by omega), r1 115 (by omega), r1 117 (by omega)]; exact i2 z hz) s3 s4 Φ (fun τ l6 l7 t1 t2 => fw_F τ told mouths i (kd i) l6 l7 Φ (fun υ u1 u2 => by
          have q := hs' (υ, some (.inl (kd i)), some (.inl 100), l6, l7) ⟨fun k hk => by
            try dsimp only
            rw [u1 k (by omega), t1 k (by omega), r1 k (by omega)]; exact i1 k hk, TS_WS (by omega) t2 u2⟩
          rw [s1_iff [45] 200]
          simp (disch := omega) [sz_s, sz_0, gx_s, hx_r, hx_c, hx_b, hx_s, hx_i, hx_n, kx_s, kx_n, kx_i, cx_d, up_at, am_ctl, am_step, am_i1, am_i2, am_i2d, am_l1, am_l2, am_l2d, am_ldi, am_ldl, am_lda, am_sti, am_sta, am_stl, am_inc, am_i2l, am_l2i, am_lcmp, am_dup, am_dup2, am_pop1, am_fv, am_getf, am_putf, am_wr, am_ial, am_lal, am_bal, am_aal, am_ias, am_las, am_bas, am_alen, am_inst, am_cast, am_cpm, am_copy, am_tsw, am_pop, am_cat, am_cS, am_cI, am_cV, am_ri, am_rl, am_ra, am_rv, am_b1, am_b2, am_ent, am_en, am_isL, am_st1, am_st2, am_clr, am_cnd, cc_214, ac_214, nL_214, rb_214, ac_214_0, ac_214_1, np_158, ok_214_158, nL_158, np_185, ok_214_185, nL_185, tg_12_18, tg_12_20, tg_12_22, tg_12_17, tg_12_0, tg_12_16, tg_12_19, tg_12_21, tg_12_23, List.getElem?_cons_succ, List.getElem?_cons_zero, nz_of, nzl_of, Int.toNat_add, Int.toNat_mul, tn_l, lt_t, lt_f, le_t, le_f, eq_t, eq_f, ltn_t, ltn_f, len_t, len_f, eqn_t, eqn_f, up_ne, up_up, sh_101]
          simpa using q)))
    rw [s1_iff [45, 71] 200]
    simp (disch := omega) [sz_s, sz_0, gx_s, hx_r, hx_c, hx_b, hx_s, hx_i, hx_n, kx_s, kx_n, kx_i, cx_d, up_at, am_ctl, am_step, am_i1, am_i2, am_i2d, am_l1, am_l2, am_l2d, am_ldi, am_ldl, am_lda, am_sti, am_sta, am_stl, am_inc, am_i2l, am_l2i, am_lcmp, am_dup, am_dup2, am_pop1, am_fv, am_getf, am_putf, am_wr, am_ial, am_lal, am_bal, am_aal, am_ias, am_las, am_bas, am_alen, am_inst, am_cast, am_cpm, am_copy, am_tsw, am_pop, am_cat, am_cS, am_cI, am_cV, am_ri, am_rl, am_ra, am_rv, am_b1, am_b2, am_ent, am_en, am_isL, am_st1, am_st2, am_clr, am_cnd, cc_214, ac_214, nL_214, rb_214, ac_214_0, ac_214_1, np_158, ok_214_158, nL_158, np_185, ok_214_185, nL_185, tg_12_18, tg_12_20, tg_12_22, tg_12_17, tg_12_0, tg_12_16, tg_12_19, tg_12_21, tg_12_23, List.getElem?_cons_succ, List.getElem?_cons_zero, nz_of, nzl_of, Int.toNat_add, Int.toNat_mul, tn_l, lt_t, lt_f, le_t, le_f, eq_t, eq_f, ltn_t, ltn_f, len_t, len_f, eqn_t, eqn_f, up_ne, up_up, sh_101, sh_102, sh_112, rf_101_0, rf_101_16, v17, hi, v1, v2, h3]
    simpa using C) (fun σ hI => by
    obtain ⟨ν, s1, s2, s3, s4⟩ := σ
    try dsimp only at hI ⊢
    obtain ⟨i1, i2⟩ := hI
    have v17 : ν 101 17 = s := by rw [i1 101 (by omega)]; exact h17
    have k := k ν i1 i2
    rw [s1_iff [45] 200]
    simp (disch := omega) [sz_s, sz_0, gx_s, hx_r, hx_c, hx_b, hx_s, hx_i, hx_n, kx_s, kx_n, kx_i, cx_d, up_at, am_ctl, am_step, am_i1, am_i2, am_i2d, am_l1, am_l2, am_l2d, am_ldi, am_ldl, am_lda, am_sti, am_sta, am_stl, am_inc, am_i2l, am_l2i, am_lcmp, am_dup, am_dup2, am_pop1, am_fv, am_getf, am_putf, am_wr, am_ial, am_lal, am_bal, am_aal, am_ias, am_las, am_bas, am_alen, am_inst, am_cast, am_cpm, am_copy, am_tsw, am_pop, am_cat, am_cS, am_cI, am_cV, am_ri, am_rl, am_ra, am_rv, am_b1, am_b2, am_ent, am_en, am_isL, am_st1, am_st2, am_clr, am_cnd, cc_214, ac_214, nL_214, rb_214, ac_214_0, ac_214_1, np_158, ok_214_158, nL_158, np_185, ok_214_185, nL_185, tg_12_18, tg_12_20, tg_12_22, tg_12_17, tg_12_0, tg_12_16, tg_12_19, tg_12_21, tg_12_23, List.getElem?_cons_succ, List.getElem?_cons_zero, nz_of, nzl_of, Int.toNat_add, Int.toNat_mul, tn_l, lt_t, lt_f, le_t, le_f, eq_t, eq_f, ltn_t, ltn_f, len_t, len_f, eqn_t, eqn_f, up_ne, up_up, sh_101, v17]
    simpa using k)
  have A := fw_A μ told mouths Φ (fun ν i1 i2 => by
    have q := key (ν, none, none, none, none) ⟨i1, fun z hz => by
      obtain ⟨q1, q2, q3⟩ := i2 z hz
      try dsimp only
      refine ⟨?_, fun p => ?_⟩
      · rw [q1, dW]
        by_cases e : z = 0
        · subst e; simp
        · rw [if_neg e, if_neg (by omega)]
      · rw [q2, q3]
        rw [dW] at p
        have e : (z : Int) = 0 := by
          by_cases e : (z : Int) = 0
          · exact e
          · rw [if_neg e] at p; omega
        exact ⟨⟨e, rfl⟩, ⟨e, rfl⟩, fun u hu => by have := hu.2; omega⟩⟩
    simpa using q)
  unfold wpM
  rw [s1_iff [2] 200]
  simp (disch := omega) [sz_s, sz_0, gx_s, hx_r, hx_c, hx_b, hx_s, hx_i, hx_n, kx_s, kx_n, kx_i, cx_d, up_at, am_ctl, am_step, am_i1, am_i2, am_i2d, am_l1, am_l2, am_l2d, am_ldi, am_ldl, am_lda, am_sti, am_sta, am_stl, am_inc, am_i2l, am_l2i, am_lcmp, am_dup, am_dup2, am_pop1, am_fv, am_getf, am_putf, am_wr, am_ial, am_lal, am_bal, am_aal, am_ias, am_las, am_bas, am_alen, am_inst, am_cast, am_cpm, am_copy, am_tsw, am_pop, am_cat, am_cS, am_cI, am_cV, am_ri, am_rl, am_ra, am_rv, am_b1, am_b2, am_ent, am_en, am_isL, am_st1, am_st2, am_clr, am_cnd, cc_214, ac_214, nL_214, rb_214, ac_214_0, ac_214_1, np_158, ok_214_158, nL_158, np_185, ok_214_185, nL_185, tg_12_18, tg_12_20, tg_12_22, tg_12_17, tg_12_0, tg_12_16, tg_12_19, tg_12_21, tg_12_23, List.getElem?_cons_succ, List.getElem?_cons_zero, nz_of, nzl_of, Int.toNat_add, Int.toNat_mul, tn_l, lt_t, lt_f, le_t, le_f, eq_t, eq_f, ltn_t, ltn_f, len_t, len_f, eqn_t, eqn_f, up_ne, up_up, sh_101]
  simpa using A
