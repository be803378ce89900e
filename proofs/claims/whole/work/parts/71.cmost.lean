/-! leading of the class: the first way written, the most spoons -/
set_option maxHeartbeats 4000000 in
set_option maxRecDepth 100000 in
theorem wp_writeFirst {μ : Nat → Nat → Int} {n : Nat} {R M : Nat → Int} (h : LA μ n R M) (h0 : 0 < BH (okZ R M) n 0) (a : Nat) (ha : sh0 a = (1, 60, 0)) (ha1 : 43 ≤ a ∧ a < 73) (Φ : Option AV → ST → Prop) (k : ∀ ν : Nat → Nat → Int, (∀ k, ¬ k = a → ν k = μ k) → (∀ i, i < n → ν a i = (chM (okZ R M) n i : Nat)) → Φ none (S ν)) : wpM 46 [.inr (.inr (some 38)), .inr (.inr (some a))] (S μ) Φ := by
  have hn := h.1.1.2
  have p8 := pow8 hn
  obtain ⟨ok, hok⟩ : ∃ ok, okZ R M = ok := ⟨_, rfl⟩
  rw [hok] at k h0
  have key := up_to (fun (i : Nat) (s : (Nat → Nat → Int) × Option AV) => wpS 46 4 [some (.inr (.inr (some 38))), some (.inr (.inr (some a))), some (.inl (chS ok n i : Nat)), some (.inl i), s.2] [] (S s.1) Φ) (fun i s => (∀ k, ¬ k = a → s.1 k = μ k) ∧ ∀ j, j < i → s.1 a j = (chM ok n j : Nat)) n (fun i s hi hI hs' => by
    obtain ⟨ν, l4⟩ := s
    try dsimp only at hI hs' ⊢
    obtain ⟨i1, i2⟩ := hI
    have hν : LA ν n R M := LA_as h (fun k hk => i1 k (by omega))
    have v5 := hν.1.1.1
    obtain ⟨c1, c2, c3, c4⟩ := ch_ok hn h0 i (by omega)
    obtain ⟨m1, m2, m3⟩ := ch_m hn hi c1 c2 c3
    have eS : chS ok n (i + 1) = chS ok n i ||| 2 ^ chM ok n i := rfl
    rw [eS] at hs'
    have q := hs' (am_up ν a i (chM ok n i : Nat), some (.inl (chM ok n i : Nat))) ⟨fun k hk => by (try dsimp only); rw [up_ne _ _ _ hk]; exact i1 k hk, fun j hj => by
      try dsimp only
      rw [up_at]
      by_cases e : j = i
      · subst e; rw [if_pos ⟨rfl, rfl⟩]
      · rw [if_neg (fun q => e q.2)]; exact i2 j (by omega)⟩
    clear hs' i2
    generalize hT : chS ok n i = T at *
    generalize hm0 : chM ok n i = m0 at *
    have step : ∀ m, m < m0 → ((fun m : Nat => wpS 46 15 [some (.inr (.inr (some 38))), some (.inr (.inr (some a))), some (.inl T), some (.inl i), some (.inl m)] [] (S ν) Φ) m ↔ (fun m : Nat => wpS 46 15 [some (.inr (.inr (some 38))), some (.inr (.inr (some a))), some (.inl T), some (.inl i), some (.inl m)] [] (S ν) Φ) (m + 1)) := by
      intro m hm
      have C := fun Φ => wp_canLead hν.1 i m T hi (by omega) (by omega) Φ
      rw [hok] at C
      have no : ¬ ((T.testBit m = false ∧ ok i m = true) ∧ 0 < BH ok n (T ||| 2 ^ m)) := fun q => by
        have := m3 m hm
        rw [fP_t.mpr q] at this
        exact absurd this (by decide)
      dsimp only
      by_cases c : T.testBit m = false ∧ ok i m = true
      · have bo := bit_o T (by omega) m (by omega)
        have lt1 := or_lt_n (S := T) (n := n) (h := m) (by omega) (by omega)
        have f2 := hν.2.2 _ lt1
        rw [hok] at f2
        have r3 := BH_rng (ok := ok) hn (T ||| 2 ^ m)
        have z : BH ok n (T ||| 2 ^ m) = 0 := by
          by_cases y : 0 < BH ok n (T ||| 2 ^ m)
          · exact absurd ⟨c, y⟩ no
          · omega
        rw [z] at f2
        rw [if_pos c] at C
        generalize hu : T ||| 2 ^ m = u at *
        rw [s1_iff [15] 200]
        simp (disch := omega) [sz_s, sz_0, gx_s, hx_r, hx_c, hx_b, hx_s, hx_i, hx_n, kx_s, kx_n, kx_i, cx_d, up_at, am_ctl, am_step, am_i1, am_i2, am_i2d, am_l1, am_l2, am_l2d, am_ldi, am_ldl, am_lda, am_sti, am_sta, am_stl, am_inc, am_i2l, am_l2i, am_lcmp, am_dup, am_dup2, am_pop1, am_fv, am_getf, am_putf, am_wr, am_ial, am_lal, am_bal, am_aal, am_ias, am_las, am_bas, am_alen, am_inst, am_cast, am_cpm, am_copy, am_tsw, am_pop, am_cat, am_cS, am_cI, am_cV, am_ri, am_rl, am_ra, am_rv, am_b1, am_b2, am_ent, am_en, am_isL, am_st1, am_st2, am_clr, am_cnd, cc_46, ac_46, nL_46, rb_46, np_40, ok_46_40, nL_40, vd_40_5, tg_5_5, tg_5_3, List.getElem?_cons_succ, List.getElem?_cons_zero, nz_of, nzl_of, Int.toNat_add, Int.toNat_mul, tn_l, lt_t, lt_f, le_t, le_f, eq_t, eq_f, ltn_t, ltn_f, len_t, len_f, eqn_t, eqn_f, up_ne, up_up, sh_38, sh_42, rf_38_3, v5, C, bo, f2]
      · rw [if_neg c] at C
        rw [s1_iff [15] 200]
        simp (disch := omega) [sz_s, sz_0, gx_s, hx_r, hx_c, hx_b, hx_s, hx_i, hx_n, kx_s, kx_n, kx_i, cx_d, up_at, am_ctl, am_step, am_i1, am_i2, am_i2d, am_l1, am_l2, am_l2d, am_ldi, am_ldl, am_lda, am_sti, am_sta, am_stl, am_inc, am_i2l, am_l2i, am_lcmp, am_dup, am_dup2, am_pop1, am_fv, am_getf, am_putf, am_wr, am_ial, am_lal, am_bal, am_aal, am_ias, am_las, am_bas, am_alen, am_inst, am_cast, am_cpm, am_copy, am_tsw, am_pop, am_cat, am_cS, am_cI, am_cV, am_ri, am_rl, am_ra, am_rv, am_b1, am_b2, am_ent, am_en, am_isL, am_st1, am_st2, am_clr, am_cnd, cc_46, ac_46, nL_46, rb_46, np_40, ok_46_40, nL_40, vd_40_5, tg_5_5, tg_5_3, List.getElem?_cons_succ, List.getElem?_cons_zero, nz_of, nzl_of, Int.toNat_add, Int.toNat_mul, tn_l, lt_t, lt_f, le_t, le_f, eq_t, eq_f, ltn_t, ltn_f, len_t, len_f, eqn_t, eqn_f, up_ne, up_up, sh_38, v5, C]
    have s0 := up_iff _ m0 step
    have C := fun Φ => wp_canLead hν.1 i m0 T hi (by omega) (by omega) Φ
    obtain ⟨d1, d3⟩ := fP_t.mp m1
    rw [hok, if_pos d1] at C
    have bo := bit_o T (by omega) m0 (by omega)
    have lt1 := or_lt_n (S := T) (n := n) (h := m0) (by omega) (by omega)
    have f2 := hν.2.2 _ lt1
    rw [hok] at f2
    clear m1 m3 step eS
    generalize hu : T ||| 2 ^ m0 = u at *
    generalize BH ok n u = y at *
    rw [s1_iff [4, 15] 200]
    simp (disch := omega) [sz_s, sz_0, gx_s, hx_r, hx_c, hx_b, hx_s, hx_i, hx_n, kx_s, kx_n, kx_i, cx_d, up_at, am_ctl, am_step, am_i1, am_i2, am_i2d, am_l1, am_l2, am_l2d, am_ldi, am_ldl, am_lda, am_sti, am_sta, am_stl, am_inc, am_i2l, am_l2i, am_lcmp, am_dup, am_dup2, am_pop1, am_fv, am_getf, am_putf, am_wr, am_ial, am_lal, am_bal, am_aal, am_ias, am_las, am_bas, am_alen, am_inst, am_cast, am_cpm, am_copy, am_tsw, am_pop, am_cat, am_cS, am_cI, am_cV, am_ri, am_rl, am_ra, am_rv, am_b1, am_b2, am_ent, am_en, am_isL, am_st1, am_st2, am_clr, am_cnd, cc_46, ac_46, nL_46, rb_46, np_40, ok_46_40, nL_40, vd_40_5, tg_5_5, tg_5_3, List.getElem?_cons_succ, List.getElem?_cons_zero, nz_of, nzl_of, Int.toNat_add, Int.toNat_mul, tn_l, lt_t, lt_f, le_t, le_f, eq_t, eq_f, ltn_t, ltn_f, len_t, len_f, eqn_t, eqn_f, up_ne, up_up, sh_38, v5, hi]
    refine s0.mpr ?_
    rw [s1_iff [4, 15] 200]
    simp (disch := omega) [sz_s, sz_0, gx_s, hx_r, hx_c, hx_b, hx_s, hx_i, hx_n, kx_s, kx_n, kx_i, cx_d, up_at, am_ctl, am_step, am_i1, am_i2, am_i2d, am_l1, am_l2, am_l2d, am_ldi, am_ldl, am_lda, am_sti, am_sta, am_stl, am_inc, am_i2l, am_l2i, am_lcmp, am_dup, am_dup2, am_pop1, am_fv, am_getf, am_putf, am_wr, am_ial, am_lal, am_bal, am_aal, am_ias, am_las, am_bas, am_alen, am_inst, am_cast, am_cpm, am_copy, am_tsw, am_pop, am_cat, am_cS, am_cI, am_cV, am_ri, am_rl, am_ra, am_rv, am_b1, am_b2, am_ent, am_en, am_isL, am_st1, am_st2, am_clr, am_cnd, cc_46, ac_46, nL_46, rb_46, np_40, ok_46_40, nL_40, vd_40_5, tg_5_5, tg_5_3, List.getElem?_cons_succ, List.getElem?_cons_zero, nz_of, nzl_of, Int.toNat_add, Int.toNat_mul, tn_l, lt_t, lt_f, le_t, le_f, eq_t, eq_f, ltn_t, ltn_f, len_t, len_f, eqn_t, eqn_f, up_ne, up_up, sh_38, sh_42, rf_38_3, ha, v5, C, bo, f2]
    simpa using q) (fun s hI => by
    obtain ⟨ν, l4⟩ := s
    try dsimp only at hI ⊢
    obtain ⟨i1, i2⟩ := hI
    have hν : LA ν n R M := LA_as h (fun k hk => i1 k (by omega))
    have v5 := hν.1.1.1
    replace k := k ν i1 i2
    rw [s1_iff [4] 200]
    simp (disch := omega) [sz_s, sz_0, gx_s, hx_r, hx_c, hx_b, hx_s, hx_i, hx_n, kx_s, kx_n, kx_i, cx_d, up_at, am_ctl, am_step, am_i1, am_i2, am_i2d, am_l1, am_l2, am_l2d, am_ldi, am_ldl, am_lda, am_sti, am_sta, am_stl, am_inc, am_i2l, am_l2i, am_lcmp, am_dup, am_dup2, am_pop1, am_fv, am_getf, am_putf, am_wr, am_ial, am_lal, am_bal, am_aal, am_ias, am_las, am_bas, am_alen, am_inst, am_cast, am_cpm, am_copy, am_tsw, am_pop, am_cat, am_cS, am_cI, am_cV, am_ri, am_rl, am_ra, am_rv, am_b1, am_b2, am_ent, am_en, am_isL, am_st1, am_st2, am_clr, am_cnd, cc_46, ac_46, nL_46, rb_46, np_40, ok_46_40, nL_40, vd_40_5, tg_5_5, tg_5_3, List.getElem?_cons_succ, List.getElem?_cons_zero, nz_of, nzl_of, Int.toNat_add, Int.toNat_mul, tn_l, lt_t, lt_f, le_t, le_f, eq_t, eq_f, ltn_t, ltn_f, len_t, len_f, eqn_t, eqn_f, up_ne, up_up, sh_38, v5]
    exact k) (μ, none) ⟨fun _ _ => rfl, fun j hj => absurd hj (by omega)⟩
  try dsimp only at key
  have e0 : chS ok n 0 = 0 := rfl
  rw [e0] at key
  unfold wpM
  rw [s1_iff [4] 200]
  simp (disch := omega) [sz_s, sz_0, gx_s, hx_r, hx_c, hx_b, hx_s, hx_i, hx_n, kx_s, kx_n, kx_i, cx_d, up_at, am_ctl, am_step, am_i1, am_i2, am_i2d, am_l1, am_l2, am_l2d, am_ldi, am_ldl, am_lda, am_sti, am_sta, am_stl, am_inc, am_i2l, am_l2i, am_lcmp, am_dup, am_dup2, am_pop1, am_fv, am_getf, am_putf, am_wr, am_ial, am_lal, am_bal, am_aal, am_ias, am_las, am_bas, am_alen, am_inst, am_cast, am_cpm, am_copy, am_tsw, am_pop, am_cat, am_cS, am_cI, am_cV, am_ri, am_rl, am_ra, am_rv, am_b1, am_b2, am_ent, am_en, am_isL, am_st1, am_st2, am_clr, am_cnd, cc_46, ac_46, nL_46, rb_46, np_40, ok_46_40, nL_40, vd_40_5, tg_5_5, tg_5_3, List.getElem?_cons_succ, List.getElem?_cons_zero, nz_of, nzl_of, Int.toNat_add, Int.toNat_mul, tn_l, lt_t, lt_f, le_t, le_f, eq_t, eq_f, ltn_t, ltn_f, len_t, len_f, eqn_t, eqn_f, up_ne, up_up]
  simpa using key
/-- of numbers 1 and 0, which say whether P -/
def BV (x : Int) (P : Prop) : Prop := (P ∧ x = 1) ∨ (¬ P ∧ x = 0)
theorem BV_as {x : Int} {P Q : Prop} (h : BV x P) (e : P ↔ Q) : BV x Q := by
  rcases h with ⟨a, b⟩ | ⟨a, b⟩
  · exact Or.inl ⟨e.mp a, b⟩
  · exact Or.inr ⟨fun q => a (e.mpr q), b⟩
def RX (ok : Nat → Nat → Bool) (n al k j mm t : Nat) : Prop := rcZ ok n k t = true ∨ ∃ m, m < n ∧ (t.testBit m = true ∧ ok k m = true) ∧ rcZ ok n k (t - 2 ^ m) = true ∧ (al < (t - 2 ^ m) + j ∨ (al = (t - 2 ^ m) + j ∧ m < mm))
theorem RX_self {ok : Nat → Nat → Bool} {n al k j mm T : Nat} (hn : n ≤ 8) (hT : T < 2 ^ n) (hj : T + j = al) : RX ok n al k j mm T ↔ rcZ ok n k T = true := by
  have p8 := pow8 hn
  constructor
  · rintro (h | ⟨m, h1, h2, h3, h4⟩)
    · exact h
    · have := (sub_or T (by omega) m (by omega) h2.1).2.2
      omega
  · exact Or.inl
theorem RX_row {ok : Nat → Nat → Bool} {n al k j t : Nat} : RX ok n al k j n t ↔ RX ok n al k (j + 1) 0 t := by
  constructor
  · rintro (h | ⟨m, h1, h2, h3, h4⟩)
    · exact Or.inl h
    · exact Or.inr ⟨m, h1, h2, h3, by omega⟩
  · rintro (h | ⟨m, h1, h2, h3, h4⟩)
    · exact Or.inl h
    · exact Or.inr ⟨m, h1, h2, h3, by omega⟩
theorem RX_not {ok : Nat → Nat → Bool} {n al k j T t : Nat} (hj : T + j = al) (hr : ¬ rcZ ok n k T = true) : RX ok n al k j 0 t ↔ RX ok n al k (j + 1) 0 t := by
  constructor
  · rintro (h | ⟨m, h1, h2, h3, h4⟩)
    · exact Or.inl h
    · exact Or.inr ⟨m, h1, h2, h3, by omega⟩
  · rintro (h | ⟨m, h1, h2, h3, h4⟩)
    · exact Or.inl h
    · refine Or.inr ⟨m, h1, h2, h3, ?_⟩
      by_cases e : t - 2 ^ m = T
      · rw [e] at h3; exact absurd h3 hr
      · omega
theorem RX_other {ok : Nat → Nat → Bool} {n al k j mm T t : Nat} (hn : n ≤ 8) (hT : T < 2 ^ n) (ht : t < 2 ^ n) (hj : T + j = al) (h : ¬ ((T.testBit mm = false ∧ ok k mm = true) ∧ t = T ||| 2 ^ mm)) : RX ok n al k j mm t ↔ RX ok n al k j (mm + 1) t := by
  have p8 := pow8 hn
  constructor
  · rintro (h | ⟨m, h1, h2, h3, h4⟩)
    · exact Or.inl h
    · exact Or.inr ⟨m, h1, h2, h3, by omega⟩
  · rintro (q | ⟨m, h1, h2, h3, h4⟩)
    · exact Or.inl q
    · refine Or.inr ⟨m, h1, h2, h3, ?_⟩
      by_cases e : m = mm ∧ t - 2 ^ m = T
      · exfalso
        obtain ⟨rfl, e2⟩ := e
        have so := sub_or t (by omega) m (by omega) h2.1
        rw [e2] at so
        exact h ⟨⟨so.2.1, h2.2⟩, so.1.symm⟩
      · omega
theorem RX_new {ok : Nat → Nat → Bool} {n al k j mm T : Nat} (hn : n ≤ 8) (hT : T < 2 ^ n) (hm : mm < n) (hj : T + j = al) (hr : rcZ ok n k T = true) (h : T.testBit mm = false ∧ ok k mm = true) : RX ok n al k j (mm + 1) (T ||| 2 ^ mm) := by
  have p8 := pow8 hn
  have os := or_sub T (by omega) mm (by omega) h.1
  exact Or.inr ⟨mm, hm, ⟨by rw [tb_or]; simp, h.2⟩, by rw [os]; exact hr, by rw [os]; omega⟩
set_option maxHeartbeats 8000000 in
set_option maxRecDepth 100000 in
theorem wp_reachWith {μ : Nat → Nat → Int} {n : Nat} {R M : Nat → Int} (h : LW μ n R M) (sp : Nat) (hsp : sp < n) (hA : ∀ t, t < 2 ^ n → BV (μ 41 t) (rcZ (okZ R M) n sp t = true)) (Φ : Option AV → ST → Prop) (k : ∀ ν, (∀ k, ¬ k = 41 → ν k = μ k) → (∀ t, t < 2 ^ n → BV (ν 41 t) (rcZ (okZ R M) n (sp + 1) t = true)) → Φ none (S ν)) : wpM 48 [.inr (.inr (some 38)), .inl sp] (S μ) Φ := by
  have hn := h.1.2
  have p8 := pow8 hn
  have p0 := Nat.two_pow_pos n
  obtain ⟨al, hal⟩ : ∃ al, al = 2 ^ n - 1 := ⟨_, rfl⟩
  obtain ⟨ok, hok⟩ : ∃ ok, okZ R M = ok := ⟨_, rfl⟩
  rw [hok] at k hA
  have key := up_to (fun (j : Nat) (s : (Nat → Nat → Int) × Option AV) => wpS 48 5 [some (.inr (.inr (some 38))), some (.inl sp), some (.inl ((al : Int) - j)), s.2] [] (S s.1) Φ) (fun j s => (∀ k, ¬ k = 41 → s.1 k = μ k) ∧ ∀ t, t < 2 ^ n → BV (s.1 41 t) (RX ok n al sp j 0 t)) (al + 1) (fun j s hj hI hs' => by
    obtain ⟨ν, l3⟩ := s
    try dsimp only at hI hs' ⊢
    obtain ⟨i1, i2⟩ := hI
    obtain ⟨T, hT⟩ : ∃ T, T + j = al := ⟨al - j, by omega⟩
    have e1 : (al : Int) - j = T := by omega
    have e2 : (al : Int) - ((j + 1 : Nat) : Int) = (T : Int) - 1 := by omega
    have hm1 : (T : Int) + -1 = (T : Int) - 1 := by omega
    rw [e2] at hs'
    rw [e1]
    have hν : LW ν n R M := LW_as h (fun k hk => i1 k (by omega))
    have iT := BV_as (i2 T (by omega)) (RX_self hn (by omega) hT)
    rcases iT with ⟨hr, v⟩ | ⟨hr, v⟩
    · have inner := up_to (fun (m : Nat) (ν : Nat → Nat → Int) => wpS 48 20 [some (.inr (.inr (some 38))), some (.inl sp), some (.inl T), some (.inl m)] [] (S ν) Φ) (fun m ν => (∀ k, ¬ k = 41 → ν k = μ k) ∧ ∀ t, t < 2 ^ n → BV (ν 41 t) (RX ok n al sp j m t)) n (fun m ν hm hI hs'' => by
        try dsimp only at hI hs'' ⊢
        obtain ⟨j1, j2⟩ := hI
        have hν : LW ν n R M := LW_as h (fun k hk => j1 k (by omega))
        have v5 := hν.1.1
        have C := fun Φ => wp_canLead hν sp m T hsp hm (by omega) Φ
        rw [hok] at C
        by_cases c : T.testBit m = false ∧ ok sp m = true
        · have bo := bit_o T (by omega) m (by omega)
          have lt1 := or_lt_n (S := T) (n := n) (h := m) (by omega) hm
          have nw := RX_new (ok := ok) hn (show T < 2 ^ n by omega) hm hT hr c
          rw [if_pos c] at C
          have q := hs'' (am_up ν 41 (T ||| 2 ^ m) 1) ⟨fun k hk => by rw [up_ne _ _ _ hk]; exact j1 k hk, fun t ht => by
            rw [up_at]
            by_cases e : t = T ||| 2 ^ m
            · rw [if_pos ⟨rfl, e⟩, e]
              exact Or.inl ⟨nw, rfl⟩
            · rw [if_neg (fun q => e q.2)]
              exact BV_as (j2 t ht) (RX_other hn (by omega) ht hT (fun q => e q.2))⟩
          clear hs'' j2
          generalize hu : T ||| 2 ^ m = u at *
          rw [s1_iff [20] 200]
          simp (disch := omega) [sz_s, sz_0, gx_s, hx_r, hx_c, hx_b, hx_s, hx_i, hx_n, kx_s, kx_n, kx_i, cx_d, up_at, am_ctl, am_step, am_i1, am_i2, am_i2d, am_l1, am_l2, am_l2d, am_ldi, am_ldl, am_lda, am_sti, am_sta, am_stl, am_inc, am_i2l, am_l2i, am_lcmp, am_dup, am_dup2, am_pop1, am_fv, am_getf, am_putf, am_wr, am_ial, am_lal, am_bal, am_aal, am_ias, am_las, am_bas, am_alen, am_inst, am_cast, am_cpm, am_copy, am_tsw, am_pop, am_cat, am_cS, am_cI, am_cV, am_ri, am_rl, am_ra, am_rv, am_b1, am_b2, am_ent, am_en, am_isL, am_st1, am_st2, am_clr, am_cnd, cc_48, ac_48, nL_48, rb_48, np_39, ok_48_39, nL_39, vd_39_5, np_40, ok_48_40, nL_40, vd_40_5, tg_5_2, tg_5_5, List.getElem?_cons_succ, List.getElem?_cons_zero, nz_of, nzl_of, Int.toNat_add, Int.toNat_mul, tn_l, lt_t, lt_f, le_t, le_f, eq_t, eq_f, ltn_t, ltn_f, len_t, len_f, eqn_t, eqn_f, up_ne, up_up, sh_38, sh_41, rf_38_2, v5, C, bo]
          simpa using q
        · have q := hs'' ν ⟨j1, fun t ht => BV_as (j2 t ht) (RX_other hn (by omega) ht hT (fun q => c q.1))⟩
          rw [if_neg c] at C
          rw [s1_iff [20] 200]
          simp (disch := omega) [sz_s, sz_0, gx_s, hx_r, hx_c, hx_b, hx_s, hx_i, hx_n, kx_s, kx_n, kx_i, cx_d, up_at, am_ctl, am_step, am_i1, am_i2, am_i2d, am_l1, am_l2, am_l2d, am_ldi, am_ldl, am_lda, am_sti, am_sta, am_stl, am_inc, am_i2l, am_l2i, am_lcmp, am_dup, am_dup2, am_pop1, am_fv, am_getf, am_putf, am_wr, am_ial, am_lal, am_bal, am_aal, am_ias, am_las, am_bas, am_alen, am_inst, am_cast, am_cpm, am_copy, am_tsw, am_pop, am_cat, am_cS, am_cI, am_cV, am_ri, am_rl, am_ra, am_rv, am_b1, am_b2, am_ent, am_en, am_isL, am_st1, am_st2, am_clr, am_cnd, cc_48, ac_48, nL_48, rb_48, np_39, ok_48_39, nL_39, vd_39_5, np_40, ok_48_40, nL_40, vd_40_5, tg_5_2, tg_5_5, List.getElem?_cons_succ, List.getElem?_cons_zero, nz_of, nzl_of, Int.toNat_add, Int.toNat_mul, tn_l, lt_t, lt_f, le_t, le_f, eq_t, eq_f, ltn_t, ltn_f, len_t, len_f, eqn_t, eqn_f, up_ne, up_up, sh_38, v5, C]
          simpa using q) (fun ν hI => by
        try dsimp only at hI ⊢
        obtain ⟨j1, j2⟩ := hI
        have hν : LW ν n R M := LW_as h (fun k hk => j1 k (by omega))
        have v5 := hν.1.1
        have q := hs' (ν, some (.inl n)) ⟨j1, fun t ht => BV_as (j2 t ht) RX_row⟩
        rw [s1_iff [5, 20] 200]
        simp (disch := omega) [sz_s, sz_0, gx_s, hx_r, hx_c, hx_b, hx_s, hx_i, hx_n, kx_s, kx_n, kx_i, cx_d, up_at, am_ctl, am_step, am_i1, am_i2, am_i2d, am_l1, am_l2, am_l2d, am_ldi, am_ldl, am_lda, am_sti, am_sta, am_stl, am_inc, am_i2l, am_l2i, am_lcmp, am_dup, am_dup2, am_pop1, am_fv, am_getf, am_putf, am_wr, am_ial, am_lal, am_bal, am_aal, am_ias, am_las, am_bas, am_alen, am_inst, am_cast, am_cpm, am_copy, am_tsw, am_pop, am_cat, am_cS, am_cI, am_cV, am_ri, am_rl, am_ra, am_rv, am_b1, am_b2, am_ent, am_en, am_isL, am_st1, am_st2, am_clr, am_cnd, cc_48, ac_48, nL_48, rb_48, np_39, ok_48_39, nL_39, vd_39_5, np_40, ok_48_40, nL_40, vd_40_5, tg_5_2, tg_5_5, List.getElem?_cons_succ, List.getElem?_cons_zero, nz_of, nzl_of, Int.toNat_add, Int.toNat_mul, tn_l, lt_t, lt_f, le_t, le_f, eq_t, eq_f, ltn_t, ltn_f, len_t, len_f, eqn_t, eqn_f, up_ne, up_up, sh_38, v5, hm1]
        simpa using q) ν ⟨i1, i2⟩
      try dsimp only at inner
      rw [s1_iff [5, 20] 200]
      simp (disch := omega) [sz_s, sz_0, gx_s, hx_r, hx_c, hx_b, hx_s, hx_i, hx_n, kx_s, kx_n, kx_i, cx_d, up_at, am_ctl, am_step, am_i1, am_i2, am_i2d, am_l1, am_l2, am_l2d, am_ldi, am_ldl, am_lda, am_sti, am_sta, am_stl, am_inc, am_i2l, am_l2i, am_lcmp, am_dup, am_dup2, am_pop1, am_fv, am_getf, am_putf, am_wr, am_ial, am_lal, am_bal, am_aal, am_ias, am_las, am_bas, am_alen, am_inst, am_cast, am_cpm, am_copy, am_tsw, am_pop, am_cat, am_cS, am_cI, am_cV, am_ri, am_rl, am_ra, am_rv, am_b1, am_b2, am_ent, am_en, am_isL, am_st1, am_st2, am_clr, am_cnd, cc_48, ac_48, nL_48, rb_48, np_39, ok_48_39, nL_39, vd_39_5, np_40, ok_48_40, nL_40, vd_40_5, tg_5_2, tg_5_5, List.getElem?_cons_succ, List.getElem?_cons_zero, nz_of, nzl_of, Int.toNat_add, Int.toNat_mul, tn_l, lt_t, lt_f, le_t, le_f, eq_t, eq_f, ltn_t, ltn_f, len_t, len_f, eqn_t, eqn_f, up_ne, up_up, sh_38, sh_41, rf_38_2, v]
      simpa using inner
    · have q := hs' (ν, l3) ⟨i1, fun t ht => BV_as (i2 t ht) (RX_not hT hr)⟩
      rw [s1_iff [5] 200]
      simp (disch := omega) [sz_s, sz_0, gx_s, hx_r, hx_c, hx_b, hx_s, hx_i, hx_n, kx_s, kx_n, kx_i, cx_d, up_at, am_ctl, am_step, am_i1, am_i2, am_i2d, am_l1, am_l2, am_l2d, am_ldi, am_ldl, am_lda, am_sti, am_sta, am_stl, am_inc, am_i2l, am_l2i, am_lcmp, am_dup, am_dup2, am_pop1, am_fv, am_getf, am_putf, am_wr, am_ial, am_lal, am_bal, am_aal, am_ias, am_las, am_bas, am_alen, am_inst, am_cast, am_cpm, am_copy, am_tsw, am_pop, am_cat, am_cS, am_cI, am_cV, am_ri, am_rl, am_ra, am_rv, am_b1, am_b2, am_ent, am_en, am_isL, am_st1, am_st2, am_clr, am_cnd, cc_48, ac_48, nL_48, rb_48, np_39, ok_48_39, nL_39, vd_39_5, np_40, ok_48_40, nL_40, vd_40_5, tg_5_2, tg_5_5, List.getElem?_cons_succ, List.getElem?_cons_zero, nz_of, nzl_of, Int.toNat_add, Int.toNat_mul, tn_l, lt_t, lt_f, le_t, le_f, eq_t, eq_f, ltn_t, ltn_f, len_t, len_f, eqn_t, eqn_f, up_ne, up_up, sh_38, sh_41, rf_38_2, v, hm1]
      simpa using q) (fun s hI => by
    obtain ⟨ν, l3⟩ := s
    try dsimp only at hI ⊢
    obtain ⟨i1, i2⟩ := hI
    replace k := k ν i1 (fun t ht => BV_as (i2 t ht) (by
      rw [rcZ_s]
      constructor
      · rintro (h | ⟨m, h1, h2, h3, h4⟩)
        · exact Or.inl h
        · exact Or.inr ⟨m, h1, h2, h3⟩
      · rintro (h | ⟨m, h1, h2, h3⟩)
        · exact Or.inl h
        · exact Or.inr ⟨m, h1, h2, h3, by omega⟩))
    have e1 : (al : Int) - ((al + 1 : Nat) : Int) = -1 := by omega
    rw [e1]
    rw [s1_iff [5] 200]
    simp (disch := omega) [sz_s, sz_0, gx_s, hx_r, hx_c, hx_b, hx_s, hx_i, hx_n, kx_s, kx_n, kx_i, cx_d, up_at, am_ctl, am_step, am_i1, am_i2, am_i2d, am_l1, am_l2, am_l2d, am_ldi, am_ldl, am_lda, am_sti, am_sta, am_stl, am_inc, am_i2l, am_l2i, am_lcmp, am_dup, am_dup2, am_pop1, am_fv, am_getf, am_putf, am_wr, am_ial, am_lal, am_bal, am_aal, am_ias, am_las, am_bas, am_alen, am_inst, am_cast, am_cpm, am_copy, am_tsw, am_pop, am_cat, am_cS, am_cI, am_cV, am_ri, am_rl, am_ra, am_rv, am_b1, am_b2, am_ent, am_en, am_isL, am_st1, am_st2, am_clr, am_cnd, cc_48, ac_48, nL_48, rb_48, np_39, ok_48_39, nL_39, vd_39_5, np_40, ok_48_40, nL_40, vd_40_5, tg_5_2, tg_5_5, List.getElem?_cons_succ, List.getElem?_cons_zero, nz_of, nzl_of, Int.toNat_add, Int.toNat_mul, tn_l, lt_t, lt_f, le_t, le_f, eq_t, eq_f, ltn_t, ltn_f, len_t, len_f, eqn_t, eqn_f, up_ne, up_up, sh_38]
    exact k) (μ, none) ⟨fun _ _ => rfl, fun t ht => BV_as (hA t ht) ⟨Or.inl, fun q => q.elim id (fun ⟨m, h1, h2, h3, h4⟩ => by
      exfalso
      have := Nat.sub_le t (2 ^ m)
      omega)⟩⟩
  try dsimp only at key
  have A := fun Φ => wp_allM h.1.1 hn al hal Φ
  unfold wpM
  rw [s1_iff [5] 200]
  simp (disch := omega) [sz_s, sz_0, gx_s, hx_r, hx_c, hx_b, hx_s, hx_i, hx_n, kx_s, kx_n, kx_i, cx_d, up_at, am_ctl, am_step, am_i1, am_i2, am_i2d, am_l1, am_l2, am_l2d, am_ldi, am_ldl, am_lda, am_sti, am_sta, am_stl, am_inc, am_i2l, am_l2i, am_lcmp, am_dup, am_dup2, am_pop1, am_fv, am_getf, am_putf, am_wr, am_ial, am_lal, am_bal, am_aal, am_ias, am_las, am_bas, am_alen, am_inst, am_cast, am_cpm, am_copy, am_tsw, am_pop, am_cat, am_cS, am_cI, am_cV, am_ri, am_rl, am_ra, am_rv, am_b1, am_b2, am_ent, am_en, am_isL, am_st1, am_st2, am_clr, am_cnd, cc_48, ac_48, nL_48, rb_48, np_39, ok_48_39, nL_39, vd_39_5, np_40, ok_48_40, nL_40, vd_40_5, tg_5_2, tg_5_5, List.getElem?_cons_succ, List.getElem?_cons_zero, nz_of, nzl_of, Int.toNat_add, Int.toNat_mul, tn_l, lt_t, lt_f, le_t, le_f, eq_t, eq_f, ltn_t, ltn_f, len_t, len_f, eqn_t, eqn_f, up_ne, up_up, sh_38, A]
  simpa using key
set_option maxHeartbeats 4000000 in
set_option maxRecDepth 100000 in
theorem wp_mostSpoons {μ : Nat → Nat → Int} {n : Nat} {R M : Nat → Int} (h : LW μ n R M) (Φ : Option AV → ST → Prop) (k : ∀ ν, (∀ k, ¬ k = 41 → ν k = μ k) → Φ (some (.inl (moZ (rcZ (okZ R M) n n) (2 ^ n)))) (S ν)) : wpM 47 [.inr (.inr (some 38))] (S μ) Φ := by
  have hn := h.1.2
  have p8 := pow8 hn
  have p0 := Nat.two_pow_pos n
  obtain ⟨al, hal⟩ : ∃ al, al = 2 ^ n - 1 := ⟨_, rfl⟩
  obtain ⟨ok, hok⟩ : ∃ ok, okZ R M = ok := ⟨_, rfl⟩
  rw [hok] at k
  have ends : ∀ ν : Nat → Nat → Int, (∀ k, ¬ k = 41 → ν k = μ k) → (∀ t, t < 2 ^ n → BV (ν 41 t) (rcZ ok n n t = true)) → wpS 47 40 [some (.inr (.inr (some 38))), some (.inl 0), some (.inl 0)] [] (S ν) Φ := fun ν i1 i2 => by
    have hν : LW ν n R M := LW_as h (fun k hk => i1 k (by omega))
    have A := fun Φ => wp_allM hν.1.1 hn al hal Φ
    have step : ∀ T, T < al + 1 → ((fun T : Nat => wpS 47 40 [some (.inr (.inr (some 38))), some (.inl (moZ (rcZ ok n n) T)), some (.inl T)] [] (S ν) Φ) T ↔ (fun T : Nat => wpS 47 40 [some (.inr (.inr (some 38))), some (.inl (moZ (rcZ ok n n) T)), some (.inl T)] [] (S ν) Φ) (T + 1)) := by
      intro T hT
      have r := mo_rng (P := rcZ ok n n) T
      have rp := pcZ_rng T
      dsimp only
      rw [moZ]
      rcases i2 T (by omega) with ⟨y, v⟩ | ⟨y, v⟩
      · rw [if_pos y]
        have B := fun σ Φ => wp_bits T (by omega) σ Φ
        generalize moZ (rcZ ok n n) T = x at *
        generalize pcZ T = p at *
        rw [s1_iff [40] 200]
        simp (disch := omega) [sz_s, sz_0, gx_s, hx_r, hx_c, hx_b, hx_s, hx_i, hx_n, kx_s, kx_n, kx_i, cx_d, up_at, am_ctl, am_step, am_i1, am_i2, am_i2d, am_l1, am_l2, am_l2d, am_ldi, am_ldl, am_lda, am_sti, am_sta, am_stl, am_inc, am_i2l, am_l2i, am_lcmp, am_dup, am_dup2, am_pop1, am_fv, am_getf, am_putf, am_wr, am_ial, am_lal, am_bal, am_aal, am_ias, am_las, am_bas, am_alen, am_inst, am_cast, am_cpm, am_copy, am_tsw, am_pop, am_cat, am_cS, am_cI, am_cV, am_ri, am_rl, am_ra, am_rv, am_b1, am_b2, am_ent, am_en, am_isL, am_st1, am_st2, am_clr, am_cnd, cc_47, ac_47, nL_47, rb_47, np_249, ok_47_249, nL_249, np_251, ok_47_251, nL_251, np_253, ok_47_253, nL_253, np_39, ok_47_39, nL_39, vd_39_5, np_48, ok_47_48, nL_48, vd_48_5, tg_5_2, tg_5_5, List.getElem?_cons_succ, List.getElem?_cons_zero, nz_of, nzl_of, Int.toNat_add, Int.toNat_mul, tn_l, lt_t, lt_f, le_t, le_f, eq_t, eq_f, ltn_t, ltn_f, len_t, len_f, eqn_t, eqn_f, up_ne, up_up, sh_38, sh_41, rf_38_2, A, v, B, wp_max, mx_e]
      · rw [if_neg y]
        generalize moZ (rcZ ok n n) T = x at *
        rw [s1_iff [40] 200]
        simp (disch := omega) [sz_s, sz_0, gx_s, hx_r, hx_c, hx_b, hx_s, hx_i, hx_n, kx_s, kx_n, kx_i, cx_d, up_at, am_ctl, am_step, am_i1, am_i2, am_i2d, am_l1, am_l2, am_l2d, am_ldi, am_ldl, am_lda, am_sti, am_sta, am_stl, am_inc, am_i2l, am_l2i, am_lcmp, am_dup, am_dup2, am_pop1, am_fv, am_getf, am_putf, am_wr, am_ial, am_lal, am_bal, am_aal, am_ias, am_las, am_bas, am_alen, am_inst, am_cast, am_cpm, am_copy, am_tsw, am_pop, am_cat, am_cS, am_cI, am_cV, am_ri, am_rl, am_ra, am_rv, am_b1, am_b2, am_ent, am_en, am_isL, am_st1, am_st2, am_clr, am_cnd, cc_47, ac_47, nL_47, rb_47, np_249, ok_47_249, nL_249, np_251, ok_47_251, nL_251, np_253, ok_47_253, nL_253, np_39, ok_47_39, nL_39, vd_39_5, np_48, ok_47_48, nL_48, vd_48_5, tg_5_2, tg_5_5, List.getElem?_cons_succ, List.getElem?_cons_zero, nz_of, nzl_of, Int.toNat_add, Int.toNat_mul, tn_l, lt_t, lt_f, le_t, le_f, eq_t, eq_f, ltn_t, ltn_f, len_t, len_f, eqn_t, eqn_f, up_ne, up_up, sh_38, sh_41, rf_38_2, A, v]
    have s0 := up_iff _ (al + 1) step
    replace k := k ν i1
    rw [show 2 ^ n = al + 1 by omega] at k
    have e0 : moZ (rcZ ok n n) 0 = 0 := rfl
    rw [e0] at s0
    refine s0.mpr ?_
    generalize moZ (rcZ ok n n) (al + 1) = x at *
    rw [s1_iff [40] 200]
    simp (disch := omega) [sz_s, sz_0, gx_s, hx_r, hx_c, hx_b, hx_s, hx_i, hx_n, kx_s, kx_n, kx_i, cx_d, up_at, am_ctl, am_step, am_i1, am_i2, am_i2d, am_l1, am_l2, am_l2d, am_ldi, am_ldl, am_lda, am_sti, am_sta, am_stl, am_inc, am_i2l, am_l2i, am_lcmp, am_dup, am_dup2, am_pop1, am_fv, am_getf, am_putf, am_wr, am_ial, am_lal, am_bal, am_aal, am_ias, am_las, am_bas, am_alen, am_inst, am_cast, am_cpm, am_copy, am_tsw, am_pop, am_cat, am_cS, am_cI, am_cV, am_ri, am_rl, am_ra, am_rv, am_b1, am_b2, am_ent, am_en, am_isL, am_st1, am_st2, am_clr, am_cnd, cc_47, ac_47, nL_47, rb_47, np_249, ok_47_249, nL_249, np_251, ok_47_251, nL_251, np_253, ok_47_253, nL_253, np_39, ok_47_39, nL_39, vd_39_5, np_48, ok_47_48, nL_48, vd_48_5, tg_5_2, tg_5_5, List.getElem?_cons_succ, List.getElem?_cons_zero, nz_of, nzl_of, Int.toNat_add, Int.toNat_mul, tn_l, lt_t, lt_f, le_t, le_f, eq_t, eq_f, ltn_t, ltn_f, len_t, len_f, eqn_t, eqn_f, up_ne, up_up, sh_38, A]
    exact k
  have key := up_to (fun (i : Nat) (ν : Nat → Nat → Int) => wpS 47 17 [some (.inr (.inr (some 38))), some (.inl i), none] [] (S ν) Φ) (fun i ν => (∀ k, ¬ k = 41 → ν k = μ k) ∧ ∀ t, t < 2 ^ n → BV (ν 41 t) (rcZ ok n i t = true)) n (fun i ν hi hI hs' => by
    try dsimp only at hI hs' ⊢
    obtain ⟨i1, i2⟩ := hI
    have hν : LW ν n R M := LW_as h (fun k hk => i1 k (by omega))
    have v5 := hν.1.1
    rw [s1_iff [17] 200]
    simp (disch := omega) [sz_s, sz_0, gx_s, hx_r, hx_c, hx_b, hx_s, hx_i, hx_n, kx_s, kx_n, kx_i, cx_d, up_at, am_ctl, am_step, am_i1, am_i2, am_i2d, am_l1, am_l2, am_l2d, am_ldi, am_ldl, am_lda, am_sti, am_sta, am_stl, am_inc, am_i2l, am_l2i, am_lcmp, am_dup, am_dup2, am_pop1, am_fv, am_getf, am_putf, am_wr, am_ial, am_lal, am_bal, am_aal, am_ias, am_las, am_bas, am_alen, am_inst, am_cast, am_cpm, am_copy, am_tsw, am_pop, am_cat, am_cS, am_cI, am_cV, am_ri, am_rl, am_ra, am_rv, am_b1, am_b2, am_ent, am_en, am_isL, am_st1, am_st2, am_clr, am_cnd, cc_47, ac_47, nL_47, rb_47, np_249, ok_47_249, nL_249, np_251, ok_47_251, nL_251, np_253, ok_47_253, nL_253, np_39, ok_47_39, nL_39, vd_39_5, np_48, ok_47_48, nL_48, vd_48_5, tg_5_2, tg_5_5, List.getElem?_cons_succ, List.getElem?_cons_zero, nz_of, nzl_of, Int.toNat_add, Int.toNat_mul, tn_l, lt_t, lt_f, le_t, le_f, eq_t, eq_f, ltn_t, ltn_f, len_t, len_f, eqn_t, eqn_f, up_ne, up_up, sh_38, v5, hi]
    refine wp_reachWith hν i hi (by rw [hok]; exact i2) _ (fun ρ r1 r2 => ?_)
    rw [hok] at r2
    have q := hs' ρ ⟨fun k hk => by rw [r1 k hk]; exact i1 k hk, r2⟩
    simp (disch := omega) [sz_s, sz_0, gx_s, hx_r, hx_c, hx_b, hx_s, hx_i, hx_n, kx_s, kx_n, kx_i, cx_d, up_at, am_ctl, am_step, am_i1, am_i2, am_i2d, am_l1, am_l2, am_l2d, am_ldi, am_ldl, am_lda, am_sti, am_sta, am_stl, am_inc, am_i2l, am_l2i, am_lcmp, am_dup, am_dup2, am_pop1, am_fv, am_getf, am_putf, am_wr, am_ial, am_lal, am_bal, am_aal, am_ias, am_las, am_bas, am_alen, am_inst, am_cast, am_cpm, am_copy, am_tsw, am_pop, am_cat, am_cS, am_cI, am_cV, am_ri, am_rl, am_ra, am_rv, am_b1, am_b2, am_ent, am_en, am_isL, am_st1, am_st2, am_clr, am_cnd, cc_47, ac_47, nL_47, rb_47, np_249, ok_47_249, nL_249, np_251, ok_47_251, nL_251, np_253, ok_47_253, nL_253, np_39, ok_47_39, nL_39, vd_39_5, np_48, ok_47_48, nL_48, vd_48_5, tg_5_2, tg_5_5, List.getElem?_cons_succ, List.getElem?_cons_zero, nz_of, nzl_of, Int.toNat_add, Int.toNat_mul, tn_l, lt_t, lt_f, le_t, le_f, eq_t, eq_f, ltn_t, ltn_f, len_t, len_f, eqn_t, eqn_f, up_ne, up_up, sh_38]
    simpa using q) (fun ν hI => by
    try dsimp only at hI ⊢
    obtain ⟨i1, i2⟩ := hI
    have hν : LW ν n R M := LW_as h (fun k hk => i1 k (by omega))
    have v5 := hν.1.1
    have q := ends ν i1 i2
    rw [s1_iff [17, 40] 200]
    simp (disch := omega) [sz_s, sz_0, gx_s, hx_r, hx_c, hx_b, hx_s, hx_i, hx_n, kx_s, kx_n, kx_i, cx_d, up_at, am_ctl, am_step, am_i1, am_i2, am_i2d, am_l1, am_l2, am_l2d, am_ldi, am_ldl, am_lda, am_sti, am_sta, am_stl, am_inc, am_i2l, am_l2i, am_lcmp, am_dup, am_dup2, am_pop1, am_fv, am_getf, am_putf, am_wr, am_ial, am_lal, am_bal, am_aal, am_ias, am_las, am_bas, am_alen, am_inst, am_cast, am_cpm, am_copy, am_tsw, am_pop, am_cat, am_cS, am_cI, am_cV, am_ri, am_rl, am_ra, am_rv, am_b1, am_b2, am_ent, am_en, am_isL, am_st1, am_st2, am_clr, am_cnd, cc_47, ac_47, nL_47, rb_47, np_249, ok_47_249, nL_249, np_251, ok_47_251, nL_251, np_253, ok_47_253, nL_253, np_39, ok_47_39, nL_39, vd_39_5, np_48, ok_47_48, nL_48, vd_48_5, tg_5_2, tg_5_5, List.getElem?_cons_succ, List.getElem?_cons_zero, nz_of, nzl_of, Int.toNat_add, Int.toNat_mul, tn_l, lt_t, lt_f, le_t, le_f, eq_t, eq_f, ltn_t, ltn_f, len_t, len_f, eqn_t, eqn_f, up_ne, up_up, sh_38, v5]
    exact q)
  have F := wp_fill 41 256 0 (by omega) sh_41 (by decide) μ
  have q := key (am_up (fl μ 41 256 0) 41 0 1) ⟨fun k hk => by rw [up_ne _ _ _ hk, fl_ne _ _ _ _ _ hk], fun t ht => by
    rw [up_at]
    by_cases e : t = 0
    · subst e; rw [if_pos ⟨rfl, rfl⟩]; exact Or.inl ⟨rfl, rfl⟩
    · rw [if_neg (fun q => e q.2), fl_in _ _ _ _ _ (by omega)]
      exact Or.inr ⟨fun q => by
        have q : (t == 0) = true := q
        simp at q
        exact e q, rfl⟩⟩
  try dsimp only at q
  unfold wpM
  rw [s1_iff [17] 200]
  simp (disch := omega) [sz_s, sz_0, gx_s, hx_r, hx_c, hx_b, hx_s, hx_i, hx_n, kx_s, kx_n, kx_i, cx_d, up_at, am_ctl, am_step, am_i1, am_i2, am_i2d, am_l1, am_l2, am_l2d, am_ldi, am_ldl, am_lda, am_sti, am_sta, am_stl, am_inc, am_i2l, am_l2i, am_lcmp, am_dup, am_dup2, am_pop1, am_fv, am_getf, am_putf, am_wr, am_ial, am_lal, am_bal, am_aal, am_ias, am_las, am_bas, am_alen, am_inst, am_cast, am_cpm, am_copy, am_tsw, am_pop, am_cat, am_cS, am_cI, am_cV, am_ri, am_rl, am_ra, am_rv, am_b1, am_b2, am_ent, am_en, am_isL, am_st1, am_st2, am_clr, am_cnd, cc_47, ac_47, nL_47, rb_47, np_249, ok_47_249, nL_249, np_251, ok_47_251, nL_251, np_253, ok_47_253, nL_253, np_39, ok_47_39, nL_39, vd_39_5, np_48, ok_47_48, nL_48, vd_48_5, tg_5_2, tg_5_5, List.getElem?_cons_succ, List.getElem?_cons_zero, nz_of, nzl_of, Int.toNat_add, Int.toNat_mul, tn_l, lt_t, lt_f, le_t, le_f, eq_t, eq_f, ltn_t, ltn_f, len_t, len_f, eqn_t, eqn_f, up_ne, up_up, sh_38, sh_41, rf_38_2, F]
  simpa using q
