/-! the class's greatest sums of mouths -/
theorem mx_e (a b : Int) : (if b ≤ a then a else b) = max a b := by rw [Int.max_def]; split <;> split <;> omega
def QT (c : Nat → Nat → Int) (i n m : Nat) (z v : Int) : Prop := ∃ q : Nat, q < 10 ∧ (z - c i q < n ∨ (z - c i q = n ∧ q < m)) ∧ AT tt_ c i (z - c i q) (v - q)
def BX (P : Int → Prop) (t x : Int) : Prop := (∀ u, P u → t * u ≤ x) ∧ ((∃ u, P u ∧ x = t * u) ∨ x = -50)
/-- extremes stand written -/
def EX (c : Nat → Nat → Int) (t : Int) (i : Nat) (ν : Nat → Nat → Int) : Prop := ∀ z : Nat, z ≤ 50 → 0 < dW tt_ c i z → (∃ u, AT tt_ c i z u ∧ ν (32 + i) z = t * u) ∧ ∀ u, AT tt_ c i z u → t * u ≤ ν (32 + i) z
theorem BX_as {P Q : Int → Prop} {t x : Int} (h : BX P t x) (e : ∀ u, P u ↔ Q u) : BX Q t x :=
  ⟨fun u hu => h.1 u ((e u).mpr hu), h.2.imp (fun ⟨u, h1, h2⟩ => ⟨u, (e u).mp h1, h2⟩) id⟩
theorem BX_more {c : Nat → Nat → Int} {i n m : Nat} {w : Nat} {t x E : Int} (hm : m < 10) (hw : (w : Int) - c i m = n) (h : BX (QT c i n m w) t x) (h1 : ∃ u, AT tt_ c i n u ∧ E = t * u) (h2 : ∀ u, AT tt_ c i n u → t * u ≤ E) (lo : -50 ≤ E + t * m) : BX (QT c i n (m + 1) w) t (max x (E + t * m)) := by
  refine ⟨fun u ⟨q, q1, q2, q3⟩ => ?_, ?_⟩
  · by_cases e : (w : Int) - c i q = n ∧ q = m
    · obtain ⟨e1, rfl⟩ := e
      rw [e1] at q3
      have := h2 _ q3
      rw [Int.mul_sub] at this
      omega
    · have := h.1 u ⟨q, q1, by omega, q3⟩
      omega
  · by_cases y : E + t * m ≤ x
    · rw [Int.max_eq_left y]
      rcases h.2 with ⟨u, ⟨q, q1, q2, q3⟩, h3⟩ | h3
      · exact Or.inl ⟨u, ⟨q, q1, by omega, q3⟩, h3⟩
      · exact Or.inr h3
    · rw [Int.max_eq_right (by omega)]
      obtain ⟨u, u1, u2⟩ := h1
      exact Or.inl ⟨u + m, ⟨m, hm, Or.inr ⟨hw, by omega⟩, by rw [hw, show u + (m : Int) - m = u by omega]; exact u1⟩, by rw [Int.mul_add, u2]⟩
theorem QT_no {c : Nat → Nat → Int} {i n m : Nat} {w : Nat} (hw : ¬ (w : Int) - c i m = n) (u : Int) : QT c i n m w u ↔ QT c i n (m + 1) w u :=
  ⟨fun ⟨q, q1, q2, q3⟩ => ⟨q, q1, by omega, q3⟩, fun ⟨q, q1, q2, q3⟩ => ⟨q, q1, by
    by_cases e : q = m
    · subst e; omega
    · omega, q3⟩⟩
theorem QT_row {c : Nat → Nat → Int} {i n : Nat} {z : Int} (u : Int) : QT c i n 10 z u ↔ QT c i (n + 1) 0 z u :=
  ⟨fun ⟨q, q1, q2, q3⟩ => ⟨q, q1, by omega, q3⟩, fun ⟨q, q1, q2, q3⟩ => ⟨q, q1, by omega, q3⟩⟩
theorem QT_zero {c : Nat → Nat → Int} {i n : Nat} {z : Int} (p : dW tt_ c i n = 0) (u : Int) : QT c i n 0 z u ↔ QT c i (n + 1) 0 z u :=
  ⟨fun ⟨q, q1, q2, q3⟩ => ⟨q, q1, by omega, q3⟩, fun ⟨q, q1, q2, q3⟩ => ⟨q, q1, by
    by_cases e : z - c i q = n
    · rw [e] at q3; exact absurd q3 (AT_no p _)
    · omega, q3⟩⟩
theorem QT_end {c : Nat → Nat → Int} {i : Nat} {z : Nat} (hz : z ≤ 50) (hc : ∀ m, m < 10 → 0 ≤ c i m) (u : Int) : QT c i 51 0 z u ↔ AT tt_ c (i + 1) z u :=
  ⟨fun ⟨q, q1, q2, q3⟩ => ⟨q, q1, rfl, q3⟩, fun ⟨q, q1, q2, q3⟩ => ⟨q, q1, by have := hc q q1; omega, q3⟩⟩
theorem tu_rng {t u : Int} {k : Int} (ht : t = 1 ∨ t = -1) (hu : 0 ≤ u ∧ u ≤ k) : -k ≤ t * u ∧ t * u ≤ k := by
  rcases ht with rfl | rfl <;> omega
set_option maxHeartbeats 8000000 in
set_option maxRecDepth 100000 in
theorem wp_raise {μ : Nat → Nat → Int} {s : Nat} {c : Nat → Nat → Int} (hW : WC μ s c) (i : Nat) (hi : i < s) (t : Int) (ht : t = 1 ∨ t = -1) (hA : ∀ z : Nat, z ≤ 50 → μ (18 + i) z = dW tt_ c i z) (hE : EX c t i μ) (h0 : ∀ z : Nat, z ≤ 50 → μ (32 + (i + 1)) z = -50) (Φ : Option AV → ST → Prop) (k : ∀ ν, (∀ k, ¬ k = 32 + (i + 1) → ν k = μ k) → EX c t (i + 1) ν → Φ none (S ν)) : wpM 77 [.inr (.inr (some 9)), .inl i, .inl t] (S μ) Φ := by
  have hs := hW.2.1
  obtain ⟨g1, g2⟩ := g_way i (by omega)
  obtain ⟨⟨a1, a2⟩, -, ⟨b1, b2⟩⟩ := g_way6 i (by omega)
  obtain ⟨-, -, ⟨d1, d2⟩⟩ := g_way6 (i + 1) (by omega)
  have key := up_to (fun (n : Nat) (s : (Nat → Nat → Int) × Option AV × Option AV) => wpS 77 2 [some (.inr (.inr (some 9))), some (.inl i), some (.inl t), some (.inl n), s.2.1, s.2.2] [] (S s.1) Φ) (fun n s => (∀ k, ¬ k = 32 + (i + 1) → s.1 k = μ k) ∧ ∀ z : Nat, z ≤ 50 → BX (QT c i n 0 z) t (s.1 (32 + (i + 1)) z)) 51 (fun n s hn hI hs' => by
    obtain ⟨ν, s1, s2⟩ := s
    obtain ⟨i1, i2⟩ := hI
    try dsimp only at i1 i2 hs' ⊢
    have va : ν (18 + i) n = dW tt_ c i n := by rw [i1 (18 + i) (by omega)]; exact hA n (by omega)
    have fn := dW_4 (a := tt_) (c := c) (i := i) (by omega) (n : Int)
    by_cases z : dW tt_ c i n = 0
    · have q := hs' (ν, s1, s2) ⟨i1, fun y hy => BX_as (i2 y hy) (QT_zero z)⟩
      rw [z] at va
      rw [s1_iff [2] 200]
      simp (disch := omega) [sz_s, sz_0, gx_s, hx_r, hx_c, hx_b, hx_s, hx_i, hx_n, kx_s, kx_n, kx_i, cx_d, up_at, am_ctl, am_step, am_i1, am_i2, am_i2d, am_l1, am_l2, am_l2d, am_ldi, am_ldl, am_lda, am_sti, am_sta, am_stl, am_inc, am_i2l, am_l2i, am_lcmp, am_dup, am_dup2, am_pop1, am_fv, am_getf, am_putf, am_wr, am_ial, am_lal, am_bal, am_aal, am_ias, am_las, am_bas, am_alen, am_inst, am_cast, am_cpm, am_copy, am_tsw, am_pop, am_cat, am_cS, am_cI, am_cV, am_ri, am_rl, am_ra, am_rv, am_b1, am_b2, am_ent, am_en, am_isL, am_st1, am_st2, am_clr, am_cnd, cc_77, ac_77, nL_77, rb_77, np_251, ok_77_251, nL_251, tg_10_2, tg_10_1, tg_10_4, List.getElem?_cons_succ, List.getElem?_cons_zero, nz_of, nzl_of, Int.toNat_add, Int.toNat_mul, tn_l, lt_t, lt_f, le_t, le_f, eq_t, eq_f, ltn_t, ltn_f, len_t, len_f, eqn_t, eqn_f, up_ne, up_up, sh_9, rf_9_2, sh_17, a1, a2, va]
      simpa using q
    · obtain ⟨e1, e2⟩ := hE n (by omega) (by omega)
      have inner := up_to (fun (m : Nat) (s : (Nat → Nat → Int) × Option AV) => wpS 77 22 [some (.inr (.inr (some 9))), some (.inl i), some (.inl t), some (.inl n), some (.inl m), s.2] [] (S s.1) Φ) (fun m s => (∀ k, ¬ k = 32 + (i + 1) → s.1 k = μ k) ∧ ∀ z : Nat, z ≤ 50 → BX (QT c i n m z) t (s.1 (32 + (i + 1)) z)) 10 (fun m s hm hI hs' => by
        obtain ⟨ρ, s2⟩ := s
        obtain ⟨j1, j2⟩ := hI
        try dsimp only at j1 j2 hs' ⊢
        have cm := hW.2.2 i hi m hm
        have vc : ρ (12 + i) m = c i m := by rw [j1 (12 + i) (by omega)]; exact cm.1
        have ve : ρ (32 + i) n = μ (32 + i) n := by rw [j1 (32 + i) (by omega)]
        obtain ⟨w, hw⟩ : ∃ w : Nat, (n : Int) + c i m = w := ⟨((n : Int) + c i m).toNat, by omega⟩
        by_cases far : w ≤ 50
        · have rE : -36 ≤ μ (32 + i) n ∧ μ (32 + i) n ≤ 36 := by
            obtain ⟨u, u1, u2⟩ := e1
            have := AT_rng _ _ _ u1
            rw [u2]
            exact tu_rng ht (by omega)
          have rm := tu_rng (u := m) (k := 9) ht (by omega)
          have bw := j2 w far
          have rx : -50 ≤ ρ (32 + (i + 1)) w ∧ ρ (32 + (i + 1)) w ≤ 100 := by
            rcases bw.2 with ⟨u, ⟨q, q1, q2, q3⟩, u2⟩ | u2
            · have := AT_rng _ _ _ q3
              rw [u2]
              have := tu_rng (u := u) (k := 45) ht (by omega)
              omega
            · omega
          have more := BX_more hm (by omega) bw e1 e2 (by omega)
          have q := hs' (am_up ρ (32 + (i + 1)) w (max (ρ (32 + (i + 1)) w) (μ (32 + i) n + t * m)), some (.inl w)) ⟨fun k hk => by (try dsimp only); rw [up_ne _ _ _ hk]; exact j1 k hk, fun y hy => by
            try dsimp only
            rw [up_at]
            by_cases e : y = w
            · subst e
              rw [if_pos ⟨rfl, rfl⟩]; exact more
            · rw [if_neg (fun q => e q.2)]; exact BX_as (j2 y hy) (QT_no (by omega))⟩
          clear more
          generalize htm : t * (m : Int) = tm at *
          generalize hX : ρ (32 + (i + 1)) w = X at *
          generalize μ (32 + i) n = E at *
          rw [s1_iff [22] 200]
          simp (disch := omega) [sz_s, sz_0, gx_s, hx_r, hx_c, hx_b, hx_s, hx_i, hx_n, kx_s, kx_n, kx_i, cx_d, up_at, am_ctl, am_step, am_i1, am_i2, am_i2d, am_l1, am_l2, am_l2d, am_ldi, am_ldl, am_lda, am_sti, am_sta, am_stl, am_inc, am_i2l, am_l2i, am_lcmp, am_dup, am_dup2, am_pop1, am_fv, am_getf, am_putf, am_wr, am_ial, am_lal, am_bal, am_aal, am_ias, am_las, am_bas, am_alen, am_inst, am_cast, am_cpm, am_copy, am_tsw, am_pop, am_cat, am_cS, am_cI, am_cV, am_ri, am_rl, am_ra, am_rv, am_b1, am_b2, am_ent, am_en, am_isL, am_st1, am_st2, am_clr, am_cnd, cc_77, ac_77, nL_77, rb_77, np_251, ok_77_251, nL_251, tg_10_2, tg_10_1, tg_10_4, List.getElem?_cons_succ, List.getElem?_cons_zero, nz_of, nzl_of, Int.toNat_add, Int.toNat_mul, tn_l, lt_t, lt_f, le_t, le_f, eq_t, eq_f, ltn_t, ltn_f, len_t, len_f, eqn_t, eqn_f, up_ne, up_up, sh_9, rf_9_1, rf_9_4, sh_11, sh_31, g1, g2, b1, b2, d1, d2, vc, ve, hw, hX, htm, wp_max, mx_e]
          simpa using q
        · have q := hs' (ρ, some (.inl w)) ⟨j1, fun y hy => BX_as (j2 y hy) (QT_no (by omega))⟩
          rw [s1_iff [22] 200]
          simp (disch := omega) [sz_s, sz_0, gx_s, hx_r, hx_c, hx_b, hx_s, hx_i, hx_n, kx_s, kx_n, kx_i, cx_d, up_at, am_ctl, am_step, am_i1, am_i2, am_i2d, am_l1, am_l2, am_l2d, am_ldi, am_ldl, am_lda, am_sti, am_sta, am_stl, am_inc, am_i2l, am_l2i, am_lcmp, am_dup, am_dup2, am_pop1, am_fv, am_getf, am_putf, am_wr, am_ial, am_lal, am_bal, am_aal, am_ias, am_las, am_bas, am_alen, am_inst, am_cast, am_cpm, am_copy, am_tsw, am_pop, am_cat, am_cS, am_cI, am_cV, am_ri, am_rl, am_ra, am_rv, am_b1, am_b2, am_ent, am_en, am_isL, am_st1, am_st2, am_clr, am_cnd, cc_77, ac_77, nL_77, rb_77, np_251, ok_77_251, nL_251, tg_10_2, tg_10_1, tg_10_4, List.getElem?_cons_succ, List.getElem?_cons_zero, nz_of, nzl_of, Int.toNat_add, Int.toNat_mul, tn_l, lt_t, lt_f, le_t, le_f, eq_t, eq_f, ltn_t, ltn_f, len_t, len_f, eqn_t, eqn_f, up_ne, up_up, sh_9, rf_9_1, sh_11, g1, g2, vc, hw]
          simpa using q) (fun s hI => by
        obtain ⟨ρ, s2⟩ := s
        obtain ⟨j1, j2⟩ := hI
        try dsimp only at j1 j2 ⊢
        have q := hs' (ρ, some (.inl 10), s2) ⟨j1, fun y hy => BX_as (j2 y hy) QT_row⟩
        rw [s1_iff [2, 22] 200]
        simp (disch := omega) [sz_s, sz_0, gx_s, hx_r, hx_c, hx_b, hx_s, hx_i, hx_n, kx_s, kx_n, kx_i, cx_d, up_at, am_ctl, am_step, am_i1, am_i2, am_i2d, am_l1, am_l2, am_l2d, am_ldi, am_ldl, am_lda, am_sti, am_sta, am_stl, am_inc, am_i2l, am_l2i, am_lcmp, am_dup, am_dup2, am_pop1, am_fv, am_getf, am_putf, am_wr, am_ial, am_lal, am_bal, am_aal, am_ias, am_las, am_bas, am_alen, am_inst, am_cast, am_cpm, am_copy, am_tsw, am_pop, am_cat, am_cS, am_cI, am_cV, am_ri, am_rl, am_ra, am_rv, am_b1, am_b2, am_ent, am_en, am_isL, am_st1, am_st2, am_clr, am_cnd, cc_77, ac_77, nL_77, rb_77, np_251, ok_77_251, nL_251, tg_10_2, tg_10_1, tg_10_4, List.getElem?_cons_succ, List.getElem?_cons_zero, nz_of, nzl_of, Int.toNat_add, Int.toNat_mul, tn_l, lt_t, lt_f, le_t, le_f, eq_t, eq_f, ltn_t, ltn_f, len_t, len_f, eqn_t, eqn_f, up_ne, up_up, sh_9]
        simpa using q) (ν, s2) ⟨i1, i2⟩
      try dsimp only at inner
      rw [s1_iff [2, 22] 200]
      simp (disch := omega) [sz_s, sz_0, gx_s, hx_r, hx_c, hx_b, hx_s, hx_i, hx_n, kx_s, kx_n, kx_i, cx_d, up_at, am_ctl, am_step, am_i1, am_i2, am_i2d, am_l1, am_l2, am_l2d, am_ldi, am_ldl, am_lda, am_sti, am_sta, am_stl, am_inc, am_i2l, am_l2i, am_lcmp, am_dup, am_dup2, am_pop1, am_fv, am_getf, am_putf, am_wr, am_ial, am_lal, am_bal, am_aal, am_ias, am_las, am_bas, am_alen, am_inst, am_cast, am_cpm, am_copy, am_tsw, am_pop, am_cat, am_cS, am_cI, am_cV, am_ri, am_rl, am_ra, am_rv, am_b1, am_b2, am_ent, am_en, am_isL, am_st1, am_st2, am_clr, am_cnd, cc_77, ac_77, nL_77, rb_77, np_251, ok_77_251, nL_251, tg_10_2, tg_10_1, tg_10_4, List.getElem?_cons_succ, List.getElem?_cons_zero, nz_of, nzl_of, Int.toNat_add, Int.toNat_mul, tn_l, lt_t, lt_f, le_t, le_f, eq_t, eq_f, ltn_t, ltn_f, len_t, len_f, eqn_t, eqn_f, up_ne, up_up, sh_9, rf_9_2, sh_17, a1, a2, va, z]
      simpa using inner) (fun s hI => by
    obtain ⟨ν, s1, s2⟩ := s
    obtain ⟨i1, i2⟩ := hI
    try dsimp only at i1 i2 ⊢
    have k := k ν i1 (fun z hz p => by
      have b := BX_as (i2 z hz) (QT_end hz (fun m hm => (hW.2.2 i hi m hm).2.1))
      refine ⟨?_, b.1⟩
      obtain ⟨v, hv⟩ := AT_ex _ _ p
      have hr := AT_rng _ _ _ hv
      have hb := b.1 v hv
      have := tu_rng (u := v) (k := 45) ht (by omega)
      exact b.2.resolve_right (by omega))
    rw [s1_iff [2] 200]
    simp (disch := omega) [sz_s, sz_0, gx_s, hx_r, hx_c, hx_b, hx_s, hx_i, hx_n, kx_s, kx_n, kx_i, cx_d, up_at, am_ctl, am_step, am_i1, am_i2, am_i2d, am_l1, am_l2, am_l2d, am_ldi, am_ldl, am_lda, am_sti, am_sta, am_stl, am_inc, am_i2l, am_l2i, am_lcmp, am_dup, am_dup2, am_pop1, am_fv, am_getf, am_putf, am_wr, am_ial, am_lal, am_bal, am_aal, am_ias, am_las, am_bas, am_alen, am_inst, am_cast, am_cpm, am_copy, am_tsw, am_pop, am_cat, am_cS, am_cI, am_cV, am_ri, am_rl, am_ra, am_rv, am_b1, am_b2, am_ent, am_en, am_isL, am_st1, am_st2, am_clr, am_cnd, cc_77, ac_77, nL_77, rb_77, np_251, ok_77_251, nL_251, tg_10_2, tg_10_1, tg_10_4, List.getElem?_cons_succ, List.getElem?_cons_zero, nz_of, nzl_of, Int.toNat_add, Int.toNat_mul, tn_l, lt_t, lt_f, le_t, le_f, eq_t, eq_f, ltn_t, ltn_f, len_t, len_f, eqn_t, eqn_f, up_ne, up_up, sh_9]
    exact k) (μ, none, none) ⟨fun _ _ => rfl, fun z hz => by
      try dsimp only
      rw [h0 z hz]
      refine ⟨fun u ⟨q, q1, q2, q3⟩ => ?_, Or.inr rfl⟩
      have q2 : (z : Int) - c i q < 0 := by omega
      exact absurd q3 (AT_no (dW_neg (WC_CB hW) i _ (by omega) q2) _)⟩
  try dsimp only at key
  unfold wpM
  rw [s1_iff [2] 200]
  simp (disch := omega) [sz_s, sz_0, gx_s, hx_r, hx_c, hx_b, hx_s, hx_i, hx_n, kx_s, kx_n, kx_i, cx_d, up_at, am_ctl, am_step, am_i1, am_i2, am_i2d, am_l1, am_l2, am_l2d, am_ldi, am_ldl, am_lda, am_sti, am_sta, am_stl, am_inc, am_i2l, am_l2i, am_lcmp, am_dup, am_dup2, am_pop1, am_fv, am_getf, am_putf, am_wr, am_ial, am_lal, am_bal, am_aal, am_ias, am_las, am_bas, am_alen, am_inst, am_cast, am_cpm, am_copy, am_tsw, am_pop, am_cat, am_cS, am_cI, am_cV, am_ri, am_rl, am_ra, am_rv, am_b1, am_b2, am_ent, am_en, am_isL, am_st1, am_st2, am_clr, am_cnd, cc_77, ac_77, nL_77, rb_77, np_251, ok_77_251, nL_251, tg_10_2, tg_10_1, tg_10_4, List.getElem?_cons_succ, List.getElem?_cons_zero, nz_of, nzl_of, Int.toNat_add, Int.toNat_mul, tn_l, lt_t, lt_f, le_t, le_f, eq_t, eq_f, ltn_t, ltn_f, len_t, len_f, eqn_t, eqn_f, up_ne, up_up]
  simpa using key
set_option maxHeartbeats 8000000 in
set_option maxRecDepth 100000 in
theorem wp_greatest {μ : Nat → Nat → Int} {s : Nat} {c : Nat → Nat → Int} (hN : WN μ s c) (n : Nat) (t : Int) (ht : t = 1 ∨ t = -1) (hp : 0 < dW tt_ c s n) (Φ : Option AV → ST → Prop) (k : ∀ ν x, (∀ k, ¬ (32 ≤ k ∧ k ≤ 37) → ν k = μ k) → (∃ u, AT tt_ c s n u ∧ x = t * u) → (∀ u, AT tt_ c s n u → t * u ≤ x) → Φ (some (.inl x)) (S ν)) : wpM 76 [.inr (.inr (some 9)), .inl n, .inl t] (S μ) Φ := by
  obtain ⟨hW, hA, -⟩ := hN
  have hs := hW.2.1
  have hCB := WC_CB hW
  have hn : n ≤ 50 := by
    by_cases e : n ≤ 50
    · exact e
    · rw [dW_big hCB s n (Nat.le_refl _) (by omega)] at hp; omega
  obtain ⟨-, -, ⟨g1, g2⟩⟩ := g_way6 0 (by omega)
  have key := up_to (fun (i : Nat) (ν : Nat → Nat → Int) => wpS 76 12 [some (.inr (.inr (some 9))), some (.inl n), some (.inl t), some (.inl i)] [] (S ν) Φ) (fun i ν => (∀ k, ¬ (32 ≤ k ∧ k ≤ 37) → ν k = μ k) ∧ EX c t i ν) s (fun i ν hi hI hs' => by
    try dsimp only at hI hs' ⊢
    obtain ⟨i1, i2⟩ := hI
    have v5 : ν 9 5 = s := by rw [i1 9 (by omega)]; exact hW.1
    obtain ⟨-, -, ⟨b1, b2⟩⟩ := g_way6 (i + 1) (by omega)
    have F := wp_fill (32 + (i + 1)) 51 (-50) (by omega) b2 (by decide) ν
    rw [s1_iff [12] 200]
    simp (disch := omega) [sz_s, sz_0, gx_s, hx_r, hx_c, hx_b, hx_s, hx_i, hx_n, kx_s, kx_n, kx_i, cx_d, up_at, am_ctl, am_step, am_i1, am_i2, am_i2d, am_l1, am_l2, am_l2d, am_ldi, am_ldl, am_lda, am_sti, am_sta, am_stl, am_inc, am_i2l, am_l2i, am_lcmp, am_dup, am_dup2, am_pop1, am_fv, am_getf, am_putf, am_wr, am_ial, am_lal, am_bal, am_aal, am_ias, am_las, am_bas, am_alen, am_inst, am_cast, am_cpm, am_copy, am_tsw, am_pop, am_cat, am_cS, am_cI, am_cV, am_ri, am_rl, am_ra, am_rv, am_b1, am_b2, am_ent, am_en, am_isL, am_st1, am_st2, am_clr, am_cnd, cc_76, ac_76, nL_76, rb_76, np_249, ok_76_249, nL_249, np_77, ok_76_77, nL_77, vd_77_10, tg_10_4, tg_10_5, List.getElem?_cons_succ, List.getElem?_cons_zero, nz_of, nzl_of, Int.toNat_add, Int.toNat_mul, tn_l, lt_t, lt_f, le_t, le_f, eq_t, eq_f, ltn_t, ltn_f, len_t, len_f, eqn_t, eqn_f, up_ne, up_up, sh_9, rf_9_4, sh_31, v5, hi, b1, F]
    have hWf : WC (fl ν (32 + (i + 1)) 51 (-50)) s c := WC_as hW (fun k hk => by rw [fl_ne _ _ _ _ _ (by omega)]; exact i1 k (by omega))
    refine wp_raise hWf i hi t ht (fun z hz => by rw [fl_ne _ _ _ _ _ (by omega), i1 (18 + i) (by omega)]; exact hA i (by omega) z hz) (fun z hz p => by
      rw [fl_ne _ _ _ _ _ (by omega)]; exact i2 z hz p) (fun z hz => fl_in _ _ _ _ _ (by omega)) _ (fun ρ r1 r2 => ?_)
    have q := hs' ρ ⟨fun k hk => by rw [r1 k (by omega), fl_ne _ _ _ _ _ (by omega)]; exact i1 k hk, r2⟩
    simp (disch := omega) [sz_s, sz_0, gx_s, hx_r, hx_c, hx_b, hx_s, hx_i, hx_n, kx_s, kx_n, kx_i, cx_d, up_at, am_ctl, am_step, am_i1, am_i2, am_i2d, am_l1, am_l2, am_l2d, am_ldi, am_ldl, am_lda, am_sti, am_sta, am_stl, am_inc, am_i2l, am_l2i, am_lcmp, am_dup, am_dup2, am_pop1, am_fv, am_getf, am_putf, am_wr, am_ial, am_lal, am_bal, am_aal, am_ias, am_las, am_bas, am_alen, am_inst, am_cast, am_cpm, am_copy, am_tsw, am_pop, am_cat, am_cS, am_cI, am_cV, am_ri, am_rl, am_ra, am_rv, am_b1, am_b2, am_ent, am_en, am_isL, am_st1, am_st2, am_clr, am_cnd, cc_76, ac_76, nL_76, rb_76, np_249, ok_76_249, nL_249, np_77, ok_76_77, nL_77, vd_77_10, tg_10_4, tg_10_5, List.getElem?_cons_succ, List.getElem?_cons_zero, nz_of, nzl_of, Int.toNat_add, Int.toNat_mul, tn_l, lt_t, lt_f, le_t, le_f, eq_t, eq_f, ltn_t, ltn_f, len_t, len_f, eqn_t, eqn_f, up_ne, up_up, sh_9]
    simpa using q) (fun ν hI => by
    try dsimp only at hI ⊢
    obtain ⟨i1, i2⟩ := hI
    have v5 : ν 9 5 = s := by rw [i1 9 (by omega)]; exact hW.1
    obtain ⟨-, -, ⟨b1, b2⟩⟩ := g_way6 s (by omega)
    obtain ⟨e1, e2⟩ := i2 n hn hp
    have k := k ν _ i1 e1 e2
    rw [s1_iff [12] 200]
    simp (disch := omega) [sz_s, sz_0, gx_s, hx_r, hx_c, hx_b, hx_s, hx_i, hx_n, kx_s, kx_n, kx_i, cx_d, up_at, am_ctl, am_step, am_i1, am_i2, am_i2d, am_l1, am_l2, am_l2d, am_ldi, am_ldl, am_lda, am_sti, am_sta, am_stl, am_inc, am_i2l, am_l2i, am_lcmp, am_dup, am_dup2, am_pop1, am_fv, am_getf, am_putf, am_wr, am_ial, am_lal, am_bal, am_aal, am_ias, am_las, am_bas, am_alen, am_inst, am_cast, am_cpm, am_copy, am_tsw, am_pop, am_cat, am_cS, am_cI, am_cV, am_ri, am_rl, am_ra, am_rv, am_b1, am_b2, am_ent, am_en, am_isL, am_st1, am_st2, am_clr, am_cnd, cc_76, ac_76, nL_76, rb_76, np_249, ok_76_249, nL_249, np_77, ok_76_77, nL_77, vd_77_10, tg_10_4, tg_10_5, List.getElem?_cons_succ, List.getElem?_cons_zero, nz_of, nzl_of, Int.toNat_add, Int.toNat_mul, tn_l, lt_t, lt_f, le_t, le_f, eq_t, eq_f, ltn_t, ltn_f, len_t, len_f, eqn_t, eqn_f, up_ne, up_up, sh_9, rf_9_4, sh_31, v5, b1, b2]
    exact k)
  have F := wp_fill 32 51 0 (by omega) g2 (by decide) μ
  have q := key (fl μ 32 51 0) ⟨fun k hk => by rw [fl_ne _ _ _ _ _ (by omega)], fun z hz p => by
    rw [dW] at p
    have e : (z : Int) = 0 := by
      by_cases e : (z : Int) = 0
      · exact e
      · rw [if_neg e] at p; omega
    have v : fl μ 32 51 0 (32 + 0) z = 0 := fl_in _ _ _ _ _ (by omega)
    rw [v]
    exact ⟨⟨0, ⟨e, rfl⟩, by omega⟩, fun u hu => by rw [hu.2]; omega⟩⟩
  unfold wpM
  rw [s1_iff [12] 200]
  simp (disch := omega) [sz_s, sz_0, gx_s, hx_r, hx_c, hx_b, hx_s, hx_i, hx_n, kx_s, kx_n, kx_i, cx_d, up_at, am_ctl, am_step, am_i1, am_i2, am_i2d, am_l1, am_l2, am_l2d, am_ldi, am_ldl, am_lda, am_sti, am_sta, am_stl, am_inc, am_i2l, am_l2i, am_lcmp, am_dup, am_dup2, am_pop1, am_fv, am_getf, am_putf, am_wr, am_ial, am_lal, am_bal, am_aal, am_ias, am_las, am_bas, am_alen, am_inst, am_cast, am_cpm, am_copy, am_tsw, am_pop, am_cat, am_cS, am_cI, am_cV, am_ri, am_rl, am_ra, am_rv, am_b1, am_b2, am_ent, am_en, am_isL, am_st1, am_st2, am_clr, am_cnd, cc_76, ac_76, nL_76, rb_76, np_249, ok_76_249, nL_249, np_77, ok_76_77, nL_77, vd_77_10, tg_10_4, tg_10_5, List.getElem?_cons_succ, List.getElem?_cons_zero, nz_of, nzl_of, Int.toNat_add, Int.toNat_mul, tn_l, lt_t, lt_f, le_t, le_f, eq_t, eq_f, ltn_t, ltn_f, len_t, len_f, eqn_t, eqn_f, up_ne, up_up, sh_9, rf_9_4, sh_31, sh_32, rf_31_0, F]
  simpa using q
