/-! ways of the reference, with the mouths that they hold -/
/-- v mouths of the first i houses, that are counted as z -/
def AT (a : Nat → Nat → Bool) (c : Nat → Nat → Int) : Nat → Int → Int → Prop
  | 0, z, v => z = 0 ∧ v = 0
  | i + 1, z, v => ∃ m : Nat, m < 10 ∧ a i m = true ∧ AT a c i (z - c i m) (v - m)
theorem AT_rng {a : Nat → Nat → Bool} {c : Nat → Nat → Int} : ∀ (i : Nat) (z v : Int), AT a c i z v → 0 ≤ v ∧ v ≤ 9 * (i : Int)
  | 0, z, v, h => by have := h.2; omega
  | i + 1, z, v, ⟨m, h1, _, h3⟩ => by have := AT_rng i _ _ h3; omega
theorem AT_pos {a : Nat → Nat → Bool} {c : Nat → Nat → Int} : ∀ (i : Nat) (z v : Int), AT a c i z v → 0 < dW a c i z
  | 0, z, v, h => by rw [dW, if_pos h.1]; omega
  | i + 1, z, v, ⟨m, h1, h2, h3⟩ => by
    have p := AT_pos i _ _ h3
    have g := sumZ_ge (f := fun m => if a i m = true then dW a c i (z - c i m) else 0) (n := 10) (k := m) (fun q _ => by
      try dsimp only
      split
      · exact (dW_rng a c i _).1
      · exact Int.le_refl _) h1
    rw [dW]
    try dsimp only at g
    rw [if_pos h2] at g
    omega
theorem AT_no {a : Nat → Nat → Bool} {c : Nat → Nat → Int} {i : Nat} {z : Int} (h : dW a c i z = 0) (v : Int) : ¬ AT a c i z v := fun q => by
  have := AT_pos i z v q; omega
def ptZ (a : Nat → Nat → Bool) (c : Nat → Nat → Int) (i m : Nat) (z : Int) : Int := sumZ (fun m => if a i m = true then dW a c i (z - c i m) else 0) m
def PT (a : Nat → Nat → Bool) (c : Nat → Nat → Int) (i m : Nat) (z v : Int) : Prop := ∃ q : Nat, q < m ∧ a i q = true ∧ AT a c i (z - c i q) (v - q)
/-- the least and the greatest of P, if there is one -/
def LG (P : Int → Prop) (lo hi : Int) : Prop := (∀ u, P u → lo ≤ u ∧ u ≤ hi) ∧ (P lo ∨ lo = 1000) ∧ (P hi ∨ hi = -1)
theorem LG_no {a : Nat → Nat → Bool} {c : Nat → Nat → Int} {i m : Nat} {z lo hi : Int} (h : LG (PT a c i m z) lo hi) (n : a i m = true → dW a c i (z - c i m) = 0) : LG (PT a c i (m + 1) z) lo hi := by
  have e : ∀ u, PT a c i (m + 1) z u ↔ PT a c i m z u := fun u => ⟨fun ⟨q, h1, h2, h3⟩ => by
    by_cases y : q = m
    · subst y; exact absurd h3 (AT_no (n h2) _)
    · exact ⟨q, by omega, h2, h3⟩, fun ⟨q, h1, h2, h3⟩ => ⟨q, by omega, h2, h3⟩⟩
  exact ⟨fun u hu => h.1 u ((e u).mp hu), h.2.1.imp (e _).mpr id, h.2.2.imp (e _).mpr id⟩
theorem LG_yes {a : Nat → Nat → Bool} {c : Nat → Nat → Int} {i m : Nat} {z lo hi l g : Int} (h : LG (PT a c i m z) lo hi) (hi5 : i ≤ 5) (hm : m < 10) (ha : a i m = true) (h1 : AT a c i (z - c i m) l) (h2 : AT a c i (z - c i m) g) (h3 : ∀ u, AT a c i (z - c i m) u → l ≤ u ∧ u ≤ g) : LG (PT a c i (m + 1) z) (min lo (l + m)) (max hi (g + m)) := by
  obtain ⟨q1, q2, q3⟩ := h
  have r1 := AT_rng _ _ _ h1
  have r2 := AT_rng _ _ _ h2
  have up : ∀ u, PT a c i m z u → PT a c i (m + 1) z u := fun u ⟨q, h1, h2, h3⟩ => ⟨q, by omega, h2, h3⟩
  refine ⟨fun u ⟨q, y1, y2, y3⟩ => ?_, ?_, ?_⟩
  · by_cases y : q = m
    · subst y
      have := h3 _ y3
      omega
    · have := q1 u ⟨q, by omega, y2, y3⟩
      omega
  · by_cases y : lo ≤ l + m
    · rw [Int.min_eq_left y]; exact q2.imp (up _) id
    · rw [Int.min_eq_right (by omega)]; exact Or.inl ⟨m, by omega, ha, by rw [show l + (m : Int) - m = l by omega]; exact h1⟩
  · by_cases y : g + m ≤ hi
    · rw [Int.max_eq_left y]; exact q3.imp (up _) id
    · rw [Int.max_eq_right (by omega)]; exact Or.inl ⟨m, by omega, ha, by rw [show g + (m : Int) - m = g by omega]; exact h2⟩
theorem PT_rng {a : Nat → Nat → Bool} {c : Nat → Nat → Int} {i m : Nat} {z v : Int} (hi : i ≤ 5) (hm : m ≤ 10) (h : PT a c i m z v) : 0 ≤ v ∧ v ≤ 54 := by
  obtain ⟨q, h1, _, h3⟩ := h
  have := AT_rng _ _ _ h3
  omega
theorem LG_rng {a : Nat → Nat → Bool} {c : Nat → Nat → Int} {i m : Nat} {z lo hi : Int} (hi5 : i ≤ 5) (hm : m ≤ 10) (h : LG (PT a c i m z) lo hi) : (0 ≤ lo ∧ lo ≤ 1000) ∧ -1 ≤ hi ∧ hi ≤ 54 := by
  obtain ⟨_, q2, q3⟩ := h
  refine ⟨?_, ?_⟩
  · rcases q2 with q | q
    · have := PT_rng hi5 hm q; omega
    · omega
  · rcases q3 with q | q
    · have := PT_rng hi5 hm q; omega
    · omega
theorem pt_rng {a : Nat → Nat → Bool} {c : Nat → Nat → Int} {i m : Nat} (z : Int) (hi : i ≤ 5) (hm : m ≤ 10) : 0 ≤ ptZ a c i m z ∧ ptZ a c i m z ≤ 1000000 := by
  have := @sumZ_rng (fun m => if a i m = true then dW a c i (z - c i m) else 0) 0 100000 m (fun q _ => by
    have := dW_le (a := a) (c := c) hi (z - c i q)
    try dsimp only
    split <;> omega)
  unfold ptZ
  omega
/-- then, thenFewest, thenMost -/
def TS (a : Nat → Nat → Bool) (c : Nat → Nat → Int) (i m : Nat) (ν : Nat → Nat → Int) (z : Nat) : Prop := ν 114 z = ptZ a c i m z ∧ LG (PT a c i m z) (ν 116 z) (ν 118 z)
def WS (a : Nat → Nat → Bool) (c : Nat → Nat → Int) (i : Nat) (ν : Nat → Nat → Int) : Prop := ∀ z : Nat, z < 100 → ν 113 z = dW a c i z ∧ (0 < dW a c i z → AT a c i z (ν 115 z) ∧ AT a c i z (ν 117 z) ∧ ∀ u, AT a c i z u → ν 115 z ≤ u ∧ u ≤ ν 117 z)
theorem TS_no {a : Nat → Nat → Bool} {c : Nat → Nat → Int} {i m : Nat} {ν : Nat → Nat → Int} {z : Nat} (h : TS a c i m ν z) (n : a i m = true → dW a c i ((z : Int) - c i m) = 0) : TS a c i (m + 1) ν z := by
  refine ⟨?_, LG_no h.2 n⟩
  rw [h.1]
  unfold ptZ
  rw [sumZ_s]
  by_cases q : a i m = true
  · rw [if_pos q, n q]; omega
  · rw [if_neg q]; omega
theorem sumZ_ex {f : Nat → Int} {n : Nat} (h : 0 < sumZ f n) : ∃ i, i < n ∧ 0 < f i := by
  by_cases q : ∃ i, i < n ∧ 0 < f i
  · exact q
  · have := @sumZ_le f (fun _ => 0) n (fun i hi => by
      by_cases y : 0 < f i
      · exact absurd ⟨i, hi, y⟩ q
      · exact Int.not_lt.mp y)
    rw [sumZ_zero (f := fun _ => 0) (fun _ _ => rfl)] at this
    omega
theorem AT_ex {a : Nat → Nat → Bool} {c : Nat → Nat → Int} : ∀ (i : Nat) (z : Int), 0 < dW a c i z → ∃ v, AT a c i z v
  | 0, z, h => by
    rw [dW] at h
    by_cases q : z = 0
    · exact ⟨0, q, rfl⟩
    · rw [if_neg q] at h; omega
  | i + 1, z, h => by
    rw [dW] at h
    obtain ⟨m, hm, p⟩ := sumZ_ex h
    by_cases q : a i m = true
    · rw [if_pos q] at p
      obtain ⟨v, hv⟩ := AT_ex i _ p
      exact ⟨v + m, m, hm, q, by rw [show v + (m : Int) - m = v by omega]; exact hv⟩
    · rw [if_neg q] at p; omega
theorem TS_WS {a : Nat → Nat → Bool} {c : Nat → Nat → Int} {i : Nat} {ν ρ : Nat → Nat → Int} (hi : i ≤ 5) (h : ∀ z : Nat, z < 100 → TS a c i 10 ν z) (e : ∀ z : Nat, z < 100 → ρ 113 z = ν 114 z ∧ ρ 115 z = ν 116 z ∧ ρ 117 z = ν 118 z) : WS a c (i + 1) ρ := fun z hz => by
  obtain ⟨h1, h2, h3, h4⟩ := h z hz
  obtain ⟨e1, e2, e3⟩ := e z hz
  refine ⟨by rw [e1, h1]; rfl, fun p => ?_⟩
  rw [e2, e3]
  obtain ⟨u, hu⟩ := AT_ex (i + 1) z p
  have hu : PT a c i 10 z u := hu
  have r := PT_rng hi (by omega) hu
  have b := h2 u hu
  have r3 : PT a c i 10 z (ν 116 z) := h3.resolve_right (by omega)
  have r4 : PT a c i 10 z (ν 118 z) := h4.resolve_right (by omega)
  exact ⟨r3, r4, h2⟩
/-! the reference's loops -/
def FR_ (μ ν : Nat → Nat → Int) : Prop := ∀ k, ¬ (113 ≤ k ∧ k ≤ 118) → ν k = μ k
set_option maxRecDepth 100000 in
theorem fw_A (μ : Nat → Nat → Int) (told mouths : Int) (Φ : Option AV → ST → Prop) (k : ∀ ν, FR_ μ ν → (∀ z : Nat, z < 100 → ν 113 z = (if z = 0 then 1 else 0) ∧ ν 115 z = 0 ∧ ν 117 z = 0) → wpS 214 45 [some (.inr (.inr (some 101))), some (.inl told), some (.inl mouths), some (.inl 0), none, none, none, none] [] (S ν) Φ) : wpS 214 2 [some (.inr (.inr (some 101))), some (.inl told), some (.inl mouths), some (.inl 0), none, none, none, none] [] (S μ) Φ := by
  have key := up_to (fun (n : Nat) (ν : Nat → Nat → Int) => wpS 214 2 [some (.inr (.inr (some 101))), some (.inl told), some (.inl mouths), some (.inl n), none, none, none, none] [] (S ν) Φ) (fun n ν => FR_ μ ν ∧ ∀ z : Nat, z < n → ν 113 z = (if z = 0 then 1 else 0) ∧ ν 115 z = 0 ∧ ν 117 z = 0) 100 (fun n ν hn hI hs' => by
    try dsimp only at hI hs' ⊢
    obtain ⟨i1, i2⟩ := hI
    have q := hs' (am_up (am_up (am_up ν 113 n (if n = 0 then 1 else 0)) 115 n 0) 117 n 0) ⟨fun k hk => by rw [up_ne _ _ _ (by omega), up_ne _ _ _ (by omega), up_ne _ _ _ (by omega)]; exact i1 k hk, fun z hz => by
      simp only [up_at]
      by_cases e : z = n
      · subst e; simp
      · simp only [e, and_false, if_false]
        exact i2 z (by omega)⟩
    by_cases e : n = 0
    · subst e
      rw [s1_iff [2, 45] 200]
      simp (disch := omega) [sz_s, sz_0, gx_s, hx_r, hx_c, hx_b, hx_s, hx_i, hx_n, kx_s, kx_n, kx_i, cx_d, up_at, am_ctl, am_step, am_i1, am_i2, am_i2d, am_l1, am_l2, am_l2d, am_ldi, am_ldl, am_lda, am_sti, am_sta, am_stl, am_inc, am_i2l, am_l2i, am_lcmp, am_dup, am_dup2, am_pop1, am_fv, am_getf, am_putf, am_wr, am_ial, am_lal, am_bal, am_aal, am_ias, am_las, am_bas, am_alen, am_inst, am_cast, am_cpm, am_copy, am_tsw, am_pop, am_cat, am_cS, am_cI, am_cV, am_ri, am_rl, am_ra, am_rv, am_b1, am_b2, am_ent, am_en, am_isL, am_st1, am_st2, am_clr, am_cnd, cc_214, ac_214, nL_214, rb_214, ac_214_0, ac_214_1, np_158, ok_214_158, nL_158, np_185, ok_214_185, nL_185, tg_12_18, tg_12_20, tg_12_22, tg_12_17, tg_12_0, tg_12_16, tg_12_19, tg_12_21, tg_12_23, List.getElem?_cons_succ, List.getElem?_cons_zero, nz_of, nzl_of, Int.toNat_add, Int.toNat_mul, tn_l, lt_t, lt_f, le_t, le_f, eq_t, eq_f, ltn_t, ltn_f, len_t, len_f, eqn_t, eqn_f, up_ne, up_up, sh_101, sh_113, sh_115, sh_117, rf_101_18, rf_101_20, rf_101_22]
      simpa using q
    · rw [if_neg e] at q
      rw [s1_iff [2, 45] 200]
      simp (disch := omega) [sz_s, sz_0, gx_s, hx_r, hx_c, hx_b, hx_s, hx_i, hx_n, kx_s, kx_n, kx_i, cx_d, up_at, am_ctl, am_step, am_i1, am_i2, am_i2d, am_l1, am_l2, am_l2d, am_ldi, am_ldl, am_lda, am_sti, am_sta, am_stl, am_inc, am_i2l, am_l2i, am_lcmp, am_dup, am_dup2, am_pop1, am_fv, am_getf, am_putf, am_wr, am_ial, am_lal, am_bal, am_aal, am_ias, am_las, am_bas, am_alen, am_inst, am_cast, am_cpm, am_copy, am_tsw, am_pop, am_cat, am_cS, am_cI, am_cV, am_ri, am_rl, am_ra, am_rv, am_b1, am_b2, am_ent, am_en, am_isL, am_st1, am_st2, am_clr, am_cnd, cc_214, ac_214, nL_214, rb_214, ac_214_0, ac_214_1, np_158, ok_214_158, nL_158, np_185, ok_214_185, nL_185, tg_12_18, tg_12_20, tg_12_22, tg_12_17, tg_12_0, tg_12_16, tg_12_19, tg_12_21, tg_12_23, List.getElem?_cons_succ, List.getElem?_cons_zero, nz_of, nzl_of, Int.toNat_add, Int.toNat_mul, tn_l, lt_t, lt_f, le_t, le_f, eq_t, eq_f, ltn_t, ltn_f, len_t, len_f, eqn_t, eqn_f, up_ne, up_up, sh_101, sh_113, sh_115, sh_117, rf_101_18, rf_101_20, rf_101_22, e]
      simpa using q) (fun ν hI => by
    try dsimp only at hI ⊢
    have k := k ν hI.1 hI.2
    rw [s1_iff [2, 45] 200]
    simp (disch := omega) [sz_s, sz_0, gx_s, hx_r, hx_c, hx_b, hx_s, hx_i, hx_n, kx_s, kx_n, kx_i, cx_d, up_at, am_ctl, am_step, am_i1, am_i2, am_i2d, am_l1, am_l2, am_l2d, am_ldi, am_ldl, am_lda, am_sti, am_sta, am_stl, am_inc, am_i2l, am_l2i, am_lcmp, am_dup, am_dup2, am_pop1, am_fv, am_getf, am_putf, am_wr, am_ial, am_lal, am_bal, am_aal, am_ias, am_las, am_bas, am_alen, am_inst, am_cast, am_cpm, am_copy, am_tsw, am_pop, am_cat, am_cS, am_cI, am_cV, am_ri, am_rl, am_ra, am_rv, am_b1, am_b2, am_ent, am_en, am_isL, am_st1, am_st2, am_clr, am_cnd, cc_214, ac_214, nL_214, rb_214, ac_214_0, ac_214_1, np_158, ok_214_158, nL_158, np_185, ok_214_185, nL_185, tg_12_18, tg_12_20, tg_12_22, tg_12_17, tg_12_0, tg_12_16, tg_12_19, tg_12_21, tg_12_23, List.getElem?_cons_succ, List.getElem?_cons_zero, nz_of, nzl_of, Int.toNat_add, Int.toNat_mul, tn_l, lt_t, lt_f, le_t, le_f, eq_t, eq_f, ltn_t, ltn_f, len_t, len_f, eqn_t, eqn_f, up_ne, up_up, sh_101]
    simpa using k) μ ⟨fun _ _ => rfl, fun z hz => absurd hz (by omega)⟩
  simpa using key
set_option maxRecDepth 100000 in
theorem fw_C (μ : Nat → Nat → Int) (told mouths i kd : Int) (l6 l7 : Option AV) (Φ : Option AV → ST → Prop) (k : ∀ ν, (∀ k, ¬ (k = 114 ∨ k = 116 ∨ k = 118) → ν k = μ k) → (∀ z : Nat, z < 100 → ν 114 z = 0 ∧ ν 116 z = 1000 ∧ ν 118 z = -1) → wpS 214 113 [some (.inr (.inr (some 101))), some (.inl told), some (.inl mouths), some (.inl i), some (.inl kd), some (.inl 0), l6, l7] [] (S ν) Φ) : wpS 214 71 [some (.inr (.inr (some 101))), some (.inl told), some (.inl mouths), some (.inl i), some (.inl kd), some (.inl 0), l6, l7] [] (S μ) Φ := by
  have key := up_to (fun (n : Nat) (ν : Nat → Nat → Int) => wpS 214 71 [some (.inr (.inr (some 101))), some (.inl told), some (.inl mouths), some (.inl i), some (.inl kd), some (.inl n), l6, l7] [] (S ν) Φ) (fun n ν => (∀ k, ¬ (k = 114 ∨ k = 116 ∨ k = 118) → ν k = μ k) ∧ ∀ z : Nat, z < n → ν 114 z = 0 ∧ ν 116 z = 1000 ∧ ν 118 z = -1) 100 (fun n ν hn hI hs' => by
    try dsimp only at hI hs' ⊢
    obtain ⟨i1, i2⟩ := hI
    have q := hs' (am_up (am_up (am_up ν 114 n 0) 116 n 1000) 118 n (-1)) ⟨fun k hk => by rw [up_ne _ _ _ (by omega), up_ne _ _ _ (by omega), up_ne _ _ _ (by omega)]; exact i1 k hk, fun z hz => by
      simp only [up_at]
      by_cases e : z = n
      · subst e; simp
      · simp only [e, and_false, if_false]
        exact i2 z (by omega)⟩
    rw [s1_iff [71, 113] 200]
    simp (disch := omega) [sz_s, sz_0, gx_s, hx_r, hx_c, hx_b, hx_s, hx_i, hx_n, kx_s, kx_n, kx_i, cx_d, up_at, am_ctl, am_step, am_i1, am_i2, am_i2d, am_l1, am_l2, am_l2d, am_ldi, am_ldl, am_lda, am_sti, am_sta, am_stl, am_inc, am_i2l, am_l2i, am_lcmp, am_dup, am_dup2, am_pop1, am_fv, am_getf, am_putf, am_wr, am_ial, am_lal, am_bal, am_aal, am_ias, am_las, am_bas, am_alen, am_inst, am_cast, am_cpm, am_copy, am_tsw, am_pop, am_cat, am_cS, am_cI, am_cV, am_ri, am_rl, am_ra, am_rv, am_b1, am_b2, am_ent, am_en, am_isL, am_st1, am_st2, am_clr, am_cnd, cc_214, ac_214, nL_214, rb_214, ac_214_0, ac_214_1, np_158, ok_214_158, nL_158, np_185, ok_214_185, nL_185, tg_12_18, tg_12_20, tg_12_22, tg_12_17, tg_12_0, tg_12_16, tg_12_19, tg_12_21, tg_12_23, List.getElem?_cons_succ, List.getElem?_cons_zero, nz_of, nzl_of, Int.toNat_add, Int.toNat_mul, tn_l, lt_t, lt_f, le_t, le_f, eq_t, eq_f, ltn_t, ltn_f, len_t, len_f, eqn_t, eqn_f, up_ne, up_up, sh_101, sh_114, sh_116, sh_118, rf_101_19, rf_101_21, rf_101_23]
    simpa using q) (fun ν hI => by
    try dsimp only at hI ⊢
    have k := k ν hI.1 hI.2
    rw [s1_iff [71, 113] 200]
    simp (disch := omega) [sz_s, sz_0, gx_s, hx_r, hx_c, hx_b, hx_s, hx_i, hx_n, kx_s, kx_n, kx_i, cx_d, up_at, am_ctl, am_step, am_i1, am_i2, am_i2d, am_l1, am_l2, am_l2d, am_ldi, am_ldl, am_lda, am_sti, am_sta, am_stl, am_inc, am_i2l, am_l2i, am_lcmp, am_dup, am_dup2, am_pop1, am_fv, am_getf, am_putf, am_wr, am_ial, am_lal, am_bal, am_aal, am_ias, am_las, am_bas, am_alen, am_inst, am_cast, am_cpm, am_copy, am_tsw, am_pop, am_cat, am_cS, am_cI, am_cV, am_ri, am_rl, am_ra, am_rv, am_b1, am_b2, am_ent, am_en, am_isL, am_st1, am_st2, am_clr, am_cnd, cc_214, ac_214, nL_214, rb_214, ac_214_0, ac_214_1, np_158, ok_214_158, nL_158, np_185, ok_214_185, nL_185, tg_12_18, tg_12_20, tg_12_22, tg_12_17, tg_12_0, tg_12_16, tg_12_19, tg_12_21, tg_12_23, List.getElem?_cons_succ, List.getElem?_cons_zero, nz_of, nzl_of, Int.toNat_add, Int.toNat_mul, tn_l, lt_t, lt_f, le_t, le_f, eq_t, eq_f, ltn_t, ltn_f, len_t, len_f, eqn_t, eqn_f, up_ne, up_up, sh_101]
    simpa using k) μ ⟨fun _ _ => rfl, fun z hz => absurd hz (by omega)⟩
  simpa using key
set_option maxRecDepth 100000 in
theorem fw_F (μ : Nat → Nat → Int) (told mouths i kd : Int) (l6 l7 : Option AV) (Φ : Option AV → ST → Prop) (k : ∀ ν, (∀ k, ¬ (k = 113 ∨ k = 115 ∨ k = 117) → ν k = μ k) → (∀ z : Nat, z < 100 → ν 113 z = μ 114 z ∧ ν 115 z = μ 116 z ∧ ν 117 z = μ 118 z) → wpS 214 338 [some (.inr (.inr (some 101))), some (.inl told), some (.inl mouths), some (.inl i), some (.inl kd), some (.inl 100), l6, l7] [] (S ν) Φ) : wpS 214 283 [some (.inr (.inr (some 101))), some (.inl told), some (.inl mouths), some (.inl i), some (.inl kd), some (.inl 0), l6, l7] [] (S μ) Φ := by
  have key := up_to (fun (n : Nat) (ν : Nat → Nat → Int) => wpS 214 283 [some (.inr (.inr (some 101))), some (.inl told), some (.inl mouths), some (.inl i), some (.inl kd), some (.inl n), l6, l7] [] (S ν) Φ) (fun n ν => (∀ k, ¬ (k = 113 ∨ k = 115 ∨ k = 117) → ν k = μ k) ∧ ∀ z : Nat, z < n → ν 113 z = μ 114 z ∧ ν 115 z = μ 116 z ∧ ν 117 z = μ 118 z) 100 (fun n ν hn hI hs' => by
    try dsimp only at hI hs' ⊢
    obtain ⟨i1, i2⟩ := hI
    have q := hs' (am_up (am_up (am_up ν 113 n (μ 114 n)) 115 n (μ 116 n)) 117 n (μ 118 n)) ⟨fun k hk => by rw [up_ne _ _ _ (by omega), up_ne _ _ _ (by omega), up_ne _ _ _ (by omega)]; exact i1 k hk, fun z hz => by
      simp only [up_at]
      by_cases e : z = n
      · subst e; simp
      · simp only [e, and_false, if_false]
        exact i2 z (by omega)⟩
    have w1 : ν 114 = μ 114 := i1 114 (by omega)
    have w2 : ν 116 = μ 116 := i1 116 (by omega)
    have w3 : ν 118 = μ 118 := i1 118 (by omega)
    rw [s1_iff [283, 338] 200]
    simp (disch := omega) [sz_s, sz_0, gx_s, hx_r, hx_c, hx_b, hx_s, hx_i, hx_n, kx_s, kx_n, kx_i, cx_d, up_at, am_ctl, am_step, am_i1, am_i2, am_i2d, am_l1, am_l2, am_l2d, am_ldi, am_ldl, am_lda, am_sti, am_sta, am_stl, am_inc, am_i2l, am_l2i, am_lcmp, am_dup, am_dup2, am_pop1, am_fv, am_getf, am_putf, am_wr, am_ial, am_lal, am_bal, am_aal, am_ias, am_las, am_bas, am_alen, am_inst, am_cast, am_cpm, am_copy, am_tsw, am_pop, am_cat, am_cS, am_cI, am_cV, am_ri, am_rl, am_ra, am_rv, am_b1, am_b2, am_ent, am_en, am_isL, am_st1, am_st2, am_clr, am_cnd, cc_214, ac_214, nL_214, rb_214, ac_214_0, ac_214_1, np_158, ok_214_158, nL_158, np_185, ok_214_185, nL_185, tg_12_18, tg_12_20, tg_12_22, tg_12_17, tg_12_0, tg_12_16, tg_12_19, tg_12_21, tg_12_23, List.getElem?_cons_succ, List.getElem?_cons_zero, nz_of, nzl_of, Int.toNat_add, Int.toNat_mul, tn_l, lt_t, lt_f, le_t, le_f, eq_t, eq_f, ltn_t, ltn_f, len_t, len_f, eqn_t, eqn_f, up_ne, up_up, sh_101, sh_113, sh_114, sh_115, sh_116, sh_117, sh_118, rf_101_18, rf_101_19, rf_101_20, rf_101_21, rf_101_22, rf_101_23, w1, w2, w3]
    simpa using q) (fun ν hI => by
    try dsimp only at hI ⊢
    have k := k ν hI.1 hI.2
    rw [s1_iff [283, 338] 200]
    simp (disch := omega) [sz_s, sz_0, gx_s, hx_r, hx_c, hx_b, hx_s, hx_i, hx_n, kx_s, kx_n, kx_i, cx_d, up_at, am_ctl, am_step, am_i1, am_i2, am_i2d, am_l1, am_l2, am_l2d, am_ldi, am_ldl, am_lda, am_sti, am_sta, am_stl, am_inc, am_i2l, am_l2i, am_lcmp, am_dup, am_dup2, am_pop1, am_fv, am_getf, am_putf, am_wr, am_ial, am_lal, am_bal, am_aal, am_ias, am_las, am_bas, am_alen, am_inst, am_cast, am_cpm, am_copy, am_tsw, am_pop, am_cat, am_cS, am_cI, am_cV, am_ri, am_rl, am_ra, am_rv, am_b1, am_b2, am_ent, am_en, am_isL, am_st1, am_st2, am_clr, am_cnd, cc_214, ac_214, nL_214, rb_214, ac_214_0, ac_214_1, np_158, ok_214_158, nL_158, np_185, ok_214_185, nL_185, tg_12_18, tg_12_20, tg_12_22, tg_12_17, tg_12_0, tg_12_16, tg_12_19, tg_12_21, tg_12_23, List.getElem?_cons_succ, List.getElem?_cons_zero, nz_of, nzl_of, Int.toNat_add, Int.toNat_mul, tn_l, lt_t, lt_f, le_t, le_f, eq_t, eq_f, ltn_t, ltn_f, len_t, len_f, eqn_t, eqn_f, up_ne, up_up, sh_101]
    simpa using k) μ ⟨fun _ _ => rfl, fun z hz => absurd hz (by omega)⟩
  simpa using key
