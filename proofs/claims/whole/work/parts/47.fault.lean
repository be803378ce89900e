/-! fault: equal on both sides; a text read -/
def LT (μ : Nat → Nat → Int) : Prop := μ 1000 0 = 104 ∧ μ 1000 1 = 109 ∧ μ 1000 2 = 98 ∧ μ 1000 3 = 110 ∧ μ 1000 4 = 103 ∧ μ 1000 5 = 115
def koZ (c : Int) : Int := if c = 104 then 0 else if c = 109 then 1 else if c = 98 then 2 else if c = 110 then 3 else if c = 103 then 4 else if c = 115 then 5 else -1
theorem koZ_rng (c : Int) : -1 ≤ koZ c ∧ koZ c ≤ 5 := by unfold koZ; (repeat' split) <;> omega
def itV (c : Int) (p : Nat) : Int := if p = 0 then koZ c else if 48 ≤ c ∧ c ≤ (if p = 1 then 50 else 57) then c - 48 else -1
theorem itV_rng (c : Int) (p : Nat) : -1 ≤ itV c p ∧ itV c p ≤ 9 ∧ (p = 0 → itV c p ≤ 5) ∧ (p = 1 → itV c p ≤ 2) := by
  have := koZ_rng c
  unfold itV
  (repeat' split) <;> omega
/-- the reference's reader: from place i of s on, in part p of an item, many items read into rd -/
def fmZ (x : Nat → Int) (s : Nat) : Nat → Nat → Nat → Nat → (Nat → Int) → Int × Nat × (Nat → Int)
  | 0, _, p, many, rd => (if 0 < p then (s : Int) else -9, many, rd)
  | d + 1, i, p, many, rd =>
    if p = 0 ∧ x i = 32 then fmZ x s d (i + 1) p many rd
    else if itV (x i) p < 0 ∨ many = 8 then ((i : Int), many, rd)
    else fmZ x s d (i + 1) (if p = 3 then 0 else p + 1) (if p = 3 then many + 1 else many) (am_u1 rd (4 * many + p) (itV (x i) p))
def itF (x : Nat → Int) (s i : Nat) : Int :=
  if itV (x i) 0 < 0 then (i : Int) else if s ≤ i + 1 then (s : Int) else if itV (x (i + 1)) 1 < 0 then (i : Int) + 1 else if s ≤ i + 2 then (s : Int) else if itV (x (i + 2)) 2 < 0 then (i : Int) + 2 else if s ≤ i + 3 then (s : Int) else if itV (x (i + 3)) 3 < 0 then (i : Int) + 3 else -9
theorem fm_blank {x : Nat → Int} {s i h : Nat} {rd : Nat → Int} (hi : i < s) (hx : x i = 32) : fmZ x s (s - i) i 0 h rd = fmZ x s (s - (i + 1)) (i + 1) 0 h rd := by
  obtain ⟨d, hd⟩ : ∃ d, s - i = d + 1 := ⟨s - i - 1, by omega⟩
  rw [hd, show s - (i + 1) = d by omega, fmZ, if_pos ⟨rfl, hx⟩]
theorem fm_full {x : Nat → Int} {s i : Nat} {rd : Nat → Int} (hi : i < s) (hx : ¬ x i = 32) : (fmZ x s (s - i) i 0 8 rd).1 = i := by
  obtain ⟨d, hd⟩ : ∃ d, s - i = d + 1 := ⟨s - i - 1, by omega⟩
  rw [hd, fmZ, if_neg (fun q => hx q.2), if_pos (Or.inr rfl)]
/-- a whole item: its fault, or its four values read -/
theorem fm_item {x : Nat → Int} {s i h : Nat} {rd : Nat → Int} (hi : i < s) (hx : ¬ x i = 32) (hh : h < 8) : (¬ itF x s i = -9 → (fmZ x s (s - i) i 0 h rd).1 = itF x s i) ∧ (itF x s i = -9 → i + 4 ≤ s ∧ fmZ x s (s - i) i 0 h rd = fmZ x s (s - (i + 4)) (i + 4) 0 (h + 1) (am_u1 (am_u1 (am_u1 (am_u1 rd (4 * h + 0) (itV (x i) 0)) (4 * h + 1) (itV (x (i + 1)) 1)) (4 * h + 2) (itV (x (i + 2)) 2)) (4 * h + 3) (itV (x (i + 3)) 3)) ∧ 0 ≤ itV (x i) 0 ∧ 0 ≤ itV (x (i + 1)) 1 ∧ 0 ≤ itV (x (i + 2)) 2 ∧ 0 ≤ itV (x (i + 3)) 3) := by
  have h8 : ¬ h = 8 := by omega
  obtain ⟨d, hd⟩ : ∃ d, s - i = d + 1 := ⟨s - i - 1, by omega⟩
  have e0 : fmZ x s (d + 1) i 0 h rd = if itV (x i) 0 < 0 ∨ h = 8 then ((i : Int), h, rd) else fmZ x s d (i + 1) 1 h (am_u1 rd (4 * h + 0) (itV (x i) 0)) := by
    rw [fmZ, if_neg (fun q => hx q.2)]; simp
  have en : ∀ (p d j : Nat) (r : Nat → Int), p < 3 → 0 < p → fmZ x s (d + 1) j p h r = if itV (x j) p < 0 ∨ h = 8 then ((j : Int), h, r) else fmZ x s d (j + 1) (p + 1) h (am_u1 r (4 * h + p) (itV (x j) p)) := fun p d j r hp hp0 => by
    rw [fmZ, if_neg (fun q => absurd q.1 (by omega)), if_neg (c := p = 3) (by omega), if_neg (c := p = 3) (by omega)]
  have e3 : ∀ (d j : Nat) (r : Nat → Int), fmZ x s (d + 1) j 3 h r = if itV (x j) 3 < 0 ∨ h = 8 then ((j : Int), h, r) else fmZ x s d (j + 1) 0 (h + 1) (am_u1 r (4 * h + 3) (itV (x j) 3)) := fun d j r => by
    rw [fmZ, if_neg (fun q => absurd q.1 (by omega)), if_pos rfl, if_pos rfl]
  have ez : ∀ (p j : Nat) (r : Nat → Int), 0 < p → fmZ x s 0 j p h r = ((s : Int), h, r) := fun p j r hp => by rw [fmZ, if_pos hp]
  unfold itF
  rw [hd, e0]
  by_cases a0 : itV (x i) 0 < 0
  · rw [if_pos (c := itV (x i) 0 < 0 ∨ h = 8) (Or.inl a0), if_pos a0]
    exact ⟨fun _ => rfl, fun q => by omega⟩
  · rw [if_neg (c := itV (x i) 0 < 0 ∨ h = 8) (fun q => q.elim a0 h8), if_neg a0]
    by_cases b1 : s ≤ i + 1
    · rw [if_pos b1, show d = 0 by omega, ez 1 _ _ (by omega)]
      exact ⟨fun _ => rfl, fun q => by omega⟩
    · rw [if_neg b1]
      obtain ⟨d1, rfl⟩ : ∃ d1, d = d1 + 1 := ⟨d - 1, by omega⟩
      rw [en 1 d1 (i + 1) _ (by omega) (by omega)]
      by_cases a1 : itV (x (i + 1)) 1 < 0
      · rw [if_pos (c := itV (x (i + 1)) 1 < 0 ∨ h = 8) (Or.inl a1), if_pos a1]
        exact ⟨fun _ => by dsimp only; omega, fun q => by omega⟩
      · rw [if_neg (c := itV (x (i + 1)) 1 < 0 ∨ h = 8) (fun q => q.elim a1 h8), if_neg a1]
        by_cases b2 : s ≤ i + 2
        · rw [if_pos b2, show d1 = 0 by omega, ez _ _ _ (by omega)]
          exact ⟨fun _ => rfl, fun q => by omega⟩
        · rw [if_neg b2]
          obtain ⟨d2, rfl⟩ : ∃ d2, d1 = d2 + 1 := ⟨d1 - 1, by omega⟩
          rw [en 2 d2 (i + 1 + 1) _ (by omega) (by omega)]
          by_cases a2 : itV (x (i + 2)) 2 < 0
          · rw [if_pos (c := itV (x (i + 1 + 1)) 2 < 0 ∨ h = 8) (Or.inl a2), if_pos a2]
            exact ⟨fun _ => by dsimp only; omega, fun q => by omega⟩
          · rw [if_neg (c := itV (x (i + 1 + 1)) 2 < 0 ∨ h = 8) (fun q => q.elim a2 h8), if_neg a2]
            by_cases b3 : s ≤ i + 3
            · rw [if_pos b3, show d2 = 0 by omega, ez _ _ _ (by omega)]
              exact ⟨fun _ => rfl, fun q => by omega⟩
            · rw [if_neg b3]
              obtain ⟨d3, rfl⟩ : ∃ d3, d2 = d3 + 1 := ⟨d2 - 1, by omega⟩
              rw [e3 d3 (i + 1 + 1 + 1) _]
              by_cases a3 : itV (x (i + 3)) 3 < 0
              · rw [if_pos (c := itV (x (i + 1 + 1 + 1)) 3 < 0 ∨ h = 8) (Or.inl a3), if_pos a3]
                exact ⟨fun _ => by dsimp only; omega, fun q => by omega⟩
              · rw [if_neg (c := itV (x (i + 1 + 1 + 1)) 3 < 0 ∨ h = 8) (fun q => q.elim a3 h8), if_neg a3]
                refine ⟨fun q => absurd rfl q, fun _ => ⟨by omega, ?_, by omega, by omega, by omega, by omega⟩⟩
                rw [show s - (i + 4) = d3 by omega]
set_option maxRecDepth 100000 in
theorem wp_kind {μ : Nat → Nat → Int} (hl : LT μ) (c : Int) (Φ : Option AV → ST → Prop) : wpM 139 [.inl c] (S μ) Φ ↔ Φ (some (.inl (if koZ c = -1 then -9 else koZ c))) (S μ) := by
  obtain ⟨l0, l1, l2, l3, l4, l5⟩ := hl
  unfold wpM koZ
  rw [s1_iff [] 200]
  simp (disch := omega) [sz_s, sz_0, gx_s, hx_r, hx_c, hx_b, hx_s, hx_i, hx_n, kx_s, kx_n, kx_i, cx_d, up_at, am_ctl, am_step, am_i1, am_i2, am_i2d, am_l1, am_l2, am_l2d, am_ldi, am_ldl, am_lda, am_sti, am_sta, am_stl, am_inc, am_i2l, am_l2i, am_lcmp, am_dup, am_dup2, am_pop1, am_fv, am_getf, am_putf, am_wr, am_ial, am_lal, am_bal, am_aal, am_ias, am_las, am_bas, am_alen, am_inst, am_cast, am_cpm, am_copy, am_tsw, am_pop, am_cat, am_cS, am_cI, am_cV, am_ri, am_rl, am_ra, am_rv, am_b1, am_b2, am_ent, am_en, am_isL, am_st1, am_st2, am_clr, am_cnd, cc_139, ac_139, nL_139, rb_139, List.getElem?_cons_succ, List.getElem?_cons_zero, nz_of, nzl_of, Int.toNat_add, Int.toNat_mul, tn_l, lt_t, lt_f, le_t, le_f, eq_t, eq_f, ltn_t, ltn_f, len_t, len_f, eqn_t, eqn_f, up_ne, up_up, sh_1000, l0, l1, l2, l3, l4, l5]
  all_goals (repeat' split) <;> first | rfl | (exfalso; omega)
set_option maxRecDepth 100000 in
theorem wp_fits {μ : Nat → Nat → Int} (hl : LT μ) (c : Int) (hc : -128 ≤ c ∧ c ≤ 127) (p : Nat) (hp : p < 4) (Φ : Option AV → ST → Prop) : wpM 142 [.inl c, .inl p] (S μ) Φ ↔ Φ (some (.inl (if itV c p < 0 then 0 else 1))) (S μ) := by
  have kr := koZ_rng c
  have : p = 0 ∨ p = 1 ∨ p = 2 ∨ p = 3 := by omega
  unfold wpM itV
  rcases this with rfl | rfl | rfl | rfl
  · by_cases k : koZ c = -1
    · rw [s1_iff [] 200]
      simp (disch := omega) [sz_s, sz_0, gx_s, hx_r, hx_c, hx_b, hx_s, hx_i, hx_n, kx_s, kx_n, kx_i, cx_d, up_at, am_ctl, am_step, am_i1, am_i2, am_i2d, am_l1, am_l2, am_l2d, am_ldi, am_ldl, am_lda, am_sti, am_sta, am_stl, am_inc, am_i2l, am_l2i, am_lcmp, am_dup, am_dup2, am_pop1, am_fv, am_getf, am_putf, am_wr, am_ial, am_lal, am_bal, am_aal, am_ias, am_las, am_bas, am_alen, am_inst, am_cast, am_cpm, am_copy, am_tsw, am_pop, am_cat, am_cS, am_cI, am_cV, am_ri, am_rl, am_ra, am_rv, am_b1, am_b2, am_ent, am_en, am_isL, am_st1, am_st2, am_clr, am_cnd, cc_142, ac_142, nL_142, rb_142, np_129, ok_142_129, nL_129, np_139, ok_142_139, nL_139, List.getElem?_cons_succ, List.getElem?_cons_zero, nz_of, nzl_of, Int.toNat_add, Int.toNat_mul, tn_l, lt_t, lt_f, le_t, le_f, eq_t, eq_f, ltn_t, ltn_f, len_t, len_f, eqn_t, eqn_f, up_ne, up_up, wp_kind hl, k]
    · rw [s1_iff [] 200]
      simp (disch := omega) [sz_s, sz_0, gx_s, hx_r, hx_c, hx_b, hx_s, hx_i, hx_n, kx_s, kx_n, kx_i, cx_d, up_at, am_ctl, am_step, am_i1, am_i2, am_i2d, am_l1, am_l2, am_l2d, am_ldi, am_ldl, am_lda, am_sti, am_sta, am_stl, am_inc, am_i2l, am_l2i, am_lcmp, am_dup, am_dup2, am_pop1, am_fv, am_getf, am_putf, am_wr, am_ial, am_lal, am_bal, am_aal, am_ias, am_las, am_bas, am_alen, am_inst, am_cast, am_cpm, am_copy, am_tsw, am_pop, am_cat, am_cS, am_cI, am_cV, am_ri, am_rl, am_ra, am_rv, am_b1, am_b2, am_ent, am_en, am_isL, am_st1, am_st2, am_clr, am_cnd, cc_142, ac_142, nL_142, rb_142, np_129, ok_142_129, nL_129, np_139, ok_142_139, nL_139, List.getElem?_cons_succ, List.getElem?_cons_zero, nz_of, nzl_of, Int.toNat_add, Int.toNat_mul, tn_l, lt_t, lt_f, le_t, le_f, eq_t, eq_f, ltn_t, ltn_f, len_t, len_f, eqn_t, eqn_f, up_ne, up_up, wp_kind hl, k]
  · rw [s1_iff [] 200]
    simp (disch := omega) [sz_s, sz_0, gx_s, hx_r, hx_c, hx_b, hx_s, hx_i, hx_n, kx_s, kx_n, kx_i, cx_d, up_at, am_ctl, am_step, am_i1, am_i2, am_i2d, am_l1, am_l2, am_l2d, am_ldi, am_ldl, am_lda, am_sti, am_sta, am_stl, am_inc, am_i2l, am_l2i, am_lcmp, am_dup, am_dup2, am_pop1, am_fv, am_getf, am_putf, am_wr, am_ial, am_lal, am_bal, am_aal, am_ias, am_las, am_bas, am_alen, am_inst, am_cast, am_cpm, am_copy, am_tsw, am_pop, am_cat, am_cS, am_cI, am_cV, am_ri, am_rl, am_ra, am_rv, am_b1, am_b2, am_ent, am_en, am_isL, am_st1, am_st2, am_clr, am_cnd, cc_142, ac_142, nL_142, rb_142, np_129, ok_142_129, nL_129, np_139, ok_142_139, nL_139, List.getElem?_cons_succ, List.getElem?_cons_zero, nz_of, nzl_of, Int.toNat_add, Int.toNat_mul, tn_l, lt_t, lt_f, le_t, le_f, eq_t, eq_f, ltn_t, ltn_f, len_t, len_f, eqn_t, eqn_f, up_ne, up_up, wp_within]
    all_goals (repeat' split) <;> first | rfl | (exfalso; omega)
  · rw [s1_iff [] 200]
    simp (disch := omega) [sz_s, sz_0, gx_s, hx_r, hx_c, hx_b, hx_s, hx_i, hx_n, kx_s, kx_n, kx_i, cx_d, up_at, am_ctl, am_step, am_i1, am_i2, am_i2d, am_l1, am_l2, am_l2d, am_ldi, am_ldl, am_lda, am_sti, am_sta, am_stl, am_inc, am_i2l, am_l2i, am_lcmp, am_dup, am_dup2, am_pop1, am_fv, am_getf, am_putf, am_wr, am_ial, am_lal, am_bal, am_aal, am_ias, am_las, am_bas, am_alen, am_inst, am_cast, am_cpm, am_copy, am_tsw, am_pop, am_cat, am_cS, am_cI, am_cV, am_ri, am_rl, am_ra, am_rv, am_b1, am_b2, am_ent, am_en, am_isL, am_st1, am_st2, am_clr, am_cnd, cc_142, ac_142, nL_142, rb_142, np_129, ok_142_129, nL_129, np_139, ok_142_139, nL_139, List.getElem?_cons_succ, List.getElem?_cons_zero, nz_of, nzl_of, Int.toNat_add, Int.toNat_mul, tn_l, lt_t, lt_f, le_t, le_f, eq_t, eq_f, ltn_t, ltn_f, len_t, len_f, eqn_t, eqn_f, up_ne, up_up, wp_within]
    all_goals (repeat' split) <;> first | rfl | (exfalso; omega)
  · rw [s1_iff [] 200]
    simp (disch := omega) [sz_s, sz_0, gx_s, hx_r, hx_c, hx_b, hx_s, hx_i, hx_n, kx_s, kx_n, kx_i, cx_d, up_at, am_ctl, am_step, am_i1, am_i2, am_i2d, am_l1, am_l2, am_l2d, am_ldi, am_ldl, am_lda, am_sti, am_sta, am_stl, am_inc, am_i2l, am_l2i, am_lcmp, am_dup, am_dup2, am_pop1, am_fv, am_getf, am_putf, am_wr, am_ial, am_lal, am_bal, am_aal, am_ias, am_las, am_bas, am_alen, am_inst, am_cast, am_cpm, am_copy, am_tsw, am_pop, am_cat, am_cS, am_cI, am_cV, am_ri, am_rl, am_ra, am_rv, am_b1, am_b2, am_ent, am_en, am_isL, am_st1, am_st2, am_clr, am_cnd, cc_142, ac_142, nL_142, rb_142, np_129, ok_142_129, nL_129, np_139, ok_142_139, nL_139, List.getElem?_cons_succ, List.getElem?_cons_zero, nz_of, nzl_of, Int.toNat_add, Int.toNat_mul, tn_l, lt_t, lt_f, le_t, le_f, eq_t, eq_f, ltn_t, ltn_f, len_t, len_f, eqn_t, eqn_f, up_ne, up_up, wp_within]
    all_goals (repeat' split) <;> first | rfl | (exfalso; omega)
/-- text n, of both sides, as x says -/
def TX (μ : Nat → Nat → Int) (n s : Nat) (x : Nat → Int) : Prop := s ≤ 80 ∧ μ (58 + 2 * n) 1 = s ∧ μ 107 n = s ∧ ∀ i, i < s → μ (59 + 2 * n) i = x i ∧ μ 106 (80 * n + i) = x i ∧ -128 ≤ x i ∧ x i ≤ 127
set_option maxRecDepth 100000 in
theorem wp_itemFault {μ : Nat → Nat → Int} (hl : LT μ) {n s : Nat} {x : Nat → Int} (hn : n < 4) (hT : TX μ n s x) (i : Nat) (hi : i < s) (Φ : Option AV → ST → Prop) : wpM 141 [.inr (.inr (some (58 + 2 * n))), .inl i] (S μ) Φ ↔ Φ (some (.inl (itF x s i))) (S μ) := by
  obtain ⟨g1, g2, g3, g4⟩ := g_text n hn
  obtain ⟨t1, t2, t3, t4⟩ := hT
  have x0 := t4 i hi
  have F := fun (j : Nat) (hj : j < s) (p : Nat) (hp : p < 4) => wp_fits hl (x j) (t4 j hj).2.2 p hp
  have f0 := F i hi 0 (by omega)
  simp only [Int.natCast_zero] at f0
  unfold wpM itF
  by_cases a0 : itV (x i) 0 < 0
  · rw [if_pos a0]
    rw [if_pos a0] at f0
    rw [s1_iff [] 200]
    simp (disch := omega) [sz_s, sz_0, gx_s, hx_r, hx_c, hx_b, hx_s, hx_i, hx_n, kx_s, kx_n, kx_i, cx_d, up_at, am_ctl, am_step, am_i1, am_i2, am_i2d, am_l1, am_l2, am_l2d, am_ldi, am_ldl, am_lda, am_sti, am_sta, am_stl, am_inc, am_i2l, am_l2i, am_lcmp, am_dup, am_dup2, am_pop1, am_fv, am_getf, am_putf, am_wr, am_ial, am_lal, am_bal, am_aal, am_ias, am_las, am_bas, am_alen, am_inst, am_cast, am_cpm, am_copy, am_tsw, am_pop, am_cat, am_cS, am_cI, am_cV, am_ri, am_rl, am_ra, am_rv, am_b1, am_b2, am_ent, am_en, am_isL, am_st1, am_st2, am_clr, am_cnd, cc_141, ac_141, nL_141, rb_141, np_142, ok_141_142, nL_142, tg_8_1, tg_8_0, List.getElem?_cons_succ, List.getElem?_cons_zero, nz_of, nzl_of, Int.toNat_add, Int.toNat_mul, tn_l, lt_t, lt_f, le_t, le_f, eq_t, eq_f, ltn_t, ltn_f, len_t, len_f, eqn_t, eqn_f, up_ne, up_up, g2, g3, g4, t2, x0.1, f0]
  · rw [if_neg a0]
    rw [if_neg a0] at f0
    by_cases b1 : s ≤ i + 1
    · rw [if_pos b1]
      rw [s1_iff [] 200]
      simp (disch := omega) [sz_s, sz_0, gx_s, hx_r, hx_c, hx_b, hx_s, hx_i, hx_n, kx_s, kx_n, kx_i, cx_d, up_at, am_ctl, am_step, am_i1, am_i2, am_i2d, am_l1, am_l2, am_l2d, am_ldi, am_ldl, am_lda, am_sti, am_sta, am_stl, am_inc, am_i2l, am_l2i, am_lcmp, am_dup, am_dup2, am_pop1, am_fv, am_getf, am_putf, am_wr, am_ial, am_lal, am_bal, am_aal, am_ias, am_las, am_bas, am_alen, am_inst, am_cast, am_cpm, am_copy, am_tsw, am_pop, am_cat, am_cS, am_cI, am_cV, am_ri, am_rl, am_ra, am_rv, am_b1, am_b2, am_ent, am_en, am_isL, am_st1, am_st2, am_clr, am_cnd, cc_141, ac_141, nL_141, rb_141, np_142, ok_141_142, nL_142, tg_8_1, tg_8_0, List.getElem?_cons_succ, List.getElem?_cons_zero, nz_of, nzl_of, Int.toNat_add, Int.toNat_mul, tn_l, lt_t, lt_f, le_t, le_f, eq_t, eq_f, ltn_t, ltn_f, len_t, len_f, eqn_t, eqn_f, up_ne, up_up, g2, g3, g4, t2, x0.1, f0]
    · rw [if_neg b1]
      have x1 := t4 (i + 1) (by omega)
      have f1 := F (i + 1) (by omega) 1 (by omega)
      simp only [Int.natCast_one] at f1
      by_cases a1 : itV (x (i + 1)) 1 < 0
      · rw [if_pos a1]
        rw [if_pos a1] at f1
        rw [s1_iff [] 200]
        simp (disch := omega) [sz_s, sz_0, gx_s, hx_r, hx_c, hx_b, hx_s, hx_i, hx_n, kx_s, kx_n, kx_i, cx_d, up_at, am_ctl, am_step, am_i1, am_i2, am_i2d, am_l1, am_l2, am_l2d, am_ldi, am_ldl, am_lda, am_sti, am_sta, am_stl, am_inc, am_i2l, am_l2i, am_lcmp, am_dup, am_dup2, am_pop1, am_fv, am_getf, am_putf, am_wr, am_ial, am_lal, am_bal, am_aal, am_ias, am_las, am_bas, am_alen, am_inst, am_cast, am_cpm, am_copy, am_tsw, am_pop, am_cat, am_cS, am_cI, am_cV, am_ri, am_rl, am_ra, am_rv, am_b1, am_b2, am_ent, am_en, am_isL, am_st1, am_st2, am_clr, am_cnd, cc_141, ac_141, nL_141, rb_141, np_142, ok_141_142, nL_142, tg_8_1, tg_8_0, List.getElem?_cons_succ, List.getElem?_cons_zero, nz_of, nzl_of, Int.toNat_add, Int.toNat_mul, tn_l, lt_t, lt_f, le_t, le_f, eq_t, eq_f, ltn_t, ltn_f, len_t, len_f, eqn_t, eqn_f, up_ne, up_up, g2, g3, g4, t2, x0.1, x1.1, f0, f1]
      · rw [if_neg a1]
        rw [if_neg a1] at f1
        by_cases b2 : s ≤ i + 2
        · rw [if_pos b2]
          rw [s1_iff [] 200]
          simp (disch := omega) [sz_s, sz_0, gx_s, hx_r, hx_c, hx_b, hx_s, hx_i, hx_n, kx_s, kx_n, kx_i, cx_d, up_at, am_ctl, am_step, am_i1, am_i2, am_i2d, am_l1, am_l2, am_l2d, am_ldi, am_ldl, am_lda, am_sti, am_sta, am_stl, am_inc, am_i2l, am_l2i, am_lcmp, am_dup, am_dup2, am_pop1, am_fv, am_getf, am_putf, am_wr, am_ial, am_lal, am_bal, am_aal, am_ias, am_las, am_bas, am_alen, am_inst, am_cast, am_cpm, am_copy, am_tsw, am_pop, am_cat, am_cS, am_cI, am_cV, am_ri, am_rl, am_ra, am_rv, am_b1, am_b2, am_ent, am_en, am_isL, am_st1, am_st2, am_clr, am_cnd, cc_141, ac_141, nL_141, rb_141, np_142, ok_141_142, nL_142, tg_8_1, tg_8_0, List.getElem?_cons_succ, List.getElem?_cons_zero, nz_of, nzl_of, Int.toNat_add, Int.toNat_mul, tn_l, lt_t, lt_f, le_t, le_f, eq_t, eq_f, ltn_t, ltn_f, len_t, len_f, eqn_t, eqn_f, up_ne, up_up, g2, g3, g4, t2, x0.1, x1.1, f0, f1]
        · rw [if_neg b2]
          have x2 := t4 (i + 2) (by omega)
          have f2 := F (i + 2) (by omega) 2 (by omega)
          rw [show ((2 : Nat) : Int) = 2 from rfl] at f2
          by_cases a2 : itV (x (i + 2)) 2 < 0
          · rw [if_pos a2]
            rw [if_pos a2] at f2
            rw [s1_iff [] 200]
            simp (disch := omega) [sz_s, sz_0, gx_s, hx_r, hx_c, hx_b, hx_s, hx_i, hx_n, kx_s, kx_n, kx_i, cx_d, up_at, am_ctl, am_step, am_i1, am_i2, am_i2d, am_l1, am_l2, am_l2d, am_ldi, am_ldl, am_lda, am_sti, am_sta, am_stl, am_inc, am_i2l, am_l2i, am_lcmp, am_dup, am_dup2, am_pop1, am_fv, am_getf, am_putf, am_wr, am_ial, am_lal, am_bal, am_aal, am_ias, am_las, am_bas, am_alen, am_inst, am_cast, am_cpm, am_copy, am_tsw, am_pop, am_cat, am_cS, am_cI, am_cV, am_ri, am_rl, am_ra, am_rv, am_b1, am_b2, am_ent, am_en, am_isL, am_st1, am_st2, am_clr, am_cnd, cc_141, ac_141, nL_141, rb_141, np_142, ok_141_142, nL_142, tg_8_1, tg_8_0, List.getElem?_cons_succ, List.getElem?_cons_zero, nz_of, nzl_of, Int.toNat_add, Int.toNat_mul, tn_l, lt_t, lt_f, le_t, le_f, eq_t, eq_f, ltn_t, ltn_f, len_t, len_f, eqn_t, eqn_f, up_ne, up_up, g2, g3, g4, t2, x0.1, x1.1, x2.1, f0, f1, f2]
          · rw [if_neg a2]
            rw [if_neg a2] at f2
            by_cases b3 : s ≤ i + 3
            · rw [if_pos b3]
              rw [s1_iff [] 200]
              simp (disch := omega) [sz_s, sz_0, gx_s, hx_r, hx_c, hx_b, hx_s, hx_i, hx_n, kx_s, kx_n, kx_i, cx_d, up_at, am_ctl, am_step, am_i1, am_i2, am_i2d, am_l1, am_l2, am_l2d, am_ldi, am_ldl, am_lda, am_sti, am_sta, am_stl, am_inc, am_i2l, am_l2i, am_lcmp, am_dup, am_dup2, am_pop1, am_fv, am_getf, am_putf, am_wr, am_ial, am_lal, am_bal, am_aal, am_ias, am_las, am_bas, am_alen, am_inst, am_cast, am_cpm, am_copy, am_tsw, am_pop, am_cat, am_cS, am_cI, am_cV, am_ri, am_rl, am_ra, am_rv, am_b1, am_b2, am_ent, am_en, am_isL, am_st1, am_st2, am_clr, am_cnd, cc_141, ac_141, nL_141, rb_141, np_142, ok_141_142, nL_142, tg_8_1, tg_8_0, List.getElem?_cons_succ, List.getElem?_cons_zero, nz_of, nzl_of, Int.toNat_add, Int.toNat_mul, tn_l, lt_t, lt_f, le_t, le_f, eq_t, eq_f, ltn_t, ltn_f, len_t, len_f, eqn_t, eqn_f, up_ne, up_up, g2, g3, g4, t2, x0.1, x1.1, x2.1, f0, f1, f2]
            · rw [if_neg b3]
              have x3 := t4 (i + 3) (by omega)
              have f3 := F (i + 3) (by omega) 3 (by omega)
              rw [show ((3 : Nat) : Int) = 3 from rfl] at f3
              by_cases a3 : itV (x (i + 3)) 3 < 0
              · rw [if_pos a3]
                rw [if_pos a3] at f3
                rw [s1_iff [] 200]
                simp (disch := omega) [sz_s, sz_0, gx_s, hx_r, hx_c, hx_b, hx_s, hx_i, hx_n, kx_s, kx_n, kx_i, cx_d, up_at, am_ctl, am_step, am_i1, am_i2, am_i2d, am_l1, am_l2, am_l2d, am_ldi, am_ldl, am_lda, am_sti, am_sta, am_stl, am_inc, am_i2l, am_l2i, am_lcmp, am_dup, am_dup2, am_pop1, am_fv, am_getf, am_putf, am_wr, am_ial, am_lal, am_bal, am_aal, am_ias, am_las, am_bas, am_alen, am_inst, am_cast, am_cpm, am_copy, am_tsw, am_pop, am_cat, am_cS, am_cI, am_cV, am_ri, am_rl, am_ra, am_rv, am_b1, am_b2, am_ent, am_en, am_isL, am_st1, am_st2, am_clr, am_cnd, cc_141, ac_141, nL_141, rb_141, np_142, ok_141_142, nL_142, tg_8_1, tg_8_0, List.getElem?_cons_succ, List.getElem?_cons_zero, nz_of, nzl_of, Int.toNat_add, Int.toNat_mul, tn_l, lt_t, lt_f, le_t, le_f, eq_t, eq_f, ltn_t, ltn_f, len_t, len_f, eqn_t, eqn_f, up_ne, up_up, g2, g3, g4, t2, x0.1, x1.1, x2.1, x3.1, f0, f1, f2, f3]
              · rw [if_neg a3]
                rw [if_neg a3] at f3
                rw [s1_iff [] 200]
                simp (disch := omega) [sz_s, sz_0, gx_s, hx_r, hx_c, hx_b, hx_s, hx_i, hx_n, kx_s, kx_n, kx_i, cx_d, up_at, am_ctl, am_step, am_i1, am_i2, am_i2d, am_l1, am_l2, am_l2d, am_ldi, am_ldl, am_lda, am_sti, am_sta, am_stl, am_inc, am_i2l, am_l2i, am_lcmp, am_dup, am_dup2, am_pop1, am_fv, am_getf, am_putf, am_wr, am_ial, am_lal, am_bal, am_aal, am_ias, am_las, am_bas, am_alen, am_inst, am_cast, am_cpm, am_copy, am_tsw, am_pop, am_cat, am_cS, am_cI, am_cV, am_ri, am_rl, am_ra, am_rv, am_b1, am_b2, am_ent, am_en, am_isL, am_st1, am_st2, am_clr, am_cnd, cc_141, ac_141, nL_141, rb_141, np_142, ok_141_142, nL_142, tg_8_1, tg_8_0, List.getElem?_cons_succ, List.getElem?_cons_zero, nz_of, nzl_of, Int.toNat_add, Int.toNat_mul, tn_l, lt_t, lt_f, le_t, le_f, eq_t, eq_f, ltn_t, ltn_f, len_t, len_f, eqn_t, eqn_f, up_ne, up_up, g2, g3, g4, t2, x0.1, x1.1, x2.1, x3.1, f0, f1, f2, f3]
set_option maxRecDepth 100000 in
theorem wp_faultOf {μ : Nat → Nat → Int} (hl : LT μ) {n s : Nat} {x : Nat → Int} (hn : n < 4) (hT : TX μ n s x) (rd : Nat → Int) (Φ : Option AV → ST → Prop) : wpM 140 [.inr (.inr (some (58 + 2 * n)))] (S μ) Φ ↔ Φ (some (.inl (fmZ x s s 0 0 0 rd).1)) (S μ) := by
  obtain ⟨g1, g2, g3, g4⟩ := g_text n hn
  have hT' := hT
  obtain ⟨t1, t2, t3, t4⟩ := hT
  have lp : ∀ (m i h : Nat) (rd : Nat → Int) (jk : Option AV), s - i ≤ m → i ≤ s → h ≤ 8 → (∀ z, ¬ jk = some (.inr (.inl z))) → (wpS 140 4 [some (.inr (.inr (some (58 + 2 * n)))), some (.inl h), some (.inl i), jk] [] (S μ) Φ ↔ Φ (some (.inl (fmZ x s (s - i) i 0 h rd).1)) (S μ)) := by
    intro m
    induction m with
    | zero =>
      intro i h rd jk hm hi hh hj
      obtain rfl : i = s := by omega
      rw [Nat.sub_self, fmZ]
      rw [s1_iff [4] 200]
      simp (disch := omega) [sz_s, sz_0, gx_s, hx_r, hx_c, hx_b, hx_s, hx_i, hx_n, kx_s, kx_n, kx_i, cx_d, up_at, am_ctl, am_step, am_i1, am_i2, am_i2d, am_l1, am_l2, am_l2d, am_ldi, am_ldl, am_lda, am_sti, am_sta, am_stl, am_inc, am_i2l, am_l2i, am_lcmp, am_dup, am_dup2, am_pop1, am_fv, am_getf, am_putf, am_wr, am_ial, am_lal, am_bal, am_aal, am_ias, am_las, am_bas, am_alen, am_inst, am_cast, am_cpm, am_copy, am_tsw, am_pop, am_cat, am_cS, am_cI, am_cV, am_ri, am_rl, am_ra, am_rv, am_b1, am_b2, am_ent, am_en, am_isL, am_st1, am_st2, am_clr, am_cnd, cc_140, ac_140, nL_140, rb_140, np_141, ok_140_141, nL_141, tg_8_1, tg_8_0, List.getElem?_cons_succ, List.getElem?_cons_zero, nz_of, nzl_of, Int.toNat_add, Int.toNat_mul, tn_l, lt_t, lt_f, le_t, le_f, eq_t, eq_f, ltn_t, ltn_f, len_t, len_f, eqn_t, eqn_f, up_ne, up_up, g2, t2]
    | succ m ih =>
      intro i h rd jk hm hi hh hj
      by_cases e : i = s
      · subst e
        rw [Nat.sub_self, fmZ]
        rw [s1_iff [4] 200]
        simp (disch := omega) [sz_s, sz_0, gx_s, hx_r, hx_c, hx_b, hx_s, hx_i, hx_n, kx_s, kx_n, kx_i, cx_d, up_at, am_ctl, am_step, am_i1, am_i2, am_i2d, am_l1, am_l2, am_l2d, am_ldi, am_ldl, am_lda, am_sti, am_sta, am_stl, am_inc, am_i2l, am_l2i, am_lcmp, am_dup, am_dup2, am_pop1, am_fv, am_getf, am_putf, am_wr, am_ial, am_lal, am_bal, am_aal, am_ias, am_las, am_bas, am_alen, am_inst, am_cast, am_cpm, am_copy, am_tsw, am_pop, am_cat, am_cS, am_cI, am_cV, am_ri, am_rl, am_ra, am_rv, am_b1, am_b2, am_ent, am_en, am_isL, am_st1, am_st2, am_clr, am_cnd, cc_140, ac_140, nL_140, rb_140, np_141, ok_140_141, nL_141, tg_8_1, tg_8_0, List.getElem?_cons_succ, List.getElem?_cons_zero, nz_of, nzl_of, Int.toNat_add, Int.toNat_mul, tn_l, lt_t, lt_f, le_t, le_f, eq_t, eq_f, ltn_t, ltn_f, len_t, len_f, eqn_t, eqn_f, up_ne, up_up, g2, t2]
      · have x0 := t4 i (by omega)
        have his : i < s := by omega
        by_cases b : x i = 32
        · rw [fm_blank his b]
          have q := ih (i + 1) h rd jk (by omega) (by omega) hh hj
          simp only [Int.natCast_add, Int.natCast_one] at q
          rw [s1_iff [4] 200]
          simp (disch := omega) [sz_s, sz_0, gx_s, hx_r, hx_c, hx_b, hx_s, hx_i, hx_n, kx_s, kx_n, kx_i, cx_d, up_at, am_ctl, am_step, am_i1, am_i2, am_i2d, am_l1, am_l2, am_l2d, am_ldi, am_ldl, am_lda, am_sti, am_sta, am_stl, am_inc, am_i2l, am_l2i, am_lcmp, am_dup, am_dup2, am_pop1, am_fv, am_getf, am_putf, am_wr, am_ial, am_lal, am_bal, am_aal, am_ias, am_las, am_bas, am_alen, am_inst, am_cast, am_cpm, am_copy, am_tsw, am_pop, am_cat, am_cS, am_cI, am_cV, am_ri, am_rl, am_ra, am_rv, am_b1, am_b2, am_ent, am_en, am_isL, am_st1, am_st2, am_clr, am_cnd, cc_140, ac_140, nL_140, rb_140, np_141, ok_140_141, nL_141, tg_8_1, tg_8_0, List.getElem?_cons_succ, List.getElem?_cons_zero, nz_of, nzl_of, Int.toNat_add, Int.toNat_mul, tn_l, lt_t, lt_f, le_t, le_f, eq_t, eq_f, ltn_t, ltn_f, len_t, len_f, eqn_t, eqn_f, up_ne, up_up, g2, g3, g4, t2, x0.1, b, his, q]
        · by_cases h8 : h = 8
          · subst h8
            rw [fm_full his b]
            rw [s1_iff [4] 200]
            simp (disch := omega) [sz_s, sz_0, gx_s, hx_r, hx_c, hx_b, hx_s, hx_i, hx_n, kx_s, kx_n, kx_i, cx_d, up_at, am_ctl, am_step, am_i1, am_i2, am_i2d, am_l1, am_l2, am_l2d, am_ldi, am_ldl, am_lda, am_sti, am_sta, am_stl, am_inc, am_i2l, am_l2i, am_lcmp, am_dup, am_dup2, am_pop1, am_fv, am_getf, am_putf, am_wr, am_ial, am_lal, am_bal, am_aal, am_ias, am_las, am_bas, am_alen, am_inst, am_cast, am_cpm, am_copy, am_tsw, am_pop, am_cat, am_cS, am_cI, am_cV, am_ri, am_rl, am_ra, am_rv, am_b1, am_b2, am_ent, am_en, am_isL, am_st1, am_st2, am_clr, am_cnd, cc_140, ac_140, nL_140, rb_140, np_141, ok_140_141, nL_141, tg_8_1, tg_8_0, List.getElem?_cons_succ, List.getElem?_cons_zero, nz_of, nzl_of, Int.toNat_add, Int.toNat_mul, tn_l, lt_t, lt_f, le_t, le_f, eq_t, eq_f, ltn_t, ltn_f, len_t, len_f, eqn_t, eqn_f, up_ne, up_up, g2, g3, g4, t2, x0.1, b, his]
          · obtain ⟨q1, q2⟩ := fm_item (rd := rd) his b (show h < 8 by omega)
            have I := wp_itemFault hl hn hT' i his
            by_cases f : itF x s i = -9
            · obtain ⟨q3, q4, -⟩ := q2 f
              rw [q4]
              rw [f] at I
              have q := ih (i + 4) (h + 1) (am_u1 (am_u1 (am_u1 (am_u1 rd (4 * h + 0) (itV (x i) 0)) (4 * h + 1) (itV (x (i + 1)) 1)) (4 * h + 2) (itV (x (i + 2)) 2)) (4 * h + 3) (itV (x (i + 3)) 3)) (some (.inl (-9))) (by omega) q3 (by omega) (by simp)
              rw [show ((i + 4 : Nat) : Int) = (i : Int) + 4 by omega, show ((h + 1 : Nat) : Int) = (h : Int) + 1 by omega] at q
              rw [s1_iff [4] 200]
              simp (disch := omega) [sz_s, sz_0, gx_s, hx_r, hx_c, hx_b, hx_s, hx_i, hx_n, kx_s, kx_n, kx_i, cx_d, up_at, am_ctl, am_step, am_i1, am_i2, am_i2d, am_l1, am_l2, am_l2d, am_ldi, am_ldl, am_lda, am_sti, am_sta, am_stl, am_inc, am_i2l, am_l2i, am_lcmp, am_dup, am_dup2, am_pop1, am_fv, am_getf, am_putf, am_wr, am_ial, am_lal, am_bal, am_aal, am_ias, am_las, am_bas, am_alen, am_inst, am_cast, am_cpm, am_copy, am_tsw, am_pop, am_cat, am_cS, am_cI, am_cV, am_ri, am_rl, am_ra, am_rv, am_b1, am_b2, am_ent, am_en, am_isL, am_st1, am_st2, am_clr, am_cnd, cc_140, ac_140, nL_140, rb_140, np_141, ok_140_141, nL_141, tg_8_1, tg_8_0, List.getElem?_cons_succ, List.getElem?_cons_zero, nz_of, nzl_of, Int.toNat_add, Int.toNat_mul, tn_l, lt_t, lt_f, le_t, le_f, eq_t, eq_f, ltn_t, ltn_f, len_t, len_f, eqn_t, eqn_f, up_ne, up_up, g2, g3, g4, t2, x0.1, b, his, h8, I, q]
            · rw [q1 f]
              rw [s1_iff [4] 200]
              simp (disch := omega) [sz_s, sz_0, gx_s, hx_r, hx_c, hx_b, hx_s, hx_i, hx_n, kx_s, kx_n, kx_i, cx_d, up_at, am_ctl, am_step, am_i1, am_i2, am_i2d, am_l1, am_l2, am_l2d, am_ldi, am_ldl, am_lda, am_sti, am_sta, am_stl, am_inc, am_i2l, am_l2i, am_lcmp, am_dup, am_dup2, am_pop1, am_fv, am_getf, am_putf, am_wr, am_ial, am_lal, am_bal, am_aal, am_ias, am_las, am_bas, am_alen, am_inst, am_cast, am_cpm, am_copy, am_tsw, am_pop, am_cat, am_cS, am_cI, am_cV, am_ri, am_rl, am_ra, am_rv, am_b1, am_b2, am_ent, am_en, am_isL, am_st1, am_st2, am_clr, am_cnd, cc_140, ac_140, nL_140, rb_140, np_141, ok_140_141, nL_141, tg_8_1, tg_8_0, List.getElem?_cons_succ, List.getElem?_cons_zero, nz_of, nzl_of, Int.toNat_add, Int.toNat_mul, tn_l, lt_t, lt_f, le_t, le_f, eq_t, eq_f, ltn_t, ltn_f, len_t, len_f, eqn_t, eqn_f, up_ne, up_up, g2, g3, g4, t2, x0.1, b, his, h8, I, f]
  have q := lp s 0 0 rd none (by omega) (by omega) (by omega) (by simp)
  rw [Nat.sub_zero] at q
  unfold wpM
  rw [s1_iff [4] 200]
  simp (disch := omega) [sz_s, sz_0, gx_s, hx_r, hx_c, hx_b, hx_s, hx_i, hx_n, kx_s, kx_n, kx_i, cx_d, up_at, am_ctl, am_step, am_i1, am_i2, am_i2d, am_l1, am_l2, am_l2d, am_ldi, am_ldl, am_lda, am_sti, am_sta, am_stl, am_inc, am_i2l, am_l2i, am_lcmp, am_dup, am_dup2, am_pop1, am_fv, am_getf, am_putf, am_wr, am_ial, am_lal, am_bal, am_aal, am_ias, am_las, am_bas, am_alen, am_inst, am_cast, am_cpm, am_copy, am_tsw, am_pop, am_cat, am_cS, am_cI, am_cV, am_ri, am_rl, am_ra, am_rv, am_b1, am_b2, am_ent, am_en, am_isL, am_st1, am_st2, am_clr, am_cnd, cc_140, ac_140, nL_140, rb_140, np_141, ok_140_141, nL_141, tg_8_1, tg_8_0, List.getElem?_cons_succ, List.getElem?_cons_zero, nz_of, nzl_of, Int.toNat_add, Int.toNat_mul, tn_l, lt_t, lt_f, le_t, le_f, eq_t, eq_f, ltn_t, ltn_f, len_t, len_f, eqn_t, eqn_f, up_ne, up_up, g2]
  exact q
