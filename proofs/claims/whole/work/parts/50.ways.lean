/-! ways of the class: a house added -/
/-- places of ways: the outer arrays' rows -/
theorem g_way : ∀ i : Nat, i < 5 → rf0 11 i = some (12 + i) ∧ sh0 (12 + i) = (1, 10, 0)
  | 0, _ => ⟨rfl, rfl⟩ | 1, _ => ⟨rfl, rfl⟩ | 2, _ => ⟨rfl, rfl⟩ | 3, _ => ⟨rfl, rfl⟩ | 4, _ => ⟨rfl, rfl⟩
  | n + 5, h => absurd h (by omega)
theorem g_way6 : ∀ i : Nat, i < 6 → (rf0 17 i = some (18 + i) ∧ sh0 (18 + i) = (1, 51, 0)) ∧ (rf0 24 i = some (25 + i) ∧ sh0 (25 + i) = (1, 51, 0)) ∧ (rf0 31 i = some (32 + i) ∧ sh0 (32 + i) = (1, 51, 0))
  | 0, _ => ⟨⟨rfl, rfl⟩, ⟨rfl, rfl⟩, ⟨rfl, rfl⟩⟩ | 1, _ => ⟨⟨rfl, rfl⟩, ⟨rfl, rfl⟩, ⟨rfl, rfl⟩⟩ | 2, _ => ⟨⟨rfl, rfl⟩, ⟨rfl, rfl⟩, ⟨rfl, rfl⟩⟩ | 3, _ => ⟨⟨rfl, rfl⟩, ⟨rfl, rfl⟩, ⟨rfl, rfl⟩⟩ | 4, _ => ⟨⟨rfl, rfl⟩, ⟨rfl, rfl⟩, ⟨rfl, rfl⟩⟩ | 5, _ => ⟨⟨rfl, rfl⟩, ⟨rfl, rfl⟩, ⟨rfl, rfl⟩⟩
  | n + 6, h => absurd h (by omega)
/-- of what is counted ahead of n, m mouths more at n -/
def psZ (f : Int → Int) (c : Nat → Int) (n : Nat) (z : Int) : Int := sumZ (fun m => if z - c m < n then f (z - c m) else 0) 10
def qsZ (f : Int → Int) (c : Nat → Int) (n : Nat) (z : Int) (m : Nat) : Int := sumZ (fun m => if z - c m = n then f n else 0) m
theorem ps_s (f : Int → Int) (c : Nat → Int) (n : Nat) (z : Int) : psZ f c (n + 1) z = psZ f c n z + qsZ f c n z 10 := by
  unfold psZ qsZ
  rw [← sumZ_add]
  refine sumZ_congr (fun m _ => ?_)
  by_cases e : z - c m = n
  · rw [e, if_pos (by omega), if_neg (by omega), if_pos rfl]; omega
  · by_cases l : z - c m < n
    · rw [if_pos (by omega), if_pos l, if_neg e]; omega
    · rw [if_neg (by omega), if_neg l, if_neg e]; rfl
theorem qs_s (f : Int → Int) (c : Nat → Int) (n : Nat) (z : Int) (m : Nat) : qsZ f c n z (m + 1) = qsZ f c n z m + (if z - c m = n then f n else 0) := rfl
theorem ps_rng {f : Int → Int} {K : Int} (c : Nat → Int) (hf : ∀ z, 0 ≤ f z ∧ f z ≤ K) (n : Nat) (z : Int) : 0 ≤ psZ f c n z ∧ psZ f c n z ≤ K * 10 := by
  have := @sumZ_rng (fun m => if z - c m < n then f (z - c m) else 0) 0 K 10 (fun m _ => by
    have := hf (z - c m)
    try dsimp only
    split <;> omega)
  unfold psZ
  omega
theorem qs_rng {f : Int → Int} {K : Int} (c : Nat → Int) (hf : ∀ z, 0 ≤ f z ∧ f z ≤ K) (n : Nat) (z : Int) (m : Nat) (hm : m ≤ 10) : 0 ≤ qsZ f c n z m ∧ qsZ f c n z m ≤ K * 10 := by
  have h0 := hf 0
  have := @sumZ_rng (fun m => if z - c m = n then f n else 0) 0 K m (fun m _ => by
    have := hf n
    try dsimp only
    split <;> omega)
  have e : K * (m : Int) ≤ K * 10 := Int.mul_le_mul_of_nonneg_left (by omega) (by omega)
  unfold qsZ
  omega
set_option maxHeartbeats 4000000 in
set_option maxRecDepth 100000 in
theorem wp_addHouse {μ : Nat → Nat → Int} (i a b : Nat) (f : Int → Int) (c : Nat → Int) (hi : i < 5) (ha : sh0 a = (1, 51, 0)) (hb : sh0 b = (1, 51, 0)) (ha1 : 18 ≤ a ∧ a < 38) (hb1 : 18 ≤ b ∧ b < 38) (hab : ¬ a = b) (hc : ∀ m, m < 10 → μ (12 + i) m = c m ∧ 0 ≤ c m ∧ c m ≤ 10) (hfa : ∀ z : Nat, z ≤ 50 → μ a z = f z) (hf : ∀ z, 0 ≤ f z ∧ f z ≤ 10000) (hf0 : ∀ z, z < 0 → f z = 0) (h0 : ∀ z : Nat, z ≤ 50 → μ b z = 0) (Φ : Option AV → ST → Prop) (k : ∀ ν, (∀ k, ¬ k = b → ν k = μ k) → (∀ z : Nat, z ≤ 50 → ν b z = sumZ (fun m => f ((z : Int) - c m)) 10) → Φ none (S ν)) : wpM 69 [.inr (.inr (some 9)), .inl i, .inr (.inr (some a)), .inr (.inr (some b))] (S μ) Φ := by
  obtain ⟨g1, g2⟩ := g_way i hi
  have key := up_to (fun (n : Nat) (s : (Nat → Nat → Int) × Option AV × Option AV) => wpS 69 3 [some (.inr (.inr (some 9))), some (.inl i), some (.inr (.inr (some a))), some (.inr (.inr (some b))), some (.inl n), s.2.1, s.2.2] [] (S s.1) Φ) (fun n s => ((∀ k, ¬ k = b → s.1 k = μ k) ∧ ∀ z : Nat, z ≤ 50 → s.1 b z = psZ f c n z) ∧ (∀ z, ¬ s.2.1 = some (.inr (.inl z))) ∧ (∀ z, ¬ s.2.2 = some (.inr (.inl z)))) 51 (fun n s hn hI hs' => by
    obtain ⟨ν, s1, s2⟩ := s
    obtain ⟨⟨i1, i2⟩, i3, i4⟩ := hI
    try dsimp only at i1 i2 i3 i4 hs' ⊢
    have va : ν a n = f n := by rw [i1 a hab]; exact hfa n (by omega)
    have fn := hf n
    by_cases z : f n = 0
    · have q := hs' (ν, s1, s2) ⟨⟨i1, fun y hy => by
        try dsimp only
        rw [i2 y hy, ps_s]
        have : qsZ f c n y 10 = 0 := sumZ_zero (fun m _ => by rw [z]; split <;> rfl)
        omega⟩, i3, i4⟩
      rw [s1_iff [3] 200]
      simp (disch := omega) [sz_s, sz_0, gx_s, hx_r, hx_c, hx_b, hx_s, hx_i, hx_n, kx_s, kx_n, kx_i, cx_d, up_at, am_ctl, am_step, am_i1, am_i2, am_i2d, am_l1, am_l2, am_l2d, am_ldi, am_ldl, am_lda, am_sti, am_sta, am_stl, am_inc, am_i2l, am_l2i, am_lcmp, am_dup, am_dup2, am_pop1, am_fv, am_getf, am_putf, am_wr, am_ial, am_lal, am_bal, am_aal, am_ias, am_las, am_bas, am_alen, am_inst, am_cast, am_cpm, am_copy, am_tsw, am_pop, am_cat, am_cS, am_cI, am_cV, am_ri, am_rl, am_ra, am_rv, am_b1, am_b2, am_ent, am_en, am_isL, am_st1, am_st2, am_clr, am_cnd, cc_69, ac_69, nL_69, rb_69, tg_10_1, List.getElem?_cons_succ, List.getElem?_cons_zero, nz_of, nzl_of, Int.toNat_add, Int.toNat_mul, tn_l, lt_t, lt_f, le_t, le_f, eq_t, eq_f, ltn_t, ltn_f, len_t, len_f, eqn_t, eqn_f, up_ne, up_up, sh_9, ha, va, z]
      simpa using q
    · have inner := up_to (fun (m : Nat) (s : (Nat → Nat → Int) × Option AV) => wpS 69 20 [some (.inr (.inr (some 9))), some (.inl i), some (.inr (.inr (some a))), some (.inr (.inr (some b))), some (.inl n), some (.inl m), s.2] [] (S s.1) Φ) (fun m s => ((∀ k, ¬ k = b → s.1 k = μ k) ∧ ∀ z : Nat, z ≤ 50 → s.1 b z = psZ f c n z + qsZ f c n z m) ∧ (∀ z, ¬ s.2 = some (.inr (.inl z)))) 10 (fun m s hm hI hs' => by
        obtain ⟨ρ, s2⟩ := s
        obtain ⟨⟨j1, j2⟩, j4⟩ := hI
        try dsimp only at j1 j2 j4 hs' ⊢
        have cm := hc m hm
        have vc : ρ (12 + i) m = c m := by rw [j1 (12 + i) (by omega)]; exact cm.1
        have wa : ρ a n = f n := by rw [j1 a hab]; exact hfa n (by omega)
        obtain ⟨w, hw⟩ : ∃ w : Nat, (n : Int) + c m = w := ⟨((n : Int) + c m).toNat, by omega⟩
        by_cases far : w ≤ 50
        · have vb := j2 w far
          have r1 := ps_rng c hf n w
          have r2 := qs_rng c hf n w m (by omega)
          have q := hs' (am_up ρ b w (ρ b w + f n), some (.inl w)) ⟨⟨fun k hk => by (try dsimp only); rw [up_ne _ _ _ hk]; exact j1 k hk, fun y hy => by
            try dsimp only
            rw [up_at, qs_s]
            by_cases e : y = w
            · subst e
              rw [if_pos ⟨rfl, rfl⟩, if_pos (by omega), j2 y hy]; omega
            · rw [if_neg (fun q => e q.2), if_neg (by omega), j2 y hy]; omega⟩, by simp⟩
          rw [vb] at q
          rw [s1_iff [20] 200]
          simp (disch := omega) [sz_s, sz_0, gx_s, hx_r, hx_c, hx_b, hx_s, hx_i, hx_n, kx_s, kx_n, kx_i, cx_d, up_at, am_ctl, am_step, am_i1, am_i2, am_i2d, am_l1, am_l2, am_l2d, am_ldi, am_ldl, am_lda, am_sti, am_sta, am_stl, am_inc, am_i2l, am_l2i, am_lcmp, am_dup, am_dup2, am_pop1, am_fv, am_getf, am_putf, am_wr, am_ial, am_lal, am_bal, am_aal, am_ias, am_las, am_bas, am_alen, am_inst, am_cast, am_cpm, am_copy, am_tsw, am_pop, am_cat, am_cS, am_cI, am_cV, am_ri, am_rl, am_ra, am_rv, am_b1, am_b2, am_ent, am_en, am_isL, am_st1, am_st2, am_clr, am_cnd, cc_69, ac_69, nL_69, rb_69, tg_10_1, List.getElem?_cons_succ, List.getElem?_cons_zero, nz_of, nzl_of, Int.toNat_add, Int.toNat_mul, tn_l, lt_t, lt_f, le_t, le_f, eq_t, eq_f, ltn_t, ltn_f, len_t, len_f, eqn_t, eqn_f, up_ne, up_up, sh_9, rf_9_1, sh_11, g1, g2, ha, hb, vc, wa, hw, vb]
          simpa using q
        · have q := hs' (ρ, some (.inl w)) ⟨⟨j1, fun y hy => by
            try dsimp only
            rw [j2 y hy, qs_s, if_neg (by omega)]; omega⟩, by simp⟩
          rw [s1_iff [20] 200]
          simp (disch := omega) [sz_s, sz_0, gx_s, hx_r, hx_c, hx_b, hx_s, hx_i, hx_n, kx_s, kx_n, kx_i, cx_d, up_at, am_ctl, am_step, am_i1, am_i2, am_i2d, am_l1, am_l2, am_l2d, am_ldi, am_ldl, am_lda, am_sti, am_sta, am_stl, am_inc, am_i2l, am_l2i, am_lcmp, am_dup, am_dup2, am_pop1, am_fv, am_getf, am_putf, am_wr, am_ial, am_lal, am_bal, am_aal, am_ias, am_las, am_bas, am_alen, am_inst, am_cast, am_cpm, am_copy, am_tsw, am_pop, am_cat, am_cS, am_cI, am_cV, am_ri, am_rl, am_ra, am_rv, am_b1, am_b2, am_ent, am_en, am_isL, am_st1, am_st2, am_clr, am_cnd, cc_69, ac_69, nL_69, rb_69, tg_10_1, List.getElem?_cons_succ, List.getElem?_cons_zero, nz_of, nzl_of, Int.toNat_add, Int.toNat_mul, tn_l, lt_t, lt_f, le_t, le_f, eq_t, eq_f, ltn_t, ltn_f, len_t, len_f, eqn_t, eqn_f, up_ne, up_up, sh_9, rf_9_1, sh_11, g1, g2, ha, hb, vc, wa, hw]
          simpa using q) (fun s hI => by
        obtain ⟨ρ, s2⟩ := s
        obtain ⟨⟨j1, j2⟩, j4⟩ := hI
        try dsimp only at j1 j2 j4 ⊢
        have q := hs' (ρ, some (.inl 10), s2) ⟨⟨j1, fun y hy => by (try dsimp only); rw [j2 y hy, ps_s]⟩, by simp, j4⟩
        rw [s1_iff [3, 20] 200]
        simp (disch := omega) [sz_s, sz_0, gx_s, hx_r, hx_c, hx_b, hx_s, hx_i, hx_n, kx_s, kx_n, kx_i, cx_d, up_at, am_ctl, am_step, am_i1, am_i2, am_i2d, am_l1, am_l2, am_l2d, am_ldi, am_ldl, am_lda, am_sti, am_sta, am_stl, am_inc, am_i2l, am_l2i, am_lcmp, am_dup, am_dup2, am_pop1, am_fv, am_getf, am_putf, am_wr, am_ial, am_lal, am_bal, am_aal, am_ias, am_las, am_bas, am_alen, am_inst, am_cast, am_cpm, am_copy, am_tsw, am_pop, am_cat, am_cS, am_cI, am_cV, am_ri, am_rl, am_ra, am_rv, am_b1, am_b2, am_ent, am_en, am_isL, am_st1, am_st2, am_clr, am_cnd, cc_69, ac_69, nL_69, rb_69, tg_10_1, List.getElem?_cons_succ, List.getElem?_cons_zero, nz_of, nzl_of, Int.toNat_add, Int.toNat_mul, tn_l, lt_t, lt_f, le_t, le_f, eq_t, eq_f, ltn_t, ltn_f, len_t, len_f, eqn_t, eqn_f, up_ne, up_up, sh_9]
        simpa using q) (ν, s2) ⟨⟨i1, fun y hy => by (try dsimp only); rw [i2 y hy]; unfold qsZ; rw [sumZ_0]; omega⟩, i4⟩
      try dsimp only at inner
      rw [s1_iff [3, 20] 200]
      simp (disch := omega) [sz_s, sz_0, gx_s, hx_r, hx_c, hx_b, hx_s, hx_i, hx_n, kx_s, kx_n, kx_i, cx_d, up_at, am_ctl, am_step, am_i1, am_i2, am_i2d, am_l1, am_l2, am_l2d, am_ldi, am_ldl, am_lda, am_sti, am_sta, am_stl, am_inc, am_i2l, am_l2i, am_lcmp, am_dup, am_dup2, am_pop1, am_fv, am_getf, am_putf, am_wr, am_ial, am_lal, am_bal, am_aal, am_ias, am_las, am_bas, am_alen, am_inst, am_cast, am_cpm, am_copy, am_tsw, am_pop, am_cat, am_cS, am_cI, am_cV, am_ri, am_rl, am_ra, am_rv, am_b1, am_b2, am_ent, am_en, am_isL, am_st1, am_st2, am_clr, am_cnd, cc_69, ac_69, nL_69, rb_69, tg_10_1, List.getElem?_cons_succ, List.getElem?_cons_zero, nz_of, nzl_of, Int.toNat_add, Int.toNat_mul, tn_l, lt_t, lt_f, le_t, le_f, eq_t, eq_f, ltn_t, ltn_f, len_t, len_f, eqn_t, eqn_f, up_ne, up_up, sh_9, ha, va, z]
      simpa using inner) (fun s hI => by
    obtain ⟨ν, s1, s2⟩ := s
    obtain ⟨⟨i1, i2⟩, i3, i4⟩ := hI
    try dsimp only at i1 i2 i3 i4 ⊢
    have k := k ν i1 (fun z hz => by
      rw [i2 z hz]
      refine sumZ_congr (fun m hm => ?_)
      rw [if_pos (by have := hc m hm; omega)])
    rw [s1_iff [3] 200]
    simp (disch := omega) [sz_s, sz_0, gx_s, hx_r, hx_c, hx_b, hx_s, hx_i, hx_n, kx_s, kx_n, kx_i, cx_d, up_at, am_ctl, am_step, am_i1, am_i2, am_i2d, am_l1, am_l2, am_l2d, am_ldi, am_ldl, am_lda, am_sti, am_sta, am_stl, am_inc, am_i2l, am_l2i, am_lcmp, am_dup, am_dup2, am_pop1, am_fv, am_getf, am_putf, am_wr, am_ial, am_lal, am_bal, am_aal, am_ias, am_las, am_bas, am_alen, am_inst, am_cast, am_cpm, am_copy, am_tsw, am_pop, am_cat, am_cS, am_cI, am_cV, am_ri, am_rl, am_ra, am_rv, am_b1, am_b2, am_ent, am_en, am_isL, am_st1, am_st2, am_clr, am_cnd, cc_69, ac_69, nL_69, rb_69, tg_10_1, List.getElem?_cons_succ, List.getElem?_cons_zero, nz_of, nzl_of, Int.toNat_add, Int.toNat_mul, tn_l, lt_t, lt_f, le_t, le_f, eq_t, eq_f, ltn_t, ltn_f, len_t, len_f, eqn_t, eqn_f, up_ne, up_up, sh_9]
    exact k) (μ, none, none) ⟨⟨fun _ _ => rfl, fun z hz => by
      try dsimp only
      rw [h0 z hz]
      refine (sumZ_zero (fun m hm => ?_)).symm
      by_cases e : (z : Int) - c m < ((0 : Nat) : Int)
      · rw [if_pos e]; exact hf0 _ (by omega)
      · rw [if_neg e]⟩, by simp, by simp⟩
  try dsimp only at key
  unfold wpM
  rw [s1_iff [3] 200]
  simp (disch := omega) [sz_s, sz_0, gx_s, hx_r, hx_c, hx_b, hx_s, hx_i, hx_n, kx_s, kx_n, kx_i, cx_d, up_at, am_ctl, am_step, am_i1, am_i2, am_i2d, am_l1, am_l2, am_l2d, am_ldi, am_ldl, am_lda, am_sti, am_sta, am_stl, am_inc, am_i2l, am_l2i, am_lcmp, am_dup, am_dup2, am_pop1, am_fv, am_getf, am_putf, am_wr, am_ial, am_lal, am_bal, am_aal, am_ias, am_las, am_bas, am_alen, am_inst, am_cast, am_cpm, am_copy, am_tsw, am_pop, am_cat, am_cS, am_cI, am_cV, am_ri, am_rl, am_ra, am_rv, am_b1, am_b2, am_ent, am_en, am_isL, am_st1, am_st2, am_clr, am_cnd, cc_69, ac_69, nL_69, rb_69, tg_10_1, List.getElem?_cons_succ, List.getElem?_cons_zero, nz_of, nzl_of, Int.toNat_add, Int.toNat_mul, tn_l, lt_t, lt_f, le_t, le_f, eq_t, eq_f, ltn_t, ltn_f, len_t, len_f, eqn_t, eqn_f, up_ne, up_up]
  simpa using key
