/-! the law and the taxes -/
theorem LD_on {B : Int} {μ ν : Nat → Nat → Int} {c o : Nat} (h : LD B μ c o) (e1 : ∀ i, o ≤ i ∧ i < o + 200 → ν 102 i = μ 102 i) (e2 : ∀ k i, c ≤ k ∧ k ≤ c + 6 → ν k i = μ k i) : LD B ν c o := by
  obtain ⟨h1, h2, h3, h4, h5, h6, h7, h8, h9, h10, h11, h12, h13⟩ := h
  unfold LD
  rw [e1 o (by omega), e1 (o + 1) (by omega), e1 (o + 2) (by omega), e1 (o + 3) (by omega), e1 (o + 4) (by omega), e2 c 7 (by omega), e2 c 8 (by omega), e2 c 9 (by omega), e2 c 10 (by omega), e2 c 11 (by omega)]
  refine ⟨h1, h2, h3, h4, h5, h6, h7, h8, h9, h10, fun k hk => ?_, fun j hj => ?_, fun j hj => ?_⟩
  · rw [e1 (o + 5 + k) (by omega), e1 (o + 13 + k) (by omega), e1 (o + 21 + k) (by omega), e1 (o + 29 + k) (by omega), e2 (c + 1) k (by omega), e2 (c + 2) k (by omega), e2 (c + 3) k (by omega), e2 (c + 4) k (by omega)]
    exact h11 k hk
  · rw [e1 (o + 37 + j) (by omega), e2 (c + 5) j (by omega)]
    exact h12 j hj
  · rw [e1 (o + 101 + j) (by omega), e2 (c + 6) j (by omega)]
    exact h13 j hj
/-- the land in hand alone changes -/
theorem INV_land {B : Int} {μ ν : Nat → Nat → Int} (h : INV B μ) (hl : LD B ν 73 0) (hc : CH B (μ 109) (μ 101 12).toNat (ν 102)) (e : ∀ k i, ¬ (73 ≤ k ∧ k ≤ 79) → ¬ (k = 102 ∧ i < 200) → ν k i = μ k i) : INV B ν := by
  obtain ⟨⟨a1, a2, a3, a4, a5⟩, hI, ht, -, hk, hd⟩ := h
  refine ⟨⟨?_, ?_, ?_, ?_, fun g hg => ?_⟩, I_r_of hI (fun k i hk => e k i (by omega) (by omega)), I_t_of ht (fun k i hk => e k i (by omega) (by omega)), hl, fun k hk3 => ?_, ?_⟩
  · rw [e 0 9 (by omega) (by omega), e 101 7 (by omega) (by omega)]; exact a1
  · rw [e 0 10 (by omega) (by omega), e 101 8 (by omega) (by omega)]; exact a2
  · rw [e 0 11 (by omega) (by omega), e 101 9 (by omega) (by omega)]; exact a3
  · rw [e 0 12 (by omega) (by omega), e 101 10 (by omega) (by omega)]; exact a4
  · rw [e 45 g (by omega) (by omega), e 108 g (by omega) (by omega)]; exact a5 g hg
  · obtain ⟨b1, b2, b3⟩ := hk k hk3
    rw [e 103 k (by omega) (by omega), e (80 + 7 * k) 12 (by omega) (by omega)]
    exact ⟨b1, b2, fun q => LD_on (b3 q) (fun i hi => e 102 i (by omega) (by omega)) (fun k' i hk' => e k' i (by omega) (by omega))⟩
  · unfold I_d at hd ⊢
    have f : ∀ k, (4 ≤ k ∧ k ≤ 8) ∨ k = 109 ∨ k = 101 → ∀ i, ν k i = μ k i := fun k hk i => e k i (by omega) (by omega)
    have f109 : ν 109 = μ 109 := funext fun i => f 109 (by omega) i
    simp only [f 101 (by omega), f 4 (by omega), f 5 (by omega), f 6 (by omega), f 7 (by omega), f 8 (by omega), f109]
    exact ⟨hc, hd.2⟩
/-- alike in what deeds change -/
def AG (w v : Nat → Int) : Prop := v 0 = w 0 ∧ v 2 = w 2 ∧ ∀ i : Nat, 21 ≤ i → i < 101 → v i = w i
theorem AG_ad {w v : Nat → Int} (h : AG w v) (i : Nat) (x : Int) : AG (ad w i x) (ad v i x) := by
  obtain ⟨h0, h2, h3⟩ := h
  refine ⟨?_, ?_, fun j hj1 hj2 => ?_⟩
  · unfold ad
    by_cases e : 0 = i
    · subst e; simp [h0]
    · simp [e, h0]
  · unfold ad
    by_cases e : 2 = i
    · subst e; simp [h2]
    · simp [e, h2]
  · unfold ad
    by_cases e : j = i
    · subst e; simp [h3 j hj1 hj2]
    · simp [e, h3 j hj1 hj2]
theorem AG_UD {w v : Nat → Int} (h : AG w v) (s a b n : Int) : AG (UD w s a b n) (UD v s a b n) := by
  unfold UD
  (repeat' split) <;> repeat (first | exact h | refine AG_ad ?_ _ _)
theorem RG_of {B : Int} {w v : Nat → Int} (h : AG w v) (hr : RG B w) : RG B v := by
  obtain ⟨h0, h2, h3⟩ := h
  obtain ⟨r0, r1, r2, r3⟩ := hr
  unfold RG
  rw [h0, h2]
  refine ⟨r0, r1, fun k hk => ?_, fun j hj => ?_⟩
  · rw [h3 (21 + k) (by omega) (by omega), h3 (29 + k) (by omega) (by omega)]; exact r2 k hk
  · rw [h3 (37 + j) (by omega) (by omega)]; exact r3 j hj
theorem CH_of {B : Int} {g : Nat → Int} : ∀ (j : Nat) {w v : Nat → Int}, AG w v → CH B g j w → CH B g j v
  | 0, _, _, h, c => RG_of h c
  | j + 1, w, v, h, c => by
    obtain ⟨c1, c2, c3⟩ := c
    refine ⟨RG_of h c1, ?_, CH_of j (AG_UD h _ _ _ _) c3⟩
    unfold VD at c2 ⊢
    rw [h.1]; exact c2
theorem CH_rg {B : Int} {g : Nat → Int} {j : Nat} {w : Nat → Int} (c : CH B g j w) : RG B w := by
  cases j with
  | zero => exact c
  | succ j => exact c.1
theorem inv_law {B : Int} {μ : Nat → Nat → Int} (h : INV B μ) (v : Int) (hv : 0 ≤ v ∧ v ≤ 2) : INV B (am_up (am_up μ 73 8 v) 102 1 v) := by
  refine INV_land h ?_ (CH_of _ ⟨by simp [up_at], by simp [up_at], fun i h1 h2 => ?_⟩ h.2.2.2.2.2.1) (fun k i h1 h2 => ?_)
  · obtain ⟨h1, h2, h3, h4, h5, h6, h7, h8, h9, h10, h11, h12, h13⟩ := h.2.2.2.1
    unfold LD
    simp [up_at, show ∀ k : Nat, ¬ 5 + k = 1 by omega, show ∀ k : Nat, ¬ 13 + k = 1 by omega, show ∀ k : Nat, ¬ 21 + k = 1 by omega, show ∀ k : Nat, ¬ 29 + k = 1 by omega, show ∀ k : Nat, ¬ 37 + k = 1 by omega, show ∀ k : Nat, ¬ 101 + k = 1 by omega]
    simp only [Nat.zero_add] at h1 h2 h3 h4 h5 h6 h7 h8 h9 h10 h11 h12 h13
    exact ⟨h1, h2, hv, h5, h6, h7, h8, h9, h10, h11, h12, h13⟩
  · simp only [up_at]
    rw [if_neg (by omega), if_neg (by omega)]
  · simp only [up_at]
    rw [if_neg (by omega), if_neg (by omega)]
theorem inv_tax {B : Int} {μ : Nat → Nat → Int} (h : INV B μ) (v w : Int) (hv : 0 ≤ v ∧ v ≤ 99) (hw : 0 ≤ w ∧ w ≤ 99) : INV B (am_up (am_up (am_up (am_up μ 73 10 v) 73 11 w) 102 3 v) 102 4 w) := by
  refine INV_land h ?_ (CH_of _ ⟨by simp [up_at], by simp [up_at], fun i h1 h2 => ?_⟩ h.2.2.2.2.2.1) (fun k i h1 h2 => ?_)
  · obtain ⟨h1, h2, h3, h4, h5, h6, h7, h8, h9, h10, h11, h12, h13⟩ := h.2.2.2.1
    unfold LD
    simp [up_at, show ∀ k : Nat, ¬ 5 + k = 3 by omega, show ∀ k : Nat, ¬ 13 + k = 3 by omega, show ∀ k : Nat, ¬ 21 + k = 3 by omega, show ∀ k : Nat, ¬ 29 + k = 3 by omega, show ∀ k : Nat, ¬ 37 + k = 3 by omega, show ∀ k : Nat, ¬ 101 + k = 3 by omega, show ∀ k : Nat, ¬ 5 + k = 4 by omega, show ∀ k : Nat, ¬ 13 + k = 4 by omega, show ∀ k : Nat, ¬ 21 + k = 4 by omega, show ∀ k : Nat, ¬ 29 + k = 4 by omega, show ∀ k : Nat, ¬ 37 + k = 4 by omega, show ∀ k : Nat, ¬ 101 + k = 4 by omega]
    simp only [Nat.zero_add] at h1 h2 h3 h4 h5 h6 h7 h8 h9 h10 h11 h12 h13
    exact ⟨h1, h2, h3, h4, h5, h6, hv, hw, h11, h12, h13⟩
  · simp only [up_at]
    rw [if_neg (by omega), if_neg (by omega), if_neg (by omega), if_neg (by omega)]
  · simp only [up_at]
    rw [if_neg (by omega), if_neg (by omega), if_neg (by omega), if_neg (by omega)]
set_option maxRecDepth 100000 in
theorem wp_law (v : Int) (μ : Nat → Nat → Int) (Φ : Option AV → ST → Prop) : wpM 91 [.inr (.inr (some 0)), .inl v] (S μ) Φ ↔ (if 0 ≤ v ∧ v < 3 then Φ (some (.inl (μ 73 8))) (S (am_up μ 73 8 v)) else Φ (some (.inl (-1))) (S μ)) := by
  unfold wpM
  rw [s1_iff [] 60]
  simp [sz_s, sz_0, gx_s, hx_r, hx_c, hx_b, hx_s, hx_i, hx_n, kx_s, kx_n, kx_i, cx_d, up_at, am_ctl, am_step, am_i1, am_i2, am_i2d, am_l1, am_l2, am_l2d, am_ldi, am_ldl, am_lda, am_sti, am_sta, am_stl, am_inc, am_i2l, am_l2i, am_lcmp, am_dup, am_dup2, am_pop1, am_fv, am_getf, am_putf, am_wr, am_ial, am_lal, am_bal, am_aal, am_ias, am_las, am_bas, am_alen, am_inst, am_cast, am_cpm, am_copy, am_tsw, am_pop, am_cat, am_cS, am_cI, am_cV, am_ri, am_rl, am_ra, am_rv, am_b1, am_b2, am_ent, am_en, am_isL, am_st1, am_st2, am_clr, am_cnd, cc_91, ac_91, nL_91, rb_91, np_129, ok_91_129, nL_129, tg_11_2, tg_4_8, sh_0, sh_73, rf_0_2, wp_within]
set_option maxRecDepth 100000 in
theorem wm_law (v : Int) (μ : Nat → Nat → Int) (Φ : Option AV → ST → Prop) : wpM 191 [.inr (.inr (some 101)), .inl v] (S μ) Φ ↔ (if 0 ≤ v ∧ v < 3 then Φ (some (.inl (μ 102 1))) (S (am_up μ 102 1 v)) else Φ (some (.inl (-1))) (S μ)) := by
  unfold wpM
  rw [s1_iff [] 60]
  simp [sz_s, sz_0, gx_s, hx_r, hx_c, hx_b, hx_s, hx_i, hx_n, kx_s, kx_n, kx_i, cx_d, up_at, am_ctl, am_step, am_i1, am_i2, am_i2d, am_l1, am_l2, am_l2d, am_ldi, am_ldl, am_lda, am_sti, am_sta, am_stl, am_inc, am_i2l, am_l2i, am_lcmp, am_dup, am_dup2, am_pop1, am_fv, am_getf, am_putf, am_wr, am_ial, am_lal, am_bal, am_aal, am_ias, am_las, am_bas, am_alen, am_inst, am_cast, am_cpm, am_copy, am_tsw, am_pop, am_cat, am_cS, am_cI, am_cV, am_ri, am_rl, am_ra, am_rv, am_b1, am_b2, am_ent, am_en, am_isL, am_st1, am_st2, am_clr, am_cnd, cc_191, ac_191, nL_191, rb_191, np_156, ok_191_156, nL_156, tg_12_0, sh_101, sh_102, rf_101_0, wm_in]
  (repeat' split) <;> first | rfl | (exfalso; omega) | exact and_iff_right (by omega) | exact (and_iff_right (by omega)).trans (and_iff_right (by omega)) | exact (and_iff_right (by omega)).trans ((and_iff_right (by omega)).trans (and_iff_right (by omega)))
set_option maxRecDepth 100000 in
theorem wp_tax (v w : Int) (μ : Nat → Nat → Int) (Φ : Option AV → ST → Prop) : wpM 112 [.inr (.inr (some 0)), .inl v, .inl w] (S μ) Φ ↔ (if (0 ≤ v ∧ v < 100) ∧ 0 ≤ w ∧ w < 100 then Φ (some (.inl 1)) (S (am_up (am_up μ 73 10 v) 73 11 w)) else Φ (some (.inl (-1))) (S μ)) := by
  unfold wpM
  rw [s1_iff [] 60]
  simp [sz_s, sz_0, gx_s, hx_r, hx_c, hx_b, hx_s, hx_i, hx_n, kx_s, kx_n, kx_i, cx_d, up_at, am_ctl, am_step, am_i1, am_i2, am_i2d, am_l1, am_l2, am_l2d, am_ldi, am_ldl, am_lda, am_sti, am_sta, am_stl, am_inc, am_i2l, am_l2i, am_lcmp, am_dup, am_dup2, am_pop1, am_fv, am_getf, am_putf, am_wr, am_ial, am_lal, am_bal, am_aal, am_ias, am_las, am_bas, am_alen, am_inst, am_cast, am_cpm, am_copy, am_tsw, am_pop, am_cat, am_cS, am_cI, am_cV, am_ri, am_rl, am_ra, am_rv, am_b1, am_b2, am_ent, am_en, am_isL, am_st1, am_st2, am_clr, am_cnd, cc_112, ac_112, nL_112, rb_112, np_129, ok_112_129, nL_129, tg_11_2, sh_0, sh_73, rf_0_2, wp_within]
  (repeat' split) <;> first | rfl | (exfalso; omega) | exact and_iff_right (by omega) | exact (and_iff_right (by omega)).trans (and_iff_right (by omega)) | exact (and_iff_right (by omega)).trans ((and_iff_right (by omega)).trans (and_iff_right (by omega)))
set_option maxRecDepth 100000 in
theorem wm_tax (v w : Int) (μ : Nat → Nat → Int) (Φ : Option AV → ST → Prop) : wpM 221 [.inr (.inr (some 101)), .inl v, .inl w] (S μ) Φ ↔ (if (0 ≤ v ∧ v < 100) ∧ 0 ≤ w ∧ w < 100 then Φ (some (.inl 1)) (S (am_up (am_up μ 102 3 v) 102 4 w)) else Φ (some (.inl (-1))) (S μ)) := by
  unfold wpM
  rw [s1_iff [] 60]
  simp [sz_s, sz_0, gx_s, hx_r, hx_c, hx_b, hx_s, hx_i, hx_n, kx_s, kx_n, kx_i, cx_d, up_at, am_ctl, am_step, am_i1, am_i2, am_i2d, am_l1, am_l2, am_l2d, am_ldi, am_ldl, am_lda, am_sti, am_sta, am_stl, am_inc, am_i2l, am_l2i, am_lcmp, am_dup, am_dup2, am_pop1, am_fv, am_getf, am_putf, am_wr, am_ial, am_lal, am_bal, am_aal, am_ias, am_las, am_bas, am_alen, am_inst, am_cast, am_cpm, am_copy, am_tsw, am_pop, am_cat, am_cS, am_cI, am_cV, am_ri, am_rl, am_ra, am_rv, am_b1, am_b2, am_ent, am_en, am_isL, am_st1, am_st2, am_clr, am_cnd, cc_221, ac_221, nL_221, rb_221, np_156, ok_221_156, nL_156, tg_12_0, sh_101, sh_102, rf_101_0, wm_in]
  (repeat' split) <;> first | rfl | (exfalso; omega) | exact and_iff_right (by omega) | exact (and_iff_right (by omega)).trans (and_iff_right (by omega)) | exact (and_iff_right (by omega)).trans ((and_iff_right (by omega)).trans (and_iff_right (by omega)))
theorem eq_law {B : Int} {μ : Nat → Nat → Int} (h : INV B μ) (v : Int) : EQV B μ 91 191 [.inl v] := by
  unfold EQV
  rw [wp_law]
  by_cases hv : 0 ≤ v ∧ v < 3
  · rw [if_pos hv]
    refine ⟨_, _, rfl, rfl, ?_⟩
    rw [wm_law, if_pos hv]
    have e : (am_up μ 73 8 v) 102 1 = μ 73 8 := by
      rw [show μ 73 8 = μ 102 1 from h.2.2.2.1.2.2.2.1]
      simp [up_at]
    rw [e]
    exact ⟨rfl, _, rfl, inv_law h v (by omega)⟩
  · rw [if_neg hv]
    refine ⟨_, _, rfl, rfl, ?_⟩
    rw [wm_law, if_neg hv]
    exact ⟨rfl, _, rfl, h⟩
theorem eq_tax {B : Int} {μ : Nat → Nat → Int} (h : INV B μ) (v w : Int) : EQV B μ 112 221 [.inl v, .inl w] := by
  unfold EQV
  rw [wp_tax]
  by_cases hv : (0 ≤ v ∧ v < 100) ∧ 0 ≤ w ∧ w < 100
  · rw [if_pos hv]
    refine ⟨_, _, rfl, rfl, ?_⟩
    rw [wm_tax, if_pos hv]
    exact ⟨rfl, _, rfl, inv_tax h v w (by omega) (by omega)⟩
  · rw [if_neg hv]
    refine ⟨_, _, rfl, rfl, ?_⟩
    rw [wm_tax, if_neg hv]
    exact ⟨rfl, _, rfl, h⟩
