/-! years -/
def mix (a b : Nat → Nat → Int) : Nat → Nat → Int := fun k i => if k < 101 then a k i else b k i
theorem mix_lo (a b : Nat → Nat → Int) {k : Nat} (i : Nat) (h : k < 101) : mix a b k i = a k i := if_pos h
theorem mix_hi (a b : Nat → Nat → Int) {k : Nat} (i : Nat) (h : 101 ≤ k) : mix a b k i = b k i := if_neg (by omega)
theorem mix_ul (a b : Nat → Nat → Int) {k : Nat} (i : Nat) (v : Int) (h : k < 101) : am_up (mix a b) k i v = mix (am_up a k i v) b := by
  funext k' i'
  unfold am_up mix
  by_cases e : k' < 101
  · simp only [e, if_true]
  · simp only [e, if_false]; rw [if_neg (by omega)]
theorem mix_uh (a b : Nat → Nat → Int) {k : Nat} (i : Nat) (v : Int) (h : 101 ≤ k) : am_up (mix a b) k i v = mix a (am_up b k i v) := by
  funext k' i'
  unfold am_up mix
  by_cases e : k' < 101
  · simp only [e, if_true]; rw [if_neg (by omega)]
  · simp only [e, if_false]
theorem mix_rl (a b : Nat → Nat → Int) {k : Nat} (i : Nat) (v : Int) (h : k < 101) : mix a (am_up b k i v) = mix a b := by
  funext k' i'
  unfold am_up mix
  by_cases e : k' < 101
  · simp only [e, if_true]
  · simp only [e, if_false]; rw [if_neg (by omega)]
theorem mix_lh (a b : Nat → Nat → Int) {k : Nat} (i : Nat) (v : Int) (h : 101 ≤ k) : mix (am_up a k i v) b = mix a b := by
  funext k' i'
  unfold am_up mix
  by_cases e : k' < 101
  · simp only [e, if_true]; rw [if_neg (by omega)]
  · simp only [e, if_false]
theorem mix_sh (a b : Nat → Nat → Int) (n : Nat) : mshk (mix a b) n = mix a (mshk b n) := by
  funext k' i'
  unfold mshk am_row mix
  by_cases e : k' < 101
  · simp only [e, if_true]; rw [if_neg (by omega)]
  · simp only [e, if_false]; rfl
theorem mix_sl (a b : Nat → Nat → Int) (n : Nat) : mix (mshk a n) b = mix a b := by
  funext k' i'
  unfold mshk am_row mix
  by_cases e : k' < 101
  · simp only [e, if_true]; rw [if_neg (by omega)]
  · simp only [e, if_false]
theorem mix_same (a : Nat → Nat → Int) : mix a a = a := by funext k i; unfold mix; split <;> rfl
theorem xa_mix (a b : Nat → Nat → Int) (s x y n : Int) : xadd (mix a b) s x y n = mix (xadd a s x y n) b := by
  unfold xadd; simp (disch := omega) only [mix_lo, mix_ul]
theorem xa_mir (a b : Nat → Nat → Int) (s x y n : Int) : mix a (xadd b s x y n) = mix a b := by
  unfold xadd; simp (disch := omega) only [mix_rl]
theorem mm_mix (a b : Nat → Nat → Int) (s x y n : Int) : mminds (mix a b) s x y n = mix a (mminds b s x y n) := by
  unfold mminds mpush
  rw [mix_hi _ _ _ (by decide), mix_sh]
  split <;> simp (disch := omega) only [mix_uh]
theorem mm_mil (a b : Nat → Nat → Int) (s x y n : Int) : mix (mminds a s x y n) b = mix a b := by
  unfold mminds mpush
  split <;> simp (disch := omega) only [mix_lh, mix_sl]
/-- one year's deed: of the class, of the reference, whether it can be -/
def xJ (J : Nat → Nat → Int) (s : Int) (q p : Nat) : Nat → Nat → Int := if s = 0 then xborn J q else if s = 1 then xgone J q else if s = 2 then xmelt J q 1 else xlend J q p 1
def mJ (J : Nat → Nat → Int) (s : Int) (q p : Nat) : Nat → Nat → Int := if s = 0 then mborn J q else if s = 1 then mgone J q else if s = 2 then mmelt J q 1 else mlend J q p 1
def cJ (J : Nat → Nat → Int) (s : Int) (q p : Nat) : Bool := if s = 0 then decide (J 76 q < 9 ∧ J 77 q < 30) else if s = 1 then decide (¬ J 76 q = 0) else if s = 2 then decide (1 ≤ J 77 q) else decide (1 ≤ J 77 q ∧ J 77 p + 1 ≤ 30)
theorem xJ_mix (a b : Nat → Nat → Int) (s : Int) (q p : Nat) : xJ (mix a b) s q p = mix (xJ a s q p) b := by
  unfold xJ xborn xgone xmelt xlend
  (repeat' split) <;> simp (disch := omega) only [mix_lo, mix_ul, xa_mix]
theorem xJ_mir (a b : Nat → Nat → Int) (s : Int) (q p : Nat) : mix a (xJ b s q p) = mix a b := by
  unfold xJ xborn xgone xmelt xlend
  (repeat' split) <;> simp (disch := omega) only [mix_rl, xa_mir]
theorem mJ_mix (a b : Nat → Nat → Int) (s : Int) (q p : Nat) : mJ (mix a b) s q p = mix a (mJ b s q p) := by
  unfold mJ mborn mgone mmelt mlend
  (repeat' split) <;> simp (disch := omega) only [mix_hi, mix_uh, mm_mix]
theorem mJ_mil (a b : Nat → Nat → Int) (s : Int) (q p : Nat) : mix (mJ a s q p) b = mix a b := by
  unfold mJ mborn mgone mmelt mlend
  (repeat' split) <;> simp (disch := omega) only [mix_lh, mm_mil]
theorem cJ_mix (a b : Nat → Nat → Int) (s : Int) (q p : Nat) : cJ (mix a b) s q p = cJ a s q p := by
  unfold cJ; simp (disch := omega) only [mix_lo]
theorem CR_mix {a : Nat → Nat → Int} (b : Nat → Nat → Int) (h : CR a) : CR (mix a b) := by
  unfold CR at h ⊢; simp (disch := omega) only [mix_lo]; exact h
theorem MR_mix {b : Nat → Nat → Int} (a : Nat → Nat → Int) (h : MR b) : MR (mix a b) := by
  unfold MR at h ⊢; simp (disch := omega) only [mix_hi]; exact h
theorem four {s : Int} (h : 0 ≤ s ∧ s < 4) : s = 0 ∨ s = 1 ∨ s = 2 ∨ s = 3 := by omega
theorem INV_J {B : Int} {J : Nat → Nat → Int} (h : INV B J) {s : Int} (hs : 0 ≤ s ∧ s < 4) (q p : Nat) (hq : (q : Int) < J 102 0) (hp : (p : Int) < J 102 0) (hqp : ¬ q = p) (c : cJ J s q p = true) : INV (B + 1) (mJ (xJ J s q p) s q p) ∧ mJ (xJ J s q p) s q p 102 0 = J 102 0 := by
  unfold mJ xJ
  unfold cJ at c
  rcases four hs with rfl | rfl | rfl | rfl
  · simp at c ⊢
    refine ⟨INV_mono (by omega) (INV_born h q hq c), ?_⟩
    unfold mborn
    rw [mm_row _ _ _ _ _ 102 (by decide) (by decide)]
    simp (disch := omega) only [up_at, eqn_f, and_false, if_false]
    rw [xr_born _ _ 102 (by decide) (by decide)]
  · simp at c ⊢
    refine ⟨INV_mono (by omega) (INV_gone h q hq c), ?_⟩
    unfold mgone
    rw [mm_row _ _ _ _ _ 102 (by decide) (by decide)]
    simp (disch := omega) only [up_at, eqn_f, and_false, if_false]
    rw [xr_gone _ _ 102 (by decide) (by decide)]
  · simp at c ⊢
    refine ⟨INV_mono (by omega) (INV_melt h q 1 hq (by decide) c), ?_⟩
    unfold mmelt
    rw [mm_row _ _ _ _ _ 102 (by decide) (by decide)]
    simp (disch := omega) only [up_at, eqn_f, and_false, if_false]
    rw [xr_melt _ _ _ 102 (by decide) (by decide)]
  · simp at c ⊢
    refine ⟨INV_lend h q p 1 hq hp hqp (by decide) c, ?_⟩
    unfold mlend
    rw [mm_row _ _ _ _ _ 102 (by decide) (by decide)]
    simp (disch := omega) only [up_at, eqn_f, and_false, if_false]
    rw [xr_lend _ _ _ _ 102 (by decide) (by decide)]
def ltJ (seed : Int) : Nat → Int
  | 0 => seed
  | j + 1 => (48271 * ltJ seed j).tmod 2147483647
theorem ltJ_rng {seed : Int} (h : 1 ≤ seed ∧ seed ≤ 2147483646) : ∀ j, 0 ≤ ltJ seed j ∧ ltJ seed j ≤ 2147483646
  | 0 => by rw [ltJ]; omega
  | j + 1 => by
    have := ltJ_rng h j
    rw [ltJ]
    have a := Int.tmod_nonneg (a := 48271 * ltJ seed j) 2147483647 (by omega)
    have b := Int.tmod_lt_of_pos (48271 * ltJ seed j) (b := 2147483647) (by decide)
    omega
def hJ (seed : Int) (n j : Nat) : Nat := ((ltJ seed (j + 1)).tmod n).toNat
def sJ (seed : Int) (j : Nat) : Int := ((ltJ seed (j + 1)).tdiv 64).tmod 4
def nxJ (n q : Nat) : Nat := if q + 1 < n then q + 1 else 0
def yJ (μ : Nat → Nat → Int) (seed : Int) (n : Nat) : Nat → Nat → Nat → Int
  | 0 => μ
  | j + 1 => if cJ (yJ μ seed n j) (sJ seed j) (hJ seed n j) (nxJ n (hJ seed n j)) = true then mJ (xJ (yJ μ seed n j) (sJ seed j) (hJ seed n j) (nxJ n (hJ seed n j))) (sJ seed j) (hJ seed n j) (nxJ n (hJ seed n j)) else yJ μ seed n j
def dJ (μ : Nat → Nat → Int) (seed : Int) (n : Nat) : Nat → Int
  | 0 => 0
  | j + 1 => dJ μ seed n j + (if cJ (yJ μ seed n j) (sJ seed j) (hJ seed n j) (nxJ n (hJ seed n j)) = true then 1 else 0)
theorem hJ_rng {seed : Int} (h : 1 ≤ seed ∧ seed ≤ 2147483646) {n : Nat} (hn : 2 ≤ n) (j : Nat) : (ltJ seed (j + 1)).tmod n = (hJ seed n j : Int) ∧ hJ seed n j < n := by
  have r := ltJ_rng h (j + 1)
  unfold hJ
  have a := Int.tmod_nonneg (a := ltJ seed (j + 1)) n (by omega)
  have b := Int.tmod_lt_of_pos (ltJ seed (j + 1)) (b := n) (by omega)
  omega
theorem sJ_rng {seed : Int} (h : 1 ≤ seed ∧ seed ≤ 2147483646) (j : Nat) : 0 ≤ sJ seed j ∧ sJ seed j < 4 := by
  have r := ltJ_rng h (j + 1)
  unfold sJ
  have e : 0 ≤ (ltJ seed (j + 1)).tdiv 64 := Int.tdiv_nonneg (by omega) (by decide)
  have a := Int.tmod_nonneg (a := (ltJ seed (j + 1)).tdiv 64) 4 e
  have b := Int.tmod_lt_of_pos ((ltJ seed (j + 1)).tdiv 64) (b := 4) (by decide)
  omega
theorem nxJ_ok {n q : Nat} (hn : 2 ≤ n) (hq : q < n) : nxJ n q < n ∧ ¬ q = nxJ n q := by
  unfold nxJ; split <;> omega
theorem yJ_inv {B : Int} {μ : Nat → Nat → Int} (h : INV B μ) {seed : Int} (hs : 1 ≤ seed ∧ seed ≤ 2147483646) {n : Nat} (hn : 2 ≤ n) (e : μ 102 0 = n) : ∀ j : Nat, INV (B + j) (yJ μ seed n j) ∧ yJ μ seed n j 102 0 = n ∧ 0 ≤ dJ μ seed n j ∧ dJ μ seed n j ≤ j
  | 0 => ⟨INV_mono (by omega) h, e, by rw [dJ]; omega, by rw [dJ]; omega⟩
  | j + 1 => by
    obtain ⟨h1, h2, h3, h4⟩ := yJ_inv h hs hn e j
    have hq := (hJ_rng hs hn j).2
    have hp := nxJ_ok hn hq
    rw [yJ, dJ]
    by_cases c : cJ (yJ μ seed n j) (sJ seed j) (hJ seed n j) (nxJ n (hJ seed n j)) = true
    · rw [if_pos c, if_pos c]
      have := INV_J h1 (sJ_rng hs j) (hJ seed n j) (nxJ n (hJ seed n j)) (by omega) (by omega) hp.2 c
      refine ⟨INV_mono (by omega) this.1, by rw [this.2]; exact h2, by omega, by omega⟩
    · rw [if_neg c, if_neg c]
      exact ⟨INV_mono (by omega) h1, h2, by omega, by omega⟩
set_option maxRecDepth 100000 in
theorem wp_happens {μ : Nat → Nat → Int} (hR : CR μ) {s : Int} (hs : 0 ≤ s ∧ s < 4) (q n : Nat) (hn : μ 73 7 = n) (hq : q < n) (h2 : 2 ≤ n) (Φ : Option AV → ST → Prop) : wpM 148 [.inr (.inr (some 0)), .inl s, .inl q] (S μ) Φ ↔ (if cJ μ s q (nxJ n q) = true then Φ (some (.inl 1)) (S (xJ μ s q (nxJ n q))) else Φ (some (.inl 0)) (S μ)) := by
  have n8 := hR.1
  have ok := nxJ_ok h2 hq
  have b1 := wp_bears hR q (by omega)
  have b2 := wp_loses hR q (by omega)
  have b3 := wp_melts hR q 1 (by omega) (by decide)
  have b4 := wp_lends hR q (nxJ n q) 1 (by omega) (by omega) ok.2 (by decide)
  unfold wpM cJ xJ
  rcases four hs with rfl | rfl | rfl | rfl
  · rw [s1_iff [] 200]
    simp (disch := omega) [sz_s, sz_0, gx_s, hx_r, hx_c, hx_b, hx_s, hx_i, hx_n, kx_s, kx_n, kx_i, cx_d, up_at, am_ctl, am_step, am_i1, am_i2, am_i2d, am_l1, am_l2, am_l2d, am_ldi, am_ldl, am_lda, am_sti, am_sta, am_stl, am_inc, am_i2l, am_l2i, am_lcmp, am_dup, am_dup2, am_pop1, am_fv, am_getf, am_putf, am_wr, am_ial, am_lal, am_bal, am_aal, am_ias, am_las, am_bas, am_alen, am_inst, am_cast, am_cpm, am_copy, am_tsw, am_pop, am_cat, am_cS, am_cI, am_cV, am_ri, am_rl, am_ra, am_rv, am_b1, am_b2, am_ent, am_en, am_isL, am_st1, am_st2, am_clr, am_cnd, cc_148, ac_148, nL_148, rb_148, np_144, ok_148_144, nL_144, vd_144_11, np_145, ok_148_145, nL_145, vd_145_11, np_146, ok_148_146, nL_146, vd_146_11, np_147, ok_148_147, nL_147, vd_147_11, tg_11_2, tg_4_7, List.getElem?_cons_succ, List.getElem?_cons_zero, nz_of, nzl_of, Int.toNat_add, Int.toNat_mul, tn_l, lt_t, lt_f, le_t, le_f, eq_t, eq_f, ltn_t, ltn_f, len_t, len_f, eqn_t, eqn_f, up_ne, up_up, sh_0, b1]
  · rw [s1_iff [] 200]
    simp (disch := omega) [sz_s, sz_0, gx_s, hx_r, hx_c, hx_b, hx_s, hx_i, hx_n, kx_s, kx_n, kx_i, cx_d, up_at, am_ctl, am_step, am_i1, am_i2, am_i2d, am_l1, am_l2, am_l2d, am_ldi, am_ldl, am_lda, am_sti, am_sta, am_stl, am_inc, am_i2l, am_l2i, am_lcmp, am_dup, am_dup2, am_pop1, am_fv, am_getf, am_putf, am_wr, am_ial, am_lal, am_bal, am_aal, am_ias, am_las, am_bas, am_alen, am_inst, am_cast, am_cpm, am_copy, am_tsw, am_pop, am_cat, am_cS, am_cI, am_cV, am_ri, am_rl, am_ra, am_rv, am_b1, am_b2, am_ent, am_en, am_isL, am_st1, am_st2, am_clr, am_cnd, cc_148, ac_148, nL_148, rb_148, np_144, ok_148_144, nL_144, vd_144_11, np_145, ok_148_145, nL_145, vd_145_11, np_146, ok_148_146, nL_146, vd_146_11, np_147, ok_148_147, nL_147, vd_147_11, tg_11_2, tg_4_7, List.getElem?_cons_succ, List.getElem?_cons_zero, nz_of, nzl_of, Int.toNat_add, Int.toNat_mul, tn_l, lt_t, lt_f, le_t, le_f, eq_t, eq_f, ltn_t, ltn_f, len_t, len_f, eqn_t, eqn_f, up_ne, up_up, sh_0, b2]
  · rw [s1_iff [] 200]
    simp (disch := omega) [sz_s, sz_0, gx_s, hx_r, hx_c, hx_b, hx_s, hx_i, hx_n, kx_s, kx_n, kx_i, cx_d, up_at, am_ctl, am_step, am_i1, am_i2, am_i2d, am_l1, am_l2, am_l2d, am_ldi, am_ldl, am_lda, am_sti, am_sta, am_stl, am_inc, am_i2l, am_l2i, am_lcmp, am_dup, am_dup2, am_pop1, am_fv, am_getf, am_putf, am_wr, am_ial, am_lal, am_bal, am_aal, am_ias, am_las, am_bas, am_alen, am_inst, am_cast, am_cpm, am_copy, am_tsw, am_pop, am_cat, am_cS, am_cI, am_cV, am_ri, am_rl, am_ra, am_rv, am_b1, am_b2, am_ent, am_en, am_isL, am_st1, am_st2, am_clr, am_cnd, cc_148, ac_148, nL_148, rb_148, np_144, ok_148_144, nL_144, vd_144_11, np_145, ok_148_145, nL_145, vd_145_11, np_146, ok_148_146, nL_146, vd_146_11, np_147, ok_148_147, nL_147, vd_147_11, tg_11_2, tg_4_7, List.getElem?_cons_succ, List.getElem?_cons_zero, nz_of, nzl_of, Int.toNat_add, Int.toNat_mul, tn_l, lt_t, lt_f, le_t, le_f, eq_t, eq_f, ltn_t, ltn_f, len_t, len_f, eqn_t, eqn_f, up_ne, up_up, sh_0, b3]
  · by_cases e : q + 1 < n
    · have e1 : nxJ n q = q + 1 := if_pos e
      rw [e1] at b4 ⊢
      simp only [Int.natCast_add, Int.natCast_one] at b4
      rw [s1_iff [] 200]
      simp (disch := omega) [sz_s, sz_0, gx_s, hx_r, hx_c, hx_b, hx_s, hx_i, hx_n, kx_s, kx_n, kx_i, cx_d, up_at, am_ctl, am_step, am_i1, am_i2, am_i2d, am_l1, am_l2, am_l2d, am_ldi, am_ldl, am_lda, am_sti, am_sta, am_stl, am_inc, am_i2l, am_l2i, am_lcmp, am_dup, am_dup2, am_pop1, am_fv, am_getf, am_putf, am_wr, am_ial, am_lal, am_bal, am_aal, am_ias, am_las, am_bas, am_alen, am_inst, am_cast, am_cpm, am_copy, am_tsw, am_pop, am_cat, am_cS, am_cI, am_cV, am_ri, am_rl, am_ra, am_rv, am_b1, am_b2, am_ent, am_en, am_isL, am_st1, am_st2, am_clr, am_cnd, cc_148, ac_148, nL_148, rb_148, np_144, ok_148_144, nL_144, vd_144_11, np_145, ok_148_145, nL_145, vd_145_11, np_146, ok_148_146, nL_146, vd_146_11, np_147, ok_148_147, nL_147, vd_147_11, tg_11_2, tg_4_7, List.getElem?_cons_succ, List.getElem?_cons_zero, nz_of, nzl_of, Int.toNat_add, Int.toNat_mul, tn_l, lt_t, lt_f, le_t, le_f, eq_t, eq_f, ltn_t, ltn_f, len_t, len_f, eqn_t, eqn_f, up_ne, up_up, sh_0, rf_0_2, sh_73, hn, e, b4]
    · have e1 : nxJ n q = 0 := if_neg e
      rw [e1] at b4 ⊢
      simp only [Int.natCast_zero] at b4
      rw [s1_iff [] 200]
      simp (disch := omega) [sz_s, sz_0, gx_s, hx_r, hx_c, hx_b, hx_s, hx_i, hx_n, kx_s, kx_n, kx_i, cx_d, up_at, am_ctl, am_step, am_i1, am_i2, am_i2d, am_l1, am_l2, am_l2d, am_ldi, am_ldl, am_lda, am_sti, am_sta, am_stl, am_inc, am_i2l, am_l2i, am_lcmp, am_dup, am_dup2, am_pop1, am_fv, am_getf, am_putf, am_wr, am_ial, am_lal, am_bal, am_aal, am_ias, am_las, am_bas, am_alen, am_inst, am_cast, am_cpm, am_copy, am_tsw, am_pop, am_cat, am_cS, am_cI, am_cV, am_ri, am_rl, am_ra, am_rv, am_b1, am_b2, am_ent, am_en, am_isL, am_st1, am_st2, am_clr, am_cnd, cc_148, ac_148, nL_148, rb_148, np_144, ok_148_144, nL_144, vd_144_11, np_145, ok_148_145, nL_145, vd_145_11, np_146, ok_148_146, nL_146, vd_146_11, np_147, ok_148_147, nL_147, vd_147_11, tg_11_2, tg_4_7, List.getElem?_cons_succ, List.getElem?_cons_zero, nz_of, nzl_of, Int.toNat_add, Int.toNat_mul, tn_l, lt_t, lt_f, le_t, le_f, eq_t, eq_f, ltn_t, ltn_f, len_t, len_f, eqn_t, eqn_f, up_ne, up_up, sh_0, rf_0_2, sh_73, hn, e, b4]
