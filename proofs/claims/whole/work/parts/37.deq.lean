/-! deeds: equal on both sides -/
theorem xa_ne (μ : Nat → Nat → Int) (s a b n : Int) (k : Nat) (h : ¬ (4 ≤ k ∧ k ≤ 8)) : xadd μ s a b n k = μ k := by
  unfold xadd; simp (disch := omega) only [up_ne]
theorem xa_4 (μ : Nat → Nat → Int) (s a b n : Int) : xadd μ s a b n 4 4 = (μ 4 4 + 1).tmod 60 := by simp [xadd, up_at]
theorem xa_45 (μ : Nat → Nat → Int) (s a b n : Int) : xadd μ s a b n 4 5 = min (μ 4 5 + 1) 60 := by simp [xadd, up_at]
theorem xa_5 (μ : Nat → Nat → Int) (s a b n : Int) (i : Nat) : xadd μ s a b n 5 i = if i = (μ 4 4).toNat then s else μ 5 i := by simp [xadd, up_at]
theorem xa_6 (μ : Nat → Nat → Int) (s a b n : Int) (i : Nat) : xadd μ s a b n 6 i = if i = (μ 4 4).toNat then a else μ 6 i := by simp [xadd, up_at]
theorem xa_7 (μ : Nat → Nat → Int) (s a b n : Int) (i : Nat) : xadd μ s a b n 7 i = if i = (μ 4 4).toNat then b else μ 7 i := by simp [xadd, up_at]
theorem xa_8 (μ : Nat → Nat → Int) (s a b n : Int) (i : Nat) : xadd μ s a b n 8 i = if i = (μ 4 4).toNat then n else μ 8 i := by simp [xadd, up_at]
theorem mm_ne (μ : Nat → Nat → Int) (s a b n : Int) (k i : Nat) (h1 : ¬ k = 109) (h2 : ¬ (k = 101 ∧ i = 12)) : mminds μ s a b n k i = μ k i := by
  unfold mminds mpush
  split
  · simp only [up_at]
    rw [if_neg h2, if_neg (by omega), if_neg (by omega), if_neg (by omega), if_neg (by omega), if_neg h2]
    exact mshk_ne _ _ _ _ h1
  · simp only [up_at]
    rw [if_neg h2, if_neg (by omega), if_neg (by omega), if_neg (by omega), if_neg (by omega)]
theorem mm_row (μ : Nat → Nat → Int) (s a b n : Int) (k : Nat) (h1 : ¬ k = 109) (h2 : ¬ k = 101) : mminds μ s a b n k = μ k := funext fun i => mm_ne μ s a b n k i h1 (by omega)
theorem mm_12 (μ : Nat → Nat → Int) (s a b n : Int) (h : 0 ≤ μ 101 12 ∧ μ 101 12 ≤ 60) : mminds μ s a b n 101 12 = min (μ 101 12 + 1) 60 := by
  unfold mminds mpush
  split <;> simp [up_at] <;> omega
theorem mm_109 (μ : Nat → Nat → Int) (s a b n : Int) (h : 0 ≤ μ 101 12 ∧ μ 101 12 ≤ 60) (i : Nat) : mminds μ s a b n 109 i = gp (μ 109) (μ 101 12).toNat s a b n i := by
  unfold mminds mpush gp
  by_cases c : μ 101 12 = 60
  · rw [if_pos c, c]
    simp [up_at, mshk_at]
  · rw [if_neg c]
    simp [up_at, show min (μ 101 12).toNat 59 = (μ 101 12).toNat by omega, show ¬ (μ 101 12).toNat = 60 by omega]
theorem AG_eq {w v : Nat → Int} (h : ∀ j, v j = w j) : AG w v := ⟨h 0, h 2, fun i _ _ => h i⟩
theorem I_12 {B : Int} {μ : Nat → Nat → Int} (h : INV B μ) : 0 ≤ μ 101 12 ∧ μ 101 12 ≤ 60 := h.2.2.2.2.2.2.1
theorem INV_born {B : Int} {μ : Nat → Nat → Int} (h : INV B μ) (q : Nat) (hq : (q : Int) < μ 102 0) (c : μ 76 q < 9 ∧ μ 77 q < 30) : INV (B) (mborn (xborn μ q) q) := by
  have hL : LD B μ 73 0 := h.2.2.2.1
  have h12 := I_12 h
  have n8 := ld_0 hL
  have lh := ld_h hL (h := q) (by unfold nW; omega)
  have e1 := lh.1.2.2.1
  have e2 := lh.1.2.2.2
  have L1 := LD_mo hL q (μ 76 q + 1) hq (by omega)
  have L9 := LD_sp L1 q (μ 77 q + 1) (by simp (disch := omega) only [up_at, eqn_f, and_false, false_and, if_false]; exact hq) (by omega)
  have q102 : ∀ k, ¬ (4 ≤ k ∧ k ≤ 8) → ¬ (73 ≤ k ∧ k ≤ 79) → xborn μ q k = μ k := fun k h1 h2 => by
    unfold xborn; rw [xa_ne _ _ _ _ _ _ h1]; simp (disch := omega) only [up_ne]
  have h12' : 0 ≤ (xborn μ q) 101 12 ∧ (xborn μ q) 101 12 ≤ 60 := by rw [q102 101 (by decide) (by decide)]; exact h12
  have row : ∀ i, (mborn (xborn μ q) q) 102 i = if i = 29 + q then μ 102 (29 + q) + 1 else if i = 21 + q then μ 102 (21 + q) + 1 else μ 102 i := fun i => by
    unfold mborn
    rw [mm_row _ _ _ _ _ 102 (by decide) (by decide)]
    simp only [q102 102 (by decide) (by decide), up_at, true_and]
  refine INV_deed h (by omega) 3 q 0 0 1 (by decide) (by first | (intro _; rfl) | (intro q; exact absurd q (by decide))) (LD_of L9 (fun i => ?_) (fun k i hk => ?_)) (AG_eq (fun j => ?_)) (AG_eq (fun j => ?_)) ?_ ?_ ?_ (fun i => ?_) (fun i => ?_) (fun i => ?_) (fun i => ?_) ?_ (fun i => ?_) (fun k i h1 h2 h3 h4 h5 => ?_)
  · rw [row i]
    simp (disch := omega) only [up_at, true_and, eqn_f, false_and, if_false, *]
  · unfold mborn
    rw [mm_ne _ _ _ _ _ k i (by omega) (by omega)]
    simp (disch := omega) only [up_at, eqn_f, false_and, if_false]
    unfold xborn
    rw [xa_ne _ _ _ _ _ k (by omega)]
    simp (disch := omega) only [up_at, eqn_f, false_and, if_false]
  · simp (disch := omega) only [UD, eq_f, eq_t, if_true, if_false, Int.toNat_natCast]
    simp only [ad, row]
    (repeat' split) <;> first | omega | (subst_vars; omega) | (simp_all; try omega)
  · symm
    simp (disch := omega) only [UD, eq_f, eq_t, if_true, if_false, Int.toNat_natCast]
    simp only [ad, row]
    (repeat' split) <;> first | omega | (subst_vars; omega) | (simp_all; try omega)
  · unfold VD
    simp only [row]
    simp (disch := omega) only [eqn_f, if_false]
    omega
  · unfold mborn
    rw [mm_ne _ _ _ _ _ _ _ (by decide) (by decide)]
    simp (disch := omega) only [up_ne]
    unfold xborn
    rw [xa_4]; simp (disch := omega) only [up_ne]
  · unfold mborn
    rw [mm_ne _ _ _ _ _ _ _ (by decide) (by decide)]
    simp (disch := omega) only [up_ne]
    unfold xborn
    rw [xa_45]; simp (disch := omega) only [up_ne]
  · unfold mborn
    rw [mm_ne _ _ _ _ _ _ _ (by decide) (by omega)]
    simp (disch := omega) only [up_ne]
    unfold xborn
    rw [xa_5]; simp (disch := omega) only [up_ne]
  · unfold mborn
    rw [mm_ne _ _ _ _ _ _ _ (by decide) (by omega)]
    simp (disch := omega) only [up_ne]
    unfold xborn
    rw [xa_6]; simp (disch := omega) only [up_ne]
  · unfold mborn
    rw [mm_ne _ _ _ _ _ _ _ (by decide) (by omega)]
    simp (disch := omega) only [up_ne]
    unfold xborn
    rw [xa_7]; simp (disch := omega) only [up_ne]
  · unfold mborn
    rw [mm_ne _ _ _ _ _ _ _ (by decide) (by omega)]
    simp (disch := omega) only [up_ne]
    unfold xborn
    rw [xa_8]; simp (disch := omega) only [up_ne]
  · unfold mborn
    rw [mm_12 _ _ _ _ _ (by simp (disch := omega) only [up_ne]; exact h12')]
    simp (disch := omega) only [up_ne]
    rw [q102 101 (by decide) (by decide)]
  · unfold mborn
    rw [mm_109 _ _ _ _ _ (by simp (disch := omega) only [up_ne]; exact h12')]
    simp (disch := omega) only [up_ne]
    rw [q102 101 (by decide) (by decide), q102 109 (by decide) (by decide)]
  · unfold mborn
    rw [mm_ne _ _ _ _ _ k i h4 h5]
    simp only [up_at]
    repeat rw [if_neg (by omega)]
    rw [q102 k h1 h2]
theorem INV_gone {B : Int} {μ : Nat → Nat → Int} (h : INV B μ) (q : Nat) (hq : (q : Int) < μ 102 0) (c : ¬ μ 76 q = 0) : INV (B) (mgone (xgone μ q) q) := by
  have hL : LD B μ 73 0 := h.2.2.2.1
  have h12 := I_12 h
  have n8 := ld_0 hL
  have lh := ld_h hL (h := q) (by unfold nW; omega)
  have e1 := lh.1.2.2.1
  have L9 := LD_mo hL q (μ 76 q - 1) hq (by omega)
  have q102 : ∀ k, ¬ (4 ≤ k ∧ k ≤ 8) → ¬ (73 ≤ k ∧ k ≤ 79) → xgone μ q k = μ k := fun k h1 h2 => by
    unfold xgone; rw [xa_ne _ _ _ _ _ _ h1]; simp (disch := omega) only [up_ne]
  have h12' : 0 ≤ (xgone μ q) 101 12 ∧ (xgone μ q) 101 12 ≤ 60 := by rw [q102 101 (by decide) (by decide)]; exact h12
  have row : ∀ i, (mgone (xgone μ q) q) 102 i = if i = 21 + q then μ 102 (21 + q) - 1 else μ 102 i := fun i => by
    unfold mgone
    rw [mm_row _ _ _ _ _ 102 (by decide) (by decide)]
    simp only [q102 102 (by decide) (by decide), up_at, true_and]
  refine INV_deed h (by omega) 4 q 0 0 1 (by decide) (by first | (intro _; rfl) | (intro q; exact absurd q (by decide))) (LD_of L9 (fun i => ?_) (fun k i hk => ?_)) (AG_eq (fun j => ?_)) (AG_eq (fun j => ?_)) ?_ ?_ ?_ (fun i => ?_) (fun i => ?_) (fun i => ?_) (fun i => ?_) ?_ (fun i => ?_) (fun k i h1 h2 h3 h4 h5 => ?_)
  · rw [row i]
    simp (disch := omega) only [up_at, true_and, eqn_f, false_and, if_false, *]
  · unfold mgone
    rw [mm_ne _ _ _ _ _ k i (by omega) (by omega)]
    simp (disch := omega) only [up_at, eqn_f, false_and, if_false]
    unfold xgone
    rw [xa_ne _ _ _ _ _ k (by omega)]
    simp (disch := omega) only [up_at, eqn_f, false_and, if_false]
  · simp (disch := omega) only [UD, eq_f, eq_t, if_true, if_false, Int.toNat_natCast]
    simp only [ad, row]
    (repeat' split) <;> first | omega | (subst_vars; omega) | (simp_all; try omega)
  · symm
    simp (disch := omega) only [UD, eq_f, eq_t, if_true, if_false, Int.toNat_natCast]
    simp only [ad, row]
    (repeat' split) <;> first | omega | (subst_vars; omega) | (simp_all; try omega)
  · unfold VD
    simp only [row]
    simp (disch := omega) only [eqn_f, if_false]
    omega
  · unfold mgone
    rw [mm_ne _ _ _ _ _ _ _ (by decide) (by decide)]
    simp (disch := omega) only [up_ne]
    unfold xgone
    rw [xa_4]; simp (disch := omega) only [up_ne]
  · unfold mgone
    rw [mm_ne _ _ _ _ _ _ _ (by decide) (by decide)]
    simp (disch := omega) only [up_ne]
    unfold xgone
    rw [xa_45]; simp (disch := omega) only [up_ne]
  · unfold mgone
    rw [mm_ne _ _ _ _ _ _ _ (by decide) (by omega)]
    simp (disch := omega) only [up_ne]
    unfold xgone
    rw [xa_5]; simp (disch := omega) only [up_ne]
  · unfold mgone
    rw [mm_ne _ _ _ _ _ _ _ (by decide) (by omega)]
    simp (disch := omega) only [up_ne]
    unfold xgone
    rw [xa_6]; simp (disch := omega) only [up_ne]
  · unfold mgone
    rw [mm_ne _ _ _ _ _ _ _ (by decide) (by omega)]
    simp (disch := omega) only [up_ne]
    unfold xgone
    rw [xa_7]; simp (disch := omega) only [up_ne]
  · unfold mgone
    rw [mm_ne _ _ _ _ _ _ _ (by decide) (by omega)]
    simp (disch := omega) only [up_ne]
    unfold xgone
    rw [xa_8]; simp (disch := omega) only [up_ne]
  · unfold mgone
    rw [mm_12 _ _ _ _ _ (by simp (disch := omega) only [up_ne]; exact h12')]
    simp (disch := omega) only [up_ne]
    rw [q102 101 (by decide) (by decide)]
  · unfold mgone
    rw [mm_109 _ _ _ _ _ (by simp (disch := omega) only [up_ne]; exact h12')]
    simp (disch := omega) only [up_ne]
    rw [q102 101 (by decide) (by decide), q102 109 (by decide) (by decide)]
  · unfold mgone
    rw [mm_ne _ _ _ _ _ k i h4 h5]
    simp only [up_at]
    repeat rw [if_neg (by omega)]
    rw [q102 k h1 h2]
theorem INV_melt {B : Int} {μ : Nat → Nat → Int} (h : INV B μ) (q : Nat) (n : Int) (hq : (q : Int) < μ 102 0) (hn : 1 ≤ n ∧ n ≤ 9) (c : n ≤ μ 77 q) : INV (B) (mmelt (xmelt μ q n) q n) := by
  have hL : LD B μ 73 0 := h.2.2.2.1
  have h12 := I_12 h
  have n8 := ld_0 hL
  have lh := ld_h hL (h := q) (by unfold nW; omega)
  have e2 := lh.1.2.2.2
  have L9 := LD_sp hL q (μ 77 q - n) hq (by omega)
  have q102 : ∀ k, ¬ (4 ≤ k ∧ k ≤ 8) → ¬ (73 ≤ k ∧ k ≤ 79) → xmelt μ q n k = μ k := fun k h1 h2 => by
    unfold xmelt; rw [xa_ne _ _ _ _ _ _ h1]; simp (disch := omega) only [up_ne]
  have h12' : 0 ≤ (xmelt μ q n) 101 12 ∧ (xmelt μ q n) 101 12 ≤ 60 := by rw [q102 101 (by decide) (by decide)]; exact h12
  have row : ∀ i, (mmelt (xmelt μ q n) q n) 102 i = if i = 29 + q then μ 102 (29 + q) - n else μ 102 i := fun i => by
    unfold mmelt
    rw [mm_row _ _ _ _ _ 102 (by decide) (by decide)]
    simp only [q102 102 (by decide) (by decide), up_at, true_and]
  refine INV_deed h (by omega) 2 q 0 n n (by decide) (by first | (intro _; rfl) | (intro q; exact absurd q (by decide))) (LD_of L9 (fun i => ?_) (fun k i hk => ?_)) (AG_eq (fun j => ?_)) (AG_eq (fun j => ?_)) ?_ ?_ ?_ (fun i => ?_) (fun i => ?_) (fun i => ?_) (fun i => ?_) ?_ (fun i => ?_) (fun k i h1 h2 h3 h4 h5 => ?_)
  · rw [row i]
    simp (disch := omega) only [up_at, true_and, eqn_f, false_and, if_false, *]
  · unfold mmelt
    rw [mm_ne _ _ _ _ _ k i (by omega) (by omega)]
    simp (disch := omega) only [up_at, eqn_f, false_and, if_false]
    unfold xmelt
    rw [xa_ne _ _ _ _ _ k (by omega)]
    simp (disch := omega) only [up_at, eqn_f, false_and, if_false]
  · simp (disch := omega) only [UD, eq_f, eq_t, if_true, if_false, Int.toNat_natCast]
    simp only [ad, row]
    (repeat' split) <;> first | omega | (subst_vars; omega) | (simp_all; try omega)
  · symm
    simp (disch := omega) only [UD, eq_f, eq_t, if_true, if_false, Int.toNat_natCast]
    simp only [ad, row]
    (repeat' split) <;> first | omega | (subst_vars; omega) | (simp_all; try omega)
  · unfold VD
    simp only [row]
    simp (disch := omega) only [eqn_f, if_false]
    omega
  · unfold mmelt
    rw [mm_ne _ _ _ _ _ _ _ (by decide) (by decide)]
    simp (disch := omega) only [up_ne]
    unfold xmelt
    rw [xa_4]; simp (disch := omega) only [up_ne]
  · unfold mmelt
    rw [mm_ne _ _ _ _ _ _ _ (by decide) (by decide)]
    simp (disch := omega) only [up_ne]
    unfold xmelt
    rw [xa_45]; simp (disch := omega) only [up_ne]
  · unfold mmelt
    rw [mm_ne _ _ _ _ _ _ _ (by decide) (by omega)]
    simp (disch := omega) only [up_ne]
    unfold xmelt
    rw [xa_5]; simp (disch := omega) only [up_ne]
  · unfold mmelt
    rw [mm_ne _ _ _ _ _ _ _ (by decide) (by omega)]
    simp (disch := omega) only [up_ne]
    unfold xmelt
    rw [xa_6]; simp (disch := omega) only [up_ne]
  · unfold mmelt
    rw [mm_ne _ _ _ _ _ _ _ (by decide) (by omega)]
    simp (disch := omega) only [up_ne]
    unfold xmelt
    rw [xa_7]; simp (disch := omega) only [up_ne]
  · unfold mmelt
    rw [mm_ne _ _ _ _ _ _ _ (by decide) (by omega)]
    simp (disch := omega) only [up_ne]
    unfold xmelt
    rw [xa_8]; simp (disch := omega) only [up_ne]
  · unfold mmelt
    rw [mm_12 _ _ _ _ _ (by simp (disch := omega) only [up_ne]; exact h12')]
    simp (disch := omega) only [up_ne]
    rw [q102 101 (by decide) (by decide)]
  · unfold mmelt
    rw [mm_109 _ _ _ _ _ (by simp (disch := omega) only [up_ne]; exact h12')]
    simp (disch := omega) only [up_ne]
    rw [q102 101 (by decide) (by decide), q102 109 (by decide) (by decide)]
  · unfold mmelt
    rw [mm_ne _ _ _ _ _ k i h4 h5]
    simp only [up_at]
    repeat rw [if_neg (by omega)]
    rw [q102 k h1 h2]
theorem INV_lend {B : Int} {μ : Nat → Nat → Int} (h : INV B μ) (a b : Nat) (n : Int) (ha : (a : Int) < μ 102 0) (hb : (b : Int) < μ 102 0) (hab : ¬ a = b) (hn : 1 ≤ n ∧ n ≤ 9) (c : n ≤ μ 77 a ∧ μ 77 b + n ≤ 30) : INV (B + n) (mlend (xlend μ a b n) a b n) := by
  have hL : LD B μ 73 0 := h.2.2.2.1
  have h12 := I_12 h
  have n8 := ld_0 hL
  have la := ld_h hL (h := a) (by unfold nW; omega)
  have lb := ld_h hL (h := b) (by unfold nW; omega)
  have ld := ld_d hL (j := 8 * a + b) (by omega)
  have ea := la.1.2.2.2
  have eb := lb.1.2.2.2
  have ed := ld.1
  have L1 := LD_sp (LD_mono (show B ≤ B + n by omega) hL) a (μ 77 a - n) ha (by omega)
  have L2 := LD_sp L1 b (μ 77 b + n) (by simp (disch := omega) only [up_at, eqn_f, and_false, false_and, if_false]; exact hb) (by omega)
  have L9 := LD_de L2 (8 * a + b) (μ 78 (8 * a + b) + n) (by omega) (by omega)
  have q102 : ∀ k, ¬ (4 ≤ k ∧ k ≤ 8) → ¬ (73 ≤ k ∧ k ≤ 79) → xlend μ a b n k = μ k := fun k h1 h2 => by
    unfold xlend; rw [xa_ne _ _ _ _ _ _ h1]; simp (disch := omega) only [up_ne]
  have h12' : 0 ≤ (xlend μ a b n) 101 12 ∧ (xlend μ a b n) 101 12 ≤ 60 := by rw [q102 101 (by decide) (by decide)]; exact h12
  have row : ∀ i, (mlend (xlend μ a b n) a b n) 102 i = if i = 37 + (8 * a + b) then μ 102 (37 + (8 * a + b)) + n else if i = 29 + b then μ 102 (29 + b) + n else if i = 29 + a then μ 102 (29 + a) - n else μ 102 i := fun i => by
    unfold mlend
    rw [mm_row _ _ _ _ _ 102 (by decide) (by decide)]
    simp only [q102 102 (by decide) (by decide), up_at, true_and]
  refine INV_deed h (by omega) 0 a b n n (by decide) (by first | (intro _; rfl) | (intro q; exact absurd q (by decide))) (LD_of L9 (fun i => ?_) (fun k i hk => ?_)) (AG_eq (fun j => ?_)) (AG_eq (fun j => ?_)) ?_ ?_ ?_ (fun i => ?_) (fun i => ?_) (fun i => ?_) (fun i => ?_) ?_ (fun i => ?_) (fun k i h1 h2 h3 h4 h5 => ?_)
  · rw [row i]
    simp (disch := omega) only [up_at, true_and, eqn_f, false_and, if_false, *]
  · unfold mlend
    rw [mm_ne _ _ _ _ _ k i (by omega) (by omega)]
    simp (disch := omega) only [up_at, eqn_f, false_and, if_false]
    unfold xlend
    rw [xa_ne _ _ _ _ _ k (by omega)]
    simp (disch := omega) only [up_at, eqn_f, false_and, if_false]
  · simp (disch := omega) only [UD, eq_f, eq_t, if_true, if_false, Int.toNat_natCast]
    simp only [ad, row]
    (repeat' split) <;> first | omega | (subst_vars; omega) | (simp_all; try omega)
  · symm
    simp (disch := omega) only [UD, eq_f, eq_t, if_true, if_false, Int.toNat_natCast]
    simp only [ad, row]
    (repeat' split) <;> first | omega | (subst_vars; omega) | (simp_all; try omega)
  · unfold VD
    simp only [row]
    simp (disch := omega) only [eqn_f, if_false]
    omega
  · unfold mlend
    rw [mm_ne _ _ _ _ _ _ _ (by decide) (by decide)]
    simp (disch := omega) only [up_ne]
    unfold xlend
    rw [xa_4]; simp (disch := omega) only [up_ne]
  · unfold mlend
    rw [mm_ne _ _ _ _ _ _ _ (by decide) (by decide)]
    simp (disch := omega) only [up_ne]
    unfold xlend
    rw [xa_45]; simp (disch := omega) only [up_ne]
  · unfold mlend
    rw [mm_ne _ _ _ _ _ _ _ (by decide) (by omega)]
    simp (disch := omega) only [up_ne]
    unfold xlend
    rw [xa_5]; simp (disch := omega) only [up_ne]
  · unfold mlend
    rw [mm_ne _ _ _ _ _ _ _ (by decide) (by omega)]
    simp (disch := omega) only [up_ne]
    unfold xlend
    rw [xa_6]; simp (disch := omega) only [up_ne]
  · unfold mlend
    rw [mm_ne _ _ _ _ _ _ _ (by decide) (by omega)]
    simp (disch := omega) only [up_ne]
    unfold xlend
    rw [xa_7]; simp (disch := omega) only [up_ne]
  · unfold mlend
    rw [mm_ne _ _ _ _ _ _ _ (by decide) (by omega)]
    simp (disch := omega) only [up_ne]
    unfold xlend
    rw [xa_8]; simp (disch := omega) only [up_ne]
  · unfold mlend
    rw [mm_12 _ _ _ _ _ (by simp (disch := omega) only [up_ne]; exact h12')]
    simp (disch := omega) only [up_ne]
    rw [q102 101 (by decide) (by decide)]
  · unfold mlend
    rw [mm_109 _ _ _ _ _ (by simp (disch := omega) only [up_ne]; exact h12')]
    simp (disch := omega) only [up_ne]
    rw [q102 101 (by decide) (by decide), q102 109 (by decide) (by decide)]
  · unfold mlend
    rw [mm_ne _ _ _ _ _ k i h4 h5]
    simp only [up_at]
    repeat rw [if_neg (by omega)]
    rw [q102 k h1 h2]
theorem INV_back {B : Int} {μ : Nat → Nat → Int} (h : INV B μ) (a b : Nat) (n : Int) (ha : (a : Int) < μ 102 0) (hb : (b : Int) < μ 102 0) (hab : ¬ a = b) (hn : 1 ≤ n ∧ n ≤ 9) (c : n ≤ μ 78 (8 * a + b) ∧ n ≤ μ 77 b ∧ μ 77 a + n ≤ 30) : INV (B) (mback (xback μ a b n) a b n) := by
  have hL : LD B μ 73 0 := h.2.2.2.1
  have h12 := I_12 h
  have n8 := ld_0 hL
  have la := ld_h hL (h := a) (by unfold nW; omega)
  have lb := ld_h hL (h := b) (by unfold nW; omega)
  have ld := ld_d hL (j := 8 * a + b) (by omega)
  have ea := la.1.2.2.2
  have eb := lb.1.2.2.2
  have ed := ld.1
  have L1 := LD_sp hL b (μ 77 b - n) hb (by omega)
  have L2 := LD_sp L1 a (μ 77 a + n) (by simp (disch := omega) only [up_at, eqn_f, and_false, false_and, if_false]; exact ha) (by omega)
  have L9 := LD_de L2 (8 * a + b) (μ 78 (8 * a + b) + -n) (by omega) (by omega)
  have q102 : ∀ k, ¬ (4 ≤ k ∧ k ≤ 8) → ¬ (73 ≤ k ∧ k ≤ 79) → xback μ a b n k = μ k := fun k h1 h2 => by
    unfold xback; rw [xa_ne _ _ _ _ _ _ h1]; simp (disch := omega) only [up_ne]
  have h12' : 0 ≤ (xback μ a b n) 101 12 ∧ (xback μ a b n) 101 12 ≤ 60 := by rw [q102 101 (by decide) (by decide)]; exact h12
  have row : ∀ i, (mback (xback μ a b n) a b n) 102 i = if i = 37 + (8 * a + b) then μ 102 (37 + (8 * a + b)) + -n else if i = 29 + a then μ 102 (29 + a) + n else if i = 29 + b then μ 102 (29 + b) - n else μ 102 i := fun i => by
    unfold mback
    rw [mm_row _ _ _ _ _ 102 (by decide) (by decide)]
    simp only [q102 102 (by decide) (by decide), up_at, true_and]
  refine INV_deed h (by omega) 1 a b n n (by decide) (by first | (intro _; rfl) | (intro q; exact absurd q (by decide))) (LD_of L9 (fun i => ?_) (fun k i hk => ?_)) (AG_eq (fun j => ?_)) (AG_eq (fun j => ?_)) ?_ ?_ ?_ (fun i => ?_) (fun i => ?_) (fun i => ?_) (fun i => ?_) ?_ (fun i => ?_) (fun k i h1 h2 h3 h4 h5 => ?_)
  · rw [row i]
    simp (disch := omega) only [up_at, true_and, eqn_f, false_and, if_false, *]
  · unfold mback
    rw [mm_ne _ _ _ _ _ k i (by omega) (by omega)]
    simp (disch := omega) only [up_at, eqn_f, false_and, if_false]
    unfold xback
    rw [xa_ne _ _ _ _ _ k (by omega)]
    simp (disch := omega) only [up_at, eqn_f, false_and, if_false]
  · simp (disch := omega) only [UD, eq_f, eq_t, if_true, if_false, Int.toNat_natCast]
    simp only [ad, row]
    (repeat' split) <;> first | omega | (subst_vars; omega) | (simp_all; try omega)
  · symm
    simp (disch := omega) only [UD, eq_f, eq_t, if_true, if_false, Int.toNat_natCast]
    simp only [ad, row]
    (repeat' split) <;> first | omega | (subst_vars; omega) | (simp_all; try omega)
  · unfold VD
    simp only [row]
    simp (disch := omega) only [eqn_f, if_false]
    omega
  · unfold mback
    rw [mm_ne _ _ _ _ _ _ _ (by decide) (by decide)]
    simp (disch := omega) only [up_ne]
    unfold xback
    rw [xa_4]; simp (disch := omega) only [up_ne]
  · unfold mback
    rw [mm_ne _ _ _ _ _ _ _ (by decide) (by decide)]
    simp (disch := omega) only [up_ne]
    unfold xback
    rw [xa_45]; simp (disch := omega) only [up_ne]
  · unfold mback
    rw [mm_ne _ _ _ _ _ _ _ (by decide) (by omega)]
    simp (disch := omega) only [up_ne]
    unfold xback
    rw [xa_5]; simp (disch := omega) only [up_ne]
  · unfold mback
    rw [mm_ne _ _ _ _ _ _ _ (by decide) (by omega)]
    simp (disch := omega) only [up_ne]
    unfold xback
    rw [xa_6]; simp (disch := omega) only [up_ne]
  · unfold mback
    rw [mm_ne _ _ _ _ _ _ _ (by decide) (by omega)]
    simp (disch := omega) only [up_ne]
    unfold xback
    rw [xa_7]; simp (disch := omega) only [up_ne]
  · unfold mback
    rw [mm_ne _ _ _ _ _ _ _ (by decide) (by omega)]
    simp (disch := omega) only [up_ne]
    unfold xback
    rw [xa_8]; simp (disch := omega) only [up_ne]
  · unfold mback
    rw [mm_12 _ _ _ _ _ (by simp (disch := omega) only [up_ne]; exact h12')]
    simp (disch := omega) only [up_ne]
    rw [q102 101 (by decide) (by decide)]
  · unfold mback
    rw [mm_109 _ _ _ _ _ (by simp (disch := omega) only [up_ne]; exact h12')]
    simp (disch := omega) only [up_ne]
    rw [q102 101 (by decide) (by decide), q102 109 (by decide) (by decide)]
  · unfold mback
    rw [mm_ne _ _ _ _ _ k i h4 h5]
    simp only [up_at]
    repeat rw [if_neg (by omega)]
    rw [q102 k h1 h2]
