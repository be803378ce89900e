/-! night: equal on both sides; deeds undone -/
theorem xr_night (μ : Nat → Nat → Int) (k : Nat) (h1 : ¬ (4 ≤ k ∧ k ≤ 8)) (h2 : ¬ (73 ≤ k ∧ k ≤ 79)) : xnight μ k = μ k := by
  unfold xnight xlog; rw [xa_ne _ _ _ _ _ _ h1]; simp (disch := omega) only [up_ne]
theorem INV_night {B : Int} {μ : Nat → Nat → Int} (h : INV B μ) (hn : μ 102 2 < 30) : INV B (mnight (xnight μ)) := by
  have hL : LD B μ 73 0 := h.2.2.2.1
  have h12 := I_12 h
  have n8 := ld_0 hL
  have hW := WR_of hL
  obtain ⟨N, hN⟩ : ∃ N : Nat, μ 102 2 = N := ⟨(μ 102 2).toNat, by omega⟩
  have hN30 : N < 30 := by omega
  have i0 := inW_rng hW 0 (μ 102 1)
  have i1 := inW_rng hW 1 (μ 102 1)
  have i2 := inW_rng hW 2 (μ 102 1)
  have h12' : 0 ≤ xnight μ 101 12 ∧ xnight μ 101 12 ≤ 60 := by rw [xr_night _ 101 (by decide) (by decide)]; exact h12
  have row : ∀ i, mnight (xnight μ) 102 i = if i = 2 then (N : Int) + 1 else if i = 101 + 3 * N + 2 then inW (μ 102) 2 (μ 102 1) else if i = 101 + 3 * N + 1 then inW (μ 102) 1 (μ 102 1) else if i = 101 + 3 * N then inW (μ 102) 0 (μ 102 1) else μ 102 i := fun i => by
    unfold mnight
    rw [mm_row _ _ _ _ _ 102 (by decide) (by decide)]
    unfold mlog
    simp only [xr_night _ 102 (by decide) (by decide), up_at, true_and, hN, Int.toNat_natCast]
  have cel : ∀ k i, 73 ≤ k → k ≤ 79 → mnight (xnight μ) k i = if k = 73 ∧ i = 9 then (N : Int) + 1 else if k = 79 ∧ i = 3 * N + 2 then inW (μ 102) 2 (μ 102 1) else if k = 79 ∧ i = 3 * N + 1 then inW (μ 102) 1 (μ 102 1) else if k = 79 ∧ i = 3 * N then inW (μ 102) 0 (μ 102 1) else μ k i := fun k i h1 h2 => by
    unfold mnight
    rw [mm_ne _ _ _ _ _ k i (by omega) (by omega)]
    unfold mlog
    simp (disch := omega) only [up_at, eqn_f, false_and, if_false]
    unfold xnight
    rw [xa_ne _ _ _ _ _ k (by omega)]
    unfold xlog
    simp only [up_at, hN, Int.toNat_natCast]
  have L9 : LD B (mnight (xnight μ)) 73 0 := by
    obtain ⟨h1, h2, h3, h4, h5, h6, h7, h8', h9, h10, h11, h12, h13⟩ := hL
    simp only [Nat.zero_add] at h1 h2 h3 h4 h5 h6 h7 h8' h9 h10 h11 h12 h13
    unfold LD
    simp (disch := omega) only [Nat.zero_add, row, cel, eqn_f, eqn_t, true_and, and_true, false_and, and_false, if_false, if_true]
    refine ⟨h1, h2, h3, h4, by omega, h7, h8', h9, h10, fun k hk => ?_, fun j hj => ?_, fun j hj => ?_⟩
    · have := h11 k hk
      try simp (disch := omega) only [eqn_f, if_false]
      exact this
    · have := h12 j hj
      try simp (disch := omega) only [eqn_f, if_false]
      exact this
    · try simp (disch := omega) only [eqn_f, if_false]
      by_cases e2 : j = 3 * N + 2
      · simp (disch := omega) only [eqn_t, eqn_f, if_true, if_false, true_and]; omega
      · by_cases e1 : j = 3 * N + 1
        · simp (disch := omega) only [eqn_t, eqn_f, if_true, if_false, true_and]; omega
        · by_cases e0 : j = 3 * N
          · simp (disch := omega) only [eqn_t, eqn_f, if_true, if_false, true_and]; omega
          · simp (disch := omega) only [eqn_t, eqn_f, if_true, if_false, true_and]
            exact h13 j (by omega)
  refine INV_deed h (by omega) 5 0 0 0 1 (by decide) (by intro q; exact absurd q (by decide)) L9 ⟨?_, ?_, fun i h1 h2 => ?_⟩ ⟨?_, ?_, fun i h1 h2 => ?_⟩ ?_ ?_ ?_ (fun i => ?_) (fun i => ?_) (fun i => ?_) (fun i => ?_) ?_ (fun i => ?_) (fun k i h1 h2 h3 h4 h5 => ?_)
  · simp (disch := omega) only [UD, eq_f, if_false, ad, row, eqn_f]
  · simp (disch := omega) only [UD, eq_f, if_false, ad, row, eqn_f, eqn_t, if_true]; omega
  · simp (disch := omega) only [UD, eq_f, if_false, ad, row, eqn_f]
  · simp (disch := omega) only [UD, eq_f, if_false, ad, row, eqn_f]
  · simp (disch := omega) only [UD, eq_f, if_false, ad, row, eqn_f, eqn_t, if_true]; omega
  · simp (disch := omega) only [UD, eq_f, if_false, ad, row, eqn_f]
  · unfold VD; omega
  · unfold mnight
    rw [mm_ne _ _ _ _ _ _ _ (by decide) (by decide)]
    unfold mlog
    simp (disch := omega) only [up_ne]
    unfold xnight
    rw [xa_4]; unfold xlog; simp (disch := omega) only [up_ne]
  · unfold mnight
    rw [mm_ne _ _ _ _ _ _ _ (by decide) (by decide)]
    unfold mlog
    simp (disch := omega) only [up_ne]
    unfold xnight
    rw [xa_45]; unfold xlog; simp (disch := omega) only [up_ne]
  · unfold mnight
    rw [mm_ne _ _ _ _ _ _ _ (by decide) (by omega)]
    unfold mlog
    simp (disch := omega) only [up_ne]
    unfold xnight
    rw [xa_5]; unfold xlog; simp (disch := omega) only [up_ne]
  · unfold mnight
    rw [mm_ne _ _ _ _ _ _ _ (by decide) (by omega)]
    unfold mlog
    simp (disch := omega) only [up_ne]
    unfold xnight
    rw [xa_6]; unfold xlog; simp (disch := omega) only [up_ne]
  · unfold mnight
    rw [mm_ne _ _ _ _ _ _ _ (by decide) (by omega)]
    unfold mlog
    simp (disch := omega) only [up_ne]
    unfold xnight
    rw [xa_7]; unfold xlog; simp (disch := omega) only [up_ne]
  · unfold mnight
    rw [mm_ne _ _ _ _ _ _ _ (by decide) (by omega)]
    unfold mlog
    simp (disch := omega) only [up_ne]
    unfold xnight
    rw [xa_8]; unfold xlog; simp (disch := omega) only [up_ne]
  · unfold mnight
    rw [mm_12 _ _ _ _ _ (by unfold mlog; simp (disch := omega) only [up_ne]; exact h12')]
    unfold mlog
    simp (disch := omega) only [up_ne]
    rw [xr_night _ 101 (by decide) (by decide)]
  · unfold mnight
    rw [mm_109 _ _ _ _ _ (by unfold mlog; simp (disch := omega) only [up_ne]; exact h12')]
    unfold mlog
    simp (disch := omega) only [up_ne]
    rw [xr_night _ 101 (by decide) (by decide), xr_night _ 109 (by decide) (by decide)]
  · unfold mnight
    rw [mm_ne _ _ _ _ _ k i h4 h5]
    unfold mlog
    have : xnight μ 102 2 = N := by rw [xr_night _ 102 (by decide) (by decide)]; exact hN
    simp only [up_at, this, Int.toNat_natCast]
    repeat rw [if_neg (by omega)]
    rw [xr_night _ k h1 h2]
theorem eq_night {B : Int} {μ : Nat → Nat → Int} (h : INV B μ) (hB : B ≤ 1000000) : EQV B μ 97 202 [] := by
  have hL : LD B μ 73 0 := h.2.2.2.1
  have h12 := I_12 h
  have hW := WR_of hL
  have n8 := ld_0 hL
  unfold EQV
  rw [wp_night h hB]
  by_cases c0 : μ 102 0 = 0
  · rw [if_pos c0]
    refine ⟨_, _, rfl, rfl, ?_⟩
    rw [wm_night hW h12, if_pos c0]
    exact ⟨rfl, _, rfl, h⟩
  · rw [if_neg c0]
    by_cases c1 : μ 102 2 = 30
    · rw [if_pos c1]
      refine ⟨_, _, rfl, rfl, ?_⟩
      rw [wm_night hW h12, if_neg c0, if_pos c1]
      exact ⟨rfl, _, rfl, h⟩
    · rw [if_neg c1]
      refine ⟨_, _, rfl, rfl, ?_⟩
      rw [wm_night (by rw [xr_night _ 102 (by decide) (by decide)]; exact hW) (by rw [xr_night _ 101 (by decide) (by decide)]; exact h12), xr_night _ 102 (by decide) (by decide), if_neg c0, if_neg c1]
      exact ⟨rfl, _, rfl, INV_night h (by omega)⟩
