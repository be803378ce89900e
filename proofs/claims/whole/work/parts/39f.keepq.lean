/-! keep, on: equal on both sides, the end -/
theorem INV_keep {B : Int} {μ : Nat → Nat → Int} (h : INV B μ) (k c : Nat) (hk : k < 3) (hc : c = 80 + 7 * k) : INV B (am_up (mcp (am_up (xtake μ c 73) c 12 1) (200 * (k + 1)) 0 200) 103 k 1) := by
  have hL : LD B μ 73 0 := h.2.2.2.1
  have lo : ∀ b, ¬ (c ≤ b ∧ b ≤ c + 6) → ¬ b = 102 → ¬ b = 103 → (am_up (mcp (am_up (xtake μ c 73) c 12 1) (200 * (k + 1)) 0 200) 103 k 1) b = μ b := fun b h1 h2 h3 => by
    rw [up_ne _ _ _ h3, mcp_ne _ _ _ _ _ h2, up_ne _ _ _ (by omega), xt_ne _ _ _ _ h1]
  have row : ∀ j, (am_up (mcp (am_up (xtake μ c 73) c 12 1) (200 * (k + 1)) 0 200) 103 k 1) 102 j = if 200 * (k + 1) ≤ j ∧ j < 200 * (k + 1) + 200 then μ 102 (j - 200 * (k + 1)) else μ 102 j := fun j => by
    rw [up_ne _ _ _ (by decide), mcp_at, up_ne _ _ _ (by omega), xt_ne _ _ _ _ (by omega), Nat.zero_add]
  have row0 : ∀ j, j < 200 → (am_up (mcp (am_up (xtake μ c 73) c 12 1) (200 * (k + 1)) 0 200) 103 k 1) 102 j = μ 102 j := fun j hj => by rw [row, if_neg (by omega)]
  have r103 : ∀ j, (am_up (mcp (am_up (xtake μ c 73) c 12 1) (200 * (k + 1)) 0 200) 103 k 1) 103 j = if j = k then 1 else μ 103 j := fun j => by
    rw [up_at, mcp_ne _ _ _ _ _ (by decide), up_ne _ _ _ (by omega), xt_ne _ _ _ _ (by omega)]
    simp only [true_and]
  have kp : ∀ b i, c ≤ b → b ≤ c + 6 → (am_up (mcp (am_up (xtake μ c 73) c 12 1) (200 * (k + 1)) 0 200) 103 k 1) b i = if b = c ∧ i = 12 then 1 else xtake μ c 73 b i := fun b i h1 h2 => by
    rw [up_ne _ _ _ (by omega), mcp_ne _ _ _ _ _ (by omega), up_at]
  generalize hν : am_up (mcp (am_up (xtake μ c 73) c 12 1) (200 * (k + 1)) 0 200) 103 k 1 = ν at *
  obtain ⟨⟨a1, a2, a3, a4, a5⟩, hI, ht, -, hK, hd⟩ := h
  refine ⟨⟨?_, ?_, ?_, ?_, fun g hg => ?_⟩, I_r_of hI (fun b i hb => by rw [lo b (by omega) (by omega) (by omega)]), I_t_of ht (fun b i hb => by rw [lo b (by omega) (by omega) (by omega)]), LD_on hL (fun i hi => row0 i (by omega)) (fun b i hb => by rw [lo b (by omega) (by omega) (by omega)]), fun q hq => ?_, ?_⟩
  · rw [lo 0 (by omega) (by omega) (by omega), lo 101 (by omega) (by omega) (by omega)]; exact a1
  · rw [lo 0 (by omega) (by omega) (by omega), lo 101 (by omega) (by omega) (by omega)]; exact a2
  · rw [lo 0 (by omega) (by omega) (by omega), lo 101 (by omega) (by omega) (by omega)]; exact a3
  · rw [lo 0 (by omega) (by omega) (by omega), lo 101 (by omega) (by omega) (by omega)]; exact a4
  · rw [lo 45 (by omega) (by omega) (by omega), lo 108 (by omega) (by omega) (by omega)]; exact a5 g hg
  · rw [r103]
    by_cases e : q = k
    · subst e
      rw [if_pos rfl, ← hc, kp c 12 (by omega) (by omega), if_pos ⟨rfl, rfl⟩]
      refine ⟨Or.inr rfl, rfl, fun _ => LD_move hL (fun i hi => ?_) (fun i hi => ?_) (fun i hi => ?_) (fun i hi => ?_) (fun i hi => ?_) (fun i hi => ?_) (fun i hi => ?_) (fun i hi => ?_)⟩
      · rw [row, if_pos (by omega), Nat.zero_add, show 200 * (q + 1) + i - 200 * (q + 1) = i by omega]
      · rw [kp _ _ (by omega) (by omega), if_neg (by omega), xt_f _ _ _ _ hi]
      · rw [kp _ _ (by omega) (by omega), if_neg (by omega), xt_up _ _ _ _ (by omega), tk_1 _ _ _ (by omega) _ hi]
      · rw [kp _ _ (by omega) (by omega), if_neg (by omega), xt_up _ _ _ _ (by omega), tk_2 _ _ _ (by omega) _ hi]
      · rw [kp _ _ (by omega) (by omega), if_neg (by omega), xt_up _ _ _ _ (by omega), tk_3 _ _ _ (by omega) _ hi]
      · rw [kp _ _ (by omega) (by omega), if_neg (by omega), xt_up _ _ _ _ (by omega), tk_4 _ _ _ (by omega) _ hi]
      · rw [kp _ _ (by omega) (by omega), if_neg (by omega), xt_up _ _ _ _ (by omega), tk_5 _ _ _ (by omega) _ hi]
      · rw [kp _ _ (by omega) (by omega), if_neg (by omega), xt_up _ _ _ _ (by omega), tk_6 _ _ _ (by omega) _ hi]
    · obtain ⟨b1, b2, b3⟩ := hK q hq
      rw [if_neg e, lo (80 + 7 * q) (by omega) (by omega) (by omega)]
      exact ⟨b1, b2, fun z => LD_on (b3 z) (fun i hi => by rw [row, if_neg (by omega)]) (fun b i hb => by rw [lo b (by omega) (by omega) (by omega)])⟩
  · unfold I_d at hd ⊢
    have f : ∀ b, (4 ≤ b ∧ b ≤ 8) ∨ b = 109 ∨ b = 101 → ν b = μ b := fun b hb => lo b (by omega) (by omega) (by omega)
    rw [f 101 (by omega), f 4 (by omega), f 5 (by omega), f 6 (by omega), f 7 (by omega), f 8 (by omega), f 109 (by omega)]
    exact ⟨CH_of _ ⟨row0 0 (by omega), row0 2 (by omega), fun i _ h2 => row0 i (by omega)⟩ hd.1, hd.2⟩
theorem INV_on {B : Int} {μ : Nat → Nat → Int} (h : INV B μ) (k c : Nat) (hk : k < 3) (hc : c = 80 + 7 * k) (h1 : μ 103 k = 1) : INV B (am_up (mcp (am_up (am_up (xtake μ 73 c) 4 4 0) 4 5 0) 0 (200 * (k + 1)) 200) 101 12 0) := by
  obtain ⟨⟨a1, a2, a3, a4, a5⟩, hI, ht, -, hK, hd⟩ := h
  have hL := (hK k hk).2.2 h1
  have lo : ∀ b, ¬ (73 ≤ b ∧ b ≤ 79) → ¬ b = 102 → ¬ b = 4 → ¬ b = 101 → (am_up (mcp (am_up (am_up (xtake μ 73 c) 4 4 0) 4 5 0) 0 (200 * (k + 1)) 200) 101 12 0) b = μ b := fun b h1 h2 h3 h4 => by
    rw [up_ne _ _ _ h4, mcp_ne _ _ _ _ _ h2, up_ne _ _ _ h3, up_ne _ _ _ h3, xt_ne _ _ _ _ h1]
  have row : ∀ j, (am_up (mcp (am_up (am_up (xtake μ 73 c) 4 4 0) 4 5 0) 0 (200 * (k + 1)) 200) 101 12 0) 102 j = if j < 200 then μ 102 (200 * (k + 1) + j) else μ 102 j := fun j => by
    rw [up_ne _ _ _ (by decide), mcp_at, up_ne _ _ _ (by omega), up_ne _ _ _ (by omega), xt_ne _ _ _ _ (by omega)]
    by_cases q : j < 200
    · rw [if_pos (by omega), if_pos q, Nat.sub_zero]
    · rw [if_neg (by omega), if_neg q]
  have m : ∀ i, ¬ i = 12 → (am_up (mcp (am_up (am_up (xtake μ 73 c) 4 4 0) 4 5 0) 0 (200 * (k + 1)) 200) 101 12 0) 101 i = μ 101 i := fun i hi => by
    rw [up_at, if_neg (by omega), mcp_ne _ _ _ _ _ (by decide), up_ne _ _ _ (by decide), up_ne _ _ _ (by decide), xt_ne _ _ _ _ (by omega)]
  have m12 : (am_up (mcp (am_up (am_up (xtake μ 73 c) 4 4 0) 4 5 0) 0 (200 * (k + 1)) 200) 101 12 0) 101 12 = 0 := by simp [up_at]
  have e4 : (am_up (mcp (am_up (am_up (xtake μ 73 c) 4 4 0) 4 5 0) 0 (200 * (k + 1)) 200) 101 12 0) 4 4 = 0 := by
    rw [up_ne _ _ _ (by decide), mcp_ne _ _ _ _ _ (by decide)]; simp [up_at]
  have e5 : (am_up (mcp (am_up (am_up (xtake μ 73 c) 4 4 0) 4 5 0) 0 (200 * (k + 1)) 200) 101 12 0) 4 5 = 0 := by
    rw [up_ne _ _ _ (by decide), mcp_ne _ _ _ _ _ (by decide)]; simp [up_at]
  have kp : ∀ b, 73 ≤ b → b ≤ 79 → (am_up (mcp (am_up (am_up (xtake μ 73 c) 4 4 0) 4 5 0) 0 (200 * (k + 1)) 200) 101 12 0) b = xtake μ 73 c b := fun b h1 h2 => by
    rw [up_ne _ _ _ (by omega), mcp_ne _ _ _ _ _ (by omega), up_ne _ _ _ (by omega), up_ne _ _ _ (by omega)]
  generalize hν : am_up (mcp (am_up (am_up (xtake μ 73 c) 4 4 0) 4 5 0) 0 (200 * (k + 1)) 200) 101 12 0 = ν at *
  have L9 : LD B ν 73 0 := by
    subst hc
    refine LD_move hL (fun i hi => ?_) (fun i hi => ?_) (fun i hi => ?_) (fun i hi => ?_) (fun i hi => ?_) (fun i hi => ?_) (fun i hi => ?_) (fun i hi => ?_)
    · rw [Nat.zero_add, row, if_pos hi]
    · rw [kp _ (by omega) (by omega), xt_f _ _ _ _ hi]
    · rw [kp _ (by omega) (by omega), xt_up _ _ _ _ (by omega), tk_1 _ _ _ (by omega) _ hi]
    · rw [kp _ (by omega) (by omega), xt_up _ _ _ _ (by omega), tk_2 _ _ _ (by omega) _ hi]
    · rw [kp _ (by omega) (by omega), xt_up _ _ _ _ (by omega), tk_3 _ _ _ (by omega) _ hi]
    · rw [kp _ (by omega) (by omega), xt_up _ _ _ _ (by omega), tk_4 _ _ _ (by omega) _ hi]
    · rw [kp _ (by omega) (by omega), xt_up _ _ _ _ (by omega), tk_5 _ _ _ (by omega) _ hi]
    · rw [kp _ (by omega) (by omega), xt_up _ _ _ _ (by omega), tk_6 _ _ _ (by omega) _ hi]
  refine ⟨⟨?_, ?_, ?_, ?_, fun g hg => ?_⟩, I_r_of hI (fun b i hb => by rw [lo b (by omega) (by omega) (by omega) (by omega)]), I_t_of ht (fun b i hb => by rw [lo b (by omega) (by omega) (by omega) (by omega)]), L9, fun q hq => ?_, ?_⟩
  · rw [lo 0 (by omega) (by omega) (by omega) (by omega), m 7 (by omega)]; exact a1
  · rw [lo 0 (by omega) (by omega) (by omega) (by omega), m 8 (by omega)]; exact a2
  · rw [lo 0 (by omega) (by omega) (by omega) (by omega), m 9 (by omega)]; exact a3
  · rw [lo 0 (by omega) (by omega) (by omega) (by omega), m 10 (by omega)]; exact a4
  · rw [lo 45 (by omega) (by omega) (by omega) (by omega), lo 108 (by omega) (by omega) (by omega) (by omega)]; exact a5 g hg
  · obtain ⟨b1, b2, b3⟩ := hK q hq
    rw [lo 103 (by omega) (by omega) (by omega) (by omega), lo (80 + 7 * q) (by omega) (by omega) (by omega) (by omega)]
    exact ⟨b1, b2, fun z => LD_on (b3 z) (fun i hi => by rw [row, if_neg (by omega)]) (fun b i hb => by rw [lo b (by omega) (by omega) (by omega) (by omega)])⟩
  · unfold I_d
    rw [m12, e4, e5]
    exact ⟨LD_RG L9, by omega, rfl, by omega, fun j hj => absurd hj (by omega)⟩
theorem eq_keep {B : Int} {μ : Nat → Nat → Int} (h : INV B μ) (x : Int) : EQV B μ 99 204 [.inl x] := by
  have hL : LD B μ 73 0 := h.2.2.2.1
  have n0 := (ld_0 hL).1
  have n2 := (ld_0 hL).2.2.1
  unfold EQV
  by_cases v : 0 ≤ x ∧ x < 3
  · by_cases c0 : μ 102 0 = 0
    · rw [wp_keep_st μ x v (by omega)]
      refine ⟨_, _, rfl, rfl, ?_⟩
      rw [wm_keep_st μ x v c0]
      exact ⟨rfl, _, rfl, h⟩
    · have key : ∀ (k c : Nat), k < 3 → c = 80 + 7 * k → (∀ Φ : Option AV → ST → Prop, wpM 99 [.inr (.inr (some 0)), .inl k] (S μ) Φ ↔ Φ (some (.inl (μ 73 9))) (S (am_up (xtake μ c 73) c 12 1))) → wpM 99 (.inr (.inr (some 0)) :: [.inl (k : Int)]) (S μ) (fun r σ1 => ∃ v μ1, r = some v ∧ σ1 = S μ1 ∧ wpM 204 (.inr (.inr (some 101)) :: [.inl (k : Int)]) (S μ1) (fun r' σ2 => r' = some v ∧ ∃ μ', σ2 = S μ' ∧ INV B μ')) := fun k c hk hc K => by
        rw [K]
        refine ⟨_, _, rfl, rfl, ?_⟩
        have e : (am_up (xtake μ c 73) c 12 1) 102 = μ 102 := by rw [up_ne _ _ _ (by omega), xt_ne _ _ _ _ (by omega)]
        rw [wm_keep k hk _ (by rw [e]; exact c0), e, n2]
        exact ⟨rfl, _, rfl, INV_keep h k c hk hc⟩
      have : x = 0 ∨ x = 1 ∨ x = 2 := by omega
      rcases this with rfl | rfl | rfl
      · exact key 0 80 (by decide) rfl (fun Φ => wp_keep0 μ (by omega) Φ)
      · exact key 1 87 (by decide) rfl (fun Φ => wp_keep1 μ (by omega) Φ)
      · exact key 2 94 (by decide) rfl (fun Φ => wp_keep2 μ (by omega) Φ)
  · rw [wp_keep_no μ x v]
    refine ⟨_, _, rfl, rfl, ?_⟩
    rw [wm_keep_no μ x v]
    exact ⟨rfl, _, rfl, h⟩
theorem eq_on {B : Int} {μ : Nat → Nat → Int} (h : INV B μ) (x : Int) : EQV B μ 100 205 [.inl x] := by
  unfold EQV
  by_cases v : 0 ≤ x ∧ x < 3
  · have key : ∀ (k c : Nat), k < 3 → c = 80 + 7 * k → (∀ Φ : Option AV → ST → Prop, wpM 100 [.inr (.inr (some 0)), .inl k] (S μ) Φ ↔ (if μ c 12 = 0 then Φ (some (.inl (-3))) (S (xfind μ 1)) else Φ (some (.inl (μ c 9))) (S (am_up (am_up (xtake μ 73 c) 4 4 0) 4 5 0)))) → wpM 100 (.inr (.inr (some 0)) :: [.inl (k : Int)]) (S μ) (fun r σ1 => ∃ v μ1, r = some v ∧ σ1 = S μ1 ∧ wpM 205 (.inr (.inr (some 101)) :: [.inl (k : Int)]) (S μ1) (fun r' σ2 => r' = some v ∧ ∃ μ', σ2 = S μ' ∧ INV B μ')) := fun k c hk hc K => by
      obtain ⟨b1, b2, b3⟩ := h.2.2.2.2.1 k hk
      rw [← hc] at b2 b3
      rw [K]
      by_cases z : μ c 12 = 0
      · rw [if_pos z]
        refine ⟨_, _, rfl, rfl, ?_⟩
        have e : xfind μ 1 103 = μ 103 := by unfold xfind; simp (disch := omega) only [up_ne]
        rw [wm_on k hk, e, if_pos (by omega)]
        exact ⟨rfl, _, rfl, inv_find h 1 (by decide)⟩
      · rw [if_neg z]
        refine ⟨_, _, rfl, rfl, ?_⟩
        have e : (am_up (am_up (xtake μ 73 c) 4 4 0) 4 5 0) 103 = μ 103 := by rw [up_ne _ _ _ (by omega), up_ne _ _ _ (by omega), xt_ne _ _ _ _ (by omega)]
        have e2 : (am_up (am_up (xtake μ 73 c) 4 4 0) 4 5 0) 102 = μ 102 := by rw [up_ne _ _ _ (by omega), up_ne _ _ _ (by omega), xt_ne _ _ _ _ (by omega)]
        have hb := (b3 (by omega)).2.2.2.2.2.1
        rw [wm_on k hk, e, e2, if_neg (by omega), hb]
        exact ⟨rfl, _, rfl, INV_on h k c hk hc (by omega)⟩
    have : x = 0 ∨ x = 1 ∨ x = 2 := by omega
    rcases this with rfl | rfl | rfl
    · exact key 0 80 (by decide) rfl (fun Φ => wp_on0 μ Φ)
    · exact key 1 87 (by decide) rfl (fun Φ => wp_on1 μ Φ)
    · exact key 2 94 (by decide) rfl (fun Φ => wp_on2 μ Φ)
  · rw [wp_on_no μ x v]
    refine ⟨_, _, rfl, rfl, ?_⟩
    rw [wm_on_no μ x v]
    exact ⟨rfl, _, rfl, h⟩
