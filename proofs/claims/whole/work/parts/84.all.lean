/-! the start, the law's loop, the claim -/
theorem row_0 : ∀ r : Nat, r < 6 → m0 105 r = -1 ∧ m0 (46 + 2 * r) 1 = -1 := by decide +kernel
theorem text_0 : ∀ r : Nat, r < 4 → m0 107 r = -1 ∧ m0 (58 + 2 * r) 1 = -1 := by decide +kernel
theorem debt_0 : ∀ j : Nat, j < 64 → m0 (73 + 5) j = m0 102 (0 + 37 + j) ∧ m0 102 (0 + 37 + j) = 0 := by decide +kernel
theorem debt_1 : ∀ j : Nat, j < 64 → m0 102 (37 + j) = 0 := by decide +kernel
theorem kept_0 : ∀ k : Nat, k < 3 → m0 103 k = 0 ∧ m0 (80 + 7 * k) 12 = 0 := by decide +kernel
theorem tell_0 : ∀ f : Nat, f < 6 → m0 45 f = m0 108 f := by decide +kernel
theorem land_0 : (m0 102 0 = 0 ∧ (0 ≤ m0 102 1 ∧ m0 102 1 ≤ 2) ∧ m0 102 2 = 0 ∧ (0 ≤ m0 102 3 ∧ m0 102 3 ≤ 99) ∧ 0 ≤ m0 102 4 ∧ m0 102 4 ≤ 99) ∧ m0 73 7 = m0 102 0 ∧ m0 73 8 = m0 102 1 ∧ m0 73 9 = m0 102 2 ∧ m0 73 10 = m0 102 3 ∧ m0 73 11 = m0 102 4 := by decide +kernel
theorem deed_0 : m0 101 12 = 0 ∧ m0 4 5 = 0 ∧ m0 4 4 = 0 := by decide +kernel
theorem ans_0 : m0 0 9 = m0 101 7 ∧ m0 0 10 = m0 101 8 ∧ m0 0 11 = m0 101 9 ∧ m0 0 12 = m0 101 10 := by decide +kernel
theorem inv_00 : INV 0 m0 := by
  obtain ⟨⟨w0, w1, w2, w3, w4⟩, x7, x8, x9, x10, x11⟩ := land_0
  obtain ⟨d1, d2, d3⟩ := deed_0
  obtain ⟨a1, a2, a3, a4⟩ := ans_0
  refine ⟨⟨a1, a2, a3, a4, tell_0⟩, fun r hr => ?_, fun r hr => ?_, ?_, fun k hk => ?_, ?_⟩
  · obtain ⟨h1, h2⟩ := row_0 r hr
    rw [h1, h2]
    exact ⟨by omega, rfl, fun i hi => by omega⟩
  · obtain ⟨h1, h2⟩ := text_0 r hr
    rw [h1, h2]
    exact ⟨by omega, rfl, fun i hi => by omega⟩
  · unfold I_l LD
    simp only [Nat.zero_add]
    refine ⟨by omega, x7, w1, x8, by omega, x9, w3, x10, w4, x11, fun h hh => by omega, fun j hj => ?_, fun j hj => by omega⟩
    have := debt_0 j hj
    simp only [Nat.zero_add] at this
    exact ⟨this.1, by omega, by omega⟩
  · obtain ⟨h1, h2⟩ := kept_0 k hk
    exact ⟨Or.inl h1, by rw [h1, h2], fun q => by omega⟩
  · unfold I_d
    rw [d1, d2, d3]
    refine ⟨?_, by omega, rfl, by omega, fun j hj => by omega⟩
    show RG 0 (m0 102)
    refine ⟨by omega, by omega, fun h hh => by omega, fun j hj => ?_⟩
    have := debt_1 j hj
    omega
theorem inv_0 (L : Nat) (xs : Nat → Int) : INV 0 (mem0 L xs) := by
  have e : ∀ k i, k < 121 → mem0 L xs k i = m0 k i := fun k i h => mem0_low h
  refine INV_ans inv_00 (fun k i hk => e k i (by omega)) (e _ _ (by decide)) (e _ _ (by decide)) (fun i => e _ _ (by decide)) (fun i => e _ _ (by decide)) ?_ ?_ ?_
  · rw [e _ _ (by decide), e _ _ (by decide)]; exact ans_0.2.1
  · rw [e _ _ (by decide), e _ _ (by decide)]; exact ans_0.2.2.1
  · rw [e _ _ (by decide), e _ _ (by decide)]; exact ans_0.2.2.2
theorem ltr_0 : m0 1000 0 = 104 ∧ m0 1000 1 = 109 ∧ m0 1000 2 = 98 ∧ m0 1000 3 = 110 ∧ m0 1000 4 = 103 ∧ m0 1000 5 = 115 := by decide +kernel
theorem sw_0 (L : Nat) (xs : Nat → Int) : SW L xs (mem0 L xs) := by
  refine ⟨⟨rfl, fun j => ?_⟩, ?_⟩
  · unfold mem0
    rw [if_pos rfl, if_neg (by omega), Nat.add_sub_cancel]
  · unfold LT mem0
    simp only [if_neg (show ¬ (1000 : Nat) = 1001 by decide)]
    exact ltr_0
theorem law_all (L : Nat) (xs : Nat → Int) (hL : L ≤ 3072) (hx : ∀ j, nz (xs j) = xs j) (Φ : Option AV → ST → Prop) (fin : ∀ μ, Φ (some (.inl 1)) (S μ)) : ∀ (n b : Nat) (B : Int) (μ : Nat → Nat → Int), L - b ≤ n → B ≤ 40 * (b : Int) → INV B μ → SW L xs μ → b ≤ L → wpS 254 18 [some (.inr (.inr (some 1001))), some (.inr (.inr (some 0))), some (.inr (.inr (some 101))), some (.inl (b : Int))] [] (S μ) Φ := by
  intro n
  induction n with
  | zero =>
    intro b B μ hn hB h hS hb
    exact law_end hS (by omega) hL Φ (fin μ)
  | succ n ih =>
    intro b B μ hn hB h hS hb
    by_cases c : b + 6 ≤ L
    · have hB9 : B ≤ 900000 := by omega
      have hl := hS.2
      have next : ∀ μ', INV (B + 40) μ' → HI μ μ' → wpS 254 18 [some (.inr (.inr (some 1001))), some (.inr (.inr (some 0))), some (.inr (.inr (some 101))), some (.inl ((b + 6 : Nat) : Int))] [] (S μ') Φ := fun μ' h1 h2 => ih (b + 6) (B + 40) μ' (by omega) (by omega) h1 (SW_hi hS h2) c
      obtain ⟨w, hw⟩ : ∃ w, am_and (xs b) 63 = w := ⟨_, rfl⟩
      have cs : (w < 0 ∨ 49 < w) ∨ w = 0 ∨ w = 1 ∨ w = 2 ∨ w = 3 ∨ w = 4 ∨ w = 5 ∨ w = 6 ∨ w = 7 ∨ w = 8 ∨ w = 9 ∨ w = 10 ∨ w = 11 ∨ w = 12 ∨ w = 13 ∨ w = 14 ∨ w = 15 ∨ w = 16 ∨ w = 17 ∨ w = 18 ∨ w = 19 ∨ w = 20 ∨ w = 21 ∨ w = 22 ∨ w = 23 ∨ w = 24 ∨ w = 25 ∨ w = 26 ∨ w = 27 ∨ w = 28 ∨ w = 29 ∨ w = 30 ∨ w = 31 ∨ w = 32 ∨ w = 33 ∨ w = 34 ∨ w = 35 ∨ w = 36 ∨ w = 37 ∨ w = 38 ∨ w = 39 ∨ w = 40 ∨ w = 41 ∨ w = 42 ∨ w = 43 ∨ w = 44 ∨ w = 45 ∨ w = 46 ∨ w = 47 ∨ w = 48 ∨ w = 49 := by omega
      rcases cs with q | rfl | rfl | rfl | rfl | rfl | rfl | rfl | rfl | rfl | rfl | rfl | rfl | rfl | rfl | rfl | rfl | rfl | rfl | rfl | rfl | rfl | rfl | rfl | rfl | rfl | rfl | rfl | rfl | rfl | rfl | rfl | rfl | rfl | rfl | rfl | rfl | rfl | rfl | rfl | rfl | rfl | rfl | rfl | rfl | rfl | rfl | rfl | rfl | rfl | rfl
      · exact law_no hS c hL (by rw [hw]; exact q) Φ (next μ (INV_mono (by omega) h) (fun _ _ _ => rfl))
      · exact law_0 hS c hL hw (E_0 h hB9 hl _ _) Φ next
      · exact law_1 hS c hL hw (E_1 h hB9 hl _ _ _ (hx _)) Φ next
      · exact law_2 hS c hL hw (E_2 h hB9 hl _ _) Φ next
      · exact law_3 hS c hL hw (E_3 h hB9 hl _) Φ next
      · exact law_4 hS c hL hw (E_4 h hB9 hl _ _ _ _ _ (hx _) (hx _) (hx _)) Φ next
      · exact law_5 hS c hL hw (E_5 h hB9 hl _) Φ next
      · exact law_6 hS c hL hw (E_6 h hB9 hl _ _) Φ next
      · exact law_7 hS c hL hw (E_7 h hB9 hl _ _ _) Φ next
      · exact law_8 hS c hL hw (E_8 h hB9 hl _) Φ next
      · exact law_9 hS c hL hw (E_9 h hB9 hl _) Φ next
      · exact law_10 hS c hL hw (E_10 h hB9 hl _ _) Φ next
      · exact law_11 hS c hL hw (E_11 h hB9 hl _ _) Φ next
      · exact law_12 hS c hL hw (E_12 h hB9 hl _) Φ next
      · exact law_13 hS c hL hw (E_13 h hB9 hl _ _ _) Φ next
      · exact law_14 hS c hL hw (E_14 h hB9 hl _ _ _) Φ next
      · exact law_15 hS c hL hw (E_15 h hB9 hl _ _) Φ next
      · exact law_16 hS c hL hw (E_16 h hB9 hl _) Φ next
      · exact law_17 hS c hL hw (E_17 h hB9 hl _) Φ next
      · exact law_18 hS c hL hw (E_18 h hB9 hl) Φ next
      · exact law_19 hS c hL hw (E_19 h hB9 hl) Φ next
      · exact law_20 hS c hL hw (E_20 h hB9 hl _) Φ next
      · exact law_21 hS c hL hw (E_21 h hB9 hl _) Φ next
      · exact law_22 hS c hL hw (E_22 h hB9 hl _) Φ next
      · exact law_23 hS c hL hw (E_23 h hB9 hl _) Φ next
      · exact law_24 hS c hL hw (E_24 h hB9 hl _ _) Φ next
      · exact law_25 hS c hL hw (E_25 h hB9 hl) Φ next
      · exact law_26 hS c hL hw (E_26 h hB9 hl) Φ next
      · exact law_27 hS c hL hw (E_27 h hB9 hl) Φ next
      · exact law_28 hS c hL hw (E_28 h hB9 hl _ _) Φ next
      · exact law_29 hS c hL hw (E_29 h hB9 hl _ _) Φ next
      · exact law_30 hS c hL hw (E_30 h hB9 hl _ _ _) Φ next
      · exact law_31 hS c hL hw (E_31 h hB9 hl _ _) Φ next
      · exact law_32 hS c hL hw (E_32 h hB9 hl _ _ _) Φ next
      · exact law_33 hS c hL hw (E_33 h hB9 hl _ _) Φ next
      · exact law_34 hS c hL hw (E_34 h hB9 hl _) Φ next
      · exact law_35 hS c hL hw (E_35 h hB9 hl) Φ next
      · exact law_36 hS c hL hw (E_36 h hB9 hl _) Φ next
      · exact law_37 hS c hL hw (E_37 h hB9 hl _ _) Φ next
      · exact law_38 hS c hL hw (E_38 h hB9 hl _ _) Φ next
      · exact law_39 hS c hL hw (E_39 h hB9 hl _ _ _) Φ next
      · exact law_40 hS c hL hw (E_40 h hB9 hl _ _) Φ next
      · exact law_41 hS c hL hw (E_41 h hB9 hl _) Φ next
      · exact law_42 hS c hL hw (E_42 h hB9 hl _ _) Φ next
      · exact law_43 hS c hL hw (E_43 h hB9 hl) Φ next
      · exact law_44 hS c hL hw (E_44 h hB9 hl) Φ next
      · exact law_45 hS c hL hw (E_45 h hB9 hl) Φ next
      · exact law_46 hS c hL hw (E_46 h hB9 hl _) Φ next
      · exact law_47 hS c hL hw (E_47 h hB9 hl) Φ next
      · exact law_48 hS c hL hw (E_48 h hB9 hl _) Φ next
      · exact law_49 hS c hL hw (E_49 h hB9 hl) Φ next
    · exact law_end hS (by omega) hL Φ (fin μ)
theorem pure_all : PURE := by
  intro L xs hL hx
  have q := law_all L xs hL hx (fun r σ' => r = some (.inl 1) ∧ σ'.1 ≤ 600000 ∧ σ'.2.1 ≤ 7302250) (fun μ => ⟨rfl, show (121 : Nat) ≤ 600000 by decide, show (6062 : Nat) ≤ 7302250 by decide⟩) L 0 0 (mem0 L xs) (by omega) (by decide) (inv_0 L xs) (sw_0 L xs) (by omega)
  exact q
