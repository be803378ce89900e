/-! the invariant between class and reference, and what it asks of a command -/
def I_a (μ : Nat → Nat → Int) : Prop := μ 0 9 = μ 101 7 ∧ μ 0 10 = μ 101 8 ∧ μ 0 11 = μ 101 9 ∧ μ 0 12 = μ 101 10 ∧ ∀ f : Nat, f < 6 → μ 45 f = μ 108 f
def I_r (μ : Nat → Nat → Int) : Prop := ∀ r : Nat, r < 6 → (-1 ≤ μ 105 r ∧ μ 105 r ≤ 60) ∧ μ (46 + 2 * r) 1 = μ 105 r ∧ ∀ i : Nat, (i : Int) < μ 105 r → μ (47 + 2 * r) i = μ 104 (60 * r + i) ∧ nz (μ 104 (60 * r + i)) = μ 104 (60 * r + i)
def I_t (μ : Nat → Nat → Int) : Prop := ∀ t : Nat, t < 4 → (-1 ≤ μ 107 t ∧ μ 107 t ≤ 80) ∧ μ (58 + 2 * t) 1 = μ 107 t ∧ ∀ i : Nat, (i : Int) < μ 107 t → μ (59 + 2 * t) i = μ 106 (80 * t + i) ∧ (-128 ≤ μ 106 (80 * t + i) ∧ μ 106 (80 * t + i) ≤ 127)
/-- a land of the class's at cell c, and of the reference's from place o of w on -/
def LD (B : Int) (μ : Nat → Nat → Int) (c o : Nat) : Prop :=
  (0 ≤ μ 102 o ∧ μ 102 o ≤ 8) ∧ μ c 7 = μ 102 o ∧ (0 ≤ μ 102 (o + 1) ∧ μ 102 (o + 1) ≤ 2) ∧ μ c 8 = μ 102 (o + 1) ∧ (0 ≤ μ 102 (o + 2) ∧ μ 102 (o + 2) ≤ 30) ∧ μ c 9 = μ 102 (o + 2) ∧
  (0 ≤ μ 102 (o + 3) ∧ μ 102 (o + 3) ≤ 99) ∧ μ c 10 = μ 102 (o + 3) ∧ (0 ≤ μ 102 (o + 4) ∧ μ 102 (o + 4) ≤ 99) ∧ μ c 11 = μ 102 (o + 4) ∧
  (∀ h : Nat, (h : Int) < μ 102 o → (μ (c + 1) h = μ 102 (o + 5 + h) ∧ μ (c + 2) h = μ 102 (o + 13 + h) ∧ μ (c + 3) h = μ 102 (o + 21 + h) ∧ μ (c + 4) h = μ 102 (o + 29 + h)) ∧
    (0 ≤ μ 102 (o + 5 + h) ∧ μ 102 (o + 5 + h) ≤ 5) ∧ (0 ≤ μ 102 (o + 13 + h) ∧ μ 102 (o + 13 + h) ≤ 2) ∧ (0 ≤ μ 102 (o + 21 + h) ∧ μ 102 (o + 21 + h) ≤ 9) ∧ (0 ≤ μ 102 (o + 29 + h) ∧ μ 102 (o + 29 + h) ≤ 30)) ∧
  (∀ j : Nat, j < 64 → μ (c + 5) j = μ 102 (o + 37 + j) ∧ (0 ≤ μ 102 (o + 37 + j) ∧ μ 102 (o + 37 + j) ≤ B)) ∧
  (∀ j : Nat, (j : Int) < 3 * μ 102 (o + 2) → μ (c + 6) j = μ 102 (o + 101 + j) ∧ (0 ≤ μ 102 (o + 101 + j) ∧ μ 102 (o + 101 + j) ≤ 400))
def I_l (B : Int) (μ : Nat → Nat → Int) : Prop := LD B μ 73 0
def I_k (B : Int) (μ : Nat → Nat → Int) : Prop := ∀ k : Nat, k < 3 → (μ 103 k = 0 ∨ μ 103 k = 1) ∧ μ (80 + 7 * k) 12 = μ 103 k ∧ (μ 103 k = 1 → LD B μ (80 + 7 * k) (200 * (k + 1)))
/-- what a land holds that deeds change (its row w): in range -/
def RG (B : Int) (w : Nat → Int) : Prop := (0 ≤ w 0 ∧ w 0 ≤ 8) ∧ (0 ≤ w 2 ∧ w 2 ≤ 30) ∧ (∀ h : Nat, (h : Int) < w 0 → (0 ≤ w (21 + h) ∧ w (21 + h) ≤ 9) ∧ (0 ≤ w (29 + h) ∧ w (29 + h) ≤ 30)) ∧ ∀ j : Nat, j < 64 → 0 ≤ w (37 + j) ∧ w (37 + j) ≤ B
/-- a deed that there can be -/
def VD (w : Nat → Int) (s a b n : Int) : Prop := (0 ≤ s ∧ s ≤ 5) ∧ (s ≤ 4 → 0 ≤ a ∧ a < w 0) ∧ (s ≤ 1 → 0 ≤ b ∧ b < w 0 ∧ ¬ a = b) ∧ (s ≤ 2 → 1 ≤ n ∧ n ≤ 9)
def ad (w : Nat → Int) (i : Nat) (v : Int) : Nat → Int := fun j => if j = i then w i + v else w j
/-- a deed undone -/
def UD (w : Nat → Int) (s a b n : Int) : Nat → Int :=
  if s = 0 then ad (ad (ad w (29 + b.toNat) (-n)) (29 + a.toNat) n) (37 + (8 * a.toNat + b.toNat)) (-n)
  else if s = 1 then ad (ad (ad w (29 + a.toNat) (-n)) (29 + b.toNat) n) (37 + (8 * a.toNat + b.toNat)) n
  else if s = 2 then ad w (29 + a.toNat) n
  else if s = 3 then ad (ad w (21 + a.toNat) (-1)) (29 + a.toNat) (-1)
  else if s = 4 then ad w (21 + a.toNat) 1
  else ad w 2 (-1)
/-- the deeds g, j of them, can be undone one by one from w, and all is in range on the way -/
def CH (B : Int) (g : Nat → Int) : Nat → (Nat → Int) → Prop
  | 0, w => RG B w
  | j + 1, w => RG B w ∧ VD w (g (4 * j)) (g (4 * j + 1)) (g (4 * j + 2)) (g (4 * j + 3)) ∧ CH B g j (UD w (g (4 * j)) (g (4 * j + 1)) (g (4 * j + 2)) (g (4 * j + 3)))
/-- the deeds in mind: the class's ring, the reference's row -/
def I_d (B : Int) (μ : Nat → Nat → Int) : Prop := CH B (μ 109) (μ 101 12).toNat (μ 102) ∧ (0 ≤ μ 101 12 ∧ μ 101 12 ≤ 60) ∧ μ 4 5 = μ 101 12 ∧ (0 ≤ μ 4 4 ∧ μ 4 4 < 60) ∧
  ∀ j : Nat, (j : Int) < μ 101 12 → (μ 5 (((μ 4 4).toNat + 60 - (μ 101 12).toNat + j) % 60) = μ 109 (4 * j) ∧ μ 6 (((μ 4 4).toNat + 60 - (μ 101 12).toNat + j) % 60) = μ 109 (4 * j + 1) ∧ μ 7 (((μ 4 4).toNat + 60 - (μ 101 12).toNat + j) % 60) = μ 109 (4 * j + 2) ∧ (μ 109 (4 * j) ≤ 2 → μ 8 (((μ 4 4).toNat + 60 - (μ 101 12).toNat + j) % 60) = μ 109 (4 * j + 3))) ∧ (0 ≤ μ 109 (4 * j) ∧ μ 109 (4 * j) ≤ 5)
def I_q (B : Int) (μ : Nat → Nat → Int) : Prop := I_l B μ ∧ I_k B μ ∧ I_d B μ
def INV (B : Int) (μ : Nat → Nat → Int) : Prop := I_a μ ∧ I_r μ ∧ I_t μ ∧ I_q B μ
/-- command xk of the class and mk of the reference answer alike, and the invariant holds again -/
def EQV (B : Int) (μ : Nat → Nat → Int) (xk mk : Nat) (as : List AV) : Prop := wpM xk (.inr (.inr (some 0)) :: as) (S μ) (fun r σ1 => ∃ v μ1, r = some v ∧ σ1 = S μ1 ∧ wpM mk (.inr (.inr (some 101)) :: as) (S μ1) (fun r' σ2 => r' = some v ∧ ∃ μ', σ2 = S μ' ∧ INV B μ'))
theorem I_r_of {μ ν : Nat → Nat → Int} (h : I_r μ) (e : ∀ k i, (46 ≤ k ∧ k ≤ 57) ∨ k = 104 ∨ k = 105 → ν k i = μ k i) : I_r ν := by
  intro r hr
  rw [e 105 r (by omega), e (46 + 2 * r) 1 (by omega)]
  refine ⟨(h r hr).1, (h r hr).2.1, fun i hi => ?_⟩
  rw [e (47 + 2 * r) i (by omega), e 104 _ (by omega)]
  exact (h r hr).2.2 i hi
theorem I_t_of {μ ν : Nat → Nat → Int} (h : I_t μ) (e : ∀ k i, (58 ≤ k ∧ k ≤ 65) ∨ k = 106 ∨ k = 107 → ν k i = μ k i) : I_t ν := by
  intro r hr
  rw [e 107 r (by omega), e (58 + 2 * r) 1 (by omega)]
  refine ⟨(h r hr).1, (h r hr).2.1, fun i hi => ?_⟩
  rw [e (59 + 2 * r) i (by omega), e 106 _ (by omega)]
  exact (h r hr).2.2 i hi
theorem LD_of {B : Int} {μ ν : Nat → Nat → Int} {c o : Nat} (h : LD B μ c o) (e1 : ∀ i, ν 102 i = μ 102 i) (e2 : ∀ k i, c ≤ k ∧ k ≤ c + 6 → ν k i = μ k i) : LD B ν c o := by
  unfold LD at h ⊢
  simp only [e1, e2 c _ (by omega), e2 (c + 1) _ (by omega), e2 (c + 2) _ (by omega), e2 (c + 3) _ (by omega), e2 (c + 4) _ (by omega), e2 (c + 5) _ (by omega), e2 (c + 6) _ (by omega)]
  exact h
theorem I_q_of {B : Int} {μ ν : Nat → Nat → Int} (h : I_q B μ) (e : ∀ k i, (4 ≤ k ∧ k ≤ 8) ∨ (73 ≤ k ∧ k ≤ 100) ∨ k = 102 ∨ k = 103 ∨ k = 109 ∨ (k = 101 ∧ i = 12) → ν k i = μ k i) : I_q B ν := by
  obtain ⟨h1, h2, h3⟩ := h
  refine ⟨LD_of h1 (fun i => e _ _ (by omega)) (fun k i hk => e _ _ (by omega)), fun k hk => ?_, ?_⟩
  · obtain ⟨a1, a2, a3⟩ := h2 k hk
    rw [e 103 k (by omega), e (80 + 7 * k) 12 (by omega)]
    exact ⟨a1, a2, fun q => LD_of (a3 q) (fun i => e _ _ (by omega)) (fun k' i hk' => e _ _ (by omega))⟩
  · unfold I_d at h3 ⊢
    have f : ∀ k, (4 ≤ k ∧ k ≤ 8) ∨ k = 109 → ∀ i, ν k i = μ k i := fun k hk i => e k i (by omega)
    have f102 : ν 102 = μ 102 := funext fun i => e 102 i (by omega)
    have f109 : ν 109 = μ 109 := funext fun i => e 109 i (by omega)
    simp only [e 101 12 (by omega), f 4 (by omega), f 5 (by omega), f 6 (by omega), f 7 (by omega), f 8 (by omega), f102, f109]
    exact h3
/-- what isn't an answer stays -/
theorem INV_of {B : Int} {μ ν : Nat → Nat → Int} (h : INV B μ) (ha : I_a ν) (e : ∀ k i, (4 ≤ k ∧ k ≤ 8) ∨ (46 ≤ k ∧ k ≤ 65) ∨ (73 ≤ k ∧ k ≤ 100) ∨ (102 ≤ k ∧ k ≤ 107) ∨ k = 109 ∨ (k = 101 ∧ i = 12) → ν k i = μ k i) : INV B ν :=
  ⟨ha, I_r_of h.2.1 (fun k i hk => e k i (by omega)), I_t_of h.2.2.1 (fun k i hk => e k i (by omega)), I_q_of h.2.2.2 (fun k i hk => e k i (by omega))⟩
def xfind (μ : Nat → Nat → Int) (f : Nat) : Nat → Nat → Int := am_up (am_up μ 0 9 f) 45 f (nz (μ 45 f + 1))
def mfind (μ : Nat → Nat → Int) (f : Nat) : Nat → Nat → Int := am_up (am_up μ 101 7 f) 108 f (nz (μ 108 f + 1))
theorem inv_find {B : Int} {μ : Nat → Nat → Int} (h : INV B μ) (f : Nat) (hf : f < 6) : INV B (mfind (xfind μ f) f) := by
  refine INV_of h ?_ (fun k i hk => ?_)
  · obtain ⟨a1, a2, a3, a4, a5⟩ := h.1
    unfold mfind xfind I_a
    refine ⟨?_, ?_, ?_, ?_, fun g hg => ?_⟩
    · simp [up_at]
    · simpa [up_at] using a2
    · simpa [up_at] using a3
    · simpa [up_at] using a4
    · have e1 := a5 f hf
      have e2 := a5 g hg
      simp [up_at]
      by_cases hg9 : g = f
      · subst hg9; simp [e1]
      · simp [hg9, e2]
  · unfold mfind xfind
    simp only [up_at]
    rw [if_neg (by omega), if_neg (by omega), if_neg (by omega), if_neg (by omega)]
theorem inv_tell {B : Int} {μ : Nat → Nat → Int} (h : INV B μ) (v : Int) : INV B (am_up (am_up μ 0 10 v) 101 8 v) := by
  refine INV_of h ?_ (fun k i hk => ?_)
  · obtain ⟨a1, a2, a3, a4, a5⟩ := h.1
    unfold I_a
    refine ⟨?_, ?_, ?_, ?_, fun g hg => ?_⟩
    · simpa [up_at] using a1
    · simp [up_at]
    · simpa [up_at] using a3
    · simpa [up_at] using a4
    · simpa [up_at] using a5 g hg
  · simp only [up_at]
    rw [if_neg (by omega), if_neg (by omega)]
theorem eq_row {B : Int} {μ : Nat → Nat → Int} (h : INV B μ) (r a : Int) : EQV B μ 79 165 [.inl r, .inl a] := by
  unfold EQV
  rw [wp_row]
  by_cases hr : 0 ≤ r ∧ r < 6
  · rw [if_pos hr]
    by_cases h1 : 60 < a
    · rw [if_pos h1]
      refine ⟨_, _, rfl, rfl, ?_⟩
      rw [wm_row, if_pos hr, if_pos h1]
      exact ⟨rfl, _, rfl, h⟩
    · rw [if_neg h1]
      by_cases h2 : a < 0
      · rw [if_pos h2]
        refine ⟨_, _, rfl, rfl, ?_⟩
        rw [wm_row, if_pos hr, if_neg h1, if_pos h2]
        exact ⟨rfl, _, rfl, inv_find h 5 (by decide)⟩
      · rw [if_neg h2]
        refine ⟨_, _, rfl, rfl, ?_⟩
        rw [wm_row, if_pos hr, if_neg h1, if_neg h2]
        refine ⟨rfl, _, rfl, ?_⟩
        obtain ⟨n, rfl⟩ : ∃ n : Nat, r = n := ⟨r.toNat, by omega⟩
        obtain ⟨c, rfl⟩ : ∃ n : Nat, a = n := ⟨a.toNat, by omega⟩
        simp only [Int.toNat_natCast]
        have hn : n < 6 := by omega
        obtain ⟨ha, hI, ht, hq⟩ := h
        refine ⟨?_, ?_, I_t_of ht (fun k i hk => ?_), I_q_of hq (fun k i hk => ?_)⟩
        · obtain ⟨a1, a2, a3, a4, a5⟩ := ha
          unfold I_a
          simp only [fr_at, up_at, fl_at]
          refine ⟨?_, ?_, ?_, ?_, fun g hg => ?_⟩
          all_goals (repeat rw [if_neg (by omega)])
          · exact a1
          · exact a2
          · exact a3
          · exact a4
          · exact a5 g hg
        · intro q hq
          simp only [fr_at, up_at, fl_at]
          obtain ⟨b1, b2, b3⟩ := hI q hq
          by_cases e : q = n
          · subst e
            simp only [true_and, if_true, ite_true]
            refine ⟨?_, ?_, fun i hi => ?_⟩
            · (repeat' split) <;> first | rfl | omega
            · (repeat' split) <;> first | rfl | omega
            · have hc : (i : Int) < c := by
                revert hi
                (repeat' split) <;> intro hi <;> first | exact hi | omega
              clear hi b1 b2 b3
              refine ⟨?_, ?_⟩
              · (repeat' split) <;> first | rfl | omega
              · (repeat' split) <;> first | rfl | omega
          · rw [if_neg (by omega), if_neg (by omega), if_neg (by omega), if_neg (by omega), if_neg (by omega), if_neg (by omega), if_neg (by omega), if_neg (by omega)]
            refine ⟨b1, b2, fun i hi => ?_⟩
            rw [if_neg (by omega), if_neg (by omega), if_neg (by omega), if_neg (by omega), if_neg (by omega), if_neg (by omega), if_neg (by omega), if_neg (by omega)]
            exact b3 i hi
        · simp only [fr_at, up_at, fl_at]
          repeat rw [if_neg (by omega)]
        · simp only [fr_at, up_at, fl_at]
          repeat rw [if_neg (by omega)]
  · rw [if_neg hr]
    refine ⟨_, _, rfl, rfl, ?_⟩
    rw [wm_row, if_neg hr]
    exact ⟨rfl, _, rfl, h⟩
