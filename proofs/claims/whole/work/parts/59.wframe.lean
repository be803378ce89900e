/-! ways: frames; the reference's ways of a province -/
def FC (μ ν : Nat → Nat → Int) : Prop := ∀ k, ¬ (9 ≤ k ∧ k ≤ 37) → ν k = μ k
def FM (μ ν : Nat → Nat → Int) : Prop := ∀ k i, ¬ (112 ≤ k ∧ k ≤ 120) → ¬ (k = 101 ∧ i = 17) → ν k i = μ k i
theorem INV_fc {B : Int} {μ ν : Nat → Nat → Int} (h : INV B μ) (e : FC μ ν) : INV B ν := by
  refine INV_of h ?_ (fun k i hk => by rw [e k (by omega)])
  have a := h.1
  unfold I_a at a ⊢
  rw [e 0 (by omega), e 101 (by omega), e 45 (by omega), e 108 (by omega)]
  exact a
theorem INV_fm {B : Int} {μ ν : Nat → Nat → Int} (h : INV B μ) (e : FM μ ν) : INV B ν := by
  refine INV_of h ?_ (fun k i hk => e k i (by omega) (by omega))
  have a := h.1
  unfold I_a at a ⊢
  rw [e 0 9 (by omega) (by omega), e 0 10 (by omega) (by omega), e 0 11 (by omega) (by omega), e 0 12 (by omega) (by omega), e 101 7 (by omega) (by omega), e 101 8 (by omega) (by omega), e 101 9 (by omega) (by omega), e 101 10 (by omega) (by omega)]
  refine ⟨a.1, a.2.1, a.2.2.1, a.2.2.2.1, fun f hf => ?_⟩
  rw [e 45 f (by omega) (by omega), e 108 f (by omega) (by omega)]
  exact a.2.2.2.2 f hf
theorem FM_rfl (μ : Nat → Nat → Int) : FM μ μ := fun _ _ _ _ => rfl
theorem FM_up {μ ν : Nat → Nat → Int} (h : FM μ ν) (k i : Nat) (v : Int) : FM (am_up μ k i v) (am_up ν k i v) := fun b j h1 h2 => by
  simp only [up_at]
  split
  · rfl
  · exact h b j h1 h2
theorem FM_find {μ ν : Nat → Nat → Int} (h : FM μ ν) (f : Nat) : FM (mfind μ f) (mfind ν f) := by
  unfold mfind
  rw [h 108 f (by omega) (by omega)]
  exact FM_up (FM_up h _ _ _) _ _ _
theorem FM_trans {μ ν ρ : Nat → Nat → Int} (h : FM μ ν) (g : FM ν ρ) : FM μ ρ := fun k i h1 h2 => (g k i h1 h2).trans (h k i h1 h2)
theorem FM_w {μ ν : Nat → Nat → Int} (h : FM μ ν) : ν 102 = μ 102 := funext fun i => h 102 i (by omega) (by omega)
theorem FC_w {μ ν : Nat → Nat → Int} (h : FC μ ν) : ν 102 = μ 102 := h 102 (by omega)
theorem INV_frac {B : Int} {μ : Nat → Nat → Int} (h : INV B μ) (u d : Int) : INV B (am_up (am_up (am_up (am_up μ 0 11 u) 0 12 d) 101 9 u) 101 10 d) := by
  refine INV_of h ?_ (fun k i hk => ?_)
  · obtain ⟨a1, a2, a3, a4, a5⟩ := h.1
    unfold I_a
    refine ⟨?_, ?_, ?_, ?_, fun g hg => ?_⟩
    · simpa [up_at] using a1
    · simpa [up_at] using a2
    · simp [up_at]
    · simp [up_at]
    · simpa [up_at] using a5 g hg
  · simp only [up_at]
    rw [if_neg (by omega), if_neg (by omega), if_neg (by omega), if_neg (by omega)]
/-- the reference has gathered -/
def GF (p : Int) (μ ν : Nat → Nat → Int) : Prop := FM μ ν ∧ ν 101 17 = (gS (μ 102) p : Int) ∧ ∀ i, i < gS (μ 102) p → ν 112 i = (gH (μ 102) p (nW (μ 102)) i : Int)
theorem gS_in {μ : Nat → Nat → Int} (hW : WR (μ 102)) {p : Int} {i : Nat} (hi : i < gS (μ 102) p) : gH (μ 102) p (nW (μ 102)) i < nW (μ 102) ∧ gH (μ 102) p (nW (μ 102)) i < 8 ∧ 0 ≤ μ 102 (5 + gH (μ 102) p (nW (μ 102)) i) ∧ μ 102 (5 + gH (μ 102) p (nW (μ 102)) i) ≤ 5 := by
  have a := gH_in (μ 102) p (nW (μ 102)) i hi
  have b := wr_h hW a.1
  exact ⟨a.1, b.2.2.2.2.2, b.2.1⟩
theorem gH_inj {w : Nat → Int} {p : Int} {i j : Nat} (hi : i < gS w p) (hj : j < gS w p) (h : gH w p (nW w) i = gH w p (nW w) j) : i = j := by
  have a := (gH_in w p (nW w) i hi).2.2
  have b := (gH_in w p (nW w) j hj).2.2
  rw [← a, ← b, h]
theorem wm_fw {μ ν : Nat → Nat → Int} (hW : WR (μ 102)) {p : Int} (hg : GF p μ ν) (h5 : gS (μ 102) p ≤ 5) (a : Nat → Nat → Bool) (told mouths : Int) (ha : ∀ i, i < gS (μ 102) p → ∀ m : Nat, m < 10 → (a i m = true ↔ (¬ (gH (μ 102) p (nW (μ 102)) i : Int) = told ∨ (m : Int) = mouths))) (Φ : Option AV → ST → Prop) (k : ∀ ρ, GF p μ ρ → WS a (gC (μ 102) p) (gS (μ 102) p) ρ → Φ none (S ρ)) : wpM 214 [.inr (.inr (some 101)), .inl told, .inl mouths] (S ν) Φ := by
  have e := FM_w hg.1
  refine wm_findWays (gS (μ 102) p) (gH (μ 102) p (nW (μ 102))) (fun i => μ 102 (5 + gH (μ 102) p (nW (μ 102)) i)) (μ 102 2) (μ 102 1) (gC (μ 102) p) a told mouths hg.2.1 h5 (fun i hi => ?_) (by rw [e]) ⟨by rw [e], hW.2.1.1⟩ (fun i hi m hm => ⟨rfl, gC_rng _ _ _ _ hm⟩) ha Φ (fun ρ r1 r2 => k ρ ⟨fun k i h1 h2 => by rw [r1 k (by omega)]; exact hg.1 k i h1 h2, by rw [r1 101 (by omega)]; exact hg.2.1, fun i hi => by rw [r1 112 (by omega)]; exact hg.2.2 i hi⟩ r2)
  have g := gS_in hW hi
  exact ⟨hg.2.2 i hi, g.2.1, by rw [e], g.2.2⟩
theorem wm_fwa {μ ν : Nat → Nat → Int} (hW : WR (μ 102)) {p : Int} (hg : GF p μ ν) (h5 : gS (μ 102) p ≤ 5) (Φ : Option AV → ST → Prop) (k : ∀ ρ, GF p μ ρ → WS tt_ (gC (μ 102) p) (gS (μ 102) p) ρ → Φ none (S ρ)) : wpM 214 [.inr (.inr (some 101)), .inl (-1), .inl 0] (S ν) Φ :=
  wm_fw hW hg h5 tt_ (-1) 0 (fun i hi m hm => ⟨fun _ => Or.inl (by omega), fun _ => rfl⟩) Φ k
theorem wm_fwo {μ ν : Nat → Nat → Int} (hW : WR (μ 102)) {p : Int} (hg : GF p μ ν) (h5 : gS (μ 102) p ≤ 5) (i0 m0 : Nat) (hi0 : i0 < gS (μ 102) p) (Φ : Option AV → ST → Prop) (k : ∀ ρ, GF p μ ρ → WS (on_ i0 m0) (gC (μ 102) p) (gS (μ 102) p) ρ → Φ none (S ρ)) : wpM 214 [.inr (.inr (some 101)), .inl (gH (μ 102) p (nW (μ 102)) i0 : Nat), .inl (m0 : Nat)] (S ν) Φ :=
  wm_fw hW hg h5 (on_ i0 m0) _ _ (fun i hi m hm => by
    unfold on_
    constructor
    · intro h
      by_cases e : i = i0
      · right
        simp [e] at h
        omega
      · left
        intro q
        exact e (gH_inj hi hi0 (by omega))
    · intro h
      by_cases e : i = i0
      · subst e
        have : m = m0 := by
          rcases h with h | h
          · exact absurd rfl h
          · omega
        simp [this]
      · simp [e]) Φ k
/-- the sure houses -/
def suM (q : Nat → Bool) (h : Nat) : Nat → Nat → Nat
  | 0, T => T
  | m + 1, T => if q m = true then suM q h m T ||| 2 ^ h else suM q h m T
def suZ (q : Nat → Nat → Bool) (hs : Nat → Nat) : Nat → Nat
  | 0 => 0
  | i + 1 => suM (q i) (hs i) 10 (suZ q hs i)
theorem suM_lt {q : Nat → Bool} {h : Nat} (hh : h < 8) : ∀ (m T : Nat), T < 256 → suM q h m T < 256
  | 0, T, hT => hT
  | m + 1, T, hT => by
    have := suM_lt (q := q) hh m T hT
    rw [suM]
    split
    · exact or_lt _ this h hh
    · exact this
theorem suZ_lt {q : Nat → Nat → Bool} {hs : Nat → Nat} : ∀ i : Nat, (∀ j, j < i → hs j < 8) → suZ q hs i < 256
  | 0, _ => by rw [suZ]; omega
  | i + 1, h => suM_lt (h i (by omega)) 10 _ (suZ_lt i (fun j hj => h j (by omega)))
theorem bit_0 : ∀ S : Nat, S < 256 → am_or (S : Int) 0 = (S : Int) := by decide +kernel
