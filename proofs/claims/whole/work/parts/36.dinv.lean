/-! deeds: the invariant -/
theorem LD_mono {B B' : Int} {μ : Nat → Nat → Int} {c o : Nat} (hB : B ≤ B') (h : LD B μ c o) : LD B' μ c o := by
  obtain ⟨h1, h2, h3, h4, h5, h6, h7, h8, h9, h10, h11, h12, h13⟩ := h
  exact ⟨h1, h2, h3, h4, h5, h6, h7, h8, h9, h10, h11, fun j hj => ⟨(h12 j hj).1, (h12 j hj).2.1, Int.le_trans (h12 j hj).2.2 hB⟩, h13⟩
theorem RG_mono {B B' : Int} {w : Nat → Int} (hB : B ≤ B') (h : RG B w) : RG B' w :=
  ⟨h.1, h.2.1, h.2.2.1, fun j hj => ⟨(h.2.2.2 j hj).1, Int.le_trans (h.2.2.2 j hj).2 hB⟩⟩
theorem CH_mono {B B' : Int} {g : Nat → Int} (hB : B ≤ B') : ∀ (j : Nat) {w : Nat → Int}, CH B g j w → CH B' g j w
  | 0, _, h => RG_mono hB h
  | j + 1, _, h => ⟨RG_mono hB h.1, h.2.1, CH_mono hB j h.2.2⟩
theorem INV_mono {B B' : Int} {μ : Nat → Nat → Int} (hB : B ≤ B') (h : INV B μ) : INV B' μ := by
  obtain ⟨h1, h2, h3, h4, h5, h6⟩ := h
  exact ⟨h1, h2, h3, LD_mono hB h4, fun k hk => ⟨(h5 k hk).1, (h5 k hk).2.1, fun q => LD_mono hB ((h5 k hk).2.2 q)⟩, CH_mono hB _ h6.1, h6.2⟩
theorem EQV_mono {B B' : Int} {μ : Nat → Nat → Int} {x m : Nat} {as : List AV} (hB : B ≤ B') (h : EQV B μ x m as) : EQV B' μ x m as := by
  unfold EQV at h ⊢
  refine wpS_mono h (fun r σ1 q => ?_)
  obtain ⟨v, μ1, q1, q2, q3⟩ := q
  exact ⟨v, μ1, q1, q2, wpS_mono q3 (fun r' σ2 p => ⟨p.1, p.2.imp (fun _ p2 => ⟨p2.1, INV_mono hB p2.2⟩)⟩)⟩
theorem CH_g {B : Int} {g g' : Nat → Int} : ∀ (N : Nat) {w : Nat → Int}, (∀ i, i < 4 * N → g' i = g i) → CH B g N w → CH B g' N w
  | 0, _, _, h => h
  | N + 1, w, e, h => by
    rw [CH] at h ⊢
    rw [e (4 * N) (by omega), e (4 * N + 1) (by omega), e (4 * N + 2) (by omega), e (4 * N + 3) (by omega)]
    exact ⟨h.1, h.2.1, CH_g N (fun i hi => e i (by omega)) h.2.2⟩
theorem CH_sh {B : Int} {g : Nat → Int} : ∀ (N : Nat) {w : Nat → Int}, CH B g (N + 1) w → CH B (fun i => g (i + 4)) N w
  | 0, _, h => h.1
  | N + 1, w, h => by
    rw [CH] at h ⊢
    rw [show 4 * N + 4 = 4 * (N + 1) by omega, show 4 * N + 1 + 4 = 4 * (N + 1) + 1 by omega, show 4 * N + 2 + 4 = 4 * (N + 1) + 2 by omega, show 4 * N + 3 + 4 = 4 * (N + 1) + 3 by omega]
    exact ⟨h.1, h.2.1, CH_sh N h.2.2⟩
theorem LD_RG {B : Int} {μ : Nat → Nat → Int} (hL : LD B μ 73 0) : RG B (μ 102) := by
  have h0 := ld_0 hL
  refine ⟨h0.2.2.2.2.2.1, h0.2.2.2.2.2.2.2.1, fun k hk => ?_, fun j hj => (ld_d hL hj).2⟩
  have := ld_h hL (h := k) (by unfold nW; omega)
  exact ⟨this.2.2.2.1, this.2.2.2.2.1⟩
theorem CR_of {B : Int} {μ : Nat → Nat → Int} (h : INV B μ) (hB : B ≤ 1000000) : CR μ := by
  have hL : LD B μ 73 0 := h.2.2.2.1
  obtain ⟨-, d1, d2, d3, -⟩ := h.2.2.2.2.2
  have h0 := ld_0 hL
  refine ⟨by omega, d3, by omega, fun k hk => ?_, fun j hj => ?_⟩
  · have := ld_h hL (h := k) (by unfold nW; omega)
    omega
  · have := ld_d hL hj
    omega
theorem MR_of {B : Int} {μ : Nat → Nat → Int} (h : INV B μ) (hB : B ≤ 1000000) : MR μ := by
  have hL : LD B μ 73 0 := h.2.2.2.1
  obtain ⟨-, d1, -⟩ := h.2.2.2.2.2
  have h0 := ld_0 hL
  refine ⟨by omega, d1, fun k hk => ?_, fun j hj => ?_⟩
  · have := ld_h hL (h := k) (by unfold nW; omega)
    omega
  · have := ld_d hL hj
    omega
theorem MR_as {μ ν : Nat → Nat → Int} (h : MR μ) (e1 : ν 102 = μ 102) (e2 : ν 101 12 = μ 101 12) : MR ν := by
  unfold MR at h ⊢; rw [e1, e2]; exact h
def gp (g : Nat → Int) (N : Nat) (s a b n : Int) (i : Nat) : Int :=
  if i = 4 * min N 59 + 3 then n else if i = 4 * min N 59 + 2 then b else if i = 4 * min N 59 + 1 then a else if i = 4 * min N 59 then s else if N = 60 ∧ i < 236 then g (i + 4) else g i
theorem INV_deed {B B' : Int} {μ ν : Nat → Nat → Int} (h : INV B μ) (hB : B ≤ B') (s a b n nx : Int) (hs : 0 ≤ s ∧ s ≤ 5) (hnx : s ≤ 2 → n = nx) (hl : LD B' ν 73 0) (hw : AG (μ 102) (UD (ν 102) s a b nx)) (hw' : AG (UD (ν 102) s a b nx) (μ 102)) (hv : VD (ν 102) s a b nx)
    (x4 : ν 4 4 = (μ 4 4 + 1).tmod 60) (x45 : ν 4 5 = min (μ 4 5 + 1) 60) (x5 : ∀ i, ν 5 i = if i = (μ 4 4).toNat then s else μ 5 i) (x6 : ∀ i, ν 6 i = if i = (μ 4 4).toNat then a else μ 6 i) (x7 : ∀ i, ν 7 i = if i = (μ 4 4).toNat then b else μ 7 i) (x8 : ∀ i, ν 8 i = if i = (μ 4 4).toNat then n else μ 8 i)
    (m12 : ν 101 12 = min (μ 101 12 + 1) 60) (m109 : ∀ i, ν 109 i = gp (μ 109) (μ 101 12).toNat s a b nx i)
    (e : ∀ k i, ¬ (4 ≤ k ∧ k ≤ 8) → ¬ (73 ≤ k ∧ k ≤ 79) → ¬ (k = 102 ∧ i < 200) → ¬ k = 109 → ¬ (k = 101 ∧ i = 12) → ν k i = μ k i) : INV B' ν := by
  obtain ⟨⟨a1, a2, a3, a4, a5⟩, hI, ht, -, hk, hc, hd1, hd2, hd3, hd4⟩ := INV_mono hB h
  refine ⟨⟨?_, ?_, ?_, ?_, fun g hg => ?_⟩, I_r_of hI (fun k i hk => e k i (by omega) (by omega) (by omega) (by omega) (by omega)), I_t_of ht (fun k i hk => e k i (by omega) (by omega) (by omega) (by omega) (by omega)), hl, fun k hk3 => ?_, ?_⟩
  · rw [e 0 9 (by omega) (by omega) (by omega) (by omega) (by omega), e 101 7 (by omega) (by omega) (by omega) (by omega) (by omega)]; exact a1
  · rw [e 0 10 (by omega) (by omega) (by omega) (by omega) (by omega), e 101 8 (by omega) (by omega) (by omega) (by omega) (by omega)]; exact a2
  · rw [e 0 11 (by omega) (by omega) (by omega) (by omega) (by omega), e 101 9 (by omega) (by omega) (by omega) (by omega) (by omega)]; exact a3
  · rw [e 0 12 (by omega) (by omega) (by omega) (by omega) (by omega), e 101 10 (by omega) (by omega) (by omega) (by omega) (by omega)]; exact a4
  · rw [e 45 g (by omega) (by omega) (by omega) (by omega) (by omega), e 108 g (by omega) (by omega) (by omega) (by omega) (by omega)]; exact a5 g hg
  · obtain ⟨b1, b2, b3⟩ := hk k hk3
    rw [e 103 k (by omega) (by omega) (by omega) (by omega) (by omega), e (80 + 7 * k) 12 (by omega) (by omega) (by omega) (by omega) (by omega)]
    exact ⟨b1, b2, fun q => LD_on (b3 q) (fun i hi => e 102 i (by omega) (by omega) (by omega) (by omega) (by omega)) (fun k' i hk' => e k' i (by omega) (by omega) (by omega) (by omega) (by omega))⟩
  · obtain ⟨N, hN⟩ : ∃ N : Nat, μ 101 12 = N := ⟨(μ 101 12).toNat, by omega⟩
    obtain ⟨E, hE⟩ : ∃ E : Nat, μ 4 4 = E := ⟨(μ 4 4).toNat, by omega⟩
    have hE60 : E < 60 := by omega
    have x4' : ν 4 4 = ((E + 1) % 60 : Nat) := by rw [x4, hE, Int.tmod_eq_emod_of_nonneg (by omega)]; omega
    rw [hN] at m12 hd1 hd2 hd4 hc
    rw [hE] at hd4 x5 x6 x7 x8
    simp only [hN, Int.toNat_natCast] at m109 hc hd4 x5 x6 x7 x8
    have m12' : (ν 101 12).toNat = min (N + 1) 60 := by omega
    unfold I_d
    rw [m12', x4', x45, hd2, m12]
    refine ⟨?_, by omega, by omega, by omega, ?_⟩
    · have g0 : ν 109 (4 * min N 59) = s := by rw [m109]; unfold gp; rw [if_neg (by omega), if_neg (by omega), if_neg (by omega), if_pos rfl]
      have g1 : ν 109 (4 * min N 59 + 1) = a := by rw [m109]; unfold gp; rw [if_neg (by omega), if_neg (by omega), if_pos rfl]
      have g2 : ν 109 (4 * min N 59 + 2) = b := by rw [m109]; unfold gp; rw [if_neg (by omega), if_pos rfl]
      have g3 : ν 109 (4 * min N 59 + 3) = nx := by rw [m109]; unfold gp; rw [if_pos rfl]
      have hN' : min (N + 1) 60 = min N 59 + 1 := by omega
      rw [hN', CH, g0, g1, g2, g3]
      refine ⟨LD_RG hl, hv, ?_⟩
      refine CH_of _ hw ?_
      by_cases c : N = 60
      · subst c
        refine CH_g 59 (fun i hi => ?_) (CH_sh 59 hc)
        rw [m109]; unfold gp
        rw [if_neg (by omega), if_neg (by omega), if_neg (by omega), if_neg (by omega), if_pos (by omega)]
      · rw [show min N 59 = N by omega]
        refine CH_g N (fun i hi => ?_) hc
        rw [m109]; unfold gp
        rw [if_neg (by omega), if_neg (by omega), if_neg (by omega), if_neg (by omega), if_neg (by omega)]
    · intro j hj
      simp only [Int.toNat_natCast]
      have hj' : j < min (N + 1) 60 := by omega
      by_cases last : j = min N 59
      · have ei : ((E + 1) % 60 + 60 - min (N + 1) 60 + j) % 60 = E := by omega
        rw [ei, x5, x6, x7, x8, if_pos rfl, if_pos rfl, if_pos rfl, if_pos rfl, last]
        have g0 : ν 109 (4 * min N 59) = s := by rw [m109]; unfold gp; rw [if_neg (by omega), if_neg (by omega), if_neg (by omega), if_pos rfl]
        have g1 : ν 109 (4 * min N 59 + 1) = a := by rw [m109]; unfold gp; rw [if_neg (by omega), if_neg (by omega), if_pos rfl]
        have g2 : ν 109 (4 * min N 59 + 2) = b := by rw [m109]; unfold gp; rw [if_neg (by omega), if_pos rfl]
        have g3 : ν 109 (4 * min N 59 + 3) = nx := by rw [m109]; unfold gp; rw [if_pos rfl]
        rw [g0, g1, g2, g3]
        exact ⟨⟨rfl, rfl, rfl, hnx⟩, hs⟩
      · have ne : ¬ ((E + 1) % 60 + 60 - min (N + 1) 60 + j) % 60 = E := by omega
        rw [x5, x6, x7, x8, if_neg ne, if_neg ne, if_neg ne, if_neg ne]
        by_cases c : N = 60
        · subst c
          have ei : ((E + 1) % 60 + 60 - min (60 + 1) 60 + j) % 60 = (E + 60 - 60 + (j + 1)) % 60 := by omega
          have gg : ∀ r, r < 4 → ν 109 (4 * j + r) = μ 109 (4 * (j + 1) + r) := fun r hr => by
            rw [m109]; unfold gp
            rw [if_neg (by omega), if_neg (by omega), if_neg (by omega), if_neg (by omega), if_pos (by omega), show 4 * j + r + 4 = 4 * (j + 1) + r by omega]
          rw [ei, gg 1 (by omega), gg 2 (by omega), gg 3 (by omega)]
          have g0 := gg 0 (by omega)
          rw [Nat.add_zero, Nat.add_zero] at g0
          rw [g0]
          exact hd4 (j + 1) (by omega)
        · have ei : ((E + 1) % 60 + 60 - min (N + 1) 60 + j) % 60 = (E + 60 - N + j) % 60 := by omega
          have gg : ∀ r, r < 4 → ν 109 (4 * j + r) = μ 109 (4 * j + r) := fun r hr => by
            rw [m109]; unfold gp
            rw [if_neg (by omega), if_neg (by omega), if_neg (by omega), if_neg (by omega), if_neg (by omega)]
          rw [ei, gg 1 (by omega), gg 2 (by omega), gg 3 (by omega)]
          have g0 := gg 0 (by omega)
          rw [Nat.add_zero] at g0
          rw [g0]
          exact hd4 j (by omega)
/-- one house's spoons, mouths, one debt: set on both sides -/
theorem LD_sp {B : Int} {μ : Nat → Nat → Int} (hL : LD B μ 73 0) (q : Nat) (v : Int) (hq : (q : Int) < μ 102 0) (hv : 0 ≤ v ∧ v ≤ 30) : LD B (am_up (am_up μ 77 q v) 102 (29 + q) v) 73 0 := by
  have h8 := (ld_n hL).2
  obtain ⟨h1, h2, h3, h4, h5, h6, h7, h8', h9, h10, h11, h12, h13⟩ := hL
  simp only [Nat.zero_add] at h1 h2 h3 h4 h5 h6 h7 h8' h9 h10 h11 h12 h13
  unfold LD
  simp (disch := omega) only [Nat.zero_add, up_at, eqn_f, true_and, false_and, and_false, if_false]
  refine ⟨h1, h2, h3, h4, h5, h6, h7, h8', h9, h10, fun k hk => ?_, fun j hj => ?_, fun j hj => ?_⟩
  · have := h11 k hk
    by_cases e : k = q
    · subst e
      simp (disch := omega) only [eqn_f, eqn_t, and_self, true_and, and_true, and_false, false_and, if_true, if_false]
      omega
    · simp (disch := omega) only [eqn_f, true_and, and_false, if_false]
      exact this
  · have := h12 j hj
    try simp (disch := omega) only [eqn_f, true_and, and_false, if_false]
    exact this
  · have := h13 j hj
    try simp (disch := omega) only [eqn_f, true_and, and_false, if_false]
    exact this
theorem LD_mo {B : Int} {μ : Nat → Nat → Int} (hL : LD B μ 73 0) (q : Nat) (v : Int) (hq : (q : Int) < μ 102 0) (hv : 0 ≤ v ∧ v ≤ 9) : LD B (am_up (am_up μ 76 q v) 102 (21 + q) v) 73 0 := by
  have h8 := (ld_n hL).2
  obtain ⟨h1, h2, h3, h4, h5, h6, h7, h8', h9, h10, h11, h12, h13⟩ := hL
  simp only [Nat.zero_add] at h1 h2 h3 h4 h5 h6 h7 h8' h9 h10 h11 h12 h13
  unfold LD
  simp (disch := omega) only [Nat.zero_add, up_at, eqn_f, true_and, false_and, and_false, if_false]
  refine ⟨h1, h2, h3, h4, h5, h6, h7, h8', h9, h10, fun k hk => ?_, fun j hj => ?_, fun j hj => ?_⟩
  · have := h11 k hk
    by_cases e : k = q
    · subst e
      simp (disch := omega) only [eqn_f, eqn_t, and_self, true_and, and_true, and_false, false_and, if_true, if_false]
      omega
    · simp (disch := omega) only [eqn_f, true_and, and_false, if_false]
      exact this
  · have := h12 j hj
    try simp (disch := omega) only [eqn_f, true_and, and_false, if_false]
    exact this
  · have := h13 j hj
    try simp (disch := omega) only [eqn_f, true_and, and_false, if_false]
    exact this
theorem LD_de {B : Int} {μ : Nat → Nat → Int} (hL : LD B μ 73 0) (q : Nat) (v : Int) (hq : q < 64) (hv : 0 ≤ v ∧ v ≤ B) : LD B (am_up (am_up μ 78 q v) 102 (37 + q) v) 73 0 := by
  have h8 := (ld_n hL).2
  obtain ⟨h1, h2, h3, h4, h5, h6, h7, h8', h9, h10, h11, h12, h13⟩ := hL
  simp only [Nat.zero_add] at h1 h2 h3 h4 h5 h6 h7 h8' h9 h10 h11 h12 h13
  unfold LD
  simp (disch := omega) only [Nat.zero_add, up_at, eqn_f, true_and, false_and, and_false, if_false]
  refine ⟨h1, h2, h3, h4, h5, h6, h7, h8', h9, h10, fun k hk => ?_, fun j hj => ?_, fun j hj => ?_⟩
  · have := h11 k hk
    try simp (disch := omega) only [eqn_f, true_and, and_false, if_false]
    exact this
  · have := h12 j hj
    by_cases e : j = q
    · subst e
      simp (disch := omega) only [eqn_f, eqn_t, and_self, true_and, and_true, and_false, false_and, if_true, if_false]
      omega
    · simp (disch := omega) only [eqn_f, true_and, and_false, if_false]
      exact this
  · have := h13 j hj
    try simp (disch := omega) only [eqn_f, true_and, and_false, if_false]
    exact this
