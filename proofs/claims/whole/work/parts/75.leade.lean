/-! leads, led, lead, most: equal on both sides -/
theorem INV_fl {B : Int} {μ ν : Nat → Nat → Int} (h : INV B μ) (e : FL μ ν) : INV B ν := by
  refine INV_ans h (fun k i hk => by rw [e k (by omega)]) (by rw [e 0 (by omega)]) (by rw [e 101 (by omega)]) (fun i => ?_) (fun i => by rw [e 108 (by omega)]) ?_ ?_ ?_
  · rw [e 45 (by omega)]
  · rw [e 0 (by omega), e 101 (by omega)]; exact h.1.2.1
  · rw [e 0 (by omega), e 101 (by omega)]; exact h.1.2.2.1
  · rw [e 0 (by omega), e 101 (by omega)]; exact h.1.2.2.2.1
theorem FB_FM {μ ν : Nat → Nat → Int} (h : FB μ ν) : FM μ ν := fun k i h1 _ => by rw [h k (by omega)]
theorem rows_b {B : Int} {μ : Nat → Nat → Int} (h : INV B μ) {r : Nat} (hr : r < 6) : -1 ≤ μ 105 r ∧ μ 105 r ≤ 60 := (h.2.1 r hr).1
theorem xf_e (μ : Nat → Nat → Int) (f : Nat) : ∀ k, k = 104 ∨ k = 105 → xfind μ f k = μ k := fun k hk => xf_102 μ f k (by omega) (by omega)
theorem up2_e (ν : Nat → Nat → Int) (u d : Int) : ∀ k, k = 104 ∨ k = 105 → (am_up (am_up ν 0 11 u) 0 12 d) k = ν k := fun k hk => by rw [up_ne _ _ _ (by omega), up_ne _ _ _ (by omega)]
theorem okW_as {μ ν : Nat → Nat → Int} (r b : Nat) (e : ν 104 = μ 104) : okW ν r b = okW μ r b := by unfold okW rwR; rw [e]
theorem eq_leads {B : Int} {μ : Nat → Nat → Int} (h : INV B μ) (x y : Int) : EQV B μ 116 231 [.inl x, .inl y] := by
  unfold EQV
  by_cases hx : (0 ≤ x ∧ x < 6) ∧ 0 ≤ y ∧ y < 6
  · obtain ⟨r, rfl⟩ : ∃ q : Nat, x = q := ⟨x.toNat, by omega⟩
    obtain ⟨b, rfl⟩ : ∃ q : Nat, y = q := ⟨y.toNat, by omega⟩
    have hr : r < 6 := by omega
    have hb : b < 6 := by omega
    have b1 := rows_b h hr
    have b2 := rows_b h hb
    rcases RB_or b1.1 b2.1 with ⟨f, hf, hR⟩ | ⟨n, hG⟩
    · refine wp_leads_ref hr hb (row_of h hr) (row_of h hb) hR _ ⟨_, _, rfl, rfl, ?_⟩
      have e := xf_e μ f
      exact wm_leads_ref hr hb (by rw [e 105 (by omega)]; exact b1) (by rw [e 105 (by omega)]; exact b2) hf (RB_as hR e) _ ⟨rfl, _, rfl, inv_find h f hf.2⟩
    · refine wp_leads_ok hr hb (row_of h hr) (row_of h hb) hG _ (fun ν i1 => ⟨_, _, rfl, rfl, ?_⟩)
      have e : ∀ k, k = 104 ∨ k = 105 → (am_up (am_up ν 0 11 (BH (okW μ r b) n 0)) 0 12 1) k = μ k := fun k hk => by rw [up2_e _ _ _ k hk, i1 k (by omega)]
      refine wm_leads_ok hr hb (GB_as hG e) _ (fun ρ r1 => ?_)
      rw [okW_as r b (e 104 (by omega))]
      exact ⟨rfl, _, rfl, INV_fm (INV_frac (INV_fl h i1) _ _) (FM_up (FM_up (FB_FM r1) _ _ _) _ _ _)⟩
  · rw [wp_leads_bad x y hx]
    refine ⟨_, _, rfl, rfl, ?_⟩
    rw [wm_leads_bad x y hx]
    exact ⟨rfl, _, rfl, h⟩
theorem eq_most {B : Int} {μ : Nat → Nat → Int} (h : INV B μ) (x y : Int) : EQV B μ 119 236 [.inl x, .inl y] := by
  unfold EQV
  by_cases hx : (0 ≤ x ∧ x < 6) ∧ 0 ≤ y ∧ y < 6
  · obtain ⟨r, rfl⟩ : ∃ q : Nat, x = q := ⟨x.toNat, by omega⟩
    obtain ⟨b, rfl⟩ : ∃ q : Nat, y = q := ⟨y.toNat, by omega⟩
    have hr : r < 6 := by omega
    have hb : b < 6 := by omega
    have b1 := rows_b h hr
    have b2 := rows_b h hb
    rcases RB_or b1.1 b2.1 with ⟨f, hf, hR⟩ | ⟨n, hG⟩
    · refine wp_most_ref hr hb (row_of h hr) (row_of h hb) hR _ ⟨_, _, rfl, rfl, ?_⟩
      have e := xf_e μ f
      exact wm_most_ref hr hb (by rw [e 105 (by omega)]; exact b1) (by rw [e 105 (by omega)]; exact b2) hf (RB_as hR e) _ ⟨rfl, _, rfl, inv_find h f hf.2⟩
    · refine wp_most_ok hr hb (row_of h hr) (row_of h hb) hG _ (fun ν i1 => ⟨_, _, rfl, rfl, ?_⟩)
      have e : ∀ k, k = 104 ∨ k = 105 → ν k = μ k := fun k hk => i1 k (by omega)
      refine wm_most_ok hr hb (GB_as hG e) _ (fun ρ r1 => ?_)
      rw [okW_as r b (e 104 (by omega))]
      exact ⟨rfl, _, rfl, INV_fm (INV_fl h i1) (FB_FM r1)⟩
  · rw [wp_most_bad x y hx]
    refine ⟨_, _, rfl, rfl, ?_⟩
    rw [wm_most_bad x y hx]
    exact ⟨rfl, _, rfl, h⟩
theorem INV_find3 {B : Int} {μ ν ρ : Nat → Nat → Int} (h : INV B μ) (e : FL μ ν) (f : Nat) (hf : f < 6) (g : FB (xfind ν f) ρ) : INV B (mfind ρ f) :=
  INV_fm (inv_find (INV_fl h e) f hf) (FM_find (FB_FM g) f)
theorem eq_led {B : Int} {μ : Nat → Nat → Int} (h : INV B μ) (x y : Int) : EQV B μ 117 234 [.inl x, .inl y] := by
  unfold EQV
  by_cases hx : (0 ≤ x ∧ x < 6) ∧ 0 ≤ y ∧ y < 6
  · obtain ⟨r, rfl⟩ : ∃ q : Nat, x = q := ⟨x.toNat, by omega⟩
    obtain ⟨b, rfl⟩ : ∃ q : Nat, y = q := ⟨y.toNat, by omega⟩
    have hr : r < 6 := by omega
    have hb : b < 6 := by omega
    have b1 := rows_b h hr
    have b2 := rows_b h hb
    rcases RB_or b1.1 b2.1 with ⟨f, hf, hR⟩ | ⟨n, hG⟩
    · refine wp_led_ref hr hb (row_of h hr) (row_of h hb) hR _ ⟨_, _, rfl, rfl, ?_⟩
      have e := xf_e μ f
      exact wm_led_ref hr hb (by rw [e 105 (by omega)]; exact b1) (by rw [e 105 (by omega)]; exact b2) hf (RB_as hR e) _ ⟨rfl, _, rfl, inv_find h f hf.2⟩
    · refine wp_led_ok hr hb (row_of h hr) (row_of h hb) hG _ (fun z ν i1 => ⟨_, _, rfl, rfl, ?_⟩) (fun z ν i1 => ⟨_, _, rfl, rfl, ?_⟩)
      · have e : ∀ k, k = 104 ∨ k = 105 → xfind ν 4 k = μ k := fun k hk => by rw [xf_e ν 4 k hk, i1 k (by omega)]
        refine wm_led_ok hr hb (GB_as hG e) _ (fun _ ρ r1 => ⟨rfl, _, rfl, INV_find3 h i1 4 (by decide) r1⟩) (fun z' => ?_)
        rw [okW_as r b (e 104 (by omega))] at z'; omega
      · have e : ∀ k, k = 104 ∨ k = 105 → ν k = μ k := fun k hk => i1 k (by omega)
        refine wm_led_ok hr hb (GB_as hG e) _ (fun z' => ?_) (fun _ ρ r1 => ?_)
        · rw [okW_as r b (e 104 (by omega))] at z'; omega
        · rw [okW_as r b (e 104 (by omega))]
          exact ⟨rfl, _, rfl, INV_fm (INV_fl h i1) (FB_FM r1)⟩
  · rw [wp_led_bad x y hx]
    refine ⟨_, _, rfl, rfl, ?_⟩
    rw [wm_led_bad x y hx]
    exact ⟨rfl, _, rfl, h⟩
theorem INV_way {B : Int} {μ ν σ : Nat → Nat → Int} (h : INV B μ) {t n : Nat} {v : Nat → Nat} (ht : t < 6) (hn : n ≤ 8) (hv : ∀ i, i < n → v i < n) (i1 : FT μ ν t n v) (i2 : FU ν σ t n v) : INV B σ := by
  obtain ⟨c1, c2, c3⟩ := i1
  obtain ⟨m1, m2, m3⟩ := i2
  have e : ∀ k i, ¬ (38 ≤ k ∧ k ≤ 43) → ¬ k = 46 + 2 * t → ¬ k = 47 + 2 * t → ¬ (119 ≤ k ∧ k ≤ 120) → ¬ (k = 105 ∧ i = t) → ¬ (k = 104 ∧ 60 * t ≤ i ∧ i < 60 * t + n) → σ k i = μ k i := fun k i h1 h2 h3 h4 h5 h6 => by
    rw [m1 k i h4 h5 h6, c1 k h1 h2 h3]
  obtain ⟨ha, hI, hT, hq⟩ := h
  refine ⟨?_, ?_, I_t_of hT (fun k i hk => e k i (by omega) (by omega) (by omega) (by omega) (by omega) (by omega)), I_q_of hq (fun k i hk => e k i (by omega) (by omega) (by omega) (by omega) (by omega) (by omega))⟩
  · obtain ⟨a1, a2, a3, a4, a5⟩ := ha
    unfold I_a
    refine ⟨?_, ?_, ?_, ?_, fun g hg => ?_⟩
    · rw [e 0 9 (by omega) (by omega) (by omega) (by omega) (by omega) (by omega), e 101 7 (by omega) (by omega) (by omega) (by omega) (by omega) (by omega)]; exact a1
    · rw [e 0 10 (by omega) (by omega) (by omega) (by omega) (by omega) (by omega), e 101 8 (by omega) (by omega) (by omega) (by omega) (by omega) (by omega)]; exact a2
    · rw [e 0 11 (by omega) (by omega) (by omega) (by omega) (by omega) (by omega), e 101 9 (by omega) (by omega) (by omega) (by omega) (by omega) (by omega)]; exact a3
    · rw [e 0 12 (by omega) (by omega) (by omega) (by omega) (by omega) (by omega), e 101 10 (by omega) (by omega) (by omega) (by omega) (by omega) (by omega)]; exact a4
    · rw [e 45 g (by omega) (by omega) (by omega) (by omega) (by omega) (by omega), e 108 g (by omega) (by omega) (by omega) (by omega) (by omega) (by omega)]; exact a5 g hg
  · intro r hr
    by_cases q : r = t
    · subst q
      rw [m2, m1 (46 + 2 * r) 1 (by omega) (by omega) (by omega), c2]
      refine ⟨by omega, rfl, fun i hi => ?_⟩
      have := hv i (by omega)
      rw [m3 i (by omega), m1 (47 + 2 * r) i (by omega) (by omega) (by omega), c3 i (by omega)]
      exact ⟨rfl, nz_of (by omega) (by omega)⟩
    · obtain ⟨b1, b2, b3⟩ := hI r hr
      rw [e 105 r (by omega) (by omega) (by omega) (by omega) (by omega) (by omega), e (46 + 2 * r) 1 (by omega) (by omega) (by omega) (by omega) (by omega) (by omega)]
      refine ⟨b1, b2, fun i hi => ?_⟩
      rw [e (47 + 2 * r) i (by omega) (by omega) (by omega) (by omega) (by omega) (by omega), e 104 _ (by omega) (by omega) (by omega) (by omega) (by omega) (by omega)]
      exact b3 i hi
theorem eq_lead {B : Int} {μ : Nat → Nat → Int} (h : INV B μ) (x y w : Int) : EQV B μ 118 235 [.inl x, .inl y, .inl w] := by
  unfold EQV
  by_cases hx : ((0 ≤ x ∧ x < 6) ∧ 0 ≤ y ∧ y < 6) ∧ 0 ≤ w ∧ w < 6
  · obtain ⟨r, rfl⟩ : ∃ q : Nat, x = q := ⟨x.toNat, by omega⟩
    obtain ⟨b, rfl⟩ : ∃ q : Nat, y = q := ⟨y.toNat, by omega⟩
    obtain ⟨t, rfl⟩ : ∃ q : Nat, w = q := ⟨w.toNat, by omega⟩
    have hr : r < 6 := by omega
    have hb : b < 6 := by omega
    have ht : t < 6 := by omega
    have b1 := rows_b h hr
    have b2 := rows_b h hb
    rcases RB_or b1.1 b2.1 with ⟨f, hf, hR⟩ | ⟨n, hG⟩
    · refine wp_lead_ref hr hb (row_of h hr) (row_of h hb) hR t ht _ ⟨_, _, rfl, rfl, ?_⟩
      have e := xf_e μ f
      exact wm_lead_ref hr hb (by rw [e 105 (by omega)]; exact b1) (by rw [e 105 (by omega)]; exact b2) hf (RB_as hR e) t ht _ ⟨rfl, _, rfl, inv_find h f hf.2⟩
    · refine wp_lead_ok hr hb (row_of h hr) (row_of h hb) hG t ht _ (fun z ν i1 => ⟨_, _, rfl, rfl, ?_⟩) (fun z ν i1 => ⟨_, _, rfl, rfl, ?_⟩)
      · have e : ∀ k, k = 104 ∨ k = 105 → xfind ν 4 k = μ k := fun k hk => by rw [xf_e ν 4 k hk, i1 k (by omega)]
        refine wm_lead_ok hr hb (GB_as hG e) t ht _ (fun _ ρ r1 => ⟨rfl, _, rfl, INV_find3 h i1 4 (by decide) r1⟩) (fun z' => ?_)
        rw [okW_as r b (e 104 (by omega))] at z'; omega
      · have e : ∀ k, k = 104 ∨ k = 105 → ν k = μ k := fun k hk => i1.1 k (by omega) (by omega) (by omega)
        refine wm_lead_ok hr hb (GB_as hG e) t ht _ (fun z' => ?_) (fun _ ρ r1 => ?_)
        · rw [okW_as r b (e 104 (by omega))] at z'; omega
        · rw [okW_as r b (e 104 (by omega))] at r1
          have hn := hG.1.2.2
          refine ⟨rfl, _, rfl, INV_way h ht hn (fun i hi => ?_) i1 r1⟩
          obtain ⟨c1, c2, c3, c4⟩ := ch_ok (ok := okW μ r b) hn z i (by omega)
          exact (ch_m (ok := okW μ r b) hn hi c1 c2 c3).2.1
  · rw [wp_lead_bad x y w hx]
    refine ⟨_, _, rfl, rfl, ?_⟩
    rw [wm_lead_bad x y w hx]
    exact ⟨rfl, _, rfl, h⟩
