/-! bags of both sides -/
theorem eq_text {B : Int} {μ : Nat → Nat → Int} (h : INV B μ) (r a : Int) : EQV B μ 85 172 [.inl r, .inl a] := by
  unfold EQV
  rw [wp_text]
  by_cases hr : 0 ≤ r ∧ r < 4
  · rw [if_pos hr]
    by_cases h1 : 80 < a
    · rw [if_pos h1]
      refine ⟨_, _, rfl, rfl, ?_⟩
      rw [wm_text, if_pos hr, if_pos h1]
      exact ⟨rfl, _, rfl, h⟩
    · rw [if_neg h1]
      by_cases h2 : a < 0
      · rw [if_pos h2]
        refine ⟨_, _, rfl, rfl, ?_⟩
        rw [wm_text, if_pos hr, if_neg h1, if_pos h2]
        exact ⟨rfl, _, rfl, inv_find h 5 (by decide)⟩
      · rw [if_neg h2]
        refine ⟨_, _, rfl, rfl, ?_⟩
        rw [wm_text, if_pos hr, if_neg h1, if_neg h2]
        refine ⟨rfl, _, rfl, ?_⟩
        obtain ⟨n, rfl⟩ : ∃ n : Nat, r = n := ⟨r.toNat, by omega⟩
        obtain ⟨c, rfl⟩ : ∃ n : Nat, a = n := ⟨a.toNat, by omega⟩
        simp only [Int.toNat_natCast]
        have hn : n < 4 := by omega
        obtain ⟨ha, hI, ht, hq⟩ := h
        refine ⟨?_, I_r_of hI (fun k i hk => ?_), ?_, I_q_of hq (fun k i hk => ?_)⟩
        · obtain ⟨a1, a2, a3, a4, a5⟩ := ha
          unfold I_a
          simp only [fr_at, up_at, fl_at]
          refine ⟨?_, ?_, ?_, ?_, fun g hg => ?_⟩
          all_goals (repeat rw [if_neg (by omega)])
          · exact a1
          · exact a2
          · exact a3
          · exact a4
          · exact a5 g hg
        · simp only [fr_at, up_at, fl_at]
          repeat rw [if_neg (by omega)]
        · intro q hq
          simp only [fr_at, up_at, fl_at]
          obtain ⟨b1, b2, b3⟩ := ht q hq
          by_cases e : q = n
          · subst e
            simp only [true_and, if_true, ite_true]
            refine ⟨?_, ?_, fun i hi => ?_⟩
            · (repeat' split) <;> first | rfl | omega
            · (repeat' split) <;> first | rfl | omega
            · have hc : (i : Int) < c := by
                revert hi
                (repeat' split) <;> intro hi <;> first | exact hi | omega
              clear hi b1 b2 b3
              refine ⟨?_, ?_⟩
              · (repeat' split) <;> first | rfl | omega
              · (repeat' split) <;> first | rfl | omega
          · rw [if_neg (by omega), if_neg (by omega), if_neg (by omega), if_neg (by omega), if_neg (by omega), if_neg (by omega), if_neg (by omega), if_neg (by omega)]
            refine ⟨b1, b2, fun i hi => ?_⟩
            rw [if_neg (by omega), if_neg (by omega), if_neg (by omega), if_neg (by omega), if_neg (by omega), if_neg (by omega), if_neg (by omega), if_neg (by omega)]
            exact b3 i hi
        · simp only [fr_at, up_at, fl_at]
          repeat rw [if_neg (by omega)]
  · rw [if_neg hr]
    refine ⟨_, _, rfl, rfl, ?_⟩
    rw [wm_text, if_neg hr]
    exact ⟨rfl, _, rfl, h⟩
