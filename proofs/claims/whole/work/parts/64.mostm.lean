/-! the most spoons that can be led, in numbers -/
def anZ (P : Nat → Bool) : Nat → Bool
  | 0 => false
  | n + 1 => anZ P n || P n
theorem anZ_t {P : Nat → Bool} : ∀ {n : Nat}, anZ P n = true ↔ ∃ m, m < n ∧ P m = true
  | 0 => ⟨fun h => by rw [anZ] at h; exact absurd h (by decide), fun ⟨m, h, _⟩ => absurd h (by omega)⟩
  | n + 1 => by
    rw [anZ, Bool.or_eq_true, anZ_t]
    constructor
    · rintro (⟨m, h1, h2⟩ | h)
      · exact ⟨m, by omega, h2⟩
      · exact ⟨n, by omega, h⟩
    · rintro ⟨m, h1, h2⟩
      by_cases e : m = n
      · subst e; exact Or.inr h2
      · exact Or.inl ⟨m, by omega, h2⟩
/-- sets reached with the first k spoons -/
def rcZ (ok : Nat → Nat → Bool) (n : Nat) : Nat → Nat → Bool
  | 0, T => T == 0
  | k + 1, T => rcZ ok n k T || anZ (fun m => (T.testBit m && ok k m) && rcZ ok n k (T - 2 ^ m)) n
theorem rcZ_s {ok : Nat → Nat → Bool} {n k T : Nat} : rcZ ok n (k + 1) T = true ↔ rcZ ok n k T = true ∨ ∃ m, m < n ∧ (T.testBit m = true ∧ ok k m = true) ∧ rcZ ok n k (T - 2 ^ m) = true := by
  rw [rcZ, Bool.or_eq_true, anZ_t]
  constructor
  · rintro (h | ⟨m, h1, h2⟩)
    · exact Or.inl h
    · rw [Bool.and_eq_true, Bool.and_eq_true] at h2; exact Or.inr ⟨m, h1, h2⟩
  · rintro (h | ⟨m, h1, h2⟩)
    · exact Or.inl h
    · exact Or.inr ⟨m, h1, by rw [Bool.and_eq_true, Bool.and_eq_true]; exact h2⟩
/-- the most of a set, with one spoon more -/
def miZ (f : Nat → Int) (okk : Nat → Bool) (T : Nat) : Nat → Int
  | 0 => f T
  | m + 1 => if (T.testBit m = true ∧ okk m = true) ∧ miZ f okk T m < f (T - 2 ^ m) + 1 then f (T - 2 ^ m) + 1 else miZ f okk T m
def mfZ (ok : Nat → Nat → Bool) (n : Nat) : Nat → Nat → Int
  | 0 => fun _ => 0
  | k + 1 => fun T => miZ (mfZ ok n k) (ok k) T n
theorem mi_ge {f : Nat → Int} {okk : Nat → Bool} {T : Nat} : ∀ n : Nat, f T ≤ miZ f okk T n ∧ ∀ m, m < n → T.testBit m = true → okk m = true → f (T - 2 ^ m) + 1 ≤ miZ f okk T n
  | 0 => ⟨Int.le_refl _, fun m h => absurd h (by omega)⟩
  | n + 1 => by
    obtain ⟨h1, h2⟩ := mi_ge (f := f) (okk := okk) (T := T) n
    rw [miZ]
    by_cases c : (T.testBit n = true ∧ okk n = true) ∧ miZ f okk T n < f (T - 2 ^ n) + 1
    · rw [if_pos c]
      refine ⟨by omega, fun m hm a b => ?_⟩
      by_cases e : m = n
      · subst e; exact Int.le_refl _
      · have := h2 m (by omega) a b; omega
    · rw [if_neg c]
      refine ⟨h1, fun m hm a b => ?_⟩
      by_cases e : m = n
      · subst e
        exact Int.not_lt.mp (fun q => c ⟨⟨a, b⟩, q⟩)
      · exact h2 m (by omega) a b
theorem mi_in {f : Nat → Int} {okk : Nat → Bool} {T : Nat} : ∀ n : Nat, miZ f okk T n = f T ∨ ∃ m, m < n ∧ (T.testBit m = true ∧ okk m = true) ∧ miZ f okk T n = f (T - 2 ^ m) + 1
  | 0 => Or.inl rfl
  | n + 1 => by
    rw [miZ]
    by_cases c : (T.testBit n = true ∧ okk n = true) ∧ miZ f okk T n < f (T - 2 ^ n) + 1
    · rw [if_pos c]; exact Or.inr ⟨n, by omega, c.1, rfl⟩
    · rw [if_neg c]
      rcases mi_in (f := f) (okk := okk) (T := T) n with h | ⟨m, h1, h2, h3⟩
      · exact Or.inl h
      · exact Or.inr ⟨m, by omega, h2, h3⟩
theorem mf_rng {ok : Nat → Nat → Bool} {n : Nat} : ∀ (k T : Nat), 0 ≤ mfZ ok n k T ∧ mfZ ok n k T ≤ (k : Int)
  | 0, T => ⟨Int.le_refl _, Int.le_refl _⟩
  | k + 1, T => by
    have e : mfZ ok n (k + 1) T = miZ (mfZ ok n k) (ok k) T n := rfl
    rw [e]
    have r := mf_rng (ok := ok) (n := n) k T
    rcases mi_in (f := mfZ ok n k) (okk := ok k) (T := T) n with h | ⟨m, h1, h2, h3⟩
    · rw [h]; omega
    · have := mf_rng (ok := ok) (n := n) k (T - 2 ^ m)
      rw [h3]; omega
theorem mi_rng {ok : Nat → Nat → Bool} {n : Nat} {k T M : Nat} : 0 ≤ miZ (mfZ ok n k) (ok k) T M ∧ miZ (mfZ ok n k) (ok k) T M ≤ (k : Int) + 1 := by
  have r := mf_rng (ok := ok) (n := n) k T
  rcases mi_in (f := mfZ ok n k) (okk := ok k) (T := T) M with h | ⟨m, h1, h2, h3⟩
  · rw [h]; omega
  · have := mf_rng (ok := ok) (n := n) k (T - 2 ^ m)
    rw [h3]; omega
theorem mf_0 {ok : Nat → Nat → Bool} {n : Nat} : ∀ k : Nat, mfZ ok n k 0 = 0
  | 0 => rfl
  | k + 1 => by
    have e : mfZ ok n (k + 1) 0 = miZ (mfZ ok n k) (ok k) 0 n := rfl
    rw [e]
    rcases mi_in (f := mfZ ok n k) (okk := ok k) (T := 0) n with h | ⟨m, h1, h2, h3⟩
    · rw [h]; exact mf_0 k
    · simp at h2
def sbZ (T U : Nat) : Prop := ∀ i, i < 8 → T.testBit i = true → U.testBit i = true
theorem most_ok {ok : Nat → Nat → Bool} {n : Nat} (hn : n ≤ 8) : ∀ (k U : Nat), U < 2 ^ n → (∃ T, T < 2 ^ n ∧ sbZ T U ∧ rcZ ok n k T = true ∧ pcZ T = mfZ ok n k U) ∧ ∀ T, T < 2 ^ n → sbZ T U → rcZ ok n k T = true → pcZ T ≤ mfZ ok n k U
  | 0, U, hU => by
    refine ⟨⟨0, Nat.two_pow_pos n, fun i _ h => by simp at h, rfl, pc_0⟩, fun T _ _ h => ?_⟩
    have h : (T == 0) = true := h
    have e : T = 0 := by simpa using h
    subst e
    exact Int.le_of_eq pc_0
  | k + 1, U, hU => by
    have p8 := pow8 hn
    have e : mfZ ok n (k + 1) U = miZ (mfZ ok n k) (ok k) U n := rfl
    rw [e]
    have ge := mi_ge (f := mfZ ok n k) (okk := ok k) (T := U) n
    obtain ⟨⟨T0, a1, a2, a3, a4⟩, a5⟩ := most_ok (ok := ok) hn k U hU
    refine ⟨?_, fun T hT hs hr => ?_⟩
    · rcases mi_in (f := mfZ ok n k) (okk := ok k) (T := U) n with h | ⟨m, h1, h2, h3⟩
      · exact ⟨T0, a1, a2, rcZ_s.mpr (Or.inl a3), by rw [h]; exact a4⟩
      · obtain ⟨⟨T1, b1, b2, b3, b4⟩, b5⟩ := most_ok (ok := ok) hn k (U - 2 ^ m) (Nat.lt_of_le_of_lt (Nat.sub_le _ _) hU)
        have nb : T1.testBit m = false := by
          rcases h : T1.testBit m with _ | _
          · rfl
          · have := b2 m (by omega) h
            rw [tb_sub U (by omega) m (by omega) h2.1 m (by omega)] at this
            simp at this
        refine ⟨T1 ||| 2 ^ m, or_lt_n b1 h1, fun i hi h => ?_, rcZ_s.mpr (Or.inr ⟨m, h1, ⟨by rw [tb_or]; simp, h2.2⟩, by rw [or_sub T1 (by omega) m (by omega) nb]; exact b3⟩), by rw [pc_or T1 (by omega) m (by omega) nb, h3, b4]⟩
        rw [tb_or] at h
        by_cases e : i = m
        · subst e; exact h2.1
        · have h : T1.testBit i = true := by
            rcases q : T1.testBit i with _ | _
            · rw [q] at h
              simp at h
              omega
            · rfl
          have := b2 i hi h
          rw [tb_sub U (by omega) m (by omega) h2.1 i hi] at this
          simp at this
          exact this.1
    · rcases rcZ_s.mp hr with h | ⟨m, h1, h2, h3⟩
      · have := a5 T hT hs h; omega
      · have um := hs m (by omega) h2.1
        obtain ⟨_, b5⟩ := most_ok (ok := ok) hn k (U - 2 ^ m) (Nat.lt_of_le_of_lt (Nat.sub_le _ _) hU)
        have := b5 (T - 2 ^ m) (Nat.lt_of_le_of_lt (Nat.sub_le _ _) hT) (fun i hi h => by
          rw [tb_sub T (by omega) m (by omega) h2.1 i hi] at h
          rw [tb_sub U (by omega) m (by omega) um i hi]
          simp at h ⊢
          exact ⟨hs i hi h.1, h.2⟩) h3
        have ps := pc_sub T (by omega) m (by omega) h2.1
        have := ge.2 m h1 um h2.2
        omega
/-- the class's: the most of the sets reached -/
def moZ (P : Nat → Bool) : Nat → Int
  | 0 => 0
  | j + 1 => if P j = true then max (moZ P j) (pcZ j) else moZ P j
theorem mo_rng {P : Nat → Bool} : ∀ j, 0 ≤ moZ P j ∧ moZ P j ≤ 8
  | 0 => by rw [moZ]; omega
  | j + 1 => by
    have := mo_rng (P := P) j
    have := pcZ_rng j
    rw [moZ]
    split <;> omega
theorem mo_ge {P : Nat → Bool} : ∀ j T, T < j → P T = true → pcZ T ≤ moZ P j
  | 0, T, h, _ => absurd h (by omega)
  | j + 1, T, h, p => by
    rw [moZ]
    by_cases e : T = j
    · subst e; rw [if_pos p]; omega
    · have := mo_ge j T (by omega) p
      split <;> omega
theorem mo_le {P : Nat → Bool} {x : Int} (h0 : 0 ≤ x) : ∀ j, (∀ T, T < j → P T = true → pcZ T ≤ x) → moZ P j ≤ x
  | 0, _ => by rw [moZ]; exact h0
  | j + 1, h => by
    have := mo_le h0 j (fun T hT => h T (by omega))
    rw [moZ]
    by_cases c : P j = true
    · have := h j (by omega) c
      rw [if_pos c]; omega
    · rw [if_neg c]; exact this
theorem most_eq {ok : Nat → Nat → Bool} {n : Nat} (hn : n ≤ 8) : moZ (rcZ ok n n) (2 ^ n) = mfZ ok n n (2 ^ n - 1) := by
  have p0 := Nat.two_pow_pos n
  obtain ⟨⟨T0, a1, a2, a3, a4⟩, a5⟩ := most_ok (ok := ok) hn n (2 ^ n - 1) (by omega)
  have h1 := mo_ge (P := rcZ ok n n) (2 ^ n) T0 a1 a3
  have h2 := mo_le (P := rcZ ok n n) (x := mfZ ok n n (2 ^ n - 1)) (mf_rng n _).1 (2 ^ n) (fun T hT hr => a5 T hT (fun i _ h => by
    rw [Nat.testBit_two_pow_sub_one]
    by_cases c : i < n
    · simp [c]
    · rw [tb_lt hT (by omega)] at h; exact absurd h (by decide)) hr)
  omega
