/-! ways, in numbers -/
theorem sumZ_front (f : Nat → Int) : ∀ n : Nat, sumZ f (n + 1) = f 0 + sumZ (fun i => f (i + 1)) n
  | 0 => by simp [sumZ_s, sumZ_0]
  | n + 1 => by rw [sumZ_s, sumZ_front f n, sumZ_s]; omega
theorem sumZ_zero {f : Nat → Int} : ∀ {n : Nat}, (∀ i, i < n → f i = 0) → sumZ f n = 0
  | 0, _ => rfl
  | n + 1, h => by rw [sumZ_s, sumZ_zero (fun i hi => h i (by omega)), h n (by omega)]; rfl
theorem sumZ_mulr (f : Nat → Int) (k : Int) : ∀ n : Nat, sumZ (fun i => f i * k) n = sumZ f n * k
  | 0 => by simp [sumZ_0]
  | n + 1 => by rw [sumZ_s, sumZ_s, sumZ_mulr f k n, Int.add_mul]
theorem sumZ_mull (f : Nat → Int) (k : Int) : ∀ n : Nat, sumZ (fun i => k * f i) n = k * sumZ f n
  | 0 => by simp [sumZ_0]
  | n + 1 => by rw [sumZ_s, sumZ_s, sumZ_mull f k n, Int.mul_add]
theorem sumZ_comm (f : Nat → Nat → Int) (k : Nat) : ∀ n : Nat, sumZ (fun i => sumZ (fun j => f i j) k) n = sumZ (fun j => sumZ (fun i => f i j) n) k
  | 0 => by rw [sumZ_0]; exact (sumZ_zero (fun i _ => sumZ_0 _)).symm
  | n + 1 => by
    rw [sumZ_s, sumZ_comm f k n, ← sumZ_add]
    exact sumZ_congr (fun i _ => (sumZ_s _ _).symm)
theorem sumZ_one {f : Nat → Int} {k : Nat} : ∀ {n : Nat}, k < n → (∀ i, i < n → ¬ i = k → f i = 0) → sumZ f n = f k
  | 0, h, _ => absurd h (by omega)
  | n + 1, h, e => by
    rw [sumZ_s]
    by_cases hk : k = n
    · subst hk
      rw [sumZ_zero (fun i hi => e i (by omega) (by omega))]; omega
    · rw [sumZ_one (n := n) (by omega) (fun i hi hne => e i (by omega) hne), e n (by omega) (by omega)]; omega
theorem sumZ_cut {f : Nat → Int} {n : Nat} : ∀ {k : Nat}, (∀ i, n ≤ i → f i = 0) → sumZ f (n + k) = sumZ f n
  | 0, _ => rfl
  | k + 1, e => by rw [← Nat.add_assoc, sumZ_s, sumZ_cut e, e (n + k) (by omega)]; omega
/-- ways of the first i of the houses, so many counted; of house i only those mouths that a allows -/
def dW (a : Nat → Nat → Bool) (c : Nat → Nat → Int) : Nat → Int → Int
  | 0, z => if z = 0 then 1 else 0
  | i + 1, z => sumZ (fun m => if a i m = true then dW a c i (z - c i m) else 0) 10
def tt_ (_ _ : Nat) : Bool := true
def CB (c : Nat → Nat → Int) (s : Nat) : Prop := ∀ i, i < s → ∀ m, m < 10 → 0 ≤ c i m ∧ c i m ≤ 10
theorem dW_neg {a : Nat → Nat → Bool} {c : Nat → Nat → Int} {s : Nat} (hc : CB c s) : ∀ (i : Nat) (z : Int), i ≤ s → z < 0 → dW a c i z = 0
  | 0, z, _, h => by rw [dW, if_neg (by omega)]
  | i + 1, z, hi, h => by
    rw [dW]
    refine sumZ_zero (fun m hm => ?_)
    have := hc i (by omega) m hm
    rw [dW_neg hc i (z - c i m) (by omega) (by omega)]
    split <;> rfl
theorem dW_big {a : Nat → Nat → Bool} {c : Nat → Nat → Int} {s : Nat} (hc : CB c s) : ∀ (i : Nat) (z : Int), i ≤ s → 10 * (i : Int) < z → dW a c i z = 0
  | 0, z, _, h => by rw [dW, if_neg (by omega)]
  | i + 1, z, hi, h => by
    rw [dW]
    refine sumZ_zero (fun m hm => ?_)
    have := hc i (by omega) m hm
    rw [dW_big hc i (z - c i m) (by omega) (by omega)]
    split <;> rfl
theorem dW_rng (a : Nat → Nat → Bool) (c : Nat → Nat → Int) : ∀ (i : Nat) (z : Int), 0 ≤ dW a c i z ∧ dW a c i z ≤ 10 ^ i
  | 0, z => by rw [dW]; split <;> simp
  | i + 1, z => by
    rw [dW]
    have := @sumZ_rng (fun m => if a i m = true then dW a c i (z - c i m) else 0) 0 (10 ^ i) 10 (fun m hm => by
      have h := dW_rng a c i (z - c i m)
      try dsimp only
      split <;> omega)
    rw [Int.pow_succ]
    omega
theorem dW_le {a : Nat → Nat → Bool} {c : Nat → Nat → Int} {i : Nat} (h : i ≤ 5) (z : Int) : 0 ≤ dW a c i z ∧ dW a c i z ≤ 100000 := by
  have h1 := dW_rng a c i z
  have h2 : (10 : Int) ^ i ≤ 100000 := by
    have : i = 0 ∨ i = 1 ∨ i = 2 ∨ i = 3 ∨ i = 4 ∨ i = 5 := by omega
    rcases this with rfl | rfl | rfl | rfl | rfl | rfl <;> decide
  omega
theorem dW_congr {a b : Nat → Nat → Bool} {c d : Nat → Nat → Int} : ∀ (i : Nat) (z : Int), (∀ j, j < i → ∀ m, m < 10 → a j m = b j m ∧ c j m = d j m) → dW a c i z = dW b d i z
  | 0, z, _ => by rw [dW, dW]
  | i + 1, z, h => by
    rw [dW, dW]
    refine sumZ_congr (fun m hm => ?_)
    obtain ⟨h1, h2⟩ := h i (by omega) m hm
    rw [h1, h2, dW_congr i _ (fun j hj => h j (by omega))]
/-- from behind -/
def rv (c : Nat → Nat → Int) (s : Nat) : Nat → Nat → Int := fun i m => c (s - 1 - i) m
theorem rv_CB {c : Nat → Nat → Int} {s : Nat} (h : CB c s) : CB (rv c s) s := fun i hi m hm => h (s - 1 - i) (by omega) m hm
def cvZ (D E : Int → Int) (n : Nat) : Int := sumZ (fun b => D (b : Int) * E ((n : Int) - b)) (n + 1)
theorem cv_sh1 {D E : Int → Int} (hD : ∀ z, z < 0 → D z = 0) (hE : ∀ z, z < 0 → E z = 0) (n : Nat) : sumZ (fun b => D ((b : Int) - 1) * E ((n : Int) - b)) (n + 1) = sumZ (fun b => D (b : Int) * E ((n : Int) - 1 - b)) (n + 1) := by
  rw [sumZ_front, sumZ_s, hD (((0 : Nat) : Int) - 1) (by omega), hE ((n : Int) - 1 - n) (by omega)]
  simp only [Int.zero_mul, Int.mul_zero, Int.zero_add, Int.add_zero]
  refine sumZ_congr (fun i _ => ?_)
  rw [show ((i + 1 : Nat) : Int) - 1 = (i : Int) by omega, show (n : Int) - ((i + 1 : Nat) : Int) = (n : Int) - 1 - i by omega]
theorem cv_sh (n : Nat) : ∀ (k : Nat) (D E : Int → Int), (∀ z, z < 0 → D z = 0) → (∀ z, z < 0 → E z = 0) → sumZ (fun b => D ((b : Int) - k) * E ((n : Int) - b)) (n + 1) = sumZ (fun b => D (b : Int) * E ((n : Int) - k - b)) (n + 1)
  | 0, D, E, _, _ => by simp
  | k + 1, D, E, hD, hE => by
    have h1 := cv_sh n k (fun z => D (z - 1)) E (fun z hz => hD _ (by omega)) hE
    have h2 := @cv_sh1 D (fun z => E (z - k)) hD (fun z hz => hE _ (by omega)) n
    have e1 : sumZ (fun b => D ((b : Int) - ((k + 1 : Nat) : Int)) * E ((n : Int) - b)) (n + 1) = sumZ (fun b => D ((b : Int) - k - 1) * E ((n : Int) - b)) (n + 1) := sumZ_congr (fun i _ => by rw [show (i : Int) - ((k + 1 : Nat) : Int) = (i : Int) - k - 1 by omega])
    have e2 : sumZ (fun b => D (b : Int) * E ((n : Int) - ((k + 1 : Nat) : Int) - b)) (n + 1) = sumZ (fun b => D (b : Int) * E ((n : Int) - 1 - b - k)) (n + 1) := sumZ_congr (fun i _ => by rw [show (n : Int) - ((k + 1 : Nat) : Int) - i = (n : Int) - 1 - i - k by omega])
    have e3 : sumZ (fun b => D ((b : Int) - 1) * E ((n : Int) - k - b)) (n + 1) = sumZ (fun b => D ((b : Int) - 1) * E ((n : Int) - b - k)) (n + 1) := sumZ_congr (fun i _ => by rw [show (n : Int) - k - i = (n : Int) - i - k by omega])
    rw [e1, e2, ← h2, ← e3]
    exact h1
theorem cv_sh' (n : Nat) {k : Int} (hk : 0 ≤ k) {D E : Int → Int} (hD : ∀ z, z < 0 → D z = 0) (hE : ∀ z, z < 0 → E z = 0) : sumZ (fun b => D ((b : Int) - k) * E ((n : Int) - b)) (n + 1) = sumZ (fun b => D (b : Int) * E ((n : Int) - k - b)) (n + 1) := by
  obtain ⟨q, rfl⟩ : ∃ q : Nat, k = q := ⟨k.toNat, by omega⟩
  exact cv_sh n q D E hD hE
theorem cv_step {a : Nat → Nat → Bool} {c : Nat → Nat → Int} {s : Nat} (hc : CB c s) (i : Nat) (hi : i < s) (ha : ∀ m, m < 10 → a i m = true) (n : Nat) : cvZ (dW a c (i + 1)) (dW tt_ (rv c s) (s - (i + 1))) n = cvZ (dW a c i) (dW tt_ (rv c s) (s - i)) n := by
  unfold cvZ
  obtain ⟨d, hd⟩ : ∃ d, s - i = d + 1 := ⟨s - i - 1, by omega⟩
  have hd' : s - (i + 1) = d := by omega
  rw [hd, hd']
  have e1 : ∀ b : Nat, dW a c (i + 1) (b : Int) * dW tt_ (rv c s) d ((n : Int) - b) = sumZ (fun m => dW a c i ((b : Int) - c i m) * dW tt_ (rv c s) d ((n : Int) - b)) 10 := fun b => by
    rw [dW, sumZ_mulr]
    congr 1
    exact sumZ_congr (fun m hm => by rw [if_pos (ha m hm)])
  have e2 : ∀ b : Nat, dW a c i (b : Int) * dW tt_ (rv c s) (d + 1) ((n : Int) - b) = sumZ (fun m => dW a c i (b : Int) * dW tt_ (rv c s) d ((n : Int) - c i m - b)) 10 := fun b => by
    rw [dW, sumZ_mull]
    congr 1
    refine sumZ_congr (fun m hm => ?_)
    have : rv c s d m = c i m := by unfold rv; rw [show s - 1 - d = i by omega]
    rw [this, show (n : Int) - b - c i m = (n : Int) - c i m - b by omega]
    simp [tt_]
  rw [sumZ_congr (fun b _ => e1 b), sumZ_congr (fun b _ => e2 b)]
  refine (sumZ_comm _ _ _).trans (Eq.trans ?_ (sumZ_comm _ _ _).symm)
  refine sumZ_congr (fun m hm => ?_)
  exact cv_sh' n (hc i hi m hm).1 (fun z hz => dW_neg hc i z (by omega) hz) (fun z hz => dW_neg (rv_CB hc) d z (by omega) hz)
theorem cv_end {a : Nat → Nat → Bool} {c : Nat → Nat → Int} {s : Nat} (hc : CB c s) (i : Nat) (ha : ∀ j, i ≤ j → j < s → ∀ m, m < 10 → a j m = true) (n : Nat) : ∀ k, i + k ≤ s → cvZ (dW a c (i + k)) (dW tt_ (rv c s) (s - (i + k))) n = cvZ (dW a c i) (dW tt_ (rv c s) (s - i)) n
  | 0, _ => rfl
  | k + 1, h => (cv_step hc (i + k) (by omega) (fun m hm => ha (i + k) (by omega) (by omega) m hm) n).trans (cv_end hc i ha n k (by omega))
theorem cv_full {a : Nat → Nat → Bool} {c : Nat → Nat → Int} {s : Nat} (hc : CB c s) (i : Nat) (hi : i ≤ s) (ha : ∀ j, i ≤ j → j < s → ∀ m, m < 10 → a j m = true) (n : Nat) : dW a c s n = cvZ (dW a c i) (dW tt_ (rv c s) (s - i)) n := by
  have h := cv_end hc i ha n (s - i) (by omega)
  rw [show i + (s - i) = s by omega, Nat.sub_self] at h
  rw [← h]
  unfold cvZ
  rw [sumZ_one (k := n) (by omega) (fun b hb hne => by rw [show dW tt_ (rv c s) 0 ((n : Int) - b) = 0 by rw [dW, if_neg (by omega)], Int.mul_zero])]
  rw [show dW tt_ (rv c s) 0 ((n : Int) - n) = 1 by rw [dW, if_pos (by omega)], Int.mul_one]
/-- house i has m0 mouths -/
def on_ (i m0 : Nat) : Nat → Nat → Bool := fun j m => !decide (j = i) || decide (m = m0)
theorem dW_on {c : Nat → Nat → Int} {s : Nat} (hc : CB c s) (i m0 : Nat) (hi : i < s) (hm : m0 < 10) (n : Nat) : dW (on_ i m0) c s n = sumZ (fun b => dW tt_ c i (b : Int) * dW tt_ (rv c s) (s - (i + 1)) ((n : Int) - c i m0 - b)) (n + 1) := by
  rw [cv_full hc (i + 1) (by omega) (fun j h1 h2 m hm => by simp [on_]; omega) n]
  unfold cvZ
  have k0 := (hc i hi m0 hm).1
  rw [← cv_sh' n k0 (fun z hz => dW_neg hc i z (by omega) hz) (fun z hz => dW_neg (rv_CB hc) (s - (i + 1)) z (by omega) hz)]
  refine sumZ_congr (fun b _ => ?_)
  congr 1
  rw [dW, sumZ_one (k := m0) hm (fun m h1 h2 => by rw [if_neg (by simp [on_, h2])]), if_pos (by simp [on_])]
  exact dW_congr i _ (fun j hj m hm => ⟨by simp [on_, tt_]; omega, rfl⟩)
/-- as the class sums it -/
theorem dW_on' {c : Nat → Nat → Int} {s : Nat} (hc : CB c s) (i m0 : Nat) (hi : i < s) (hm : m0 < 10) (n : Nat) : dW (on_ i m0) c s n = sumZ (fun b => dW tt_ c i (b : Int) * dW tt_ (rv c s) (s - (i + 1)) ((n : Int) - c i m0 - b)) ((n : Int) - c i m0 + 1).toNat := by
  rw [dW_on hc i m0 hi hm n]
  have k0 := (hc i hi m0 hm).1
  obtain ⟨k, hk⟩ : ∃ k, n + 1 = ((n : Int) - c i m0 + 1).toNat + k := ⟨n + 1 - ((n : Int) - c i m0 + 1).toNat, by omega⟩
  rw [hk]
  refine sumZ_cut (fun b hb => ?_)
  rw [dW_neg (rv_CB hc) (s - (i + 1)) _ (by omega) (by omega), Int.mul_zero]
