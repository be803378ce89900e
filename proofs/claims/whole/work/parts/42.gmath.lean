/-! bits, and the most that can be hidden by so many houses -/
theorem bit_r : ∀ S : Nat, S < 256 → ∀ h : Nat, h < 8 → am_and (am_shr (S : Int) (h : Int)) 1 = if S.testBit h = true then 1 else 0 := by decide +kernel
theorem bit_o : ∀ S : Nat, S < 256 → ∀ h : Nat, h < 8 → am_or (S : Int) (am_shl 1 (h : Int)) = ((S ||| 2 ^ h : Nat) : Int) := by decide +kernel
theorem bit_x : ∀ S : Nat, S < 256 → ∀ h : Nat, h < 8 → S.testBit h = true → am_and (S : Int) (am_xor (am_shl 1 (h : Int)) (-1)) = ((S - 2 ^ h : Nat) : Int) := by decide +kernel
theorem bit_a : ∀ n : Nat, n < 9 → nz (am_shl 1 (n : Int) - 1) = ((2 ^ n - 1 : Nat) : Int) := by decide +kernel
theorem bit_l : ∀ n : Nat, n < 9 → am_shl 1 (n : Int) = ((2 ^ n : Nat) : Int) := by decide +kernel
def pcZ (S : Nat) : Int := sumZ (fun h => if S.testBit h = true then 1 else 0) 8
theorem pcZ_rng (S : Nat) : 0 ≤ pcZ S ∧ pcZ S ≤ 8 := by
  have := @sumZ_rng (fun h => if S.testBit h = true then 1 else 0) 0 1 8 (fun i _ => by (try dsimp only); split <;> omega)
  unfold pcZ
  omega
theorem or_lt : ∀ S : Nat, S < 256 → ∀ h : Nat, h < 8 → S ||| 2 ^ h < 256 := by decide +kernel
theorem pc_or : ∀ S : Nat, S < 256 → ∀ h : Nat, h < 8 → S.testBit h = false → pcZ (S ||| 2 ^ h) = pcZ S + 1 := by decide +kernel
theorem pc_sub : ∀ S : Nat, S < 256 → ∀ h : Nat, h < 8 → S.testBit h = true → pcZ (S - 2 ^ h) + 1 = pcZ S := by decide +kernel
theorem pc_0 : pcZ 0 = 0 := by decide +kernel
theorem pc_all : ∀ n : Nat, n < 9 → pcZ (2 ^ n - 1) = (n : Int) := by decide +kernel
theorem tb_or (S h k : Nat) : (S ||| 2 ^ h).testBit k = (S.testBit k || decide (h = k)) := by rw [Nat.testBit_or, Nat.testBit_two_pow]
theorem or_lt_n {S n h : Nat} (hS : S < 2 ^ n) (hh : h < n) : S ||| 2 ^ h < 2 ^ n := Nat.or_lt_two_pow hS (Nat.pow_lt_pow_right (by omega) hh)
theorem tb_lt {S n h : Nat} (hS : S < 2 ^ n) (hh : n ≤ h) : S.testBit h = false := Nat.testBit_lt_two_pow (Nat.lt_of_lt_of_le hS (Nat.pow_le_pow_right (by omega) hh))
theorem pow8 {n : Nat} (hn : n ≤ 8) : 2 ^ n ≤ 256 := Nat.le_trans (Nat.pow_le_pow_right (by omega) hn) (by decide)
theorem pc_n {S n : Nat} (hn : n ≤ 8) (hS : S < 2 ^ n) : pcZ S = sumZ (fun h => if S.testBit h = true then 1 else 0) n := by
  unfold pcZ
  obtain ⟨k, hk⟩ : ∃ k, 8 = n + k := ⟨8 - n, by omega⟩
  rw [hk]
  exact sumZ_cut (fun i hi => by rw [tb_lt hS hi]; rfl)
/-- hidden by the houses of a set -/
def hdZ (v : Nat → Int) (n S : Nat) : Int := sumZ (fun h => if S.testBit h = true then v h else 0) n
theorem sumZ_le {f g : Nat → Int} : ∀ {n : Nat}, (∀ i, i < n → f i ≤ g i) → sumZ f n ≤ sumZ g n
  | 0, _ => by simp [sumZ_0]
  | n + 1, h => by
    have h1 := sumZ_le (n := n) (fun i hi => h i (by omega))
    have h2 := h n (by omega)
    rw [sumZ_s, sumZ_s]; omega
/-- a set of those that hide most hides most -/
theorem hd_top {v : Nat → Int} {n S T : Nat} {t : Int} (hn : n ≤ 8) (hS : S < 2 ^ n) (hT : T < 2 ^ n) (ht : 0 ≤ t) (h1 : ∀ i, i < n → T.testBit i = true → t ≤ v i) (h2 : ∀ i, i < n → T.testBit i = false → v i ≤ t) (hp : pcZ S ≤ pcZ T) : hdZ v n S ≤ hdZ v n T := by
  have k : sumZ (fun h => (if S.testBit h = true then v h else 0) - (if S.testBit h = true then 1 else 0) * t) n ≤ sumZ (fun h => (if T.testBit h = true then v h else 0) - (if T.testBit h = true then 1 else 0) * t) n := by
    refine sumZ_le (fun i hi => ?_)
    have a1 := h1 i hi
    have a2 := h2 i hi
    rcases hs : S.testBit i with _ | _ <;> rcases htt : T.testBit i with _ | _
    · simp
    · have := a1 htt; simp; omega
    · have := a2 htt; simp; omega
    · simp
  rw [sumZ_sub, sumZ_sub, sumZ_mulr, sumZ_mulr, ← pc_n hn hS, ← pc_n hn hT] at k
  have m : 0 ≤ (pcZ T - pcZ S) * t := Int.mul_nonneg (by omega) ht
  rw [Int.sub_mul] at m
  unfold hdZ
  omega
theorem hd_all {v : Nat → Int} {n S : Nat} (hv : ∀ i, i < n → 0 ≤ v i) : hdZ v n S ≤ hdZ v n (2 ^ n - 1) := by
  refine sumZ_le (fun i hi => ?_)
  have := hv i hi
  rw [Nat.testBit_two_pow_sub_one]
  simp [hi]
  split <;> omega
/-- the first of those beside the set that hide most -/
def agZ (v : Nat → Int) (T : Nat) : Nat → Int × Nat
  | 0 => (-1, 0)
  | h + 1 => if T.testBit h = false ∧ (agZ v T h).1 < v h then (v h, h) else agZ v T h
theorem agZ_ok {v : Nat → Int} {T : Nat} : ∀ (n : Nat), (∀ i, i < n → 0 ≤ v i) → (∀ b, b < n → T.testBit b = false → v b ≤ (agZ v T n).1) ∧ ((agZ v T n).1 = -1 ∧ (agZ v T n).2 = 0 ∧ (∀ b, b < n → T.testBit b = true) ∨ (agZ v T n).2 < n ∧ T.testBit (agZ v T n).2 = false ∧ v (agZ v T n).2 = (agZ v T n).1)
  | 0, _ => ⟨fun b hb => absurd hb (by omega), Or.inl ⟨rfl, rfl, fun b hb => absurd hb (by omega)⟩⟩
  | n + 1, hv => by
    obtain ⟨h1, h2⟩ := agZ_ok n (fun i hi => hv i (by omega))
    have hvn := hv n (by omega)
    rw [agZ]
    by_cases c : T.testBit n = false ∧ (agZ v T n).1 < v n
    · rw [if_pos c]
      refine ⟨fun b hb hT => ?_, Or.inr ⟨by dsimp only; omega, c.1, rfl⟩⟩
      by_cases e : b = n
      · subst e; exact Int.le_refl _
      · have := h1 b (by omega) hT; dsimp only; omega
    · rw [if_neg c]
      refine ⟨fun b hb hT => ?_, ?_⟩
      · by_cases e : b = n
        · subst e
          by_cases q : (agZ v T b).1 < v b
          · exact absurd ⟨hT, q⟩ c
          · omega
        · exact h1 b (by omega) hT
      · rcases h2 with ⟨a1, a2, a3⟩ | ⟨a1, a2, a3⟩
        · refine Or.inl ⟨a1, a2, fun b hb => ?_⟩
          by_cases e : b = n
          · subst e
            by_cases q : T.testBit b = true
            · exact q
            · exact absurd ⟨by simpa using q, by omega⟩ c
          · exact a3 b (by omega)
        · exact Or.inr ⟨by omega, a2, a3⟩
def grZ (v : Nat → Int) (n : Nat) : Nat → Nat
  | 0 => 0
  | k + 1 => grZ v n k ||| 2 ^ (agZ v (grZ v n k) n).2
theorem all_pc {n T : Nat} (hn : n ≤ 8) (hT : T < 2 ^ n) (h : ∀ b, b < n → T.testBit b = true) : pcZ T = n := by
  rw [pc_n hn hT]
  have : ∀ k, k ≤ n → sumZ (fun h => if T.testBit h = true then 1 else 0) k = (k : Int) := by
    intro k
    induction k with
    | zero => intro _; rfl
    | succ k ih => intro hk; rw [sumZ_s, ih (by omega), h k (by omega)]; simp
  exact this n (by omega)
theorem grZ_ok {v : Nat → Int} {n : Nat} (hn : n ≤ 8) (hv : ∀ i, i < n → 0 ≤ v i) : ∀ k, k ≤ n → grZ v n k < 2 ^ n ∧ pcZ (grZ v n k) = k ∧ ∀ a b, a < n → b < n → (grZ v n k).testBit a = true → (grZ v n k).testBit b = false → v b ≤ v a
  | 0, _ => ⟨Nat.two_pow_pos n, pc_0, fun a b _ _ h => by simp [grZ] at h⟩
  | k + 1, hk => by
    obtain ⟨h1, h2, h3⟩ := grZ_ok hn hv k (by omega)
    obtain ⟨g1, g2⟩ := @agZ_ok v (grZ v n k) n hv
    rcases g2 with ⟨a1, a2, a3⟩ | ⟨a1, a2, a3⟩
    · have := all_pc hn h1 a3
      omega
    · have p8 := pow8 hn
      refine ⟨or_lt_n h1 a1, ?_, fun a b ha hb hA hB => ?_⟩
      · rw [grZ, pc_or _ (by omega) _ (by omega) a2, h2]; omega
      · rw [grZ, tb_or] at hA hB
        simp only [Bool.or_eq_true, Bool.or_eq_false_iff, decide_eq_true_eq, decide_eq_false_iff_not] at hA hB
        rcases hA with hA | hA
        · exact h3 a b ha hb hA hB.1
        · subst hA; rw [a3]; exact g1 b hb hB.1
/-- so many hide no more than the greedy choice -/
theorem gr_max {v : Nat → Int} {n : Nat} (hn : n ≤ 8) (hv : ∀ i, i < n → 0 ≤ v i) {k S : Nat} (hk : k ≤ n) (hS : S < 2 ^ n) (hp : pcZ S ≤ k) : hdZ v n S ≤ hdZ v n (grZ v n k) := by
  obtain ⟨h1, h2, h3⟩ := grZ_ok hn hv k hk
  obtain ⟨g1, g2⟩ := @agZ_ok v (grZ v n k) n hv
  rcases g2 with ⟨a1, a2, a3⟩ | ⟨a1, a2, a3⟩
  · refine sumZ_le (fun i hi => ?_)
    rw [a3 i hi]
    have := hv i hi
    simp
    split <;> omega
  · refine hd_top (t := v (agZ v (grZ v n k) n).2) hn hS h1 (hv _ a1) (fun i hi hT => h3 i _ hi a1 hT a2) (fun i hi hT => by rw [a3]; exact g1 i hi hT) (by omega)
