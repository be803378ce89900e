/-! ways to lead spoons to mouths, in numbers -/
theorem sumZ_app (f : Nat → Int) (a : Nat) : ∀ b : Nat, sumZ f (a + b) = sumZ f a + sumZ (fun i => f (a + i)) b
  | 0 => by simp [sumZ_0]
  | b + 1 => by rw [← Nat.add_assoc, sumZ_s, sumZ_app f a b, sumZ_s]; omega
theorem or_pow {t n : Nat} (h : t < 2 ^ n) : t ||| 2 ^ n = 2 ^ n + t := by
  have := Nat.two_pow_add_eq_or_of_lt h 1
  rw [Nat.mul_one] at this
  rw [this, Nat.or_comm]
theorem or_hi {t n m : Nat} (h : t < 2 ^ n) (hm : m < n) : (2 ^ n + t) ||| 2 ^ m = 2 ^ n + (t ||| 2 ^ m) := by
  rw [← or_pow h, ← or_pow (or_lt_n h hm), Nat.or_assoc, Nat.or_comm (2 ^ n), ← Nat.or_assoc]
/-- sets with m, against sets without it -/
theorem set_ex : ∀ (n m : Nat) (g : Nat → Int), m < n → sumZ (fun t => if t.testBit m = true then g t else 0) (2 ^ n) = sumZ (fun t => if t.testBit m = true then 0 else g (t ||| 2 ^ m)) (2 ^ n)
  | 0, m, g, h => absurd h (by omega)
  | n + 1, m, g, h => by
    rw [Nat.pow_succ, Nat.mul_two, sumZ_app, sumZ_app]
    by_cases e : m = n
    · subst e
      rw [sumZ_zero (n := 2 ^ m) (f := fun t => if t.testBit m = true then g t else 0) (fun t ht => by rw [tb_lt ht (Nat.le_refl _)]; rfl)]
      rw [sumZ_zero (n := 2 ^ m) (f := fun i => if (2 ^ m + i).testBit m = true then 0 else g (2 ^ m + i ||| 2 ^ m)) (fun t ht => by rw [Nat.testBit_two_pow_add_eq, tb_lt ht (Nat.le_refl _)]; rfl)]
      rw [Int.zero_add, Int.add_zero]
      refine sumZ_congr (fun t ht => ?_)
      try dsimp only
      rw [Nat.testBit_two_pow_add_eq, tb_lt ht (Nat.le_refl _), or_pow ht]
      rfl
    · have hm : m < n := by omega
      rw [set_ex n m g hm]
      congr 1
      have := set_ex n m (fun t => g (2 ^ n + t)) hm
      rw [sumZ_congr (g := fun t => if t.testBit m = true then g (2 ^ n + t) else 0) (fun t ht => by rw [Nat.testBit_two_pow_add_gt hm]), this]
      refine sumZ_congr (fun t ht => ?_)
      try dsimp only
      rw [Nat.testBit_two_pow_add_gt hm, or_hi ht hm]
/-- ways to go on from a set taken, k spoons being left -/
def bhZ (ok : Nat → Nat → Bool) (n : Nat) : Nat → Nat → Int
  | 0, _ => 1
  | k + 1, t => sumZ (fun m => if t.testBit m = false ∧ ok (n - (k + 1)) m = true then bhZ ok n k (t ||| 2 ^ m) else 0) n
/-- ways to come to a set by the first k spoons -/
def fwZ (ok : Nat → Nat → Bool) (n : Nat) : Nat → Nat → Int
  | 0, t => if t = 0 then 1 else 0
  | k + 1, t => sumZ (fun m => if t.testBit m = true ∧ ok k m = true then fwZ ok n k (t - 2 ^ m) else 0) n
theorem bhZ_rng (ok : Nat → Nat → Bool) (n : Nat) : ∀ (k t : Nat), 0 ≤ bhZ ok n k t ∧ bhZ ok n k t ≤ (n : Int) ^ k
  | 0, t => by rw [bhZ]; simp
  | k + 1, t => by
    rw [bhZ]
    have := @sumZ_rng (fun m => if t.testBit m = false ∧ ok (n - (k + 1)) m = true then bhZ ok n k (t ||| 2 ^ m) else 0) 0 ((n : Int) ^ k) n (fun m _ => by
      have h1 := bhZ_rng ok n k (t ||| 2 ^ m)
      try dsimp only
      split <;> omega)
    rw [Int.pow_succ]
    omega
theorem fwZ_rng (ok : Nat → Nat → Bool) (n : Nat) : ∀ (k t : Nat), 0 ≤ fwZ ok n k t ∧ fwZ ok n k t ≤ (n : Int) ^ k
  | 0, t => by rw [fwZ]; split <;> simp
  | k + 1, t => by
    rw [fwZ]
    have := @sumZ_rng (fun m => if t.testBit m = true ∧ ok k m = true then fwZ ok n k (t - 2 ^ m) else 0) 0 ((n : Int) ^ k) n (fun m _ => by
      have h1 := fwZ_rng ok n k (t - 2 ^ m)
      try dsimp only
      split <;> omega)
    rw [Int.pow_succ]
    omega
theorem pc_z : ∀ t : Nat, t < 256 → pcZ t = 0 → t = 0 := by decide +kernel
theorem pc_f : ∀ n : Nat, n < 9 → ∀ t : Nat, t < 256 → t < 2 ^ n → pcZ t = (n : Int) → t = 2 ^ n - 1 := by decide +kernel
theorem or_sub : ∀ t : Nat, t < 256 → ∀ m : Nat, m < 8 → t.testBit m = false → (t ||| 2 ^ m) - 2 ^ m = t := by decide +kernel
theorem sub_or : ∀ t : Nat, t < 256 → ∀ m : Nat, m < 8 → t.testBit m = true → (t - 2 ^ m) ||| 2 ^ m = t ∧ (t - 2 ^ m).testBit m = false ∧ t - 2 ^ m < t := by decide +kernel
theorem or_gt : ∀ t : Nat, t < 256 → ∀ m : Nat, m < 8 → t.testBit m = false → t < t ||| 2 ^ m := by decide +kernel
theorem tb_sub : ∀ t : Nat, t < 256 → ∀ m : Nat, m < 8 → t.testBit m = true → ∀ k : Nat, k < 8 → (t - 2 ^ m).testBit k = (t.testBit k && !decide (k = m)) := by decide +kernel
theorem fwZ_pc {ok : Nat → Nat → Bool} {n : Nat} (hn : n ≤ 8) : ∀ (k t : Nat), t < 256 → ¬ pcZ t = k → fwZ ok n k t = 0
  | 0, t, ht, h => by rw [fwZ, if_neg (fun e => h (by subst e; exact pc_0))]
  | k + 1, t, ht, h => by
    rw [fwZ]
    refine sumZ_zero (fun m hm => ?_)
    by_cases c : t.testBit m = true ∧ ok k m = true
    · rw [if_pos c]
      have := pc_sub t ht m (by omega) c.1
      have := Nat.sub_le t (2 ^ m)
      exact fwZ_pc hn k (t - 2 ^ m) (by omega) (by omega)
    · rw [if_neg c]
theorem fwZ_congr {ok ok' : Nat → Nat → Bool} {n : Nat} : ∀ (k t : Nat), (∀ j, j < k → ∀ m, m < n → ok j m = ok' j m) → fwZ ok n k t = fwZ ok' n k t
  | 0, t, _ => by rw [fwZ, fwZ]
  | k + 1, t, h => by
    rw [fwZ, fwZ]
    refine sumZ_congr (fun m hm => ?_)
    rw [h k (by omega) m hm, fwZ_congr k _ (fun j hj => h j (by omega))]
/-- by spoon k to mouth m -/
def smZ (ok : Nat → Nat → Bool) (n k m : Nat) : Int := sumZ (fun t => if t.testBit m = false ∧ ok k m = true then fwZ ok n k t * bhZ ok n (n - (k + 1)) (t ||| 2 ^ m) else 0) (2 ^ n)
def cutZ (ok' ok : Nat → Nat → Bool) (n k : Nat) : Int := sumZ (fun t => fwZ ok' n k t * bhZ ok n (n - k) t) (2 ^ n)
theorem cut_m {ok' ok : Nat → Nat → Bool} {n : Nat} (hn : n ≤ 8) (k : Nat) (hk : k < n) : cutZ ok' ok n (k + 1) = sumZ (fun m => sumZ (fun t => if t.testBit m = false ∧ ok' k m = true then fwZ ok' n k t * bhZ ok n (n - (k + 1)) (t ||| 2 ^ m) else 0) (2 ^ n)) n := by
  unfold cutZ
  have p8 := pow8 hn
  have e1 : ∀ t, t < 2 ^ n → fwZ ok' n (k + 1) t * bhZ ok n (n - (k + 1)) t = sumZ (fun m => if t.testBit m = true then (if ok' k m = true then fwZ ok' n k (t - 2 ^ m) * bhZ ok n (n - (k + 1)) t else 0) else 0) n := fun t ht => by
    rw [fwZ, ← sumZ_mulr]
    refine sumZ_congr (fun m hm => ?_)
    rcases h1 : t.testBit m with _ | _ <;> rcases h2 : ok' k m with _ | _ <;> simp
  rw [sumZ_congr e1, sumZ_comm]
  refine sumZ_congr (fun m hm => ?_)
  rw [set_ex n m _ hm]
  refine sumZ_congr (fun t ht => ?_)
  rcases h1 : t.testBit m with _ | _ <;> rcases h2 : ok' k m with _ | _ <;> simp
  rw [or_sub t (by omega) m (by omega) h1]
theorem cut_k {ok' ok : Nat → Nat → Bool} {n : Nat} (hn : n ≤ 8) (k : Nat) (hk : k < n) : cutZ ok' ok n k = sumZ (fun m => sumZ (fun t => if t.testBit m = false ∧ ok k m = true then fwZ ok' n k t * bhZ ok n (n - (k + 1)) (t ||| 2 ^ m) else 0) (2 ^ n)) n := by
  unfold cutZ
  obtain ⟨d, hd⟩ : ∃ d, n - k = d + 1 := ⟨n - k - 1, by omega⟩
  rw [show n - (k + 1) = d by omega, hd]
  have e1 : ∀ t, t < 2 ^ n → fwZ ok' n k t * bhZ ok n (d + 1) t = sumZ (fun m => if t.testBit m = false ∧ ok k m = true then fwZ ok' n k t * bhZ ok n d (t ||| 2 ^ m) else 0) n := fun t ht => by
    rw [bhZ, ← sumZ_mull, show n - (d + 1) = k by omega]
    refine sumZ_congr (fun m hm => ?_)
    split <;> simp
  rw [sumZ_congr e1, sumZ_comm]
theorem cut_s {ok' ok : Nat → Nat → Bool} {n : Nat} (hn : n ≤ 8) (k : Nat) (hk : k < n) (h : ∀ m, m < n → ok' k m = ok k m) : cutZ ok' ok n (k + 1) = cutZ ok' ok n k := by
  rw [cut_m hn k hk, cut_k hn k hk]
  exact sumZ_congr (fun m hm => by rw [h m hm])
theorem cut_n {ok' ok : Nat → Nat → Bool} {n : Nat} (hn : n ≤ 8) (k : Nat) (h : ∀ j, k ≤ j → j < n → ∀ m, m < n → ok' j m = ok j m) : ∀ d, k + d ≤ n → cutZ ok' ok n (k + d) = cutZ ok' ok n k
  | 0, _ => rfl
  | d + 1, hd => (cut_s hn (k + d) (by omega) (h (k + d) (by omega) (by omega))).trans (cut_n hn k h d (by omega))
theorem cut_all {ok' ok : Nat → Nat → Bool} {n : Nat} (hn : n ≤ 8) : cutZ ok' ok n n = fwZ ok' n n (2 ^ n - 1) := by
  unfold cutZ
  have p8 := pow8 hn
  have p0 := Nat.two_pow_pos n
  rw [sumZ_one (k := 2 ^ n - 1) (by omega) (fun t ht hne => by
    rw [fwZ_pc hn n t (by omega) (fun e => hne (pc_f n (by omega) t (by omega) ht e)), Int.zero_mul]), Nat.sub_self, bhZ, Int.mul_one]
theorem cut_0 {ok' ok : Nat → Nat → Bool} {n : Nat} : cutZ ok' ok n 0 = bhZ ok n n 0 := by
  unfold cutZ
  have p0 := Nat.two_pow_pos n
  rw [sumZ_one (k := 0) p0 (fun t ht hne => by rw [fwZ, if_neg hne, Int.zero_mul]), fwZ, if_pos rfl, Int.one_mul, Nat.sub_zero]
/-- all ways, by where spoon k goes -/
theorem sm_sum {ok : Nat → Nat → Bool} {n : Nat} (hn : n ≤ 8) (k : Nat) (hk : k < n) : sumZ (fun m => smZ ok n k m) n = bhZ ok n n 0 := by
  have h := cut_n (ok' := ok) (ok := ok) hn 0 (fun _ _ _ _ _ => rfl) k (by omega)
  rw [Nat.zero_add, cut_0] at h
  rw [← h, cut_k hn k hk]
  rfl
def onZ (ok : Nat → Nat → Bool) (k m0 : Nat) : Nat → Nat → Bool := fun j m => ok j m && (!decide (j = k) || decide (m = m0))
/-- ways by which spoon k goes to m0 -/
theorem sm_on {ok : Nat → Nat → Bool} {n : Nat} (hn : n ≤ 8) (k m0 : Nat) (hk : k < n) (hm0 : m0 < n) : fwZ (onZ ok k m0) n n (2 ^ n - 1) = smZ ok n k m0 := by
  have h := cut_n (ok' := onZ ok k m0) (ok := ok) hn (k + 1) (fun j h1 h2 m hm => by simp [onZ]; omega) (n - (k + 1)) (by omega)
  rw [show k + 1 + (n - (k + 1)) = n by omega, cut_all hn, cut_m hn k hk] at h
  rw [h, sumZ_one (k := m0) hm0 (fun m hm hne => sumZ_zero (fun t ht => by rw [if_neg (by simp [onZ, hne])]))]
  unfold smZ
  refine sumZ_congr (fun t ht => ?_)
  have e : onZ ok k m0 k m0 = ok k m0 := by simp [onZ]
  rw [e, fwZ_congr (ok' := ok) k t (fun j hj m hm => by simp [onZ]; omega)]
theorem sm_nn (ok : Nat → Nat → Bool) (n k m : Nat) : 0 ≤ smZ ok n k m := by
  unfold smZ
  have := @sumZ_le (fun _ => 0) (fun t => if t.testBit m = false ∧ ok k m = true then fwZ ok n k t * bhZ ok n (n - (k + 1)) (t ||| 2 ^ m) else 0) (2 ^ n) (fun t ht => by
    try dsimp only
    split
    · exact Int.mul_nonneg (fwZ_rng ok n k t).1 (bhZ_rng ok n _ _).1
    · exact Int.le_refl _)
  rw [sumZ_zero (f := fun _ => 0) (fun _ _ => rfl)] at this
  exact this
theorem sumZ_ge {f : Nat → Int} {n k : Nat} (h : ∀ i, i < n → 0 ≤ f i) (hk : k < n) : f k ≤ sumZ f n := by
  have e : sumZ (fun i => if i = k then f k else 0) n = f k := by
    rw [sumZ_one hk (fun i _ hne => if_neg hne), if_pos rfl]
  rw [← e]
  refine sumZ_le (fun i hi => ?_)
  have := h i hi
  split
  · rename_i q; subst q; exact Int.le_refl _
  · exact this
/-- if all ways lead spoon k to m, no way leads it elsewhere -/
theorem sm_uni {ok : Nat → Nat → Bool} {n : Nat} (hn : n ≤ 8) {k m m1 : Nat} (hk : k < n) (hm : m < n) (hm1 : m1 < n) (h : smZ ok n k m = bhZ ok n n 0) (h1 : 1 ≤ smZ ok n k m1) : m = m1 := by
  by_cases e : m = m1
  · exact e
  · have s := sm_sum (ok := ok) hn k hk
    have g : sumZ (fun i => (if i = m then smZ ok n k m else 0) + (if i = m1 then smZ ok n k m1 else 0)) n ≤ sumZ (fun i => smZ ok n k i) n := by
      refine sumZ_le (fun i hi => ?_)
      have := sm_nn ok n k i
      by_cases a : i = m
      · subst a; rw [if_pos rfl, if_neg e]; omega
      · by_cases b : i = m1
        · subst b; rw [if_neg a, if_pos rfl]; omega
        · rw [if_neg a, if_neg b]; omega
    rw [sumZ_add, sumZ_one hm (fun i _ hne => if_neg hne), sumZ_one hm1 (fun i _ hne => if_neg hne), if_pos rfl, if_pos rfl, s] at g
    omega
