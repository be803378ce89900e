/-! leading: sets written down one by one, the first way, the most -/
def okZ (R M : Nat → Int) : Nat → Nat → Bool := fun j m => decide (absZ (R j - M m) ≤ 1)
def pN (t : Nat) : Nat := (pcZ t).toNat
theorem pN_e (t : Nat) : pcZ t = (pN t : Int) := by have := pcZ_rng t; unfold pN; omega
theorem pN_0 : pN 0 = 0 := by unfold pN; rw [pc_0]; rfl
theorem pN_8 (t : Nat) : pN t ≤ 8 := by have := pcZ_rng t; unfold pN; omega
theorem pN_le {n t : Nat} (hn : n ≤ 8) (ht : t < 2 ^ n) : pN t ≤ n := by
  have h := pc_n hn ht
  have := @sumZ_rng (fun h => if t.testBit h = true then 1 else 0) 0 1 n (fun i _ => by (try dsimp only); split <;> omega)
  unfold pN
  omega
theorem pN_all {n : Nat} (hn : n ≤ 8) : pN (2 ^ n - 1) = n := by
  have := pc_all n (by omega)
  unfold pN; omega
theorem pN_lt {n t : Nat} (hn : n ≤ 8) (ht : t < 2 ^ n) (hne : ¬ t = 2 ^ n - 1) : pN t < n := by
  have h := pN_le hn ht
  have p8 := pow8 hn
  by_cases e : pN t = n
  · exact absurd (pc_f n (by omega) t (by omega) ht (by rw [pN_e, e])) hne
  · omega
theorem pN_or {t m : Nat} (ht : t < 256) (hm : m < 8) (h : t.testBit m = false) : pN (t ||| 2 ^ m) = pN t + 1 := by
  have := pc_or t ht m hm h
  have := pcZ_rng t
  unfold pN; omega
theorem pN_sub {t m : Nat} (ht : t < 256) (hm : m < 8) (h : t.testBit m = true) : pN (t - 2 ^ m) + 1 = pN t := by
  have := pc_sub t ht m hm h
  have := pcZ_rng (t - 2 ^ m)
  unfold pN; omega
theorem pN_z {t : Nat} (ht : t < 256) (h : pN t = 0) : t = 0 := pc_z t ht (by rw [pN_e, h]; rfl)
theorem pw_le : ∀ n : Nat, n < 9 → ∀ k : Nat, k < 9 → (n : Int) ^ k ≤ 16777216 := by decide +kernel
def BH (ok : Nat → Nat → Bool) (n t : Nat) : Int := bhZ ok n (n - pN t) t
def FW (ok : Nat → Nat → Bool) (n t : Nat) : Int := fwZ ok n (pN t) t
theorem BH_rng {ok : Nat → Nat → Bool} {n : Nat} (hn : n ≤ 8) (t : Nat) : 0 ≤ BH ok n t ∧ BH ok n t ≤ 16777216 := by
  have h := bhZ_rng ok n (n - pN t) t
  have := pw_le n (by omega) (n - pN t) (by omega)
  unfold BH; omega
theorem FW_rng {ok : Nat → Nat → Bool} {n : Nat} (hn : n ≤ 8) (t : Nat) : 0 ≤ FW ok n t ∧ FW ok n t ≤ 16777216 := by
  have h := fwZ_rng ok n (pN t) t
  have := pw_le n (by omega) (pN t) (by have := pN_8 t; omega)
  unfold FW; omega
theorem BH_all {ok : Nat → Nat → Bool} {n : Nat} (hn : n ≤ 8) : BH ok n (2 ^ n - 1) = 1 := by
  unfold BH; rw [pN_all hn, Nat.sub_self, bhZ]
theorem BH_0 (ok : Nat → Nat → Bool) (n : Nat) : BH ok n 0 = bhZ ok n n 0 := by unfold BH; rw [pN_0, Nat.sub_zero]
theorem FW_0 (ok : Nat → Nat → Bool) (n : Nat) : FW ok n 0 = 1 := by unfold FW; rw [pN_0, fwZ, if_pos rfl]
theorem BH_s {ok : Nat → Nat → Bool} {n t : Nat} (hn : n ≤ 8) (ht : t < 2 ^ n) (hne : ¬ t = 2 ^ n - 1) : BH ok n t = sumZ (fun m => if t.testBit m = false ∧ ok (pN t) m = true then BH ok n (t ||| 2 ^ m) else 0) n := by
  have h := pN_lt hn ht hne
  have p8 := pow8 hn
  obtain ⟨d, hd⟩ : ∃ d, n - pN t = d + 1 := ⟨n - pN t - 1, by omega⟩
  unfold BH
  rw [hd, bhZ, show n - (d + 1) = pN t by omega]
  refine sumZ_congr (fun m hm => ?_)
  by_cases c : t.testBit m = false ∧ ok (pN t) m = true
  · rw [if_pos c, if_pos c, pN_or (by omega) (by omega) c.1, show n - (pN t + 1) = d by omega]
  · rw [if_neg c, if_neg c]
theorem FW_s {ok : Nat → Nat → Bool} {n t : Nat} (hn : n ≤ 8) (ht : t < 2 ^ n) (h0 : ¬ t = 0) : FW ok n t = sumZ (fun m => if t.testBit m = true ∧ ok (pN t - 1) m = true then FW ok n (t - 2 ^ m) else 0) n := by
  have p8 := pow8 hn
  have hp : ¬ pN t = 0 := fun e => h0 (pN_z (by omega) e)
  obtain ⟨d, hd⟩ : ∃ d, pN t = d + 1 := ⟨pN t - 1, by omega⟩
  unfold FW
  rw [hd, fwZ, Nat.add_sub_cancel]
  refine sumZ_congr (fun m hm => ?_)
  by_cases c : t.testBit m = true ∧ ok d m = true
  · have := pN_sub (t := t) (m := m) (by omega) (by omega) c.1
    rw [if_pos c, if_pos c, show pN (t - 2 ^ m) = d by omega]
  · rw [if_neg c, if_neg c]
theorem sumZ_upd {f g : Nat → Int} {n k : Nat} {d : Int} (hk : k < n) (h1 : g k = f k + d) (h2 : ∀ i, i < n → ¬ i = k → g i = f i) : sumZ g n = sumZ f n + d := by
  have e : sumZ (fun i => if i = k then d else 0) n = d := by
    rw [sumZ_one hk (fun i _ hne => if_neg hne), if_pos rfl]
  rw [sumZ_congr (g := fun i => f i + (if i = k then d else 0)) (fun i hi => by
    by_cases c : i = k
    · subst c; rw [if_pos rfl, h1]
    · rw [if_neg c, h2 i hi c]; omega), sumZ_add, e]
/-- ways ahead, written forward: sets below T done, of T the first M mouths -/
def aZ (ok : Nat → Nat → Bool) (n T M t : Nat) : Int := if t = 0 then 1 else sumZ (fun m => if (t.testBit m = true ∧ ok (pN t - 1) m = true) ∧ (t - 2 ^ m < T ∨ (t - 2 ^ m = T ∧ m < M)) then FW ok n (t - 2 ^ m) else 0) n
theorem aZ_fin {ok : Nat → Nat → Bool} {n T t : Nat} (M : Nat) (hn : n ≤ 8) (ht : t < 2 ^ n) (hT : t ≤ T) : aZ ok n T M t = FW ok n t := by
  have p8 := pow8 hn
  unfold aZ
  by_cases e : t = 0
  · subst e; rw [if_pos rfl, FW_0]
  · rw [if_neg e, FW_s hn ht e]
    refine sumZ_congr (fun m hm => ?_)
    by_cases c : t.testBit m = true ∧ ok (pN t - 1) m = true
    · have := (sub_or t (by omega) m (by omega) c.1).2.2
      rw [if_pos ⟨c, Or.inl (by omega)⟩, if_pos c]
    · rw [if_neg (fun q => c q.1), if_neg c]
theorem if_iff {P Q : Prop} [Decidable P] [Decidable Q] (h : P ↔ Q) (a b : Int) : (if P then a else b) = (if Q then a else b) := by
  by_cases p : P
  · rw [if_pos p, if_pos (h.mp p)]
  · rw [if_neg p, if_neg (fun q => p (h.mpr q))]
theorem aZ_row (ok : Nat → Nat → Bool) (n T t : Nat) : aZ ok n T n t = aZ ok n (T + 1) 0 t := by
  unfold aZ
  congr 1
  refine sumZ_congr (fun m hm => if_iff ?_ _ _)
  constructor
  · rintro ⟨a, b⟩; exact ⟨a, by omega⟩
  · rintro ⟨a, b⟩; exact ⟨a, by omega⟩
theorem aZ_add {ok : Nat → Nat → Bool} {n T M : Nat} (hn : n ≤ 8) (hT : T < 2 ^ n) (hM : M < n) (h1 : T.testBit M = false) (h2 : ok (pN T) M = true) : aZ ok n T (M + 1) (T ||| 2 ^ M) = aZ ok n T M (T ||| 2 ^ M) + FW ok n T := by
  have p8 := pow8 hn
  have g := or_gt T (by omega) M (by omega) h1
  have os := or_sub T (by omega) M (by omega) h1
  have po := pN_or (t := T) (m := M) (by omega) (by omega) h1
  unfold aZ
  rw [if_neg (by omega), if_neg (by omega)]
  refine sumZ_upd hM ?_ (fun i hi hne => if_iff ?_ _ _)
  · have tb : (T ||| 2 ^ M).testBit M = true := by rw [tb_or]; simp
    rw [if_pos ⟨⟨tb, by rw [po, Nat.add_sub_cancel]; exact h2⟩, Or.inr ⟨os, by omega⟩⟩, if_neg (fun q => by
      rcases q.2 with y | y
      · rw [os] at y; omega
      · omega), os]
    omega
  · constructor
    · rintro ⟨a, b⟩; exact ⟨a, by omega⟩
    · rintro ⟨a, b⟩; exact ⟨a, by omega⟩
theorem aZ_same {ok : Nat → Nat → Bool} {n T M t : Nat} (hn : n ≤ 8) (ht : t < 2 ^ n) (h : ¬ ((T.testBit M = false ∧ ok (pN T) M = true) ∧ t = T ||| 2 ^ M)) : aZ ok n T (M + 1) t = aZ ok n T M t := by
  have p8 := pow8 hn
  unfold aZ
  congr 1
  refine sumZ_congr (fun m hm => if_iff ?_ _ _)
  constructor
  · rintro ⟨a, b⟩
    by_cases e : m = M ∧ t - 2 ^ m = T
    · exfalso
      obtain ⟨rfl, e2⟩ := e
      have so := sub_or t (by omega) m (by omega) a.1
      have ps := pN_sub (t := t) (m := m) (by omega) (by omega) a.1
      rw [e2] at so ps
      exact h ⟨⟨so.2.1, by rw [show pN T = pN t - 1 by omega]; exact a.2⟩, so.1.symm⟩
    · exact ⟨a, by omega⟩
  · rintro ⟨a, b⟩; exact ⟨a, by omega⟩
theorem aZ_rng {ok : Nat → Nat → Bool} {n T M t : Nat} (hn : n ≤ 8) (ht : t < 2 ^ n) : 0 ≤ aZ ok n T M t ∧ aZ ok n T M t ≤ FW ok n t := by
  have p8 := pow8 hn
  unfold aZ
  by_cases e : t = 0
  · subst e; rw [if_pos rfl, FW_0]; omega
  · rw [if_neg e, FW_s hn ht e]
    refine ⟨?_, sumZ_le (fun m hm => ?_)⟩
    · have := @sumZ_le (fun _ => 0) (fun m => if (t.testBit m = true ∧ ok (pN t - 1) m = true) ∧ (t - 2 ^ m < T ∨ (t - 2 ^ m = T ∧ m < M)) then FW ok n (t - 2 ^ m) else 0) n (fun m _ => by
        have := FW_rng (ok := ok) hn (t - 2 ^ m)
        try dsimp only
        split <;> omega)
      rw [sumZ_zero (f := fun _ => 0) (fun _ _ => rfl)] at this
      exact this
    · have := FW_rng (ok := ok) hn (t - 2 ^ m)
      by_cases c : t.testBit m = true ∧ ok (pN t - 1) m = true
      · rw [if_pos c]; split <;> omega
      · rw [if_neg (fun q => c q.1), if_neg c]; exact Int.le_refl _
/-- the first from j on -/
def fsZ (P : Nat → Bool) : Nat → Nat → Nat
  | 0, j => j
  | d + 1, j => if P j = true then j else fsZ P d (j + 1)
theorem fsZ_ok {P : Nat → Bool} : ∀ d j, (∃ i, j ≤ i ∧ i < j + d ∧ P i = true) → P (fsZ P d j) = true ∧ j ≤ fsZ P d j ∧ fsZ P d j < j + d ∧ ∀ i, j ≤ i → i < fsZ P d j → P i = false
  | 0, j, ⟨i, h1, h2, _⟩ => by omega
  | d + 1, j, ⟨i, h1, h2, h3⟩ => by
    rw [fsZ]
    by_cases c : P j = true
    · rw [if_pos c]
      exact ⟨c, Nat.le_refl _, by omega, fun i h1 h2 => by omega⟩
    · rw [if_neg c]
      have ne : ¬ i = j := fun e => c (by rw [← e]; exact h3)
      have ih := fsZ_ok d (j + 1) ⟨i, by omega, by omega, h3⟩
      refine ⟨ih.1, by omega, by omega, fun q h1 h2 => ?_⟩
      by_cases e : q = j
      · subst e
        rcases h : P q with _ | _
        · rfl
        · exact absurd h c
      · exact ih.2.2.2 q (by omega) h2
def fP (ok : Nat → Nat → Bool) (n T k : Nat) : Nat → Bool := fun m => (!T.testBit m && ok k m) && decide (0 < BH ok n (T ||| 2 ^ m))
theorem fP_t {ok : Nat → Nat → Bool} {n T k m : Nat} : fP ok n T k m = true ↔ (T.testBit m = false ∧ ok k m = true) ∧ 0 < BH ok n (T ||| 2 ^ m) := by
  unfold fP
  rcases T.testBit m with _ | _ <;> rcases ok k m with _ | _ <;> simp
/-- the first way: mouths taken by k spoons, and the next mouth -/
def chS (ok : Nat → Nat → Bool) (n : Nat) : Nat → Nat
  | 0 => 0
  | k + 1 => chS ok n k ||| 2 ^ fsZ (fP ok n (chS ok n k) k) n 0
def chM (ok : Nat → Nat → Bool) (n k : Nat) : Nat := fsZ (fP ok n (chS ok n k) k) n 0
theorem ch_m {ok : Nat → Nat → Bool} {n k : Nat} (hn : n ≤ 8) (hk : k < n) (h1 : chS ok n k < 2 ^ n) (h2 : pN (chS ok n k) = k) (h3 : 0 < BH ok n (chS ok n k)) : fP ok n (chS ok n k) k (chM ok n k) = true ∧ chM ok n k < n ∧ ∀ i, i < chM ok n k → fP ok n (chS ok n k) k i = false := by
  rw [BH_s hn h1 (fun e => by rw [e, pN_all hn] at h2; omega)] at h3
  obtain ⟨i, i1, i2⟩ := sumZ_ex h3
  by_cases c : (chS ok n k).testBit i = false ∧ ok (pN (chS ok n k)) i = true
  · rw [if_pos c] at i2
    rw [h2] at c
    have := fsZ_ok (P := fP ok n (chS ok n k) k) n 0 ⟨i, by omega, by omega, fP_t.mpr ⟨c, i2⟩⟩
    exact ⟨this.1, by unfold chM; omega, fun j hj => this.2.2.2 j (by omega) hj⟩
  · rw [if_neg c] at i2; omega
theorem ch_ok {ok : Nat → Nat → Bool} {n : Nat} (hn : n ≤ 8) (h0 : 0 < BH ok n 0) : ∀ k, k ≤ n → chS ok n k < 2 ^ n ∧ pN (chS ok n k) = k ∧ 0 < BH ok n (chS ok n k) ∧ 1 ≤ FW ok n (chS ok n k)
  | 0, _ => by rw [chS]; exact ⟨Nat.two_pow_pos n, pN_0, h0, by rw [FW_0]; exact Int.le_refl _⟩
  | k + 1, hk => by
    have p8 := pow8 hn
    obtain ⟨h1, h2, h3, h4⟩ := ch_ok hn h0 k (by omega)
    obtain ⟨m1, m2, m3⟩ := ch_m hn (by omega) h1 h2 h3
    have m1 := fP_t.mp m1
    have e : chS ok n (k + 1) = chS ok n k ||| 2 ^ chM ok n k := rfl
    rw [e]
    have po := pN_or (t := chS ok n k) (m := chM ok n k) (by omega) (by omega) m1.1.1
    have g := or_gt (chS ok n k) (by omega) (chM ok n k) (by omega) m1.1.1
    have os := or_sub (chS ok n k) (by omega) (chM ok n k) (by omega) m1.1.1
    refine ⟨or_lt_n h1 m2, by omega, m1.2, ?_⟩
    rw [FW_s hn (or_lt_n h1 m2) (by omega)]
    have ge := sumZ_ge (f := fun m => if (chS ok n k ||| 2 ^ chM ok n k).testBit m = true ∧ ok (pN (chS ok n k ||| 2 ^ chM ok n k) - 1) m = true then FW ok n ((chS ok n k ||| 2 ^ chM ok n k) - 2 ^ m) else 0) (n := n) (k := chM ok n k) (fun i _ => by
      have := FW_rng (ok := ok) hn ((chS ok n k ||| 2 ^ chM ok n k) - 2 ^ i)
      try dsimp only
      split <;> omega) m2
    try dsimp only at ge
    rw [if_pos ⟨by rw [tb_or]; simp, by rw [po, Nat.add_sub_cancel, h2]; exact m1.1.2⟩, os] at ge
    omega
theorem ch_sm {ok : Nat → Nat → Bool} {n k : Nat} (hn : n ≤ 8) (h0 : 0 < BH ok n 0) (hk : k < n) : 1 ≤ smZ ok n k (chM ok n k) := by
  have p8 := pow8 hn
  obtain ⟨h1, h2, h3, h4⟩ := ch_ok hn h0 k (by omega)
  obtain ⟨m1, m2, m3⟩ := ch_m hn hk h1 h2 h3
  have m1 := fP_t.mp m1
  unfold smZ
  have ge := sumZ_ge (f := fun t => if t.testBit (chM ok n k) = false ∧ ok k (chM ok n k) = true then fwZ ok n k t * bhZ ok n (n - (k + 1)) (t ||| 2 ^ chM ok n k) else 0) (n := 2 ^ n) (k := chS ok n k) (fun t _ => by
    try dsimp only
    split
    · exact Int.mul_nonneg (fwZ_rng ok n k t).1 (bhZ_rng ok n _ _).1
    · exact Int.le_refl _) h1
  try dsimp only at ge
  rw [if_pos m1.1] at ge
  have a : 1 ≤ fwZ ok n k (chS ok n k) := by unfold FW at h4; rw [h2] at h4; exact h4
  have b : 1 ≤ bhZ ok n (n - (k + 1)) (chS ok n k ||| 2 ^ chM ok n k) := by
    have := m1.2
    unfold BH at this
    rw [pN_or (by omega) (by omega) m1.1.1, h2] at this
    omega
  have := Int.mul_le_mul a b (by omega) (by omega)
  omega
theorem sure_ch {ok : Nat → Nat → Bool} {n k : Nat} (hn : n ≤ 8) (h0 : 0 < BH ok n 0) (hk : k < n) : (∃ m, m < n ∧ smZ ok n k m = BH ok n 0) ↔ smZ ok n k (chM ok n k) = BH ok n 0 := by
  obtain ⟨h1, h2, h3, h4⟩ := ch_ok hn h0 k (by omega)
  obtain ⟨m1, m2, m3⟩ := ch_m hn hk h1 h2 h3
  constructor
  · rintro ⟨m, hm, e⟩
    rw [BH_0] at e
    have := sm_uni hn hk hm m2 e (ch_sm hn h0 hk)
    rw [← this, BH_0]; exact e
  · intro e
    exact ⟨_, m2, e⟩
theorem sm_le {ok : Nat → Nat → Bool} {n k m : Nat} (hn : n ≤ 8) (hk : k < n) (hm : m < n) : smZ ok n k m ≤ BH ok n 0 := by
  rw [BH_0, ← sm_sum hn k hk]
  exact sumZ_ge (f := fun m => smZ ok n k m) (fun i _ => sm_nn ok n k i) hm
