/-! loops, sums, what is handed in and counted: of both sides -/
theorem up_iff (A : Nat → Prop) (n : Nat) (h : ∀ j, j < n → (A j ↔ A (j + 1))) : A 0 ↔ A n := by
  induction n with
  | zero => exact Iff.rfl
  | succ n ih => exact (ih (fun j hj => h j (by omega))).trans (h n (by omega))
theorem up_to {σ : Type} (A I : Nat → σ → Prop) (n : Nat) (step : ∀ j s, j < n → I j s → (∀ s', I (j + 1) s' → A (j + 1) s') → A j s) (fin : ∀ s, I n s → A n s) : ∀ s, I 0 s → A 0 s := by
  have key : ∀ d j, j + d = n → ∀ s, I j s → A j s := by
    intro d
    induction d with
    | zero => intro j h s hs; obtain rfl : j = n := by omega
              exact fin s hs
    | succ d ih => intro j h s hs; exact step j s (by omega) hs (fun s' hs' => ih (j + 1) (by omega) s' hs')
  exact fun s hs => key n 0 (by omega) s hs
theorem an_iff {Φ : Option AV → ST → Prop} {σ : ST} {a b : Int} (h : a = b) : Φ (some (.inl a)) σ ↔ Φ (some (.inl b)) σ := by rw [h]
def sumZ (f : Nat → Int) : Nat → Int
  | 0 => 0
  | n + 1 => sumZ f n + f n
theorem sumZ_0 (f : Nat → Int) : sumZ f 0 = 0 := rfl
theorem sumZ_s (f : Nat → Int) (n : Nat) : sumZ f (n + 1) = sumZ f n + f n := rfl
theorem sumZ_congr {f g : Nat → Int} : ∀ {n : Nat}, (∀ i, i < n → f i = g i) → sumZ f n = sumZ g n
  | 0, _ => rfl
  | n + 1, h => by rw [sumZ_s, sumZ_s, sumZ_congr (fun i hi => h i (by omega)), h n (by omega)]
theorem sumZ_rng {f : Nat → Int} {a b : Int} : ∀ {n : Nat}, (∀ i, i < n → a ≤ f i ∧ f i ≤ b) → a * n ≤ sumZ f n ∧ sumZ f n ≤ b * n
  | 0, _ => by simp [sumZ_0]
  | n + 1, h => by
    have h1 := sumZ_rng (n := n) (fun i hi => h i (by omega))
    have h2 := h n (by omega)
    rw [sumZ_s]
    have e1 : a * ((n + 1 : Nat) : Int) = a * n + a := by rw [Int.natCast_add, Int.mul_add]; simp
    have e2 : b * ((n + 1 : Nat) : Int) = b * n + b := by rw [Int.natCast_add, Int.mul_add]; simp
    rw [e1, e2]
    omega
theorem sumZ_add (f g : Nat → Int) : ∀ n : Nat, sumZ (fun i => f i + g i) n = sumZ f n + sumZ g n
  | 0 => rfl
  | n + 1 => by rw [sumZ_s, sumZ_s, sumZ_s, sumZ_add f g n]; omega
theorem sumZ_sub (f g : Nat → Int) : ∀ n : Nat, sumZ (fun i => f i - g i) n = sumZ f n - sumZ g n
  | 0 => rfl
  | n + 1 => by rw [sumZ_s, sumZ_s, sumZ_s, sumZ_sub f g n]; omega
/-- handed in of one's own; all that is handed in; counted -/
def ownP (k m s t : Int) : Int := if k = 1 then max (min s m - 1) 0 else if k = 2 ∨ k = 4 then s else if k = 3 then (if t.tmod 2 = 0 then min s m else 0) else if k = 5 then (if t.tmod 6 = 0 then min s m else 0) else min s m
def hndP (k m s t : Int) : Int := ownP k m s t + (if k = 4 then 1 else 0)
def cntP (k m s t l : Int) : Int := if l = 2 ∧ k = 5 then m else ownP k m s t + (if l = 0 ∧ k = 4 then 1 else 0)
theorem ownP_rng {k m s t : Int} (hm : 0 ≤ m) (hs : 0 ≤ s) : 0 ≤ ownP k m s t ∧ ownP k m s t ≤ s := by
  unfold ownP
  (repeat' split) <;> omega
theorem cntP_rng {k m s t l : Int} (hm : 0 ≤ m) (hs : 0 ≤ s) : 0 ≤ cntP k m s t l ∧ (cntP k m s t l ≤ s + 1 ∨ cntP k m s t l ≤ m) := by
  have := @ownP_rng k m s t hm hs
  unfold cntP
  (repeat' split) <;> omega
def nW (w : Nat → Int) : Nat := (w 0).toNat
def cntW (w : Nat → Int) (h : Nat) (l : Int) : Int := cntP (w (5 + h)) (w (21 + h)) (w (29 + h)) (w 2) l
def hndW (w : Nat → Int) (h : Nat) : Int := hndP (w (5 + h)) (w (21 + h)) (w (29 + h)) (w 2)
def allW (w : Nat → Int) (l : Int) : Int := sumZ (fun h => cntW w h l) (nW w)
def inW (w : Nat → Int) (p l : Int) : Int := sumZ (fun h => if w (13 + h) = p then cntW w h l else 0) (nW w)
def mouW (w : Nat → Int) : Int := sumZ (fun h => w (21 + h)) (nW w)
def spoW (w : Nat → Int) : Int := sumZ (fun h => w (29 + h)) (nW w)
def minW (w : Nat → Int) (p : Int) : Int := sumZ (fun h => if w (13 + h) = p then w (21 + h) else 0) (nW w)
def oweW (w : Nat → Int) (h : Nat) : Int := sumZ (fun a => w (37 + (8 * a + h))) (nW w)
def owdW (w : Nat → Int) (h : Nat) : Int := sumZ (fun b => w (37 + (8 * h + b))) (nW w)
/-- what a land in hand says, in numbers -/
theorem ld_0 {B : Int} {μ : Nat → Nat → Int} (hL : LD B μ 73 0) : μ 73 7 = μ 102 0 ∧ μ 73 8 = μ 102 1 ∧ μ 73 9 = μ 102 2 ∧ μ 73 10 = μ 102 3 ∧ μ 73 11 = μ 102 4 ∧ (0 ≤ μ 102 0 ∧ μ 102 0 ≤ 8) ∧ (0 ≤ μ 102 1 ∧ μ 102 1 ≤ 2) ∧ (0 ≤ μ 102 2 ∧ μ 102 2 ≤ 30) ∧ (0 ≤ μ 102 3 ∧ μ 102 3 ≤ 99) ∧ (0 ≤ μ 102 4 ∧ μ 102 4 ≤ 99) := by
  obtain ⟨h1, h2, h3, h4, h5, h6, h7, h8, h9, h10, -, -, -⟩ := hL
  simp only [Nat.zero_add] at h1 h2 h3 h4 h5 h6 h7 h8 h9 h10
  exact ⟨h2, h4, h6, h8, h10, h1, h3, h5, h7, h9⟩
theorem ld_n {B : Int} {μ : Nat → Nat → Int} (hL : LD B μ 73 0) : μ 73 7 = (nW (μ 102) : Int) ∧ μ 102 0 = (nW (μ 102) : Int) ∧ nW (μ 102) ≤ 8 := by
  have h := ld_0 hL
  unfold nW
  omega
theorem ld_h {B : Int} {μ : Nat → Nat → Int} (hL : LD B μ 73 0) {h : Nat} (hh : h < nW (μ 102)) : (μ 74 h = μ 102 (5 + h) ∧ μ 75 h = μ 102 (13 + h) ∧ μ 76 h = μ 102 (21 + h) ∧ μ 77 h = μ 102 (29 + h)) ∧ (0 ≤ μ 102 (5 + h) ∧ μ 102 (5 + h) ≤ 5) ∧ (0 ≤ μ 102 (13 + h) ∧ μ 102 (13 + h) ≤ 2) ∧ (0 ≤ μ 102 (21 + h) ∧ μ 102 (21 + h) ≤ 9) ∧ (0 ≤ μ 102 (29 + h) ∧ μ 102 (29 + h) ≤ 30) ∧ h < 8 := by
  have h0 := ld_n hL
  obtain ⟨-, -, -, -, -, -, -, -, -, -, h11, -, -⟩ := hL
  have := h11 h (by simp only [h0.2.1]; omega)
  simp only [Nat.zero_add] at this
  exact ⟨this.1, this.2.1, this.2.2.1, this.2.2.2.1, this.2.2.2.2, by omega⟩
theorem ld_d {B : Int} {μ : Nat → Nat → Int} (hL : LD B μ 73 0) {j : Nat} (hj : j < 64) : μ 78 j = μ 102 (37 + j) ∧ 0 ≤ μ 102 (37 + j) ∧ μ 102 (37 + j) ≤ B := by
  obtain ⟨-, -, -, -, -, -, -, -, -, -, -, h12, -⟩ := hL
  have := h12 j hj
  simp only [Nat.zero_add] at this
  exact ⟨this.1, this.2.1, this.2.2⟩
theorem ld_g {B : Int} {μ : Nat → Nat → Int} (hL : LD B μ 73 0) {j : Nat} (hj : (j : Int) < 3 * μ 102 2) : μ 79 j = μ 102 (101 + j) ∧ 0 ≤ μ 102 (101 + j) ∧ μ 102 (101 + j) ≤ 400 := by
  obtain ⟨-, -, -, -, -, -, -, -, -, -, -, -, h13⟩ := hL
  have := h13 j (by simpa using hj)
  simp only [Nat.zero_add] at this
  exact ⟨this.1, this.2.1, this.2.2⟩
theorem ld_c {B : Int} {μ : Nat → Nat → Int} (hL : LD B μ 73 0) {h : Nat} (hh : h < nW (μ 102)) (l : Int) : 0 ≤ cntW (μ 102) h l ∧ cntW (μ 102) h l ≤ 31 := by
  obtain ⟨-, -, -, h3, h4, -⟩ := ld_h hL hh
  unfold cntW
  have := @cntP_rng (μ 102 (5 + h)) (μ 102 (21 + h)) (μ 102 (29 + h)) (μ 102 2) l h3.1 h4.1
  omega
theorem tn_l (k a : Nat) : ((no_index (OfNat.ofNat k) : Int) + (a : Int)).toNat = k + a := by
  have : (OfNat.ofNat k : Int) = (k : Int) := rfl
  rw [this]; omega
/-! what omega decides, as rules for runs -/
theorem lt_t {a b : Int} (h : a < b) : (a < b) = True := eq_true h
theorem lt_f {a b : Int} (h : b ≤ a) : (a < b) = False := eq_false (by omega)
theorem le_t {a b : Int} (h : a ≤ b) : (a ≤ b) = True := eq_true h
theorem le_f {a b : Int} (h : b < a) : (a ≤ b) = False := eq_false (by omega)
theorem eq_t {a b : Int} (h : a = b) : (a = b) = True := eq_true h
theorem eq_f {a b : Int} (h : ¬ a = b) : (a = b) = False := eq_false h
theorem ltn_t {a b : Nat} (h : a < b) : (a < b) = True := eq_true h
theorem ltn_f {a b : Nat} (h : b ≤ a) : (a < b) = False := eq_false (by omega)
theorem len_t {a b : Nat} (h : a ≤ b) : (a ≤ b) = True := eq_true h
theorem len_f {a b : Nat} (h : b < a) : (a ≤ b) = False := eq_false (by omega)
theorem eqn_t {a b : Nat} (h : a = b) : (a = b) = True := eq_true h
theorem eqn_f {a b : Nat} (h : ¬ a = b) : (a = b) = False := eq_false h
