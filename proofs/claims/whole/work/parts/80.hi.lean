/-! cells above the objects stay: the letters, the script -/
theorem step_hi {am : Instr} {nx a : Nat} {L b : LV} {st c : List AV} {σ d : ST} (h : am_step am nx L st σ = some (a, b, c, d)) (h1 : σ.1 = 121) : d.1 = 121 ∧ ∀ k i : Nat, 121 ≤ k → d.2.2.2.2 k i = σ.2.2.2.2 k i := by
  have wr : ∀ (k i : Nat) (z : Int), k < σ.1 → (am_wr σ k i z).1 = 121 ∧ ∀ k' i' : Nat, 121 ≤ k' → (am_wr σ k i z).2.2.2.2 k' i' = σ.2.2.2.2 k' i' := fun k i z hk => ⟨h1, fun k' i' hk' => by
    show am_up σ.2.2.2.2 k i z k' i' = _
    unfold am_up; rw [if_neg (by omega)]⟩
  have cp : ∀ (μ : Nat → Nat → Int) (x sp y dp n : Nat), y < σ.1 → ∀ k' i' : Nat, 121 ≤ k' → am_cpm μ x sp y dp n k' i' = μ k' i' := fun μ x sp y dp n hk k' i' hk' => by
    unfold am_cpm am_row; rw [if_neg (by omega)]
  cases am <;> simp only [am_step, am_i1, am_i2, am_i2d, am_l1, am_l2, am_l2d, am_ldi, am_ldl, am_lda, am_sti, am_sta, am_stl, am_inc, am_i2l, am_l2i, am_lcmp, am_dup, am_dup2, am_pop1, am_getf, am_putf, am_ial, am_lal, am_bal, am_aal, am_ias, am_las, am_bas, am_aas, am_alen, am_new, am_nwa, am_nwq, am_nwm, am_inst, am_cast, am_copy, am_oin, am_tsw] at h <;> (repeat' split at h) <;> first
    | (cases h; done)
    | (cases h; exact ⟨h1, fun _ _ _ => rfl⟩)
    | (cases h; exact wr _ _ _ (by omega))
    | (cases h; exact ⟨h1, cp _ _ _ _ _ _ (by omega)⟩)
    | (exfalso; omega)
theorem ex_hi : ∀ (F : Nat) {y pc : Nat} {L : LV} {st : List AV} {σ σ' : ST} {r : Option AV}, am_ex F y pc L st σ = some (r, σ') → σ.1 = 121 → σ'.1 = 121 ∧ ∀ k i : Nat, 121 ≤ k → σ'.2.2.2.2 k i = σ.2.2.2.2 k i := by
  intro F
  induction F with
  | zero => intro y pc L st σ σ' r h; simp [am_ex] at h
  | succ F ih =>
    intro y pc L st σ σ' r h h1
    rw [am_ex] at h
    rcases hc : am_code y pc with _ | ⟨am, len, wa, wb⟩
    · simp only [hc] at h; cases h
    · simp only [hc] at h
      rcases hr : am_ctl y am st σ with _ | r | ⟨z, as, rest⟩ | ⟨c, t, r⟩ | u
      · simp only [hr] at h; cases h
      · simp only [hr] at h; cases h; exact ⟨h1, fun _ _ _ => rfl⟩
      · simp only [hr] at h
        rcases he : am_ex F z 0 (am_en z as) [] σ with _ | ⟨rv, s2⟩
        · simp only [he] at h; cases h
        · simp only [he] at h
          have a := ih he h1
          have b := ih h a.1
          exact ⟨b.1, fun k i hk => (b.2 k i hk).trans (a.2 k i hk)⟩
      · simp only [hr] at h
        by_cases hcc : c = true
        · rw [if_pos hcc] at h; exact ih h h1
        · rw [if_neg hcc] at h; exact ih h h1
      · simp only [hr] at h
        rcases he : am_step am (pc + len) L st σ with _ | ⟨a, b, c, d⟩
        · simp only [he] at h; cases h
        · simp only [he] at h
          have a := step_hi he h1
          have b := ih h a.1
          exact ⟨b.1, fun k i hk => (b.2 k i hk).trans (a.2 k i hk)⟩
/-- both sides' answers are alike, the invariant holds again, the letters and the script stay -/
def EQF (B : Int) (μ : Nat → Nat → Int) (xk mk : Nat) (as : List AV) : Prop := wpM xk (.inr (.inr (some 0)) :: as) (S μ) (fun r σ1 => ∃ v μ1, r = some v ∧ σ1 = S μ1 ∧ wpM mk (.inr (.inr (some 101)) :: as) (S μ1) (fun r' σ2 => r' = some v ∧ ∃ μ', σ2 = S μ' ∧ INV B μ' ∧ ∀ k i : Nat, 121 ≤ k → μ' k i = μ k i))
theorem eqf {B : Int} {μ : Nat → Nat → Int} {xk mk : Nat} {as : List AV} (h : EQV B μ xk mk as) : EQF B μ xk mk as := by
  obtain ⟨F, r, σ', h1, v, μ1, rfl, rfl, F2, r2, σ2, h2, rfl, μ', rfl, h3⟩ := h
  have a := (ex_hi F h1 rfl).2
  have b := (ex_hi F2 h2 rfl).2
  exact ⟨F, _, _, h1, v, μ1, rfl, rfl, F2, _, _, h2, rfl, μ', rfl, h3, fun k i hk => (b k i hk).trans (a k i hk)⟩
