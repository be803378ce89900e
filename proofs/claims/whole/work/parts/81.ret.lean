/-! what a method of the class answers with; a deed of the script on both sides -/
def rtI (am : Instr) : Bool := match am with
  | .lreturn => false
  | .areturn => false
  | .return_ => false
  | _ => true
def rtL (am : Instr) : Bool := match am with
  | .ireturn => false
  | .areturn => false
  | .return_ => false
  | _ => true
theorem ctl_i {y : Nat} {am : Instr} {st : List AV} {σ : ST} {r : Option AV} (h : am_ctl y am st σ = some (.inl r)) (hr : rtI am = true) : ∃ z : Int, r = some (.inl z) := by
  cases am <;> simp only [am_ctl, am_ri, am_rl, am_ra, am_rv, am_b1, am_b2, am_cS, am_cI, am_cV] at h <;> (repeat' split at h) <;> first
    | (cases h; done)
    | (cases h; exact ⟨_, rfl⟩)
    | (exact absurd hr (by decide))
theorem ctl_l {y : Nat} {am : Instr} {st : List AV} {σ : ST} {r : Option AV} (h : am_ctl y am st σ = some (.inl r)) (hr : rtL am = true) : ∃ z : Int, r = some (.inr (.inl z)) := by
  cases am <;> simp only [am_ctl, am_ri, am_rl, am_ra, am_rv, am_b1, am_b2, am_cS, am_cI, am_cV] at h <;> (repeat' split at h) <;> first
    | (cases h; done)
    | (cases h; exact ⟨_, rfl⟩)
    | (exact absurd hr (by decide))
def rtC (f : Instr → Bool) (y n : Nat) : Bool := (List.range n).all (fun pc => match am_code y pc with
  | some (am, _, _, _) => f am
  | none => true)
theorem rtC_at {f : Instr → Bool} {y n : Nat} (hn : ∀ pc, ¬ pc < n → am_code y pc = none) (hc : rtC f y n = true) {pc : Nat} {am : Instr} {len wa wb : Nat} (h : am_code y pc = some (am, len, wa, wb)) : f am = true := by
  by_cases q : pc < n
  · have := List.all_eq_true.mp hc pc (List.mem_range.mpr q)
    rw [h] at this
    exact this
  · rw [hn pc q] at h; cases h
theorem ex_rt {P : Option AV → Prop} {f : Instr → Bool} {y : Nat} (hf : ∀ {pc : Nat} {am : Instr} {len wa wb : Nat}, am_code y pc = some (am, len, wa, wb) → f am = true) (hp : ∀ {am : Instr} {st : List AV} {σ : ST} {r : Option AV}, am_ctl y am st σ = some (.inl r) → f am = true → P r) : ∀ (F : Nat) {pc : Nat} {L : LV} {st : List AV} {σ σ' : ST} {r : Option AV}, am_ex F y pc L st σ = some (r, σ') → P r := by
  intro F
  induction F with
  | zero => intro pc L st σ σ' r h; simp [am_ex] at h
  | succ F ih =>
    intro pc L st σ σ' r h
    rw [am_ex] at h
    rcases hc : am_code y pc with _ | ⟨am, len, wa, wb⟩
    · simp only [hc] at h; cases h
    · simp only [hc] at h
      rcases hr : am_ctl y am st σ with _ | r | ⟨z, as, rest⟩ | ⟨c, t, r⟩ | u
      · simp only [hr] at h; cases h
      · simp only [hr] at h; cases h; exact hp hr (hf hc)
      · simp only [hr] at h
        rcases he : am_ex F z 0 (am_en z as) [] σ with _ | ⟨rv, s2⟩
        · simp only [he] at h; cases h
        · simp only [he] at h
          exact ih h
      · simp only [hr] at h
        by_cases hcc : c = true
        · rw [if_pos hcc] at h; exact ih h
        · rw [if_neg hcc] at h; exact ih h
      · simp only [hr] at h
        rcases he : am_step am (pc + len) L st σ with _ | ⟨a, b, c, d⟩
        · simp only [he] at h; cases h
        · simp only [he] at h
          exact ih h
def HI (μ ν : Nat → Nat → Int) : Prop := ∀ k i : Nat, 121 ≤ k → ν k i = μ k i
theorem HI_trans {μ ν ρ : Nat → Nat → Int} (h : HI μ ν) (g : HI ν ρ) : HI μ ρ := fun k i hk => (g k i hk).trans (h k i hk)
def EQI (B : Int) (μ : Nat → Nat → Int) (xk mk : Nat) (as : List AV) : Prop := wpM xk (.inr (.inr (some 0)) :: as) (S μ) (fun r σ1 => ∃ (v : Int) (μ1 : Nat → Nat → Int), r = some (.inl v) ∧ σ1 = S μ1 ∧ HI μ μ1 ∧ wpM mk (.inr (.inr (some 101)) :: as) (S μ1) (fun r' σ2 => r' = some (.inl v) ∧ ∃ μ', σ2 = S μ' ∧ INV B μ' ∧ HI μ μ'))
def EQL (B : Int) (μ : Nat → Nat → Int) (xk mk : Nat) (as : List AV) : Prop := wpM xk (.inr (.inr (some 0)) :: as) (S μ) (fun r σ1 => ∃ (v : Int) (μ1 : Nat → Nat → Int), r = some (.inr (.inl v)) ∧ σ1 = S μ1 ∧ HI μ μ1 ∧ wpM mk (.inr (.inr (some 101)) :: as) (S μ1) (fun r' σ2 => r' = some (.inr (.inl v)) ∧ ∃ μ', σ2 = S μ' ∧ INV B μ' ∧ HI μ μ'))
theorem eqi {B : Int} {μ : Nat → Nat → Int} {xk mk : Nat} {as : List AV} (h : EQV B μ xk mk as) (n : Nat) (hn : ∀ pc, ¬ pc < n → am_code xk pc = none) (hc : rtC rtI xk n = true) : EQI B μ xk mk as := by
  obtain ⟨F, r, σ', h1, v, μ1, rfl, rfl, F2, r2, σ2, h2, rfl, μ', rfl, h3⟩ := h
  have a := (ex_hi F h1 rfl).2
  have b := (ex_hi F2 h2 rfl).2
  obtain ⟨z, hz⟩ := ex_rt (P := fun r => ∃ z : Int, r = some (.inl z)) (f := rtI) (fun q => rtC_at hn hc q) (fun q p => ctl_i q p) F h1
  obtain rfl : v = .inl z := Option.some.inj hz
  exact ⟨F, _, _, h1, z, μ1, rfl, rfl, a, F2, _, _, h2, rfl, μ', rfl, h3, fun k i hk => (b k i hk).trans (a k i hk)⟩
theorem eql {B : Int} {μ : Nat → Nat → Int} {xk mk : Nat} {as : List AV} (h : EQV B μ xk mk as) (n : Nat) (hn : ∀ pc, ¬ pc < n → am_code xk pc = none) (hc : rtC rtL xk n = true) : EQL B μ xk mk as := by
  obtain ⟨F, r, σ', h1, v, μ1, rfl, rfl, F2, r2, σ2, h2, rfl, μ', rfl, h3⟩ := h
  have a := (ex_hi F h1 rfl).2
  have b := (ex_hi F2 h2 rfl).2
  obtain ⟨z, hz⟩ := ex_rt (P := fun r => ∃ z : Int, r = some (.inr (.inl z))) (f := rtL) (fun q => rtC_at hn hc q) (fun q p => ctl_l q p) F h1
  obtain rfl : v = .inr (.inl z) := Option.some.inj hz
  exact ⟨F, _, _, h1, z, μ1, rfl, rfl, a, F2, _, _, h2, rfl, μ', rfl, h3, fun k i hk => (b k i hk).trans (a k i hk)⟩
/-- the script and the letters, where the law reads them -/
def SW (L : Nat) (xs : Nat → Int) (μ : Nat → Nat → Int) : Prop := (μ 1001 0 = L ∧ ∀ j, μ 1001 (j + 1) = xs j) ∧ LT μ
theorem SW_hi {L : Nat} {xs : Nat → Int} {μ ν : Nat → Nat → Int} (h : SW L xs μ) (e : HI μ ν) : SW L xs ν := by
  obtain ⟨⟨h1, h2⟩, h3⟩ := h
  refine ⟨⟨by rw [e 1001 0 (by decide)]; exact h1, fun j => by rw [e 1001 (j + 1) (by decide)]; exact h2 j⟩, ?_⟩
  unfold LT at h3 ⊢
  simp only [e 1000 _ (show 121 ≤ 1000 by decide)]
  exact h3
