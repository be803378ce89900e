/-- within -/
theorem tw_within (v b : Int) (σ : ST) (Φ : Option AV → ST → Prop) : wpM 129 [.inl v, .inl b] σ Φ ↔ (if 0 ≤ v ∧ v < b then Φ (some (.inl 1)) σ else Φ (some (.inl 0)) σ) := by
  unfold wpM
  rw [sx_iff 20]
  simp [am_en, am_ent, am_isL, am_L, sx, am_nx, am_code, ac_129, am_ctl, am_step, am_ldi, am_b1, am_b2, am_cnd, am_ri, am_rb]
  done
