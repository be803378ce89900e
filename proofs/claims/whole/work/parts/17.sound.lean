/-! THE SOUNDNESS THEOREM: what the abstract machine comes to, the machine comes to -/
def am_ckr (y : Nat) : Bool := (List.range (am_len y)).all (fun pc => match am_tree y pc with
  | some (.ireturn, len, _, _) => decide (len = 1)
  | some (.lreturn, len, _, _) => decide (len = 1)
  | some (.areturn, len, _, _) => decide (len = 1)
  | some (.return_, len, _, _) => decide (len = 1)
  | _ => true)
theorem ck_r1 : (List.range 255).all am_ckr = true := by decide +kernel
theorem ret_len {y pc len wa wb : Nat} {am : Instr} {b : ByteArray} (h : am_code y pc = some (am, len, wa, wb)) (hd : decode b pc = .ok (am_raw pc wa am, len)) (hr : (match am with | .ireturn => true | .lreturn => true | .areturn => true | .return_ => true | _ => false) = true) : decode b pc = .ok (am, 1) := by
  unfold am_code at h
  split at h
  · rename_i hh
    have h1 := List.all_eq_true.mp (List.all_eq_true.mp ck_r1 y (List.mem_range.mpr hh.1)) pc (List.mem_range.mpr hh.2)
    simp only [h] at h1
    cases am
    case ireturn => rw [of_decide_eq_true h1] at hd; exact hd
    case lreturn => rw [of_decide_eq_true h1] at hd; exact hd
    case areturn => rw [of_decide_eq_true h1] at hd; exact hd
    case return_ => rw [of_decide_eq_true h1] at hd; exact hd
    all_goals cases hr
  · cases h
theorem cS_c {y z : Nat} {st : List AV} {x : CT} (h : am_cS y z st = some x) : ∃ q, x = .inr (.inl q) := by
  unfold am_cS at h
  split at h
  · split at h
    · cases h; exact ⟨_, rfl⟩
    · cases h
  · cases h
theorem cI_c {y z : Nat} {st : List AV} {x : CT} (h : am_cI y z st = some x) : ∃ q, x = .inr (.inl q) := by
  unfold am_cI at h
  split at h
  · split at h
    · cases h; exact ⟨_, rfl⟩
    · cases h
  · cases h
theorem cV_c {y z : Nat} {st : List AV} {σ : ST} {x : CT} (h : am_cV y z st σ = some x) : ∃ q, x = .inr (.inl q) := by
  unfold am_cV at h
  split at h
  · split at h
    · split at h
      · split at h
        · cases h; exact ⟨_, rfl⟩
        · cases h
      · cases h
    · cases h
  · cases h
section SD
variable {G : GG} {y : Nat} {p : Program} {l : Launch} {e : Env} {R : Room} {s : State} {m : MethodId} {args : Array Value} {below : List Frame} {meth : Method} {c : Code} {n0 w0 : Nat} {Q : State → Prop}
/-- a method's end, for a contract -/
theorem ret_met {r : Option AV} {σ' : ST} (X : FX G y p R s m meth c) {pc len wa wb : Nat} {am : Instr} {L : LV} {st : List AV} (hc : am_code y pc = some (am, len, wa, wb)) (ht : am_ctl y am st σ' = some (.inl r)) : WA G y p l e R s m args below meth c n0 w0 (MQ below (am_Qc G r σ') args s (σ'.1 - n0) (σ'.2.1 - w0) (g_A G)) pc L st σ' := by
  obtain ⟨-, hd, hk⟩ := ck_code hc
  intro H locs ls hL hst hR h1 h2
  have hlk := X.2.2.2.2.2.1
  have hrt := X.2.2.2.2.1
  have hq : (∀ v, r = some v → NV v) → ∀ t : State, t.heap = H → s.WarmedH t.vm → am_Qc G r σ' args s (.returned (r.map (cv G))) t := fun hn t hH _ => ⟨rfl, hn, by rw [hH]; exact hR.q, hR.2.2.1.F hH⟩
  have hf : ∀ q ∈ locs, g_A G q.base := hR.2.2.1.2.2
  cases am
  case ireturn =>
    simp only [am_ctl, am_ri] at ht
    split at ht
    · rename_i v
      split at ht
      · cases ht
      · rename_i hb
        cases ht
        have hv : nz v = v := nvs_h hst
        simp only [am_ckx, Bool.and_eq_true, decide_eq_true_eq] at hk
        have hd1 : decode (am_C y) pc = .ok (.ireturn, 1) := ret_len hc hd rfl
        have hq' := hq (fun w h => by cases h; exact hv)
        rcases hk.1 with ki | kb
        · exact W.iret X.1 X.2.1 (by rw [hrt]; exact ki) hq' hf hd1 hlk
        · refine W.zret (ty := .boolean) X.1 X.2.1 (by rw [hrt]; exact kb) ?_ hq' hf hd1 hlk
          have hb1 : am_rb y = true := hk.2.mpr kb
          have : v = 0 ∨ v = 1 := by
            by_cases q0 : v = 0
            · exact Or.inl q0
            · by_cases q1 : v = 1
              · exact Or.inr q1
              · exact absurd ⟨hb1, q0, q1⟩ hb
          rcases this with rfl | rfl <;> rfl
    · cases ht
  case lreturn =>
    simp only [am_ctl, am_rl] at ht
    split at ht
    · rename_i v
      cases ht
      have hv : nzl v = v := nvs_h hst
      simp only [am_ckx, decide_eq_true_eq] at hk
      exact W.lret X.1 X.2.1 (by rw [hrt]; exact hk) (hq (fun w h => by cases h; exact hv)) hf (ret_len hc hd rfl) hlk
    · cases ht
  case areturn =>
    simp only [am_ctl, am_ra] at ht
    split at ht
    · rename_i v
      cases ht
      simp only [am_ckx, decide_eq_true_eq] at hk
      exact W.aret X.1 X.2.1 (by rw [hrt]; exact hk) (Or.inl ⟨_, rfl⟩) (Or.inr ⟨_, rfl⟩) (hq (fun w h => by cases h; trivial)) hf (ret_len hc hd rfl) hlk
    · cases ht
  case return_ =>
    simp only [am_ctl, am_rv] at ht
    split at ht
    · cases ht
      simp only [am_ckx, decide_eq_true_eq] at hk
      exact W.vret X.1 X.2.1 (by rw [hrt]; exact hk) (hq (fun w h => by cases h)) hf (ret_len hc hd rfl) hlk
    · cases ht
  case invokestatic z0 =>
    simp only [am_ctl] at ht
    split at ht
    · cases ht
    · obtain ⟨q, hq⟩ := cS_c ht; cases hq
  case invokespecial z0 =>
    simp only [am_ctl] at ht
    split at ht
    · cases ht
    · obtain ⟨q, hq⟩ := cI_c ht; cases hq
  case invokevirtual z0 =>
    simp only [am_ctl] at ht
    obtain ⟨q, hq⟩ := cV_c ht; cases hq
  case ifCond c0 t0 =>
    simp only [am_ctl, am_b1] at ht
    split at ht <;> cases ht
  case if_icmp c0 t0 =>
    simp only [am_ctl, am_b2] at ht
    split at ht <;> cases ht
  all_goals (simp only [am_ctl] at ht; cases ht)
theorem ss_branch {pc len wa wb t : Nat} {am : Instr} {L : LV} {st q : List AV} {σ : ST} {cd : Bool} (X : FX G y p R s m meth c) (hc : am_code y pc = some (am, len, wa, wb)) (ht : am_ctl y am st σ = some (.inr (.inr (.inl (cd, t, q))))) (kt : cd = true → WA G y p l e R s m args below meth c n0 w0 Q t L q σ) (kf : ¬ cd = true → WA G y p l e R s m args below meth c n0 w0 Q (pc + len) L q σ) : WA G y p l e R s m args below meth c n0 w0 Q pc L st σ := by
  obtain ⟨-, hd, hk⟩ := ck_code hc
  cases am
  case ifCond c0 t0 =>
    simp only [am_ctl, am_b1] at ht
    simp only [am_ckx, Bool.and_eq_true, decide_eq_true_eq] at hk
    obtain ⟨rfl, h0⟩ := hk
    split at ht
    · cases ht
      exact ss_if X hd h0 kt kf
    · cases ht
  case if_icmp c0 t0 =>
    simp only [am_ctl, am_b2] at ht
    simp only [am_ckx, Bool.and_eq_true, decide_eq_true_eq] at hk
    obtain ⟨rfl, h0⟩ := hk
    split at ht
    · cases ht
      exact ss_icmp X hd h0 kt kf
    · cases ht
  case ireturn =>
    simp only [am_ctl, am_ri] at ht
    split at ht
    · split at ht <;> cases ht
    · cases ht
  case invokestatic z0 =>
    simp only [am_ctl] at ht
    split at ht
    · cases ht
    · obtain ⟨q, hq⟩ := cS_c ht; cases hq
  case invokespecial z0 =>
    simp only [am_ctl] at ht
    split at ht
    · cases ht
    · obtain ⟨q, hq⟩ := cI_c ht; cases hq
  case invokevirtual z0 =>
    simp only [am_ctl] at ht
    obtain ⟨q, hq⟩ := cV_c ht; cases hq
  case lreturn =>
    simp only [am_ctl, am_rl] at ht
    split at ht <;> cases ht
  case areturn =>
    simp only [am_ctl, am_ra] at ht
    split at ht <;> cases ht
  case return_ =>
    simp only [am_ctl, am_rv] at ht
    split at ht <;> cases ht
  all_goals (simp only [am_ctl] at ht; cases ht)
end SD
/-- what a run says of the machine, for every frame -/
def SND (l : Launch) (G : GG) (F : Nat) : Prop := ∀ (y pc : Nat) (L : LV) (st : List AV) (σ : ST) (r : Option AV) (σ' : ST), am_ex F y pc L st σ = some (r, σ') →
  ∀ (p : Program) (e : Env) (R : Room) (s : State) (m : MethodId) (args : Array Value) (below : List Frame) (meth : Method) (c : Code) (n0 w0 : Nat) (Q : State → Prop), FX G y p R s m meth c → (σ'.1 - n0 ≤ R.cells ∧ σ'.2.1 - w0 ≤ R.slots) →
  (∀ (pc : Nat) (am : Instr) (len wa wb : Nat) (L : LV) (st : List AV), am_code y pc = some (am, len, wa, wb) → am_ctl y am st σ' = some (.inl r) → WA G y p l e R s m args below meth c n0 w0 Q pc L st σ') →
  WA G y p l e R s m args below meth c n0 w0 Q pc L st σ
theorem met_of {l : Launch} {G : GG} {F : Nat} (ih : SND l G F) {z : Nat} {as : List AV} {σ σ' : ST} {r : Option AV} (he : am_ex F z 0 (am_en z as) [] σ = some (r, σ')) (hz : z < 254) (hl : (am_ent as).length ≤ am_L z) (hn : nvs as) : MetA l G z as σ r σ' := by
  have hzc := z_ck hz
  unfold MetA
  refine va_MetF (cc := am_C z) (maxL := am_L z) (ret := am_R z) hzc.2.2.2.2.2 rfl ?_
  intro p e s m args below meth c s1 B hml hv
  obtain ⟨rfl, hKX, hRQ⟩ := hv
  have X : FX G z p (am_rm z (σ'.1 - σ.1) (σ'.2.1 - σ.2.1)) s m meth c := ⟨B.exec, B.bytes, hml, findClass_of_methodNamed B.named, B.returns, B.notSynchronized, fun h => by rw [← h]; exact (name_of_methodNamed B.named B.method).1, hKX, Nat.le_refl _, Nat.le_refl _⟩
  rw [lg_entry_eq]
  have K := ih z 0 (am_en z as) [] σ r σ' he p e (am_rm z (σ'.1 - σ.1) (σ'.2.1 - σ.2.1)) s m (as.map (cv G)).toArray below meth c σ.1 σ.2.1 (MQ below (am_Qc G r σ') (as.map (cv G)).toArray s (σ'.1 - σ.1) (σ'.2.1 - σ.2.1) (g_A G)) X ⟨Nat.le_refl _, Nat.le_refl _⟩ (fun pc am len wa wb L st q1 q2 => ret_met X q1 q2)
    s.heap [] _ (LR.en G hl hn) (fun v h => by cases h) (RQ.p hRQ va_S.rf) (Nat.le_refl _) (Nat.le_refl _)
  rw [Nat.sub_self, Nat.sub_self] at K
  exact K
theorem snd_all (l : Launch) (G : GG) : ∀ F, SND l G F := by
  intro F
  induction F with
  | zero => intro y pc L st σ r σ' h; simp [am_ex] at h
  | succ F ih =>
    intro y pc L st σ r σ' h p e R s m args below meth c n0 w0 Q X hroom hret
    rw [am_ex] at h
    rcases hc : am_code y pc with _ | ⟨am, len, wa, wb⟩
    · simp only [hc] at h; cases h
    · simp only [hc] at h
      rcases hr : am_ctl y am st σ with _ | r1 | ⟨z, as, rest⟩ | ⟨cd, t, q⟩ | u
      · simp only [hr] at h; cases h
      · simp only [hr] at h
        cases h
        exact hret pc am len wa wb L st hc hr
      · simp only [hr] at h
        rcases he : am_ex F z 0 (am_en z as) [] σ with _ | ⟨rv, s2⟩
        · simp only [he] at h; cases h
        · simp only [he] at h
          have g1 := ex_ge F he
          have g2 := ex_ge F h
          exact ss_call X hc hr (fun hz hl hn => met_of ih he hz hl hn) (by omega) g1 (ih y (pc + len) L (rv.toList ++ rest) s2 r σ' h p e R s m args below meth c n0 w0 Q X hroom hret)
      · simp only [hr] at h
        refine ss_branch X hc hr (fun hcc => ?_) (fun hcc => ?_)
        · rw [if_pos hcc] at h
          exact ih _ _ _ _ _ _ _ h p e R s m args below meth c n0 w0 Q X hroom hret
        · rw [if_neg hcc] at h
          exact ih _ _ _ _ _ _ _ h p e R s m args below meth c n0 w0 Q X hroom hret
      · simp only [hr] at h
        rcases he : am_step am (pc + len) L st σ with _ | ⟨a, b, cc, d⟩
        · simp only [he] at h; cases h
        · simp only [he] at h
          have g2 := ex_ge F h
          exact ss_all X hc hr he (by omega) (ih _ _ _ _ _ _ _ h p e R s m args below meth c n0 w0 Q X hroom hret)
