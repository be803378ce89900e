def am_ckg (y : Nat) : Bool := (List.range (am_len y)).all (fun pc => match am_tree y pc with
  | some (.goto _, len, _, _) => decide (len = 3)
  | _ => true)
theorem ck_g1 : (List.range 255).all am_ckg = true := by decide +kernel
theorem goto_len {y pc len wa wb : Nat} {t : Int} (h : am_code y pc = some (.goto t, len, wa, wb)) : len = 3 := by
  unfold am_code at h
  split at h
  · rename_i hh
    have h1 := List.all_eq_true.mp (List.all_eq_true.mp ck_g1 y (List.mem_range.mpr hh.1)) pc (List.mem_range.mpr hh.2)
    simp only [h] at h1
    exact of_decide_eq_true h1
  · cases h
theorem ov_at {s : State} (h : TW s) {t : Nat} (ht : t < 3) : ∀ a, (Cond.arrayOver (.object (am_RN (am_et t)))).before a s = true := by
  match t, ht with
  | 0, _ => exact fun a => h.get (i := 85) (by rfl) rfl a
  | 1, _ => exact fun a => h.get (i := 87) (by rfl) rfl a
  | 2, _ => exact fun a => h.get (i := 189) (by rfl) rfl a
  | n + 3, q => exact absurd q (by omega)
/-! all steps together -/
section SL
variable {G : GG} {y : Nat} {p : Program} {l : Launch} {e : Env} {R : Room} {s : State} {m : MethodId} {args : Array Value} {below : List Frame} {meth : Method} {c : Code} {n0 w0 : Nat} {Q : State → Prop}
variable {pc len wa wb pc' : Nat} {L L' : LV} {st st' : List AV} {σ σ' : ST} {am : Instr}
theorem ss_all (X : FX G y p R s m meth c) (hc : am_code y pc = some (am, len, wa, wb)) (ht : am_ctl y am st σ = some (.inr (.inr (.inr ())))) (hs : am_step am (pc + len) L st σ = some (pc', L', st', σ')) (hr : σ'.1 - n0 ≤ R.cells ∧ σ'.2.1 - w0 ≤ R.slots) (kk : WA G y p l e R s m args below meth c n0 w0 Q pc' L' st' σ') : WA G y p l e R s m args below meth c n0 w0 Q pc L st σ := by
  obtain ⟨-, hd, hk⟩ := ck_code hc
  have hKX := X.2.2.2.2.2.2.2.1
  cases am
  case iconst z =>
    simp only [am_step] at hs
    cases hs
    exact ss_iconst X hd hk kk
  case sipush z =>
    simp only [am_step] at hs
    cases hs
    exact ss_lconst X hd hk kk
  case iload i =>
    simp only [am_step, am_ldi] at hs
    split at hs
    · rename_i hl
      cases hs
      exact ss_ldi X hd hk hl kk
    · cases hs
  case lload i =>
    simp only [am_step, am_ldl] at hs
    split at hs
    · rename_i hl
      cases hs
      exact ss_ldl X hd hk hl kk
    · cases hs
  case aload i =>
    simp only [am_step, am_lda] at hs
    split at hs
    · rename_i hl
      cases hs
      exact ss_lda X hd hk hl kk
    · cases hs
  case istore i =>
    simp only [am_step, am_sti] at hs
    split at hs
    · split at hs
      · rename_i hl
        cases hs
        exact ss_sti X hd hk hl kk
      · cases hs
    · cases hs
  case lstore i =>
    simp only [am_step, am_stl] at hs
    split at hs
    · split at hs
      · rename_i hl
        cases hs
        exact ss_stl X hd hk hl kk
      · cases hs
    · cases hs
  case astore i =>
    simp only [am_step, am_sta] at hs
    split at hs
    · split at hs
      · rename_i hl
        cases hs
        exact ss_sta X hd hk hl kk
      · cases hs
    · cases hs
  case iinc i n =>
    simp only [am_step, am_inc] at hs
    split at hs
    · rename_i hl
      cases hs
      simp only [am_ckx, decide_eq_true_eq] at hk
      subst hk
      exact ss_iinc X hd hl kk
    · cases hs
  case iadd =>
    simp only [am_step, am_i2] at hs
    split at hs
    · cases hs
      simp only [am_ckx, decide_eq_true_eq] at hk
      subst hk
      exact ss_iadd X hd kk
    · cases hs
  case isub =>
    simp only [am_step, am_i2] at hs
    split at hs
    · cases hs
      simp only [am_ckx, decide_eq_true_eq] at hk
      subst hk
      exact ss_isub X hd kk
    · cases hs
  case imul =>
    simp only [am_step, am_i2] at hs
    split at hs
    · cases hs
      simp only [am_ckx, decide_eq_true_eq] at hk
      subst hk
      exact ss_imul X hd kk
    · cases hs
  case iand =>
    simp only [am_step, am_i2] at hs
    split at hs
    · cases hs
      simp only [am_ckx, decide_eq_true_eq] at hk
      subst hk
      exact ss_iand X hd kk
    · cases hs
  case ior =>
    simp only [am_step, am_i2] at hs
    split at hs
    · cases hs
      simp only [am_ckx, decide_eq_true_eq] at hk
      subst hk
      exact ss_ior X hd kk
    · cases hs
  case ixor =>
    simp only [am_step, am_i2] at hs
    split at hs
    · cases hs
      simp only [am_ckx, decide_eq_true_eq] at hk
      subst hk
      exact ss_ixor X hd kk
    · cases hs
  case ishl =>
    simp only [am_step, am_i2] at hs
    split at hs
    · cases hs
      simp only [am_ckx, decide_eq_true_eq] at hk
      subst hk
      exact ss_ishl X hd kk
    · cases hs
  case ishr =>
    simp only [am_step, am_i2] at hs
    split at hs
    · cases hs
      simp only [am_ckx, decide_eq_true_eq] at hk
      subst hk
      exact ss_ishr X hd kk
    · cases hs
  case iushr =>
    simp only [am_step, am_i2] at hs
    split at hs
    · cases hs
      simp only [am_ckx, decide_eq_true_eq] at hk
      subst hk
      exact ss_iushr X hd kk
    · cases hs
  case ladd =>
    simp only [am_step, am_l2] at hs
    split at hs
    · cases hs
      simp only [am_ckx, decide_eq_true_eq] at hk
      subst hk
      exact ss_ladd X hd kk
    · cases hs
  case lsub =>
    simp only [am_step, am_l2] at hs
    split at hs
    · cases hs
      simp only [am_ckx, decide_eq_true_eq] at hk
      subst hk
      exact ss_lsub X hd kk
    · cases hs
  case lmul =>
    simp only [am_step, am_l2] at hs
    split at hs
    · cases hs
      simp only [am_ckx, decide_eq_true_eq] at hk
      subst hk
      exact ss_lmul X hd kk
    · cases hs
  case idiv =>
    simp only [am_step, am_i2d] at hs
    split at hs
    · split at hs
      · cases hs
      · rename_i hne
        cases hs
        simp only [am_ckx, decide_eq_true_eq] at hk
        subst hk
        exact ss_idiv X hd hne kk
    · cases hs
  case irem =>
    simp only [am_step, am_i2d] at hs
    split at hs
    · split at hs
      · cases hs
      · rename_i hne
        cases hs
        simp only [am_ckx, decide_eq_true_eq] at hk
        subst hk
        exact ss_irem X hd hne kk
    · cases hs
  case ldiv =>
    simp only [am_step, am_l2d] at hs
    split at hs
    · split at hs
      · cases hs
      · rename_i hne
        cases hs
        simp only [am_ckx, decide_eq_true_eq] at hk
        subst hk
        exact ss_ldiv X hd hne kk
    · cases hs
  case lrem =>
    simp only [am_step, am_l2d] at hs
    split at hs
    · split at hs
      · cases hs
      · rename_i hne
        cases hs
        simp only [am_ckx, decide_eq_true_eq] at hk
        subst hk
        exact ss_lrem X hd hne kk
    · cases hs
  case ineg =>
    simp only [am_step, am_i1] at hs
    split at hs
    · cases hs
      simp only [am_ckx, decide_eq_true_eq] at hk
      subst hk
      exact ss_ineg X hd kk
    · cases hs
  case lneg =>
    simp only [am_step, am_l1] at hs
    split at hs
    · cases hs
      simp only [am_ckx, decide_eq_true_eq] at hk
      subst hk
      exact ss_lneg X hd kk
    · cases hs
  case i2b =>
    simp only [am_step, am_i1] at hs
    split at hs
    · cases hs
      simp only [am_ckx, decide_eq_true_eq] at hk
      subst hk
      exact ss_i2b X hd kk
    · cases hs
  case i2l =>
    simp only [am_step, am_i2l] at hs
    split at hs
    · cases hs
      simp only [am_ckx, decide_eq_true_eq] at hk
      subst hk
      exact ss_i2l X hd kk
    · cases hs
  case l2i =>
    simp only [am_step, am_l2i] at hs
    split at hs
    · cases hs
      simp only [am_ckx, decide_eq_true_eq] at hk
      subst hk
      exact ss_l2i X hd kk
    · cases hs
  case lcmp =>
    simp only [am_step, am_lcmp] at hs
    split at hs
    · cases hs
      simp only [am_ckx, decide_eq_true_eq] at hk
      subst hk
      exact ss_lcmp X hd kk
    · cases hs
  case dup =>
    simp only [am_step, am_dup] at hs
    split at hs
    · split at hs
      · cases hs
      · rename_i hne
        cases hs
        simp only [am_ckx, decide_eq_true_eq] at hk
        subst hk
        exact ss_dup X hd hne kk
    · cases hs
  case pop =>
    simp only [am_step, am_pop1] at hs
    split at hs
    · split at hs
      · cases hs
      · rename_i hne
        cases hs
        simp only [am_ckx, decide_eq_true_eq] at hk
        subst hk
        exact ss_pop X hd hne kk
    · cases hs
  case dup2 =>
    simp only [am_step, am_dup2] at hs
    split at hs
    · split at hs
      · cases hs
      · rename_i hne
        cases hs
        simp only [am_ckx, decide_eq_true_eq] at hk
        subst hk
        simp only [Bool.or_eq_true, not_or] at hne
        exact ss_dup2 X hd hne.1 hne.2 kk
    · cases hs
  case getfield n =>
    simp only [am_step, am_getf] at hs
    split at hs
    · split at hs
      · rename_i hq
        cases hs
        exact ss_get X hd hk hq kk
      · cases hs
    · cases hs
  case putfield n =>
    simp only [am_step, am_putf] at hs
    split at hs
    · split at hs
      · rename_i hq
        cases hs
        exact ss_put X hd hk hq kk
      · cases hs
    · split at hs
      · rename_i hq
        cases hs
        exact ss_putl X hd hk hq kk
      · cases hs
    · split at hs
      · rename_i hq
        cases hs
        exact ss_putr X hd hk hq kk
      · cases hs
    · cases hs
  case getstatic n =>
    simp only [am_step] at hs
    cases hs
    simp only [am_ckx, Bool.and_eq_true, decide_eq_true_eq] at hk
    obtain ⟨rfl, hw⟩ := hk
    exact ss_gets X hd hw kk
  case iaload =>
    simp only [am_step, am_ial] at hs
    simp only [am_ckx, decide_eq_true_eq] at hk
    subst hk
    split at hs
    · split at hs
      · rename_i hq
        cases hs
        exact ss_ial X hd hq kk
      · split at hs
        · rename_i hq
          obtain ⟨rfl, h0⟩ := hq
          cases hs
          exact ss_ials X hd h0 kk
        · cases hs
    · cases hs
  case laload =>
    simp only [am_step, am_lal] at hs
    simp only [am_ckx, decide_eq_true_eq] at hk
    subst hk
    split at hs
    · split at hs
      · rename_i hq
        cases hs
        exact ss_lal X hd hq kk
      · cases hs
    · cases hs
  case baload =>
    simp only [am_step, am_bal] at hs
    simp only [am_ckx, decide_eq_true_eq] at hk
    subst hk
    split at hs
    · split at hs
      · rename_i hq
        cases hs
        exact ss_bal X hd hq kk
      · cases hs
    · cases hs
  case aaload =>
    simp only [am_step, am_aal] at hs
    simp only [am_ckx, decide_eq_true_eq] at hk
    subst hk
    split at hs
    · split at hs
      · rename_i hq
        cases hs
        exact ss_aal X hd hq.1 hq.2 kk
      · cases hs
    · cases hs
  case iastore =>
    simp only [am_step, am_ias] at hs
    simp only [am_ckx, decide_eq_true_eq] at hk
    subst hk
    split at hs
    · split at hs
      · rename_i hq
        cases hs
        exact ss_ias X hd hq kk
      · cases hs
    · cases hs
  case lastore =>
    simp only [am_step, am_las] at hs
    simp only [am_ckx, decide_eq_true_eq] at hk
    subst hk
    split at hs
    · split at hs
      · rename_i hq
        cases hs
        exact ss_las X hd hq kk
      · cases hs
    · cases hs
  case bastore =>
    simp only [am_step, am_bas] at hs
    simp only [am_ckx, decide_eq_true_eq] at hk
    subst hk
    split at hs
    · split at hs
      · rename_i hq
        cases hs
        exact ss_bas X hd hq.1 hq.2 kk
      · cases hs
    · cases hs
  case aastore =>
    simp only [am_step, am_aas] at hs
    simp only [am_ckx, decide_eq_true_eq] at hk
    subst hk
    split at hs
    · split at hs
      · rename_i hq
        cases hs
        exact ss_aas X hd hq.1 ⟨hq.2.1, hq.2.2.1, hq.2.2.2.1, hq.2.2.2.2.1⟩ hq.2.2.2.2.2 kk
      · cases hs
    · cases hs
  case arraylength =>
    simp only [am_step, am_alen] at hs
    simp only [am_ckx, decide_eq_true_eq] at hk
    subst hk
    split at hs
    · split at hs
      · rename_i hq
        split at hs
        · rename_i hlt
          cases hs
          exact ss_alen X hd hq.1 hq.2 hlt kk
        · cases hs
      · split at hs
        · rename_i hq
          obtain ⟨rfl, hpos⟩ := hq
          cases hs
          exact ss_alens X hd hpos kk
        · cases hs
    · cases hs
  case new ci =>
    simp only [am_step, am_new] at hs
    simp only [am_ckx, Bool.and_eq_true, decide_eq_true_eq] at hk
    obtain ⟨rfl, hw⟩ := hk
    split at hs
    · rename_i hq
      cases hs
      exact ss_new (len := 3) X hd hw hq hr kk
    · cases hs
  case newarray t =>
    simp only [am_ckx, Bool.and_eq_true, decide_eq_true_eq] at hk
    obtain ⟨⟨rfl, ht9⟩, hw⟩ := hk
    rcases ht9 with rfl | rfl | rfl
    · simp only [am_step, am_nwa] at hs
      split at hs
      · split at hs
        · rename_i hq
          cases hs
          exact ss_nwa X hd hw (Or.inl ⟨rfl, rfl⟩) ⟨hq.1, hq.2.1, hq.2.2.1⟩ hr kk
        · cases hs
      · cases hs
    · simp only [am_step, am_nwa] at hs
      split at hs
      · split at hs
        · rename_i hq
          cases hs
          exact ss_nwa X hd hw (Or.inr (Or.inl ⟨rfl, rfl⟩)) ⟨hq.1, hq.2.1, hq.2.2.1⟩ hr kk
        · cases hs
      · cases hs
    · simp only [am_step, am_nwa] at hs
      split at hs
      · split at hs
        · rename_i hq
          cases hs
          exact ss_nwa X hd hw (Or.inr (Or.inr ⟨rfl, rfl⟩)) ⟨hq.1, hq.2.1, hq.2.2.1⟩ hr kk
        · cases hs
      · cases hs
  case anewarray t =>
    simp only [am_step, am_nwq] at hs
    simp only [am_ckx, Bool.and_eq_true, decide_eq_true_eq] at hk
    obtain ⟨rfl, hw⟩ := hk
    split at hs
    · split at hs
      · rename_i hq
        cases hs
        exact ss_nwq X hd hw hq.2.2.2 ⟨hq.1, hq.2.1, hq.2.2.1⟩ (ov_at hKX.1 hq.2.2.2) hr kk
      · cases hs
    · cases hs
  case multianewarray t d =>
    simp only [am_step, am_nwm] at hs
    simp only [am_ckx, Bool.and_eq_true, decide_eq_true_eq] at hk
    obtain ⟨⟨rfl, rfl⟩, hw⟩ := hk
    split at hs
    · split at hs
      · rename_i hq
        cases hs
        exact ss_nwm (wc := 0) (wd := 0) X hd hw (fun a => hKX.1.get (i := 126) (by rfl) rfl a) (fun a => hKX.1.get (i := 118) (by rfl) rfl a) hq hr kk
      · cases hs
    · cases hs
  case instanceof d =>
    simp only [am_step, am_inst] at hs
    simp only [am_ckx, Bool.and_eq_true, decide_eq_true_eq] at hk
    obtain ⟨⟨rfl, hd9⟩, hw⟩ := hk
    split at hs
    · split at hs
      · rename_i hq
        cases hs
        exact ss_inst X hd hw hq kk
      · cases hs
    · cases hs
  case checkcast d =>
    simp only [am_step, am_cast] at hs
    simp only [am_ckx, Bool.and_eq_true, decide_eq_true_eq] at hk
    obtain ⟨⟨rfl, hd9⟩, hw⟩ := hk
    split at hs
    · split at hs
      · rename_i hq
        cases hs
        exact ss_cast X hd hw hq kk
      · cases hs
    · cases hs
  case goto t =>
    simp only [am_step] at hs
    cases hs
    simp only [am_ckx, decide_eq_true_eq] at hk
    have hl3 : len = 3 := goto_len hc
    rw [hl3] at hd
    exact ss_goto X hd hk kk
  case tableswitch d lo hi offs =>
    simp only [am_step, am_tsw] at hs
    simp only [am_ckx, Bool.and_eq_true, decide_eq_true_eq] at hk
    have hall : ∀ t ∈ offs.toList, 0 ≤ t := fun t ht => by
      have h1 := Array.all_eq_true_iff_forall_mem.mp hk.2 t (Array.mem_toList_iff.mp ht)
      exact of_decide_eq_true h1
    split at hs
    · split at hs
      · rename_i ho
        cases hs
        exact ss_tsw X hd hk.1 hall (by rw [if_pos ho]) kk
      · rename_i ho
        split at hs
        · rename_i t hq
          cases hs
          exact ss_tsw X hd hk.1 hall (by rw [if_neg ho, hq]; rfl) kk
        · cases hs
    · cases hs
  case invokestatic z =>
    by_cases hz : z = 900
    · simp only [am_ckx, hz, if_true, Bool.and_eq_true, decide_eq_true_eq] at hk
      obtain ⟨rfl, hw, hlo⟩ := hk
      simp only [am_step, am_copy] at hs
      split at hs
      · split at hs
        · rename_i hq
          obtain ⟨q1, q2, q3, q4, rfl⟩ := hq
          cases hs
          exact ss_copy X hd hw hlo q1 q2 ⟨q3, q4⟩ kk
        · cases hs
      · cases hs
    · exfalso
      simp only [am_ctl, hz, if_false] at ht
      unfold am_cS at ht
      split at ht
      · split at ht <;> cases ht
      · cases ht
  case invokespecial z =>
    by_cases hz : z = 901
    · simp only [am_ckx, hz, if_true, Bool.and_eq_true, decide_eq_true_eq] at hk
      obtain ⟨rfl, hw, hlo⟩ := hk
      simp only [am_step, am_oin] at hs
      split at hs
      · split at hs
        · rename_i hq
          obtain ⟨rfl, hpos⟩ := hq
          cases hs
          exact ss_oin X hd hw hlo kk
        · cases hs
      · cases hs
    · exfalso
      simp only [am_ctl, hz, if_false] at ht
      unfold am_cI at ht
      split at ht
      · split at ht <;> cases ht
      · cases ht
  all_goals (simp only [am_step] at hs; cases hs)
end SL
