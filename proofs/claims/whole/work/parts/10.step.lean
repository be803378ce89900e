/-! one step of the abstract machine is one step of the machine -/
def FX (G : GG) (y : Nat) (p : Program) (R : Room) (s : State) (m : MethodId) (meth : Method) (c : Code) : Prop :=
  p.tables.exec = Jvm.exec ∧ c.code = am_C y ∧ c.maxLocals = am_L y ∧ s.vm.findClass (am_own y) = some m.cls ∧ meth.sig.returnType = am_R y ∧ meth.locks = false ∧ ((am_Y y).name = "<init>" → meth.name = "<init>") ∧ KX G s ∧ am_fr y ≤ R.frames ∧ am_lo y ≤ R.locals
def nvs (st : List AV) : Prop := ∀ v ∈ st, NV v
theorem nvs_c {v : AV} {st : List AV} (h1 : NV v) (h2 : nvs st) : nvs (v :: st) := fun w hw => by
  rcases List.mem_cons.mp hw with rfl | h
  · exact h1
  · exact h2 w h
theorem nvs_t {v : AV} {st : List AV} (h : nvs (v :: st)) : nvs st := fun w hw => h w (List.mem_cons_of_mem _ hw)
theorem nvs_h {v : AV} {st : List AV} (h : nvs (v :: st)) : NV v := h v List.mem_cons_self
/-- the machine at a state of the abstract one: it comes to Q -/
def WA (G : GG) (y : Nat) (p : Program) (l : Launch) (e : Env) (R : Room) (s : State) (m : MethodId) (args : Array Value) (below : List Frame) (meth : Method) (c : Code) (n0 w0 : Nat) (Q : State → Prop) (pc : Nat) (L : LV) (st : List AV) (σ : ST) : Prop :=
  ∀ (H : Heap) (locs : List Loc) (ls : Array Slot), LR G ls (am_L y) L → nvs st → RP G s σ H locs → n0 ≤ σ.1 → w0 ≤ σ.2.1 → W p l e R s m args below meth c H locs (σ.1 - n0) (σ.2.1 - w0) Q (F0 m pc ls (st.map (cv G)))
section SS
variable {G : GG} {y : Nat} {p : Program} {l : Launch} {e : Env} {R : Room} {s : State} {m : MethodId} {args : Array Value} {below : List Frame} {meth : Method} {c : Code} {n0 w0 : Nat} {Q : State → Prop}
variable {pc len wa wb : Nat} {L : LV} {st : List AV} {σ : ST}
theorem ss_iconst {z : Int} (X : FX G y p R s m meth c) (hd : decode (am_C y) pc = .ok (am_raw pc wa (.iconst z), len)) (hk : am_ckc y len wa wb z = true) (k : WA G y p l e R s m args below meth c n0 w0 Q (pc + len) L (.inl z :: st) σ) : WA G y p l e R s m args below meth c n0 w0 Q pc L st σ := by
  intro H locs ls hL hst hR h1 h2
  unfold am_ckc at hk
  rw [Bool.and_eq_true] at hk
  have hz : nz z = z := of_decide_eq_true hk.1
  have kk := k H locs ls hL (nvs_c hz hst) hR h1 h2
  have hk := hk.2
  have hTW : TW s := X.2.2.2.2.2.2.2.1.1
  simp only [am_raw] at hd
  by_cases a0 : wa = 0
  · simp only [a0, if_true, decide_eq_true_eq] at hk hd
    subst hk
    exact lv_iconst X.1 X.2.1 hd rfl kk
  · rw [if_neg a0] at hk hd
    by_cases a1 : wa = 1
    · simp only [a1, if_true, Bool.and_eq_true, decide_eq_true_eq] at hk hd
      rw [hk.1] at hd kk
      exact lv_bipush X.1 X.2.1 hd hk.2 kk
    · rw [if_neg a1] at hk hd
      by_cases a2 : wa = 2
      · simp only [a2, if_true, Bool.and_eq_true, decide_eq_true_eq] at hk hd
        rw [hk.1] at hd kk
        exact lv_sipush X.1 X.2.1 hd hk.2 kk
      · rw [if_neg a2] at hk hd
        by_cases a3 : 100000 ≤ wa
        · rw [if_pos a3] at hk hd
          simp only [Bool.and_eq_true, decide_eq_true_eq] at hk
          rw [hk.1] at hd kk
          exact lv_ldcw X.1 X.2.1 X.2.2.2.1 (hTW.get hk.2 rfl args) hd kk
        · rw [if_neg a3] at hk hd
          simp only [Bool.and_eq_true, decide_eq_true_eq] at hk
          rw [hk.1] at hd kk
          exact lv_ldc X.1 X.2.1 X.2.2.2.1 (hTW.get hk.2 rfl args) hd kk
theorem ss_lconst {z : Int} (X : FX G y p R s m meth c) (hd : decode (am_C y) pc = .ok (am_raw pc wa (.sipush z), len)) (hk : am_ckl y len wa wb z = true) (k : WA G y p l e R s m args below meth c n0 w0 Q (pc + len) L (.inr (.inl z) :: st) σ) : WA G y p l e R s m args below meth c n0 w0 Q pc L st σ := by
  intro H locs ls hL hst hR h1 h2
  unfold am_ckl at hk
  rw [Bool.and_eq_true] at hk
  have hz : nzl z = z := of_decide_eq_true hk.1
  have kk := k H locs ls hL (nvs_c hz hst) hR h1 h2
  have hk := hk.2
  have hTW : TW s := X.2.2.2.2.2.2.2.1.1
  simp only [am_raw] at hd
  by_cases a0 : wa = 0
  · simp only [a0, if_true, Bool.and_eq_true, decide_eq_true_eq] at hk hd
    rw [hk.1] at hd kk
    rcases hk.2 with rfl | rfl
    · exact lv_lconst (n := 0) X.1 X.2.1 hd rfl kk
    · exact lv_lconst (n := 1) X.1 X.2.1 hd rfl kk
  · rw [if_neg a0] at hk hd
    simp only [Bool.and_eq_true, decide_eq_true_eq] at hk
    rw [hk.1] at hd kk
    exact lv_ldc2 X.1 X.2.1 X.2.2.2.1 (hTW.get hk.2 rfl args) hd kk
theorem fin4 {i : Nat} (h : i < 4) : ((Fin.ofNat 4 i : Fin 4) : Nat) = i := Nat.mod_eq_of_lt h
theorem ss_ldi {i : Nat} {z : Int} (X : FX G y p R s m meth c) (hd : decode (am_C y) pc = .ok (am_raw pc wa (.iload i), len)) (hk : am_ckv i len wa = true) (hl : L[i]? = some (some (.inl z))) (k : WA G y p l e R s m args below meth c n0 w0 Q (pc + len) L (.inl z :: st) σ) : WA G y p l e R s m args below meth c n0 w0 Q pc L st σ := by
  intro H locs ls hL hst hR h1 h2
  obtain ⟨q1, q2⟩ := hL.2.2.2 _ _ hl
  have kk := k H locs ls hL (nvs_c q2 hst) hR h1 h2
  unfold am_ckv at hk
  simp only [am_raw] at hd
  by_cases a1 : wa = 1
  · simp only [a1, if_true, decide_eq_true_eq] at hk hd
    subst hk
    exact lv_iload X.1 X.2.1 hd q1 kk
  · rw [if_neg a1] at hk hd
    simp only [Bool.and_eq_true, decide_eq_true_eq] at hk
    rw [hk.1] at hd kk
    exact lv_iload_n X.1 X.2.1 hd (fin4 hk.2) q1 kk
theorem ss_ldl {i : Nat} {z : Int} (X : FX G y p R s m meth c) (hd : decode (am_C y) pc = .ok (am_raw pc wa (.lload i), len)) (hk : am_ckv i len wa = true) (hl : L[i]? = some (some (.inr (.inl z)))) (k : WA G y p l e R s m args below meth c n0 w0 Q (pc + len) L (.inr (.inl z) :: st) σ) : WA G y p l e R s m args below meth c n0 w0 Q pc L st σ := by
  intro H locs ls hL hst hR h1 h2
  obtain ⟨q1, q2⟩ := hL.2.2.2 _ _ hl
  have kk := k H locs ls hL (nvs_c q2 hst) hR h1 h2
  unfold am_ckv at hk
  simp only [am_raw] at hd
  by_cases a1 : wa = 1
  · simp only [a1, if_true, decide_eq_true_eq] at hk hd
    subst hk
    exact lv_lload X.1 X.2.1 hd q1 kk
  · rw [if_neg a1] at hk hd
    simp only [Bool.and_eq_true, decide_eq_true_eq] at hk
    rw [hk.1] at hd kk
    exact lv_lload_n X.1 X.2.1 hd (fin4 hk.2) q1 kk
theorem ss_lda {i : Nat} {z : Nat} (X : FX G y p R s m meth c) (hd : decode (am_C y) pc = .ok (am_raw pc wa (.aload i), len)) (hk : am_ckv i len wa = true) (hl : L[i]? = some (some (.inr (.inr (some z))))) (k : WA G y p l e R s m args below meth c n0 w0 Q (pc + len) L (.inr (.inr (some z)) :: st) σ) : WA G y p l e R s m args below meth c n0 w0 Q pc L st σ := by
  intro H locs ls hL hst hR h1 h2
  obtain ⟨q1, q2⟩ := hL.2.2.2 _ _ hl
  have kk := k H locs ls hL (nvs_c q2 hst) hR h1 h2
  unfold am_ckv at hk
  simp only [am_raw] at hd
  by_cases a1 : wa = 1
  · simp only [a1, if_true, decide_eq_true_eq] at hk hd
    subst hk
    exact lv_aload X.1 X.2.1 hd q1 kk
  · rw [if_neg a1] at hk hd
    simp only [Bool.and_eq_true, decide_eq_true_eq] at hk
    rw [hk.1] at hd kk
    exact lv_aload_n X.1 X.2.1 hd (fin4 hk.2) q1 kk
theorem ss_sti {i : Nat} {z : Int} (X : FX G y p R s m meth c) (hd : decode (am_C y) pc = .ok (am_raw pc wa (.istore i), len)) (hk : am_ckv i len wa = true) (hi : i < L.length) (k : WA G y p l e R s m args below meth c n0 w0 Q (pc + len) (am_st1 L i (.inl z)) st σ) : WA G y p l e R s m args below meth c n0 w0 Q pc L (.inl z :: st) σ := by
  intro H locs ls hL hst hR h1 h2
  have hi' : i < am_L y := by rw [← hL.2.2.1]; exact hi
  have kk := fun (ls' : Array Slot) (h : lv_has ls' (am_L y) _) => k H locs ls' (hL.s1 (nvs_h hst) h) (nvs_t hst) hR h1 h2
  unfold am_ckv at hk
  simp only [am_raw] at hd
  by_cases a1 : wa = 1
  · simp only [a1, if_true, decide_eq_true_eq] at hk hd
    subst hk
    exact lv_istore X.1 X.2.1 hd hL.has hi' rfl kk
  · rw [if_neg a1] at hk hd
    simp only [Bool.and_eq_true, decide_eq_true_eq] at hk
    rw [hk.1] at hd kk
    exact lv_istore_n X.1 X.2.1 hd (fin4 hk.2) hL.has hi' rfl kk
theorem ss_stl {i : Nat} {z : Int} (X : FX G y p R s m meth c) (hd : decode (am_C y) pc = .ok (am_raw pc wa (.lstore i), len)) (hk : am_ckv i len wa = true) (hi : i + 1 < L.length) (k : WA G y p l e R s m args below meth c n0 w0 Q (pc + len) (am_st2 L i (.inr (.inl z))) st σ) : WA G y p l e R s m args below meth c n0 w0 Q pc L (.inr (.inl z) :: st) σ := by
  intro H locs ls hL hst hR h1 h2
  have hi' : i + 1 < am_L y := by rw [← hL.2.2.1]; exact hi
  have kk := fun (ls' : Array Slot) (h : lv_has ls' (am_L y) _) => k H locs ls' (hL.s2 (nvs_h hst) h) (nvs_t hst) hR h1 h2
  unfold am_ckv at hk
  simp only [am_raw] at hd
  by_cases a1 : wa = 1
  · simp only [a1, if_true, decide_eq_true_eq] at hk hd
    subst hk
    exact lv_lstore X.1 X.2.1 hd hL.has hi' rfl kk
  · rw [if_neg a1] at hk hd
    simp only [Bool.and_eq_true, decide_eq_true_eq] at hk
    rw [hk.1] at hd kk
    exact lv_lstore_n X.1 X.2.1 hd (fin4 hk.2) hL.has hi' rfl kk
theorem ss_sta {i : Nat} {z : Nat} (X : FX G y p R s m meth c) (hd : decode (am_C y) pc = .ok (am_raw pc wa (.astore i), len)) (hk : am_ckv i len wa = true) (hi : i < L.length) (k : WA G y p l e R s m args below meth c n0 w0 Q (pc + len) (am_st1 L i (.inr (.inr (some z)))) st σ) : WA G y p l e R s m args below meth c n0 w0 Q pc L (.inr (.inr (some z)) :: st) σ := by
  intro H locs ls hL hst hR h1 h2
  have hi' : i < am_L y := by rw [← hL.2.2.1]; exact hi
  have kk := fun (ls' : Array Slot) (h : lv_has ls' (am_L y) _) => k H locs ls' (hL.s1 (nvs_h hst) h) (nvs_t hst) hR h1 h2
  unfold am_ckv at hk
  simp only [am_raw] at hd
  by_cases a1 : wa = 1
  · simp only [a1, if_true, decide_eq_true_eq] at hk hd
    subst hk
    exact lv_astore X.1 X.2.1 hd hL.has hi' rfl kk
  · rw [if_neg a1] at hk hd
    simp only [Bool.and_eq_true, decide_eq_true_eq] at hk
    rw [hk.1] at hd kk
    exact lv_astore_n X.1 X.2.1 hd (fin4 hk.2) hL.has hi' rfl kk
theorem ss_iinc {i : Nat} {n z : Int} (X : FX G y p R s m meth c) (hd : decode (am_C y) pc = .ok (.iinc i n, 3)) (hl : L[i]? = some (some (.inl z))) (k : WA G y p l e R s m args below meth c n0 w0 Q (pc + 3) (am_st1 L i (.inl (nz (z + n)))) st σ) : WA G y p l e R s m args below meth c n0 w0 Q pc L st σ := by
  intro H locs ls hL hst hR h1 h2
  have hi : i < am_L y := by
    rw [← hL.2.2.1]; exact (List.getElem?_eq_some_iff.mp hl).1
  obtain ⟨j, hj⟩ := List.getElem?_of_mem (lr_in (G := G) hl)
  have kk := fun (ls' : Array Slot) (h : lv_has ls' (am_L y) _) => k H locs ls' (hL.s1 (v := .inl (nz (z + n))) (nz_nz _) h) hst hR h1 h2
  exact lv_iinc X.1 X.2.1 hd hL.has (k := j) hj (v := Int32.ofInt (nz (z + n))) (by rw [of_nz, Int32.ofInt_add]) hi rfl kk
theorem ss_iadd {a b : Int} (X : FX G y p R s m meth c) (hd : decode (am_C y) pc = .ok (.iadd, 1)) (k : WA G y p l e R s m args below meth c n0 w0 Q (pc + 1) L (.inl (nz (a + b)) :: st) σ) : WA G y p l e R s m args below meth c n0 w0 Q pc L (.inl b :: .inl a :: st) σ := by
  intro H locs ls hL hst hR h1 h2
  have kk := k H locs ls hL (nvs_c (v := .inl (nz (a + b))) (nz_nz _) (nvs_t (nvs_t hst))) hR h1 h2
  simp only [List.map_cons, cv, i_add] at kk ⊢
  exact lv_iadd X.1 X.2.1 hd kk
theorem ss_isub {a b : Int} (X : FX G y p R s m meth c) (hd : decode (am_C y) pc = .ok (.isub, 1)) (k : WA G y p l e R s m args below meth c n0 w0 Q (pc + 1) L (.inl (nz (a - b)) :: st) σ) : WA G y p l e R s m args below meth c n0 w0 Q pc L (.inl b :: .inl a :: st) σ := by
  intro H locs ls hL hst hR h1 h2
  have kk := k H locs ls hL (nvs_c (v := .inl (nz (a - b))) (nz_nz _) (nvs_t (nvs_t hst))) hR h1 h2
  simp only [List.map_cons, cv, i_sub] at kk ⊢
  exact lv_isub X.1 X.2.1 hd kk
theorem ss_imul {a b : Int} (X : FX G y p R s m meth c) (hd : decode (am_C y) pc = .ok (.imul, 1)) (k : WA G y p l e R s m args below meth c n0 w0 Q (pc + 1) L (.inl (nz (a * b)) :: st) σ) : WA G y p l e R s m args below meth c n0 w0 Q pc L (.inl b :: .inl a :: st) σ := by
  intro H locs ls hL hst hR h1 h2
  have kk := k H locs ls hL (nvs_c (v := .inl (nz (a * b))) (nz_nz _) (nvs_t (nvs_t hst))) hR h1 h2
  simp only [List.map_cons, cv, i_mul] at kk ⊢
  exact lv_imul X.1 X.2.1 hd kk
theorem ss_iand {a b : Int} (X : FX G y p R s m meth c) (hd : decode (am_C y) pc = .ok (.iand, 1)) (k : WA G y p l e R s m args below meth c n0 w0 Q (pc + 1) L (.inl (am_and a b) :: st) σ) : WA G y p l e R s m args below meth c n0 w0 Q pc L (.inl b :: .inl a :: st) σ := by
  intro H locs ls hL hst hR h1 h2
  have kk := k H locs ls hL (nvs_c (v := .inl (am_and a b)) (nz_i _) (nvs_t (nvs_t hst))) hR h1 h2
  simp only [List.map_cons, cv, am_and, of_i] at kk ⊢
  exact lv_iand X.1 X.2.1 hd kk
theorem ss_ior {a b : Int} (X : FX G y p R s m meth c) (hd : decode (am_C y) pc = .ok (.ior, 1)) (k : WA G y p l e R s m args below meth c n0 w0 Q (pc + 1) L (.inl (am_or a b) :: st) σ) : WA G y p l e R s m args below meth c n0 w0 Q pc L (.inl b :: .inl a :: st) σ := by
  intro H locs ls hL hst hR h1 h2
  have kk := k H locs ls hL (nvs_c (v := .inl (am_or a b)) (nz_i _) (nvs_t (nvs_t hst))) hR h1 h2
  simp only [List.map_cons, cv, am_or, of_i] at kk ⊢
  exact lv_ior X.1 X.2.1 hd kk
theorem ss_ixor {a b : Int} (X : FX G y p R s m meth c) (hd : decode (am_C y) pc = .ok (.ixor, 1)) (k : WA G y p l e R s m args below meth c n0 w0 Q (pc + 1) L (.inl (am_xor a b) :: st) σ) : WA G y p l e R s m args below meth c n0 w0 Q pc L (.inl b :: .inl a :: st) σ := by
  intro H locs ls hL hst hR h1 h2
  have kk := k H locs ls hL (nvs_c (v := .inl (am_xor a b)) (nz_i _) (nvs_t (nvs_t hst))) hR h1 h2
  simp only [List.map_cons, cv, am_xor, of_i] at kk ⊢
  exact lv_ixor X.1 X.2.1 hd kk
theorem ss_ishl {a b : Int} (X : FX G y p R s m meth c) (hd : decode (am_C y) pc = .ok (.ishl, 1)) (k : WA G y p l e R s m args below meth c n0 w0 Q (pc + 1) L (.inl (am_shl a b) :: st) σ) : WA G y p l e R s m args below meth c n0 w0 Q pc L (.inl b :: .inl a :: st) σ := by
  intro H locs ls hL hst hR h1 h2
  have kk := k H locs ls hL (nvs_c (v := .inl (am_shl a b)) (nz_i _) (nvs_t (nvs_t hst))) hR h1 h2
  simp only [List.map_cons, cv, am_shl, of_i] at kk ⊢
  exact lv_ishl X.1 X.2.1 hd kk
theorem ss_ishr {a b : Int} (X : FX G y p R s m meth c) (hd : decode (am_C y) pc = .ok (.ishr, 1)) (k : WA G y p l e R s m args below meth c n0 w0 Q (pc + 1) L (.inl (am_shr a b) :: st) σ) : WA G y p l e R s m args below meth c n0 w0 Q pc L (.inl b :: .inl a :: st) σ := by
  intro H locs ls hL hst hR h1 h2
  have kk := k H locs ls hL (nvs_c (v := .inl (am_shr a b)) (nz_i _) (nvs_t (nvs_t hst))) hR h1 h2
  simp only [List.map_cons, cv, am_shr, of_i] at kk ⊢
  exact lv_ishr X.1 X.2.1 hd kk
theorem ss_iushr {a b : Int} (X : FX G y p R s m meth c) (hd : decode (am_C y) pc = .ok (.iushr, 1)) (k : WA G y p l e R s m args below meth c n0 w0 Q (pc + 1) L (.inl (am_ushr a b) :: st) σ) : WA G y p l e R s m args below meth c n0 w0 Q pc L (.inl b :: .inl a :: st) σ := by
  intro H locs ls hL hst hR h1 h2
  have kk := k H locs ls hL (nvs_c (v := .inl (am_ushr a b)) (nz_i _) (nvs_t (nvs_t hst))) hR h1 h2
  simp only [List.map_cons, cv, am_ushr, of_i] at kk ⊢
  exact lv_iushr X.1 X.2.1 hd rfl kk
theorem ss_ineg {a : Int} (X : FX G y p R s m meth c) (hd : decode (am_C y) pc = .ok (.ineg, 1)) (k : WA G y p l e R s m args below meth c n0 w0 Q (pc + 1) L (.inl (nz (-a)) :: st) σ) : WA G y p l e R s m args below meth c n0 w0 Q pc L (.inl a :: st) σ := by
  intro H locs ls hL hst hR h1 h2
  have kk := k H locs ls hL (nvs_c (v := .inl (nz (-a))) (nz_nz _) (nvs_t hst)) hR h1 h2
  simp only [List.map_cons, cv, i_neg] at kk ⊢
  exact lv_ineg X.1 X.2.1 hd kk
theorem ss_lneg {a : Int} (X : FX G y p R s m meth c) (hd : decode (am_C y) pc = .ok (.lneg, 1)) (k : WA G y p l e R s m args below meth c n0 w0 Q (pc + 1) L (.inr (.inl (nzl (-a))) :: st) σ) : WA G y p l e R s m args below meth c n0 w0 Q pc L (.inr (.inl a) :: st) σ := by
  intro H locs ls hL hst hR h1 h2
  have kk := k H locs ls hL (nvs_c (v := .inr (.inl (nzl (-a)))) (nzl_nzl _) (nvs_t hst)) hR h1 h2
  simp only [List.map_cons, cv, l_neg] at kk ⊢
  exact lv_lneg X.1 X.2.1 hd kk
theorem ss_i2b {a : Int} (X : FX G y p R s m meth c) (hd : decode (am_C y) pc = .ok (.i2b, 1)) (k : WA G y p l e R s m args below meth c n0 w0 Q (pc + 1) L (.inl (am_i2b a) :: st) σ) : WA G y p l e R s m args below meth c n0 w0 Q pc L (.inl a :: st) σ := by
  intro H locs ls hL hst hR h1 h2
  have kk := k H locs ls hL (nvs_c (v := .inl (am_i2b a)) (nz_i _) (nvs_t hst)) hR h1 h2
  simp only [List.map_cons, cv, am_i2b, of_i] at kk ⊢
  exact lv_i2b X.1 X.2.1 hd rfl kk
theorem ss_i2l {a : Int} (X : FX G y p R s m meth c) (hd : decode (am_C y) pc = .ok (.i2l, 1)) (k : WA G y p l e R s m args below meth c n0 w0 Q (pc + 1) L (.inr (.inl a) :: st) σ) : WA G y p l e R s m args below meth c n0 w0 Q pc L (.inl a :: st) σ := by
  intro H locs ls hL hst hR h1 h2
  have ha : nz a = a := nvs_h hst
  have kk := k H locs ls hL (nvs_c (v := .inr (.inl a)) (n_il ha) (nvs_t hst)) hR h1 h2
  exact lv_i2l X.1 X.2.1 hd (i_il ha) kk
theorem ss_l2i {a : Int} (X : FX G y p R s m meth c) (hd : decode (am_C y) pc = .ok (.l2i, 1)) (k : WA G y p l e R s m args below meth c n0 w0 Q (pc + 1) L (.inl (nz a) :: st) σ) : WA G y p l e R s m args below meth c n0 w0 Q pc L (.inr (.inl a) :: st) σ := by
  intro H locs ls hL hst hR h1 h2
  have kk := k H locs ls hL (nvs_c (v := .inl (nz a)) (nz_nz _) (nvs_t hst)) hR h1 h2
  exact lv_l2i X.1 X.2.1 hd (i_li a) kk
theorem ss_lcmp {a b : Int} (X : FX G y p R s m meth c) (hd : decode (am_C y) pc = .ok (.lcmp, 1)) (k : WA G y p l e R s m args below meth c n0 w0 Q (pc + 1) L (.inl (am_cmp a b) :: st) σ) : WA G y p l e R s m args below meth c n0 w0 Q pc L (.inr (.inl b) :: .inr (.inl a) :: st) σ := by
  intro H locs ls hL hst hR h1 h2
  have hb : nzl b = b := nvs_h hst
  have ha : nzl a = a := nvs_h (nvs_t hst)
  have kk := k H locs ls hL (nvs_c (v := .inl (am_cmp a b)) (n_cmp a b) (nvs_t (nvs_t hst))) hR h1 h2
  simp only [List.map_cons, cv] at kk ⊢
  rw [← i_cmp ha hb] at kk
  exact W.lcmp X.1 X.2.1 hd kk
theorem ss_ladd {a b : Int} (X : FX G y p R s m meth c) (hd : decode (am_C y) pc = .ok (.ladd, 1)) (k : WA G y p l e R s m args below meth c n0 w0 Q (pc + 1) L (.inr (.inl (nzl (a + b))) :: st) σ) : WA G y p l e R s m args below meth c n0 w0 Q pc L (.inr (.inl b) :: .inr (.inl a) :: st) σ := by
  intro H locs ls hL hst hR h1 h2
  have kk := k H locs ls hL (nvs_c (v := .inr (.inl (nzl (a + b)))) (nzl_nzl _) (nvs_t (nvs_t hst))) hR h1 h2
  simp only [List.map_cons, cv, l_add] at kk ⊢
  exact lv_ladd X.1 X.2.1 hd kk
theorem ss_lsub {a b : Int} (X : FX G y p R s m meth c) (hd : decode (am_C y) pc = .ok (.lsub, 1)) (k : WA G y p l e R s m args below meth c n0 w0 Q (pc + 1) L (.inr (.inl (nzl (a - b))) :: st) σ) : WA G y p l e R s m args below meth c n0 w0 Q pc L (.inr (.inl b) :: .inr (.inl a) :: st) σ := by
  intro H locs ls hL hst hR h1 h2
  have kk := k H locs ls hL (nvs_c (v := .inr (.inl (nzl (a - b)))) (nzl_nzl _) (nvs_t (nvs_t hst))) hR h1 h2
  simp only [List.map_cons, cv, l_sub] at kk ⊢
  exact lv_lsub X.1 X.2.1 hd kk
theorem ss_lmul {a b : Int} (X : FX G y p R s m meth c) (hd : decode (am_C y) pc = .ok (.lmul, 1)) (k : WA G y p l e R s m args below meth c n0 w0 Q (pc + 1) L (.inr (.inl (nzl (a * b))) :: st) σ) : WA G y p l e R s m args below meth c n0 w0 Q pc L (.inr (.inl b) :: .inr (.inl a) :: st) σ := by
  intro H locs ls hL hst hR h1 h2
  have kk := k H locs ls hL (nvs_c (v := .inr (.inl (nzl (a * b)))) (nzl_nzl _) (nvs_t (nvs_t hst))) hR h1 h2
  simp only [List.map_cons, cv, l_mul] at kk ⊢
  exact lv_lmul X.1 X.2.1 hd kk
theorem ss_idiv {a b : Int} (X : FX G y p R s m meth c) (hd : decode (am_C y) pc = .ok (.idiv, 1)) (hne : ¬ b = 0) (k : WA G y p l e R s m args below meth c n0 w0 Q (pc + 1) L (.inl (nz (a.tdiv b)) :: st) σ) : WA G y p l e R s m args below meth c n0 w0 Q pc L (.inl b :: .inl a :: st) σ := by
  intro H locs ls hL hst hR h1 h2
  have hb : nz b = b := nvs_h hst
  have ha : nz a = a := nvs_h (nvs_t hst)
  have kk := k H locs ls hL (nvs_c (v := .inl (nz (a.tdiv b))) (nz_nz _) (nvs_t (nvs_t hst))) hR h1 h2
  simp only [List.map_cons, cv, i_div ha hb] at kk ⊢
  exact lv_idiv X.1 X.2.1 hd (fun q => hne ((i_eq hb n_0).mp q)) kk
theorem ss_irem {a b : Int} (X : FX G y p R s m meth c) (hd : decode (am_C y) pc = .ok (.irem, 1)) (hne : ¬ b = 0) (k : WA G y p l e R s m args below meth c n0 w0 Q (pc + 1) L (.inl (a.tmod b) :: st) σ) : WA G y p l e R s m args below meth c n0 w0 Q pc L (.inl b :: .inl a :: st) σ := by
  intro H locs ls hL hst hR h1 h2
  have hb : nz b = b := nvs_h hst
  have ha : nz a = a := nvs_h (nvs_t hst)
  have kk := k H locs ls hL (nvs_c (v := .inl (a.tmod b)) (n_rem ha) (nvs_t (nvs_t hst))) hR h1 h2
  simp only [List.map_cons, cv, i_rem ha hb] at kk ⊢
  exact lv_irem X.1 X.2.1 hd (fun q => hne ((i_eq hb n_0).mp q)) kk
theorem ss_ldiv {a b : Int} (X : FX G y p R s m meth c) (hd : decode (am_C y) pc = .ok (.ldiv, 1)) (hne : ¬ b = 0) (k : WA G y p l e R s m args below meth c n0 w0 Q (pc + 1) L (.inr (.inl (nzl (a.tdiv b))) :: st) σ) : WA G y p l e R s m args below meth c n0 w0 Q pc L (.inr (.inl b) :: .inr (.inl a) :: st) σ := by
  intro H locs ls hL hst hR h1 h2
  have hb : nzl b = b := nvs_h hst
  have ha : nzl a = a := nvs_h (nvs_t hst)
  have kk := k H locs ls hL (nvs_c (v := .inr (.inl (nzl (a.tdiv b)))) (nzl_nzl _) (nvs_t (nvs_t hst))) hR h1 h2
  simp only [List.map_cons, cv, l_div ha hb] at kk ⊢
  exact lv_ldiv X.1 X.2.1 hd (fun q => hne ((l_eq hb nl_0).mp q)) kk
theorem ss_lrem {a b : Int} (X : FX G y p R s m meth c) (hd : decode (am_C y) pc = .ok (.lrem, 1)) (hne : ¬ b = 0) (k : WA G y p l e R s m args below meth c n0 w0 Q (pc + 1) L (.inr (.inl (a.tmod b)) :: st) σ) : WA G y p l e R s m args below meth c n0 w0 Q pc L (.inr (.inl b) :: .inr (.inl a) :: st) σ := by
  intro H locs ls hL hst hR h1 h2
  have hb : nzl b = b := nvs_h hst
  have ha : nzl a = a := nvs_h (nvs_t hst)
  have kk := k H locs ls hL (nvs_c (v := .inr (.inl (a.tmod b))) (nl_rem ha) (nvs_t (nvs_t hst))) hR h1 h2
  simp only [List.map_cons, cv, l_rem ha hb] at kk ⊢
  exact lv_lrem X.1 X.2.1 hd (fun q => hne ((l_eq hb nl_0).mp q)) kk
theorem ss_dup {v : AV} (X : FX G y p R s m meth c) (hd : decode (am_C y) pc = .ok (.dup, 1)) (hv : ¬ am_isL v = true) (k : WA G y p l e R s m args below meth c n0 w0 Q (pc + 1) L (v :: v :: st) σ) : WA G y p l e R s m args below meth c n0 w0 Q pc L (v :: st) σ := by
  intro H locs ls hL hst hR h1 h2
  have kk := k H locs ls hL (nvs_c (nvs_h hst) hst) hR h1 h2
  exact lv_dup X.1 X.2.1 hd (by rw [cv_cat, if_neg hv]) kk
theorem ss_pop {v : AV} (X : FX G y p R s m meth c) (hd : decode (am_C y) pc = .ok (.pop, 1)) (hv : ¬ am_isL v = true) (k : WA G y p l e R s m args below meth c n0 w0 Q (pc + 1) L st σ) : WA G y p l e R s m args below meth c n0 w0 Q pc L (v :: st) σ := by
  intro H locs ls hL hst hR h1 h2
  have kk := k H locs ls hL (nvs_t hst) hR h1 h2
  exact lv_pop X.1 X.2.1 hd (by rw [cv_cat, if_neg hv]) kk
theorem ss_dup2 {v w : AV} (X : FX G y p R s m meth c) (hd : decode (am_C y) pc = .ok (.dup2, 1)) (hv : ¬ am_isL v = true) (hw : ¬ am_isL w = true) (k : WA G y p l e R s m args below meth c n0 w0 Q (pc + 1) L (v :: w :: v :: w :: st) σ) : WA G y p l e R s m args below meth c n0 w0 Q pc L (v :: w :: st) σ := by
  intro H locs ls hL hst hR h1 h2
  have kk := k H locs ls hL (nvs_c (nvs_h hst) (nvs_c (nvs_h (nvs_t hst)) hst)) hR h1 h2
  exact lv_dup2_11 X.1 X.2.1 hd (by rw [cv_cat, if_neg hv]) (by rw [cv_cat, if_neg hw]) kk
theorem tgt {t : Int} (h : 0 ≤ t) (q : Nat) : ((q : Int) + (t - q)) = ((t.toNat : Nat) : Int) := by omega
theorem ss_goto {t : Int} (X : FX G y p R s m meth c) (hd : decode (am_C y) pc = .ok (.goto (t - pc), 3)) (ht : 0 ≤ t) (k : WA G y p l e R s m args below meth c n0 w0 Q t.toNat L st σ) : WA G y p l e R s m args below meth c n0 w0 Q pc L st σ := by
  intro H locs ls hL hst hR h1 h2
  exact lv_goto X.1 X.2.1 hd (tgt ht pc) (k H locs ls hL hst hR h1 h2)
theorem ss_if {cd : ClassFile.Cond} {t a : Int} (X : FX G y p R s m meth c) (hd : decode (am_C y) pc = .ok (.ifCond cd (t - pc), 3)) (ht : 0 ≤ t) (kt : am_cnd cd a 0 = true → WA G y p l e R s m args below meth c n0 w0 Q t.toNat L st σ) (kf : ¬ am_cnd cd a 0 = true → WA G y p l e R s m args below meth c n0 w0 Q (pc + 3) L st σ) : WA G y p l e R s m args below meth c n0 w0 Q pc L (.inl a :: st) σ := by
  intro H locs ls hL hst hR h1 h2
  have ha : nz a = a := nvs_h hst
  have hs := nvs_t hst
  simp only [List.map_cons, cv]
  cases cd
  · refine lv_if_eq X.1 X.2.1 hd (tgt ht pc) (fun q => kt (decide_eq_true ((i_eq ha n_0).mp q)) H locs ls hL hs hR h1 h2) (fun q => kf (fun h => q ((i_eq ha n_0).mpr (of_decide_eq_true h))) H locs ls hL hs hR h1 h2)
  · refine lv_if_ne X.1 X.2.1 hd (tgt ht pc) (fun q => kt (decide_eq_true ((not_congr (i_eq ha n_0)).mp q)) H locs ls hL hs hR h1 h2) (fun q => kf (fun h => (not_congr (i_eq ha n_0)).mpr (of_decide_eq_true h) q) H locs ls hL hs hR h1 h2)
  · refine lv_if_lt X.1 X.2.1 hd (tgt ht pc) (fun q => kt (decide_eq_true ((i_lt ha n_0).mp q)) H locs ls hL hs hR h1 h2) (fun q => kf (fun h => q ((i_lt ha n_0).mpr (of_decide_eq_true h))) H locs ls hL hs hR h1 h2)
  · refine lv_if_ge X.1 X.2.1 hd (tgt ht pc) (fun q => kt (decide_eq_true ((i_le n_0 ha).mp q)) H locs ls hL hs hR h1 h2) (fun q => kf (fun h => q ((i_le n_0 ha).mpr (of_decide_eq_true h))) H locs ls hL hs hR h1 h2)
  · refine lv_if_gt X.1 X.2.1 hd (tgt ht pc) (fun q => kt (decide_eq_true ((i_lt n_0 ha).mp q)) H locs ls hL hs hR h1 h2) (fun q => kf (fun h => q ((i_lt n_0 ha).mpr (of_decide_eq_true h))) H locs ls hL hs hR h1 h2)
  · refine lv_if_le X.1 X.2.1 hd (tgt ht pc) (fun q => kt (decide_eq_true ((i_le ha n_0).mp q)) H locs ls hL hs hR h1 h2) (fun q => kf (fun h => q ((i_le ha n_0).mpr (of_decide_eq_true h))) H locs ls hL hs hR h1 h2)
theorem ss_icmp {cd : ClassFile.Cond} {t a b : Int} (X : FX G y p R s m meth c) (hd : decode (am_C y) pc = .ok (.if_icmp cd (t - pc), 3)) (ht : 0 ≤ t) (kt : am_cnd cd a b = true → WA G y p l e R s m args below meth c n0 w0 Q t.toNat L st σ) (kf : ¬ am_cnd cd a b = true → WA G y p l e R s m args below meth c n0 w0 Q (pc + 3) L st σ) : WA G y p l e R s m args below meth c n0 w0 Q pc L (.inl b :: .inl a :: st) σ := by
  intro H locs ls hL hst hR h1 h2
  have hb : nz b = b := nvs_h hst
  have ha : nz a = a := nvs_h (nvs_t hst)
  have hs := nvs_t (nvs_t hst)
  simp only [List.map_cons, cv]
  cases cd
  · refine lv_icmp_eq X.1 X.2.1 hd (tgt ht pc) (fun q => kt (decide_eq_true ((i_eq ha hb).mp q)) H locs ls hL hs hR h1 h2) (fun q => kf (fun h => q ((i_eq ha hb).mpr (of_decide_eq_true h))) H locs ls hL hs hR h1 h2)
  · refine lv_icmp_ne X.1 X.2.1 hd (tgt ht pc) (fun q => kt (decide_eq_true ((not_congr (i_eq ha hb)).mp q)) H locs ls hL hs hR h1 h2) (fun q => kf (fun h => (not_congr (i_eq ha hb)).mpr (of_decide_eq_true h) q) H locs ls hL hs hR h1 h2)
  · refine lv_icmp_lt X.1 X.2.1 hd (tgt ht pc) (fun q => kt (decide_eq_true ((i_lt ha hb).mp q)) H locs ls hL hs hR h1 h2) (fun q => kf (fun h => q ((i_lt ha hb).mpr (of_decide_eq_true h))) H locs ls hL hs hR h1 h2)
  · refine lv_icmp_ge X.1 X.2.1 hd (tgt ht pc) (fun q => kt (decide_eq_true ((i_le hb ha).mp q)) H locs ls hL hs hR h1 h2) (fun q => kf (fun h => q ((i_le hb ha).mpr (of_decide_eq_true h))) H locs ls hL hs hR h1 h2)
  · refine lv_icmp_gt X.1 X.2.1 hd (tgt ht pc) (fun q => kt (decide_eq_true ((i_lt hb ha).mp q)) H locs ls hL hs hR h1 h2) (fun q => kf (fun h => q ((i_lt hb ha).mpr (of_decide_eq_true h))) H locs ls hL hs hR h1 h2)
  · refine lv_icmp_le X.1 X.2.1 hd (tgt ht pc) (fun q => kt (decide_eq_true ((i_le ha hb).mp q)) H locs ls hL hs hR h1 h2) (fun q => kf (fun h => q ((i_le ha hb).mpr (of_decide_eq_true h))) H locs ls hL hs hR h1 h2)
end SS
