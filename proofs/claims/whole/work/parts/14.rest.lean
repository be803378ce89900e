/-! the rest: grids, stores of references, casts, copies, switches -/
section SO
variable {G : GG} {y : Nat} {p : Program} {l : Launch} {e : Env} {R : Room} {s : State} {m : MethodId} {args : Array Value} {below : List Frame} {meth : Method} {c : Code} {n0 w0 : Nat} {Q : State → Prop}
variable {pc : Nat} {L : LV} {st : List AV} {σ : ST}
theorem mo_outer (ca : ClassId) (N h0 : Nat) : ∀ i : Nat, Jvm.Free.Multi.outerC ca N h0 i = arrV ca N (fun j => va_rf (if j < i then some (h0 + 1 + j) else none))
  | 0 => by
    show ({ cls := ca, slots := Array.replicate N .null, vm := .none } : Cell) = _
    rw [arrV_new]
    refine congrArg (arrV ca N) (funext fun j => ?_)
    simp [va_rf]
  | i + 1 => by
    show (Jvm.Free.Multi.outerC ca N h0 i).setSlot i (.ref (h0 + 1 + i)) = _
    rw [mo_outer ca N h0 i, arrV_store]
    refine congrArg (arrV ca N) (funext fun j => ?_)
    by_cases e : j = i
    · subst e
      simp [updV, va_rf]
    · by_cases h : j < i
      · simp [updV, e, h, Nat.lt_succ_of_lt h]
      · simp [updV, e, h, show ¬ j < i + 1 by omega]
theorem mm_sh {n k a : Nat} (h : a < σ.1 ∨ σ.1 + n < a) : (am_mkm σ n k).2.2.1 a = σ.2.2.1 a ∧ (∀ b, (am_mkm σ n k).2.2.2.1 a b = σ.2.2.2.1 a b) ∧ ∀ b, (am_mkm σ n k).2.2.2.2 a b = σ.2.2.2.2 a b := by
  refine ⟨?_, fun b => ?_, fun b => ?_⟩
  · show (if a = σ.1 then _ else if σ.1 < a ∧ a ≤ σ.1 + n then _ else σ.2.2.1 a) = _
    rw [if_neg (by omega), if_neg (by omega)]
  · show (if a = σ.1 then _ else if σ.1 < a ∧ a ≤ σ.1 + n then none else σ.2.2.2.1 a b) = _
    rw [if_neg (by omega), if_neg (by omega)]
  · show (if σ.1 ≤ a ∧ a ≤ σ.1 + n then 0 else σ.2.2.2.2 a b) = _
    rw [if_neg (by omega)]
theorem mm_el {n k j : Nat} (hj : j < σ.1) : g_el G (am_mkm σ n k) j = g_el G σ j := by
  obtain ⟨e1, e2, e3⟩ := mm_sh (σ := σ) (n := n) (k := k) (a := j) (Or.inl hj)
  unfold g_el am_fv
  simp only [e1, e2, e3]
theorem mm_N {n k : Nat} (h : g_N σ) : g_N (am_mkm σ n k) := by
  intro a b
  by_cases ha : σ.1 ≤ a ∧ a ≤ σ.1 + n
  · have e3 : (am_mkm σ n k).2.2.2.2 a b = 0 := by
      show (if σ.1 ≤ a ∧ a ≤ σ.1 + n then 0 else σ.2.2.2.2 a b) = _
      rw [if_pos ha]
    rw [e3]
    exact ⟨fun _ => rfl, fun _ => rfl⟩
  · obtain ⟨e1, -, e3⟩ := mm_sh (σ := σ) (n := n) (k := k) (a := a) (by omega)
    unfold am_lg
    rw [e3, e1]
    exact h a b
theorem mm_sp {n k : Nat} (h : g_sp G σ) (hk : σ.1 + n < 1000) : g_sp G (am_mkm σ n k) := by
  have f := fun (a : Nat) (ha : 1000 ≤ a) => mm_sh (σ := σ) (n := n) (k := k) (a := a) (by omega)
  exact g_sp_eq h (fun a ha => (f a ha).1) (fun a b ha => (f a ha).2.2 b)
theorem ss_nwm {wa wb wc wd : Nat} {n k : Int} (X : FX G y p R s m meth c) (hd : decode (am_C y) pc = .ok (.multianewarray wa 2, 4)) (hw : am_lw wb = some (.classLink (am_own y) wa "[[I")) (hov : ∀ a, (Cond.arrayOver (.array .int)).before a s = true) (hai : ∀ a, (Cond.arrayClass .int).before a s = true) (hc : σ.1 < 121 ∧ 0 ≤ n ∧ n < 50 ∧ 0 ≤ k ∧ k < 10000) (hr : σ.1 + 1 + n.toNat - n0 ≤ R.cells ∧ σ.2.1 + n.toNat + n.toNat * k.toNat - w0 ≤ R.slots) (kk : WA G y p l e R s m args below meth c n0 w0 Q (pc + 4) L (.inr (.inr (some σ.1)) :: st) (am_mkm σ n.toNat k.toNat)) : WA G y p l e R s m args below meth c n0 w0 Q pc L (.inl k :: .inl n :: st) σ := by
  intro H locs ls hL hst hR h1 h2
  have hKX := X.2.2.2.2.2.2.2.1
  have hk : nz k = k := nvs_h hst
  have hn : nz n = n := nvs_h (nvs_t hst)
  have en := i_cl hn hc.2.1
  have ek := i_cl hk hc.2.2.2.1
  have hsz := hR.2.1 hc.1
  intro T hT XX
  obtain ⟨vm1, ca, comp, -, fA, fC, -, -, X', step⟩ := XX.multianewarray2F X.1 (own := am_own y) (index := wa) (ty := .int) X.2.2.2.1 (hKX.1.get hw rfl args) (hov args) (hai args) (g := F0 m pc ls ((.inl k :: .inl n :: st).map (cv G))) rfl (by rw [X.2.1]; exact hd) (n := Int32.ofInt n) (k := Int32.ofInt k) (rest := st.map (cv G)) rfl (i_nneg hn hc.2.1) (i_nneg hk hc.2.2.2.1) (by rw [en]; omega) (by rw [ek]; simp [componentBytes]; omega) (by rw [ek]; omega) rfl rfl (by rw [en]; omega) (by rw [en, ek]; omega)
  rw [en, ek] at X' step
  have e1 : ca = G.2.2.2 7 := Option.some.inj (fA.symm.trans (hKX.2.2.1.2 6 _ rfl).2)
  have e2 : comp = G.2.2.2 1 := Option.some.inj (fC.symm.trans (hKX.2.2.1.2 0 _ rfl).2)
  generalize hF : Jvm.Free.Multi.fill (T.setVm vm1) ca comp n.toNat k.toNat (defaultValue .int) n.toNat = F at X' step
  have hTh : (T.setVm vm1).heap = H := hT
  obtain ⟨f1, f2, -, -⟩ := Jvm.Free.Multi.fill_facts (T.setVm vm1) ca comp n.toNat k.toNat (defaultValue .int) n.toNat
  rw [hF, hTh] at f1 f2
  have hold : ∀ x : Nat, x < H.size → F.heap[x]? = H[x]? := fun x hx => by
    have := Jvm.Free.Multi.fill_old (T.setVm vm1) ca comp n.toNat k.toNat (defaultValue .int) (a := x) (by rw [hTh]; exact hx) n.toNat
    rw [hF, hTh] at this
    exact this
  have hrow : ∀ j : Nat, j < n.toNat → F.heap[H.size + 1 + j]? = some (Jvm.Free.Multi.innerC comp k.toNat (defaultValue .int)) := fun j hj => by
    have := Jvm.Free.Multi.fill_inner (T.setVm vm1) ca comp n.toNat k.toNat (defaultValue .int) n.toNat j hj
    rw [hF, hTh] at this
    exact this
  rw [mo_outer] at f2
  have hRP : RP G s (am_mkm σ n.toNat k.toNat) F.heap locs := by
    refine ⟨fun j q hq => ?_, fun _ => ?_, ⟨by rw [f1]; have := hR.2.2.1.1; omega, fun q hq hA => ?_, hR.2.2.1.2.2⟩, ?_, mm_N hR.2.2.2.2.1, mm_sp hR.2.2.2.2.2 (by omega)⟩
    · obtain ⟨hj, rfl⟩ := g_inv hq
      have hj' : j < σ.1 + 1 + n.toNat := hj
      by_cases a : j < σ.1
      · have := hR.1 j _ (g_at a)
        rw [mm_el a]
        exact this.kept (hold _ this.lt)
      · by_cases b : j = σ.1
        · subst b
          have es : (am_mkm σ n.toNat k.toNat).2.2.1 σ.1 = (4, n.toNat, 3) := by
            show (if σ.1 = σ.1 then _ else _) = _
            rw [if_pos rfl]
          rw [el_4 (by rw [es]), es]
          show F.heap[G.2.1.1 + σ.1]? = some (arrV (G.2.2.2 7) n.toNat (fun q => va_rf (Option.map (g_ad G) ((am_mkm σ n.toNat k.toNat).2.2.2.1 σ.1 q))))
          rw [← hsz, f2, e1]
          refine congrArg some (congrArg (arrV _ _) (funext fun q => ?_))
          show va_rf _ = va_rf (Option.map (g_ad G) (if σ.1 = σ.1 then (if q < n.toNat then some (σ.1 + 1 + q) else none) else _))
          rw [if_pos rfl]
          by_cases hq9 : q < n.toNat
          · rw [if_pos hq9, if_pos hq9]
            show _ = va_rf (some (g_ad G (σ.1 + 1 + q)))
            rw [g_adk (by omega), hsz]
            congr 2; omega
          · rw [if_neg hq9, if_neg hq9]; rfl
        · have es : (am_mkm σ n.toNat k.toNat).2.2.1 j = (1, k.toNat, 0) := by
            show (if j = σ.1 then _ else if σ.1 < j ∧ j ≤ σ.1 + n.toNat then _ else _) = _
            rw [if_neg b, if_pos (by omega)]
          rw [el_1 (by rw [es]), es]
          show F.heap[G.2.1.1 + j]? = some (arrV (G.2.2.2 1) k.toNat (fun q => .int (Int32.ofInt ((am_mkm σ n.toNat k.toNat).2.2.2.2 j q))))
          have hr9 := hrow (j - σ.1 - 1) (by omega)
          rw [hsz, show G.2.1.1 + σ.1 + 1 + (j - σ.1 - 1) = G.2.1.1 + j by omega] at hr9
          rw [hr9, e2]
          show some ({ cls := _, slots := Array.replicate _ _, vm := .none } : Cell) = _
          rw [arrV_new]
          refine congrArg some (congrArg (arrV _ _) (funext fun q => ?_))
          show _ = Value.int (Int32.ofInt (if σ.1 ≤ j ∧ j ≤ σ.1 + n.toNat then 0 else _))
          rw [if_pos (by omega)]; rfl
    · show F.heap.size = G.2.1.1 + (σ.1 + 1 + n.toNat)
      rw [f1, hsz]; omega
    · rw [hold q (Nat.lt_of_lt_of_le hq hR.2.2.1.1)]
      exact hR.2.2.1.2.1 q hq hA
    · show σ.1 + 1 + n.toNat ≤ 999
      omega
  have hK := kk F.heap locs ls hL (nvs_c (v := .inr (.inr (some σ.1))) trivial (nvs_t (nvs_t hst))) hRP (by show n0 ≤ σ.1 + 1 + n.toNat; omega) (by show w0 ≤ σ.2.1 + n.toNat + n.toNat * k.toNat; omega)
  have e3 : (am_mkm σ n.toNat k.toNat).1 - n0 = σ.1 - n0 + 1 + n.toNat := by show σ.1 + 1 + n.toNat - n0 = _; omega
  have e4 : (am_mkm σ n.toNat k.toNat).2.1 - w0 = σ.2.1 - w0 + n.toNat + n.toNat * k.toNat := by show σ.2.1 + n.toNat + n.toNat * k.toNat - w0 = _; omega
  rw [e3, e4] at hK
  simp only [List.map_cons, cv, g_adk (show σ.1 < 1000 by omega)] at hK
  obtain ⟨t, a1, b1⟩ := hK F rfl X'
  refine ⟨t, step t ?_, b1⟩
  have e9 : T.heap.size = G.2.1.1 + σ.1 := by rw [hT]; exact hsz
  rw [e9]
  exact a1
/-- places of the words castable -/
def am_kp (c d : Nat) : Nat := (if c = 9 ∧ d = 7 then 1443 else (if c = 9 ∧ d = 3 then 1448 else (if c = 7 ∧ d = 3 then 1446 else (if c = 6 ∧ d = 3 then 1444 else (if c = 2 ∧ d = 3 then 1447 else (if c = 2 ∧ d = 0 then 1442 else (if c = 0 ∧ d = 3 then 1445 else 0)))))))
def am_ckk (c d : Nat) : Bool := !am_in c d || decide (c = d) || decide (am_lw (am_kp c d) = some (.castable (am_RN c) (am_RN d)))
theorem ck_kp : (List.range 13).all (fun c => (List.range 13).all (fun d => am_ckk c d)) = true := by decide +kernel
theorem in_or {a d : Nat} (ha : a < 13) (hd : d < 13) (h : am_in a d = true) : a = d ∨ am_lw (am_kp a d) = some (.castable (am_RN a) (am_RN d)) := by
  have h1 := List.all_eq_true.mp (List.all_eq_true.mp ck_kp a (List.mem_range.mpr ha)) d (List.mem_range.mpr hd)
  unfold am_ckk at h1
  simp only [h, Bool.not_true, Bool.false_or, Bool.or_eq_true, decide_eq_true_eq] at h1
  exact h1
theorem nc_lt {a d : Nat} (h : am_nc a d = true) : a < 13 ∧ d < 13 := by
  unfold am_nc at h
  simp only [Bool.and_eq_true, Bool.or_eq_true, beq_iff_eq] at h
  omega
theorem ss_inst {d k wa wb : Nat} (X : FX G y p R s m meth c) (hd : decode (am_C y) pc = .ok (.instanceof wa, 3)) (hw : am_lw wb = some (.classLink (am_own y) wa (am_RN d))) (h0 : k < σ.1 ∧ (σ.2.2.1 k).1 = 0 ∧ am_nc (σ.2.2.1 k).2.1 d = true) (kk : WA G y p l e R s m args below meth c n0 w0 Q (pc + 3) L (.inl (if am_in (σ.2.2.1 k).2.1 d = true then 1 else 0) :: st) σ) : WA G y p l e R s m args below meth c n0 w0 Q pc L (.inr (.inr (some k)) :: st) σ := by
  intro H locs ls hL hst hR h1 h2
  have hKX := X.2.2.2.2.2.2.2.1
  obtain ⟨l1, l2⟩ := nc_lt h0.2.2
  have hK := kk H locs ls hL (nvs_c (v := .inl (if am_in (σ.2.2.1 k).2.1 d = true then 1 else 0)) (by show nz _ = _; split <;> rfl) (nvs_t hst)) hR h1 h2
  have hk9 : k < 1000 := by have := hR.2.2.2.1; omega
  simp only [List.map_cons, cv, g_adk hk9] at hK ⊢
  have hrv := recv hKX hR h0.1 h0.2.1 l1
  have hlink := hKX.1.get hw rfl args
  by_cases hin : am_in (σ.2.2.1 k).2.1 d = true
  · rw [if_pos hin] at hK
    rcases in_or l1 l2 hin with e | e
    · rw [e] at hrv
      exact va_instS X.1 X.2.1 X.2.2.2.1 hlink (hKX.2.2.1.1 _ _ (vw_at l2)).2 hrv hd hK
    · exact va_instY X.1 X.2.1 X.2.2.2.1 hlink (va_Nw.of rfl (hKX.1.get e rfl args)) hrv hd hK
  · rw [if_neg hin] at hK
    exact va_instNo X.1 X.2.1 X.2.2.2.1 hlink (hKX.2.1 _ _ h0.2.2 (by simpa using hin)) hrv hd hK
theorem ss_cast {d k wa wb : Nat} (X : FX G y p R s m meth c) (hd : decode (am_C y) pc = .ok (.checkcast wa, 3)) (hw : am_lw wb = some (.classLink (am_own y) wa (am_RN d))) (h0 : k < σ.1 ∧ (σ.2.2.1 k).1 = 0 ∧ am_nc (σ.2.2.1 k).2.1 d = true ∧ am_in (σ.2.2.1 k).2.1 d = true) (kk : WA G y p l e R s m args below meth c n0 w0 Q (pc + 3) L (.inr (.inr (some k)) :: st) σ) : WA G y p l e R s m args below meth c n0 w0 Q pc L (.inr (.inr (some k)) :: st) σ := by
  intro H locs ls hL hst hR h1 h2
  have hKX := X.2.2.2.2.2.2.2.1
  obtain ⟨l1, l2⟩ := nc_lt h0.2.2.1
  have hK := kk H locs ls hL hst hR h1 h2
  have hk9 : k < 1000 := by have := hR.2.2.2.1; omega
  simp only [List.map_cons, cv, g_adk hk9] at hK ⊢
  have hrv := recv hKX hR h0.1 h0.2.1 l1
  have hlink := hKX.1.get hw rfl args
  rcases in_or l1 l2 h0.2.2.2 with e | e
  · rw [e] at hrv
    exact va_castS X.1 X.2.1 X.2.2.2.1 hlink (hKX.2.2.1.1 _ _ (vw_at l2)).2 hrv hd hK
  · exact va_castY X.1 X.2.1 X.2.2.2.1 hlink (va_Nw.of rfl (hKX.1.get e rfl args)) hrv hd hK
theorem ss_oin {k wa wb : Nat} (X : FX G y p R s m meth c) (hd : decode (am_C y) pc = .ok (.invokespecial wa, 3)) (hw : am_lw wb = some (.methodLink (am_own y) wa objectInit)) (hlo : 20 ≤ am_lo y ∧ 1 ≤ am_fr y) (kk : WA G y p l e R s m args below meth c n0 w0 Q (pc + 3) L [] σ) : WA G y p l e R s m args below meth c n0 w0 Q pc L [.inr (.inr (some k))] σ := by
  intro H locs ls hL hst hR h1 h2
  have hKX := X.2.2.2.2.2.2.2.1
  have hK := kk H locs ls hL (fun v h => by cases h) hR h1 h2
  have hfr := X.2.2.2.2.2.2.2.2
  exact W.objInit X.1 X.2.1 X.2.2.2.1 (hKX.1.get hw rfl args) (hKX.1.get (i := 82) (w := .instanceMethod objectInit) (by rfl) rfl args) (hKX.1.get (i := 83) (w := .code objectInit ⟨#[0xb1]⟩ 1 none) (by rfl) rfl args) (g := F0 m pc ls ([.inr (.inr (some k))].map (cv G))) rfl (by rw [X.2.2.1]; exact hL.1) (rest := []) rfl hd (by omega) (by show 2 * 0 + 0 + 12 ≤ _; omega) hK
theorem ss_copy {a b wa wb : Nat} {n sp dp : Int} (X : FX G y p R s m meth c) (hd : decode (am_C y) pc = .ok (.invokestatic wa, 3)) (hw : am_lw wb = some (.methodLink (am_own y) wa arraycopyName)) (hlo : 60 ≤ am_lo y ∧ 1 ≤ am_fr y) (h0 : 121 ≤ σ.1 ∧ a < σ.1 ∧ b < σ.1 ∧ (σ.2.2.1 a).1 = 1 ∧ (σ.2.2.1 b).1 = 1) (h3 : 0 ≤ n ∧ 0 ≤ dp ∧ 0 ≤ sp) (h4 : sp + n ≤ (σ.2.2.1 a).2.1 ∧ dp + n ≤ (σ.2.2.1 b).2.1)
    (kk : WA G y p l e R s m args below meth c n0 w0 Q (pc + 3) L [] (σ.1, σ.2.1, σ.2.2.1, σ.2.2.2.1, am_cpm σ.2.2.2.2 a sp.toNat b dp.toNat n.toNat)) : WA G y p l e R s m args below meth c n0 w0 Q pc L [.inl n, .inl dp, .inr (.inr (some b)), .inl sp, .inr (.inr (some a))] σ := by
  intro H locs ls hL hst hR h1 h2
  have hKX := X.2.2.2.2.2.2.2.1
  have hn : nz n = n := nvs_h hst
  have hdp : nz dp = dp := nvs_h (nvs_t hst)
  have hsp : nz sp = sp := nvs_h (nvs_t (nvs_t (nvs_t hst)))
  have ha9 : a < 1000 := by have := hR.2.2.2.1; omega
  have hb9 : b < 1000 := by have := hR.2.2.2.1; omega
  have hfr := X.2.2.2.2.2.2.2.2
  show W p l e R s m args below meth c H locs (σ.1 - n0) (σ.2.1 - w0) Q (F0 m pc ls [.int (Int32.ofInt n), .int (Int32.ofInt dp), .ref (g_ad G b), .int (Int32.ofInt sp), .ref (g_ad G a)])
  rw [g_adk ha9, g_adk hb9]
  have hA : (g_W G σ)[a]? = some (G.2.1.1 + a, .inl (G.2.2.2 1, (σ.2.2.1 a).2.1, .inl (fun i => Int32.ofInt (σ.2.2.2.2 a i)))) := by rw [g_at h0.2.1, el_1 h0.2.2.2.1]
  have hB : (g_W G σ)[b]? = some (G.2.1.1 + b, .inl (G.2.2.2 1, (σ.2.2.1 b).2.1, .inl (fun i => Int32.ofInt (σ.2.2.2.2 b i)))) := by rw [g_at h0.2.2.1, el_1 h0.2.2.2.2]
  refine va_copyi X.1 X.2.1 (by rw [X.2.2.1]; exact hL.1.symm) X.2.2.2.1 (hKX.1.get hw rfl args) (hKX.1.get (i := 382) (w := .native arraycopyName) (by rfl) rfl args) (hKX.1.get (i := 381) (w := .static arraycopyName) (by rfl) rfl args) (hKX.1.get (i := 73) (w := .initialized "java/lang/System") (by rfl) rfl args) hKX.2.2.1 hR.1 (g_D G σ) hR.2.2.1 a b 0 0 hA hB rfl rfl rfl (i_nneg hsp h3.2.2) (i_nneg hdp h3.2.1) (i_nneg hn h3.1) (by rw [i_cl hsp h3.2.2, i_cl hn h3.1]; omega) (by rw [i_cl hdp h3.2.1, i_cl hn h3.1]; omega) (fun i _ => rfl) (by omega) (by show 0 + _ ≤ _; simp [nativeFrameWords]; omega) hd fun H1 locs1 hP1 _ hS1 => ?_
  rw [i_cl hsp h3.2.2, i_cl hn h3.1, i_cl hdp h3.2.1] at hP1
  have key : ∀ j, am_cpm σ.2.2.2.2 a sp.toNat b dp.toNat n.toNat j = if j = b then (fun q => if dp.toNat ≤ q ∧ q < dp.toNat + n.toNat then σ.2.2.2.2 a (sp.toNat + (q - dp.toNat)) else σ.2.2.2.2 b q) else σ.2.2.2.2 j := fun j => by
    funext q
    unfold am_cpm am_row
    by_cases hj : j = b
    · rw [if_pos hj, if_pos hj]
    · rw [if_neg hj, if_neg hj]
  have hset : (g_W G σ).set b (G.2.1.1 + b, .inl (G.2.2.2 1, (σ.2.2.1 b).2.1, .inl (va_cpy (fun i => Int32.ofInt (σ.2.2.2.2 a i)) (fun i => Int32.ofInt (σ.2.2.2.2 b i)) sp.toNat dp.toNat n.toNat))) = g_W G (σ.1, σ.2.1, σ.2.2.1, σ.2.2.2.1, am_cpm σ.2.2.2.2 a sp.toNat b dp.toNat n.toNat) := by
    refine g_set rfl ?_ (fun j _ hj => ?_)
    · rw [el_1 (σ := (σ.1, σ.2.1, σ.2.2.1, σ.2.2.2.1, am_cpm σ.2.2.2.2 a sp.toNat b dp.toNat n.toNat)) h0.2.2.2.2]
      show _ = Sum.inl (G.2.2.2 1, (σ.2.2.1 b).2.1, Sum.inl (fun i => Int32.ofInt (am_cpm σ.2.2.2.2 a sp.toNat b dp.toNat n.toNat b i)))
      rw [key, if_pos rfl]
      refine congrArg (fun f => Sum.inl (G.2.2.2 1, (σ.2.2.1 b).2.1, Sum.inl f)) (funext fun q => ?_)
      unfold va_cpy
      by_cases hq : dp.toNat ≤ q ∧ q < dp.toNat + n.toNat
      · simp only [if_pos hq]
      · simp only [if_neg hq]
    · unfold g_el am_fv
      simp only [key, if_neg hj]
  rw [hset] at hP1
  refine kk H1 locs1 ls hL (fun v h => by cases h) ⟨hP1, fun q => absurd q (by show ¬ σ.1 < 121; omega), hS1, hR.2.2.2.1, fun a1 b1 => ?_, ?_⟩ h1 h2
  · show (am_lg σ a1 b1 → nzl (am_cpm σ.2.2.2.2 a sp.toNat b dp.toNat n.toNat a1 b1) = am_cpm σ.2.2.2.2 a sp.toNat b dp.toNat n.toNat a1 b1) ∧ (¬ am_lg σ a1 b1 → nz (am_cpm σ.2.2.2.2 a sp.toNat b dp.toNat n.toNat a1 b1) = am_cpm σ.2.2.2.2 a sp.toNat b dp.toNat n.toNat a1 b1)
    rw [key]
    by_cases hj : a1 = b
    · rw [if_pos hj]
      have hnl : ¬ am_lg σ a1 b1 := fun q => by rw [hj] at q; rcases q with q | q <;> omega
      refine ⟨fun q => absurd q hnl, fun _ => ?_⟩
      split
      · exact n1_nv hR.2.2.2.2.1 (Or.inl h0.2.2.2.1)
      · exact n1_nv hR.2.2.2.2.1 (Or.inl h0.2.2.2.2)
    · rw [if_neg hj]
      exact hR.2.2.2.2.1 a1 b1
  · refine g_sp_eq hR.2.2.2.2.2 (fun _ _ => rfl) (fun a1 b1 ha => ?_)
    show am_cpm _ _ _ _ _ _ a1 b1 = _
    rw [key, if_neg (by omega)]
theorem ss_tsw {d lo hi x : Int} {offs : Array Int} {len : Nat} (X : FX G y p R s m meth c) (hd : decode (am_C y) pc = .ok (.tableswitch (d - pc) lo hi (offs.map (fun t => t - pc)), len)) (h0 : 0 ≤ d) (hall : ∀ t ∈ offs.toList, 0 ≤ t) {pc' : Nat} (hp : (if x < lo ∨ hi < x then some d.toNat else (offs[(x - lo).toNat]?).map Int.toNat) = some pc') (kk : WA G y p l e R s m args below meth c n0 w0 Q pc' L st σ) : WA G y p l e R s m args below meth c n0 w0 Q pc L (.inl x :: st) σ := by
  intro H locs ls hL hst hR h1 h2
  have hx : nz x = x := nvs_h hst
  have hK := kk H locs ls hL (nvs_t hst) hR h1 h2
  simp only [List.map_cons, cv] at hK ⊢
  by_cases ho : x < lo ∨ hi < x
  · rw [if_pos ho] at hp
    cases hp
    exact lv_tableOut X.1 X.2.1 hd (by rw [i_ti hx]; exact ho) (tgt h0 pc) hK
  · rw [if_neg ho] at hp
    rcases hq : offs[(x - lo).toNat]? with _ | t
    · rw [hq] at hp; cases hp
    · rw [hq] at hp
      cases hp
      have ht : 0 ≤ t := hall t (by
        rw [← Array.getElem?_toList] at hq
        exact List.mem_of_getElem? hq)
      refine lv_tableIn X.1 X.2.1 hd (by rw [i_ti hx]; omega) (by rw [i_ti hx]; omega) (off := t - pc) ?_ (tgt ht pc) hK
      rw [i_ti hx, Array.getElem?_map, hq]
      rfl
theorem ss_aas {k q : Nat} {i : Int} (X : FX G y p R s m meth c) (hd : decode (am_C y) pc = .ok (.aastore, 1)) (h0 : k < σ.1 ∧ (σ.2.2.1 k).1 = 4 ∧ 0 ≤ i ∧ i < (σ.2.2.1 k).2.1) (h3 : (σ.2.2.1 k).2.2 < 3 ∧ q < σ.1 ∧ (σ.2.2.1 q).1 = 0 ∧ am_in (σ.2.2.1 q).2.1 (am_et (σ.2.2.1 k).2.2) = true) (hq13 : (σ.2.2.1 q).2.1 < 13) (kk : WA G y p l e R s m args below meth c n0 w0 Q (pc + 1) L st (am_wrf σ k i.toNat (some q))) : WA G y p l e R s m args below meth c n0 w0 Q pc L (.inr (.inr (some q)) :: .inl i :: .inr (.inr (some k)) :: st) σ := by
  intro H locs ls hL hst hR h1 h2
  have hi : nz i = i := nvs_h (nvs_t hst)
  have hKX := X.2.2.2.2.2.2.2.1
  have hk9 : k < 1000 := by have := hR.2.2.2.1; omega
  have hq9 : q < 1000 := by have := hR.2.2.2.1; omega
  have hin := i_in hi h0.2.2.1 h0.2.2.2
  have hcl := i_cl hi h0.2.2.1
  show W p l e R s m args below meth c H locs (σ.1 - n0) (σ.2.1 - w0) Q (F0 m pc ls (.ref (g_ad G q) :: .int (Int32.ofInt i) :: .ref (g_ad G k) :: st.map (cv G)))
  rw [g_adk hk9, g_adk hq9]
  have he13 : am_et (σ.2.2.1 k).2.2 < 13 := by
    unfold am_et
    by_cases a : (σ.2.2.1 k).2.2 = 0
    · rw [if_pos a]; omega
    · rw [if_neg a]
      by_cases b : (σ.2.2.1 k).2.2 = 1
      · rw [if_pos b]; omega
      · rw [if_neg b]; omega
  have ha : (g_W G σ)[k]? = some (G.2.1.1 + k, .inl (G.2.2.2 (4 + (σ.2.2.1 k).2.2), (σ.2.2.1 k).2.1, .inr (.inr (.inr (.inr (fun i => (σ.2.2.2.1 k i).map (g_ad G))))))) := by rw [g_at h0.1, el_4 h0.2.1]
  obtain ⟨r', hr', cellV, g1, g2, g3, -⟩ := hR.1 q _ (by rw [g_at h3.2.1, el_0 h3.2.2.1])
  have hat : am_at (σ.2.2.1 k).2.2 = .object (am_RN (am_et (σ.2.2.1 k).2.2)) := by
    have := h3.1
    generalize (σ.2.2.1 k).2.2 = t at this
    match t, this with
    | 0, _ => rfl
    | 1, _ => rfl
    | 2, _ => rfl
    | n + 3, h => exact absurd h (by omega)
  have hra := (hKX.2.2.1.2 _ _ (at_tys (G := G) (show (σ.2.2.1 k).2.2 < 4 by omega))).2
  rw [hat] at hra
  obtain ⟨kA, comp, k1, k2, k3, -⟩ := hra
  have hcT := (hKX.2.2.1.1 _ _ (vw_at he13)).2
  have hcV := (hKX.2.2.1.1 _ _ (vw_at hq13)).2
  have hcomp : comp = G.1.1 (am_et (σ.2.2.1 k).2.2) := Option.some.inj (k3.symm.trans hcT.1)
  subst hcomp
  obtain ⟨kC, hkC, -⟩ := hcT.2
  obtain ⟨kV, hkV, -⟩ := hcV.2
  have hasg : s.vm.assignable (G.1.1 (σ.2.2.1 q).2.1) (G.1.1 (am_et (σ.2.2.1 k).2.2)) = true := by
    rcases in_or hq13 he13 h3.2.2.2 with e | e
    · rw [e]; exact va_assign hcT
    · have hca := hKX.1.get e rfl args
      simp only [Cond.before, Cond.holds, Cond.value, hcV.1, hcT.1] at hca
      simpa using hca
  have hlt9 : i.toNat < (σ.2.2.1 k).2.1 := by have := h0.2.2; omega
  refine W.aast X.1 X.2.1 (hR.1 k _ ha) (fun q h => by cases h) (fun h => by cases h) k1 k2 rfl hkC ⟨fun h => hin (Or.inl h), by show _ < (arrV _ _ _).slots.size; rw [arrV_size, hcl]; exact hlt9⟩ g1 (fun q h => by rw [g3] at h; cases h) (by rw [g2]; exact hkV) (by rw [g2]; exact hasg) rfl rfl hd fun H1 e1 e2 e3 => ?_
  have hset : (g_W G σ).set k (G.2.1.1 + k, .inl (G.2.2.2 (4 + (σ.2.2.1 k).2.2), (σ.2.2.1 k).2.1, .inr (.inr (.inr (.inr (fun j => (am_up σ.2.2.2.1 k i.toNat (some q) k j).map (g_ad G))))))) = g_W G (am_wrf σ k i.toNat (some q)) := g_set rfl (el_4 (σ := am_wrf σ k i.toNat (some q)) h0.2.1).symm (fun j _ hj => wrf_el hj)
  refine kk H1 _ ls hL (nvs_t (nvs_t (nvs_t hst))) ⟨?_, fun z => e2.trans (hR.2.1 z), hR.2.2.1.put e2 e3 (Nat.le_add_right _ _), hR.2.2.2.1, hR.2.2.2.2.1, hR.2.2.2.2.2⟩ h1 h2
  rw [← hset]
  refine hR.1.set (g_D G σ) ha ?_ e3
  show H1[G.2.1.1 + k]? = some (arrV (G.2.2.2 (4 + (σ.2.2.1 k).2.2)) (σ.2.2.1 k).2.1 (fun j => va_rf ((am_up σ.2.2.2.1 k i.toNat (some q) k j).map (g_ad G))))
  rw [e1]
  show some ((arrV _ _ _).setSlot _ _) = _
  rw [arrV_store, hcl]
  refine congrArg some (congrArg (arrV _ _) (funext fun x => ?_))
  unfold updV am_up
  by_cases hx : x = i.toNat
  · rw [if_pos hx, if_pos ⟨rfl, hx⟩]
    show _ = va_rf (some (g_ad G q))
    rw [g_adk hq9]; rfl
  · rw [if_neg hx, if_neg (fun h => hx h.2)]
end SO
