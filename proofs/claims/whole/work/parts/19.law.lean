/-! THE CLAIM OUT OF ONE WALK OF THE LAW'S BODY. Your part is whole_start (and what it stands on); all else here is the same for every law, but numbers. -/
def R_law : String := "SpoonCensusLaw"
def lw_P (b : Addr) (xs : List Int32) (args : Array Value) (s : State) : Prop := args = #[.ref b] ∧ s.IntsAt b xs ∧ xs.length ≤ 3072 ∧ (Jvm.Cond.and given_1 narrow_1).before args s = true
def lw_Q (_ : Array Value) (s : State) (o : Outcome) (t : State) : Prop := o = .returned (some (.int 1)) ∧ Framed s o t [] 600000 7302250
def lw_Z (below : List Frame) (a : Array Value) (s : State) : State → Prop := fun t => ∃ o, t.status = .running ∧ Ended t below o ∧ lw_Q a s o t
/-- the law's own end, with 1 on the stack, nothing written that was there before, its room as the claim has it -/
theorem lw_ret {p : Program} {l : Launch} {e : Env} {s : State} {m : MethodId} {below : List Frame} {meth : Method} {c : Code} {b : Nat} (hx : p.tables.exec = Jvm.exec) (hb : c.code = code) (hr : meth.sig.returnType = ret) (hlocks : meth.locks = false) {pc : Nat} {H : Heap} {ls : Array Slot} (hdg : decode code pc = .ok (.ireturn, 1)) : W p l e room_1 s m #[Value.ref b] below meth c H [] 600000 7302250 (lw_Z below #[Value.ref b] s) (F0 m pc ls [.int 1]) := by
  intro T hT X
  obtain ⟨fs, hret, hrun, hended, hW, hframe⟩ := X.leave (v := some (.int 1)) (hlocks := hlocks) (fun h => by rw [hr] at h; cases h)
  have hmeth' : T.vm.method? m = some meth := X.method'
  refine ⟨T.setFrames fs, ?_, .returned (some (.int 1)), hrun, hended, rfl, ⟨_, rfl⟩, hW, hframe⟩
  jvm_step X.here [X.here.top, hx, hb, hdg, hmeth', hr, ret, narrow_b1]
  (try refine ⟨rfl, ?_⟩); (try refine ⟨rfl, ?_⟩)
  first | (intro acts; rw [hret _ acts rfl rfl rfl]) | rw [hret _ _ rfl rfl rfl]
  exact Steps.refl _
/-- what holds at the law's entry: the machine, the code, the tables' words (any of lw_tbl by 'hts w (by decide +kernel)'), the script of L ints xs at the cell b, what the Statement gives of the start (any of its parts by flat_of_before) -/
def lw_At (p : Program) (s : State) (m : MethodId) (meth : Method) (c : Code) (b L : Nat) (xs : Nat → Int32) : Prop :=
  p.tables.exec = Jvm.exec ∧ c.code = code ∧ meth.sig.returnType = ret ∧ c.maxLocals = 4 ∧ s.vm.findClass R_law = some m.cls ∧ (∀ w ∈ lw_tbl, w.before #[Value.ref b] s = true) ∧ va_X b L xs s s.heap ∧ b < s.heap.size ∧ meth.locks = false ∧ (Jvm.Cond.and given_1 narrow_1).before #[Value.ref b] s = true
/-- the pure claim: the abstract machine, run on the law's loop from behind the two constructors, answers 1 -/
def PURE : Prop := ∀ (L : Nat) (xs : Nat → Int), L ≤ 3072 → (∀ j, nz (xs j) = xs j) → wpS 254 18 [some (.inr (.inr (some 1001))), some (.inr (.inr (some 0))), some (.inr (.inr (some 101))), some (.inl 0)] [] (S (mem0 L xs)) (fun r σ' => r = some (.inl 1) ∧ σ'.1 ≤ 600000 ∧ σ'.2.1 ≤ 7302250)
theorem go_ge : ∀ (n : Nat) {y pc a : Nat} {L b : LV} {st c : List AV} {σ d : ST}, am_go n y (pc, L, st, σ) = some (a, b, c, d) → σ.1 ≤ d.1 ∧ σ.2.1 ≤ d.2.1 := by
  intro n
  induction n with
  | zero => intro y pc a L b st c σ d h; simp only [am_go] at h; cases h; exact ⟨Nat.le_refl _, Nat.le_refl _⟩
  | succ n ih =>
    intro y pc a L b st c σ d h
    rw [am_go] at h
    rcases hc : am_code y pc with _ | ⟨am, len, wa, wb⟩
    · simp only [hc] at h; cases h
    · simp only [hc] at h
      rcases hr : am_ctl y am st σ with _ | r1 | ⟨z, as, rest⟩ | ⟨cd, t, q⟩ | u
      · simp only [hr] at h; cases h
      · simp only [hr] at h; cases h
      · simp only [hr] at h
        rcases he : am_ex 3000 z 0 (am_en z as) [] σ with _ | ⟨rv, s2⟩
        · simp only [he] at h; cases h
        · simp only [he] at h
          have g1 := ex_ge 3000 he
          have g2 := ih h
          omega
      · simp only [hr] at h; cases h
      · simp only [hr] at h
        rcases he : am_step am (pc + len) L st σ with _ | ⟨a1, b1, c1, d1⟩
        · simp only [he] at h; cases h
        · simp only [he] at h
          have g1 := step_ge he
          have g2 := ih h
          omega
theorem go_snd {G : GG} {y : Nat} {p : Program} {l : Launch} {e : Env} {R : Room} {s : State} {m : MethodId} {args : Array Value} {below : List Frame} {meth : Method} {c : Code} {n0 w0 : Nat} {Q : State → Prop} (X : FX G y p R s m meth c) : ∀ (n : Nat) {pc a : Nat} {L b : LV} {st q : List AV} {σ d : ST}, am_go n y (pc, L, st, σ) = some (a, b, q, d) → (d.1 - n0 ≤ R.cells ∧ d.2.1 - w0 ≤ R.slots) → WA G y p l e R s m args below meth c n0 w0 Q a b q d → WA G y p l e R s m args below meth c n0 w0 Q pc L st σ := by
  intro n
  induction n with
  | zero => intro pc a L b st q σ d h hr k; simp only [am_go] at h; cases h; exact k
  | succ n ih =>
    intro pc a L b st q σ d h hroom k
    rw [am_go] at h
    rcases hc : am_code y pc with _ | ⟨am, len, wa, wb⟩
    · simp only [hc] at h; cases h
    · simp only [hc] at h
      rcases hr : am_ctl y am st σ with _ | r1 | ⟨z, as, rest⟩ | ⟨cd, t, q⟩ | u
      · simp only [hr] at h; cases h
      · simp only [hr] at h; cases h
      · simp only [hr] at h
        rcases he : am_ex 3000 z 0 (am_en z as) [] σ with _ | ⟨rv, s2⟩
        · simp only [he] at h; cases h
        · simp only [he] at h
          have g1 := ex_ge 3000 he
          have g2 := go_ge n h
          exact ss_call X hc hr (fun hz hl hn => met_of (snd_all l G 3000) he hz hl hn) (by omega) g1 (ih h hroom k)
      · simp only [hr] at h; cases h
      · simp only [hr] at h
        rcases he : am_step am (pc + len) L st σ with _ | ⟨a1, b1, c1, d1⟩
        · simp only [he] at h; cases h
        · simp only [he] at h
          have g2 := go_ge n h
          exact ss_all X hc hr he (by omega) (ih h hroom k)
theorem arr_congr {cA : ClassId} {n : Nat} {f g : Nat → Value} (h : ∀ j, j < n → f j = g j) : arrV cA n f = arrV cA n g := by
  unfold arrV
  have : (Array.ofFn (n := n) fun j => f j.val) = Array.ofFn (n := n) fun j => g j.val := by
    congr 1
    funext j
    exact h j.val j.isLt
  rw [this]
theorem sh0_kind {k : Nat} (h : k < 121) : (sh0 k).1 < 5 := by
  have h1 : (List.range 121).all (fun k => decide ((sh0 k).1 < 5)) = true := by decide +kernel
  exact of_decide_eq_true (List.all_eq_true.mp h1 k (List.mem_range.mpr h))
theorem mem0_low {L : Nat} {xs : Nat → Int} {k i : Nat} (h : k < 121) : mem0 L xs k i = m0 k i := by
  unfold mem0; rw [if_neg (by omega)]
theorem go_at {k : Nat} {pc : Nat} {L : LV} {st : List AV} {σ : ST} (hg : go_c = some (pc, L, st, σ)) (hk : k < 121) : am_agr σ k = true := by
  have a := go_2a; have b := go_2b; have c := go_2c
  unfold go_2 at a b c
  simp only [hg] at a b c
  by_cases h1 : k < 40
  · have := List.all_eq_true.mp a k (List.mem_range.mpr h1)
    rw [Nat.zero_add] at this
    exact this
  · by_cases h2 : k < 100
    · have := List.all_eq_true.mp b (k - 40) (List.mem_range.mpr (by omega))
      rw [show 40 + (k - 40) = k by omega] at this
      exact this
    · have := List.all_eq_true.mp c (k - 100) (List.mem_range.mpr (by omega))
      rw [show 100 + (k - 100) = k by omega] at this
      exact this
/-- behind the constructors: from the store that was come to, to the store with the script -/
theorem go_conv {G : GG} {s : State} {H : Heap} {locs : List Loc} {L : Nat} {xs : Nat → Int} {pc : Nat} {LL : LV} {st : List AV} {σ : ST} (hg : go_c = some (pc, LL, st, σ)) (hn : σ.1 = 121) (hsh : ∀ k, k < 121 → σ.2.2.1 k = sh0 k) (hR : RP G s σ H locs) (hN : g_N (S (mem0 L xs))) (hsp : g_sp G (S (mem0 L xs))) : RP G s (S (mem0 L xs)) H locs := by
  obtain ⟨a1, a2, a3, a4, a5, a6⟩ := hR
  refine ⟨fun k q hq => ?_, fun q => absurd q (by show ¬ (121 : Nat) < 121; decide), a3, by show (121 : Nat) ≤ 999; decide, hN, hsp⟩
  obtain ⟨hk, rfl⟩ := g_inv hq
  have hk : k < 121 := hk
  have hat := a1 k _ (g_at (by rw [hn]; exact hk))
  have hag := go_at hg hk
  unfold am_agr at hag
  have hshk := hsh k hk
  have hS : (S (mem0 L xs)).2.2.1 k = sh0 k := rfl
  by_cases k0 : (sh0 k).1 = 0
  · rw [if_pos k0] at hag
    rw [el_0 (by rw [hshk]; exact k0), hshk] at hat
    rw [el_0 (by rw [hS]; exact k0), hS]
    have : (List.range (am_nf (sh0 k).2.1)).map (fun f => cv G (am_fv (S (mem0 L xs)) (sh0 k).2.1 k f)) = (List.range (am_nf (sh0 k).2.1)).map (fun f => cv G (am_fv σ (sh0 k).2.1 k f)) := by
      apply List.map_congr_left
      intro f hf
      have h1 := of_decide_eq_true (List.all_eq_true.mp hag f hf)
      rw [h1]
      have : am_fv (S (mem0 L xs)) (sh0 k).2.1 k f = am_fv (S m0) (sh0 k).2.1 k f := by
        unfold am_fv S
        simp only [mem0_low hk]
      rw [this]
    rw [this]
    exact hat
  · rw [if_neg k0] at hag
    by_cases k4 : (sh0 k).1 = 4
    · rw [if_pos k4] at hag
      rw [el_4 (by rw [hshk]; exact k4), hshk] at hat
      rw [el_4 (by rw [hS]; exact k4), hS]
      refine Eq.trans hat ?_
      refine congrArg some ?_
      show vp_cell _ (_, _) = vp_cell _ (_, _)
      rw [vp_cell_q, vp_cell_q]
      refine arr_congr fun j hj => ?_
      have h1 := of_decide_eq_true (List.all_eq_true.mp hag j (List.mem_range.mpr hj))
      rw [h1]
    · rw [if_neg k4] at hag
      have hm : ∀ j, j < (sh0 k).2.1 → σ.2.2.2.2 k j = (S (mem0 L xs)).2.2.2.2 k j := fun j hj => by
        have h1 := of_decide_eq_true (List.all_eq_true.mp hag j (List.mem_range.mpr hj))
        rw [h1]
        exact (mem0_low hk).symm
      have hk5 := sh0_kind hk
      by_cases k1 : (sh0 k).1 = 1
      · rw [el_1 (by rw [hshk]; exact k1), hshk] at hat
        rw [el_1 (by rw [hS]; exact k1), hS]
        refine Eq.trans hat ?_
        refine congrArg some ?_
        show vp_cell _ (_, _) = vp_cell _ (_, _)
        rw [vp_cell_i, vp_cell_i]
        refine arr_congr fun j hj => ?_
        rw [hm j hj]
      · by_cases k2 : (sh0 k).1 = 2
        · rw [el_2 (by rw [hshk]; exact k2), hshk] at hat
          rw [el_2 (by rw [hS]; exact k2), hS]
          refine Eq.trans hat ?_
          refine congrArg some ?_
          show vp_cell _ (_, _) = vp_cell _ (_, _)
          rw [vp_cell_l, vp_cell_l]
          refine arr_congr fun j hj => ?_
          rw [hm j hj]
        · have k3 : (sh0 k).1 = 3 := by omega
          rw [el_3 (by rw [hshk]; exact k3), hshk] at hat
          rw [el_3 (by rw [hS]; exact k3), hS]
          refine Eq.trans hat ?_
          refine congrArg some ?_
          show vp_cell _ (_, _) = vp_cell _ (_, _)
          rw [vp_cell_i, vp_cell_i]
          refine arr_congr fun j hj => ?_
          rw [hm j hj]
theorem let_rng (i : Nat) : 0 ≤ (g_let i).toInt ∧ (g_let i).toInt ≤ 200 := by
  unfold g_let
  repeat' split
  all_goals decide
set_option maxHeartbeats 4000000 in
set_option maxRecDepth 100000 in
theorem m0_rng (k i : Nat) : -1 ≤ m0 k i ∧ m0 k i ≤ 200 := by
  have hl := let_rng i
  unfold m0
  repeat' split
  all_goals omega
theorem tw_of {b : Nat} {s : State} (hts : ∀ w ∈ lw_tbl, w.before #[Value.ref b] s = true) : TW s := by
  intro a w hw ho
  have h0 := hts w hw
  have hg : w.onTables = true → w.before a s = true := fun q => va_tabs q rfl h0
  cases w with
  | arrayClass ty => exact word_at (State.WarmedH.refl s) (Or.inr ⟨ty, rfl⟩) h0
  | methodLinkNest c i x ho => exact hg rfl
  | castable c t => exact hg rfl
  | declares x => exact hg rfl
  | arrayOver ty =>
    cases ty with
    | object C => exact va_AO.use (va_AO.of h0)
    | array t => exact Jvm.Stand.arrayOver_alikeB (Vm.Alike.refl s.vm) h0
    | _ => exact hg (by simp only [am_okw, Bool.and_eq_true] at ho; exact ho.1)
  | _ => exact hg (by simp only [am_okw, Bool.and_eq_true] at ho; exact ho.1)
theorem ao_prim {s : State} (h : TW s) {i : Nat} {ty : FieldType} (hw : am_lw i = some (.arrayClass ty)) : ∃ c, s.vm.findClass ("[" ++ ty.toString) = some c ∧ ArrOfT s c ty := by
  obtain ⟨c, k, comp, h1, h2, h3⟩ := Cond.arrayClass_spec (h.get hw rfl #[])
  exact ⟨c, h1, fun n z => ⟨(fun q hq => by cases hq), k, h2, comp, h3⟩⟩
theorem ao_obj {s : State} (h : TW s) {i : Nat} {C : String} (hw : am_lw i = some (.arrayOver (.object C))) : ∃ c, ArrOfT s c (.object C) ∧ va_RA s c (.object C) := by
  obtain ⟨comp, c, k, h1, -, h3, h4, h5⟩ := Cond.arrayOver_spec (h.get hw rfl #[])
  exact ⟨c, fun n z => ⟨(fun q hq => by cases hq), k, h3, comp, h4⟩, k, comp, h3, h4, h1, h5⟩
theorem ao_arr {s : State} (h : TW s) {i : Nat} {t : FieldType} (hw : am_lw i = some (.arrayOver (.array t))) : ∃ c, ArrOfT s c (.array t) ∧ va_RA s c (.array t) := by
  obtain ⟨comp, c, k, h1, -, h3, h4, h5⟩ := Jvm.Stand.arrayOver_specB (h.get hw rfl #[])
  exact ⟨c, fun n z => ⟨(fun q hq => by cases hq), k, h3, comp, h4⟩, h5⟩
set_option maxRecDepth 100000 in
theorem k_of {s : State} (h : TW s) (bs tL tS LN : Nat) (fs : Nat → Int32) : ∃ (D : va_G) (cA : Nat → ClassId), va_K D vwCl (g_tys (D, (bs, tL, tS), (LN, fs), cA)) s := by
  have hc : ∀ c, ∃ q : ClassId × (Nat → Nat), c < 13 → u_Kn s (am_RN c) (am_T c) (am_nf c) q.1 q.2 := fun c => by
    by_cases hlt : c < 13
    · obtain ⟨cC, iS, hk⟩ := u_known (lay_hts h #[] hlt) (fun w q => q) (h.get (cls_ck hlt).1 rfl #[])
      exact ⟨(cC, iS), fun _ => hk⟩
    · exact ⟨(0, fun _ => 0), fun q => absurd q hlt⟩
  obtain ⟨c1, a1, b1⟩ := ao_prim h (i := 118) (ty := .int) (by rfl)
  obtain ⟨c2, a2, b2⟩ := ao_prim h (i := 1058) (ty := .long) (by rfl)
  obtain ⟨c3, a3, b3⟩ := ao_prim h (i := 1057) (ty := .boolean) (by rfl)
  obtain ⟨c4, a4, b4⟩ := ao_obj h (i := 85) (C := "SpoonCensus$Sheet") (by rfl)
  obtain ⟨c5, a5, b5⟩ := ao_obj h (i := 87) (C := "SpoonCensus$Land") (by rfl)
  obtain ⟨c6, a6, b6⟩ := ao_obj h (i := 189) (C := "SpoonCensus$House") (by rfl)
  obtain ⟨c7, a7, b7⟩ := ao_arr h (i := 126) (t := .int) (by rfl)
  refine ⟨(fun c => (Classical.choose (hc c)).1, fun c => (Classical.choose (hc c)).2), fun k => if k = 1 then c1 else if k = 2 then c2 else if k = 3 then c3 else if k = 4 then c4 else if k = 5 then c5 else if k = 6 then c6 else c7, fun c q hq => ?_, fun k q hq => ?_⟩
  · have hlt : c < 13 := (List.getElem?_eq_some_iff.mp hq).1
    rw [vw_at hlt] at hq
    cases hq
    exact Classical.choose_spec (hc c) hlt
  · have hlt : k < 7 := (List.getElem?_eq_some_iff.mp hq).1
    match k, hlt, hq with
    | 0, _, hq => cases hq; exact ⟨b1, a1⟩
    | 1, _, hq => cases hq; exact ⟨b2, a2⟩
    | 2, _, hq => cases hq; exact ⟨b3, a3⟩
    | 3, _, hq => cases hq; exact ⟨a4, b4⟩
    | 4, _, hq => cases hq; exact ⟨a5, b5⟩
    | 5, _, hq => cases hq; exact ⟨a6, b6⟩
    | 6, _, hq => cases hq; exact ⟨a7, b7⟩
    | k + 7, h, _ => exact absurd h (by omega)
def am_ncl : List (Nat × Nat) := ([0, 2, 3, 6, 7, 9] : List Nat).flatMap (fun c => (([0, 2, 6, 7, 9] : List Nat).filter (fun d => !am_in c d)).map (fun d => (c, d)))
theorem nc_in : am_ncl.all (fun q => decide (Cond.not (.castable (am_RN q.1) (am_RN q.2)) ∈ flatC (Jvm.Cond.and given_1 narrow_1))) = true := by decide +kernel
theorem nc_of {args : Array Value} {s : State} (h : (Jvm.Cond.and given_1 narrow_1).before args s = true) : NC s := by
  intro c d h1 h2
  have hm : (c, d) ∈ am_ncl := by
    unfold am_nc at h1
    simp only [Bool.and_eq_true, Bool.or_eq_true, beq_iff_eq] at h1
    unfold am_ncl
    rw [List.mem_flatMap]
    refine ⟨c, by simp; omega, ?_⟩
    rw [List.mem_map]
    refine ⟨d, ?_, rfl⟩
    rw [List.mem_filter]
    exact ⟨by simp; omega, by rw [h2]; rfl⟩
  exact va_Nc.of (flat_of_before _ h _ (of_decide_eq_true (List.all_eq_true.mp nc_in _ hm)))
theorem let_of {args : Array Value} {s : State} (hTW : TW s) (hls : (Cond.laysStatic "SpoonCensus" "LETTERS" "[I").before args s = true) (h : (Jvm.Cond.and given_1 narrow_1).before args s = true) {A : Nat → Prop} (hA : ∀ a : Nat, a < s.heap.size → ¬ A a) : ∃ t, va_Z "SpoonCensus" "LETTERS" "[I" (.ref t) A s s.heap ∧ va_T .int t 6 (fun j => .int (g_let j)) A s s.heap := by
  have hs := flat_of_before _ h
  obtain ⟨t, e1, e2⟩ := va_Tof (tm := .static "SpoonCensus" "LETTERS" "[I") (ty := .int) (N := 6) (f := fun j => .int (g_let j)) (by decide) (hs _ (by decide +kernel)) (va_eqt (z := 6) (hs _ (by decide +kernel))) (fun j hj => by
    match j, hj with
    | 0, _ => exact va_eqt (z := 104) (hs _ (by decide +kernel))
    | 1, _ => exact va_eqt (z := 109) (hs _ (by decide +kernel))
    | 2, _ => exact va_eqt (z := 98) (hs _ (by decide +kernel))
    | 3, _ => exact va_eqt (z := 110) (hs _ (by decide +kernel))
    | 4, _ => exact va_eqt (z := 103) (hs _ (by decide +kernel))
    | 5, _ => exact va_eqt (z := 115) (hs _ (by decide +kernel))
    | k + 6, h => exact absurd h (by omega)) hA
  exact ⟨t, va_Zref hls (hTW.get (i := 59) (w := .initialized "SpoonCensus") (by rfl) rfl args) e1 hA, e2⟩
set_option maxHeartbeats 4000000 in
theorem law_open (hp : PURE) {p : Program} {e : Env} {s : State} {m : MethodId} {below : List Frame} {meth : Method} {c : Code} (l : Launch) {b L : Nat} {xs : Nat → Int32} (hL : L ≤ 3072) (C0 : lw_At p s m meth c b L xs) : W p l e room_1 s m #[Value.ref b] below meth c s.heap [] 0 0 (lw_Z below #[Value.ref b] s) (entryFrame m ([Value.ref b] : List Value).toArray 4) := by
  obtain ⟨hx, hb, hr, hml, hown, hts, hX, hbl, hlocks, hgv⟩ := C0
  have hTW := tw_of hts
  have hA : ∀ a : Nat, a < s.heap.size → ¬ (fun q => s.heap.size ≤ q) a := fun a h => Nat.not_le.mpr h
  obtain ⟨tL, hZ, hT1⟩ := let_of (A := fun q => s.heap.size ≤ q) hTW (hts _ (List.mem_of_getElem? (i := 412) (by rfl))) hgv hA
  obtain ⟨D, cA, hK⟩ := k_of hTW s.heap.size tL b L xs
  have hT2 : va_T .int b L (fun j => .int (xs j)) (fun q => s.heap.size ≤ q) s s.heap := by
    obtain ⟨scr, q1, q2, q3, q4, q5⟩ := hX
    exact ⟨scr, q1, q2, q3, Nat.le_of_eq q4.symm, by rw [q4], q5, hA b hbl⟩
  generalize hG : ((D, (s.heap.size, tL, b), (L, xs), cA) : GG) = G at hK
  have e1 : G.2.1.1 = s.heap.size := by rw [← hG]
  have e2 : G.2.1.2.1 = tL := by rw [← hG]
  have e3 : G.2.1.2.2 = b := by rw [← hG]
  have e4 : G.2.2.1.1 = L := by rw [← hG]
  have e5 : G.2.2.1.2 = xs := by rw [← hG]
  have e6 : G.1 = D := by rw [← hG]
  have eA : g_A G = fun q => s.heap.size ≤ q := by unfold g_A; rw [e1]
  have hKX : KX G s := ⟨hTW, nc_of hgv, by rw [e6]; exact hK, by rw [e2, eA]; exact hZ, by rw [e2, eA]; exact hT1, by rw [e3, e4, e5, eA]; exact hT2⟩
  have X : FX G 254 p room_1 s m meth c := ⟨hx, hb, hml, hown, hr, hlocks, fun q => by exact absurd q (by decide +kernel), hKX, Nat.le_of_eq (by decide +kernel), Nat.le_of_eq (by decide +kernel)⟩
  obtain ⟨F, r, σ', hex, rfl, hn1, hn2⟩ := hp L (fun j => (xs j).toInt) hL (fun j => nz_i _)
  have hsp : g_sp G (S (mem0 L (fun j => (xs j).toInt))) := by
    refine ⟨rfl, rfl, fun i _ => ?_, Or.inr ⟨?_, by rw [e4]; exact hL, fun j _ => ?_⟩⟩
    · show Int32.ofInt (g_let i).toInt = _
      exact of_i _
    · rw [e4]; rfl
    · rw [e5]; exact of_i _
  have hN : g_N (S (mem0 L (fun j => (xs j).toInt))) := by
    intro k i
    have hr9 : nz (mem0 L (fun j => (xs j).toInt) k i) = mem0 L (fun j => (xs j).toInt) k i := by
      unfold mem0
      by_cases b9 : k = 1001
      · by_cases c9 : i = 0
        · simp only [b9, c9, if_true]
          exact nz_of (by omega) (by omega)
        · simp only [b9, c9, if_true, if_false]
          exact nz_i _
      · simp only [b9, if_false]
        have := m0_rng k i
        exact nz_of (by omega) (by omega)
    exact ⟨fun _ => n_il hr9, fun _ => hr9⟩
  have hspc : g_sp G st_c := ⟨rfl, rfl, fun i _ => of_i _, Or.inl (by decide)⟩
  have hNc : g_N st_c := by
    intro k i
    have hr9 : nz (st_c.2.2.2.2 k i) = st_c.2.2.2.2 k i := by
      show nz (if k = 1000 then (g_let i).toInt else if k = 1001 then (if i = 0 then -1 else 0) else 0) = _
      have := let_rng i
      unfold st_c
      dsimp only
      by_cases a9 : k = 1000
      · simp only [a9, if_true]
        exact nz_of (by omega) (by omega)
      · by_cases b9 : k = 1001
        · by_cases c9 : i = 0
          · simp only [a9, b9, c9, if_true, if_false]; rfl
          · simp only [a9, b9, c9, if_true, if_false]; rfl
        · simp only [a9, b9, if_false]; rfl
    exact ⟨fun _ => n_il hr9, fun _ => hr9⟩
  have hRP : RP G s st_c s.heap [] := by
    refine ⟨fun k q h => (by cases h), fun _ => ?_, va_S.rf, ?_, hNc, hspc⟩
    · rw [e1]; rfl
    · show (0 : Nat) ≤ 999
      decide
  have g1 := go_1t
  unfold go_1 at g1
  rcases hg : go_c with _ | ⟨pc9, L9, st9, σf⟩
  · rw [hg] at g1; cases g1
  rw [hg] at g1
  simp only [Bool.and_eq_true, decide_eq_true_eq] at g1
  obtain ⟨⟨⟨⟨⟨rfl, rfl⟩, rfl⟩, hn9⟩, hw9⟩, hall⟩ := g1
  have hsh : ∀ k, k < 121 → σf.2.2.1 k = sh0 k := fun k hk => of_decide_eq_true (List.all_eq_true.mp hall k (List.mem_range.mpr hk))
  have K1 := snd_all l G F 254 18 _ [] _ _ _ hex p e room_1 s m #[Value.ref b] below meth c 0 0 (lw_Z below #[Value.ref b] s) X ⟨hn1, hn2⟩ (fun pc am len wa wb L1 st hc ht => ?_)
  · have K2 : WA G 254 p l e room_1 s m #[Value.ref b] below meth c 0 0 (lw_Z below #[Value.ref b] s) 18 [some (.inr (.inr (some 1001))), some (.inr (.inr (some 0))), some (.inr (.inr (some 101))), some (.inl 0)] [] σf := by
      intro H locs ls hL9 hst hR h1 h2
      have := K1 H locs ls hL9 hst (go_conv hg hn9 hsh hR hN hsp) (Nat.zero_le _) (Nat.zero_le _)
      rw [hn9, hw9]
      exact this
    have K3 := go_snd X 10 (show am_go 10 254 (0, am_en 254 [.inr (.inr (some 1001))], [], st_c) = some (18, _, [], σf) from hg) ⟨by rw [hn9]; decide, by rw [hw9]; decide⟩ K2
    have K := K3 s.heap [] _ (LR.en G (as := [.inr (.inr (some 1001))]) (by decide +kernel) (fun v hv => by
      have : v = .inr (.inr (some 1001)) := by simpa using hv
      subst this; trivial)) (fun v h => by cases h) hRP (Nat.zero_le _) (Nat.zero_le _)
    rw [lg_entry_eq]
    have ecv : ([.inr (.inr (some 1001))] : List AV).map (cv G) = [Value.ref b] := by
      show [Value.ref (g_ad G 1001)] = _
      have : g_ad G 1001 = b := by rw [← e3]; rfl
      rw [this]
    rw [ecv] at K
    exact K
  · intro H locs ls hL9 hst hR h1 h2
    obtain ⟨-, hd, hk⟩ := ck_code hc
    cases am
    case ireturn =>
      simp only [am_ctl, am_ri] at ht
      split at ht
      · rename_i v
        split at ht
        · cases ht
        · cases ht
          refine va_forget (fun q hq => ?_) ?_
          · have := hR.2.2.1.2.2 q hq
            rw [eA] at this
            exact this
          · refine W.widen (k := 600000) (n := 7302250) (by omega) (by omega) ?_
            exact lw_ret hx hb hr hlocks (ret_len hc hd rfl)
      · cases ht
    case invokestatic z0 =>
      simp only [am_ctl] at ht
      split at ht
      · cases ht
      · obtain ⟨q, hq⟩ := cS_c ht; cases hq
    case invokespecial z0 =>
      simp only [am_ctl] at ht
      split at ht
      · cases ht
      · obtain ⟨q, hq⟩ := cI_c ht; cases hq
    case invokevirtual z0 =>
      simp only [am_ctl] at ht
      obtain ⟨q, hq⟩ := cV_c ht; cases hq
    case ifCond c0 t0 =>
      simp only [am_ctl, am_b1] at ht
      split at ht <;> cases ht
    case if_icmp c0 t0 =>
      simp only [am_ctl, am_b2] at ht
      split at ht <;> cases ht
    case lreturn =>
      simp only [am_ctl, am_rl] at ht
      split at ht <;> cases ht
    case areturn =>
      simp only [am_ctl, am_ra] at ht
      split at ht <;> cases ht
    case return_ =>
      simp only [am_ctl, am_rv] at ht
      split at ht <;> cases ht
    all_goals (simp only [am_ctl] at ht; cases ht)
