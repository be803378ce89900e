/-! calls, and whole runs -/
theorem step_ge {am : Instr} {nx a : Nat} {L b : LV} {st c : List AV} {σ d : ST} (h : am_step am nx L st σ = some (a, b, c, d)) : σ.1 ≤ d.1 ∧ σ.2.1 ≤ d.2.1 := by
  have same : ∀ {x : ST}, x.1 = σ.1 → x.2.1 = σ.2.1 → σ.1 ≤ x.1 ∧ σ.2.1 ≤ x.2.1 := fun h1 h2 => ⟨by omega, by omega⟩
  cases am <;> simp only [am_step, am_i1, am_i2, am_i2d, am_l1, am_l2, am_l2d, am_ldi, am_ldl, am_lda, am_sti, am_sta, am_stl, am_inc, am_i2l, am_l2i, am_lcmp, am_dup, am_dup2, am_pop1, am_getf, am_putf, am_ial, am_lal, am_bal, am_aal, am_ias, am_las, am_bas, am_aas, am_alen, am_new, am_nwa, am_nwq, am_nwm, am_inst, am_cast, am_copy, am_oin, am_tsw] at h <;> (repeat' split at h) <;> first
    | (cases h; done)
    | (cases h; exact ⟨Nat.le_refl _, Nat.le_refl _⟩)
    | (cases h; exact ⟨Nat.le_succ _, Nat.le_add_right _ _⟩)
    | (cases h; exact ⟨by show σ.1 ≤ σ.1 + 1 + _; omega, by show σ.2.1 ≤ σ.2.1 + _ + _; omega⟩)
theorem ex_ge : ∀ (F : Nat) {y pc : Nat} {L : LV} {st : List AV} {σ σ' : ST} {r : Option AV}, am_ex F y pc L st σ = some (r, σ') → σ.1 ≤ σ'.1 ∧ σ.2.1 ≤ σ'.2.1 := by
  intro F
  induction F with
  | zero => intro y pc L st σ σ' r h; simp [am_ex] at h
  | succ F ih =>
    intro y pc L st σ σ' r h
    rw [am_ex] at h
    rcases hc : am_code y pc with _ | ⟨am, len, wa, wb⟩
    · simp only [hc] at h; cases h
    · simp only [hc] at h
      rcases hr : am_ctl y am st σ with _ | r | ⟨z, as, rest⟩ | ⟨c, t, r⟩ | u
      · simp only [hr] at h; cases h
      · simp only [hr] at h; cases h; exact ⟨Nat.le_refl _, Nat.le_refl _⟩
      · simp only [hr] at h
        rcases he : am_ex F z 0 (am_en z as) [] σ with _ | ⟨rv, s2⟩
        · simp only [he] at h; cases h
        · simp only [he] at h
          have a := ih he
          have b := ih h
          exact ⟨Nat.le_trans a.1 b.1, Nat.le_trans a.2 b.2⟩
      · simp only [hr] at h
        by_cases hcc : c = true
        · rw [if_pos hcc] at h; exact ih h
        · rw [if_neg hcc] at h; exact ih h
      · simp only [hr] at h
        rcases he : am_step am (pc + len) L st σ with _ | ⟨a, b, c, d⟩
        · simp only [he] at h; cases h
        · simp only [he] at h
          have a := step_ge he
          have b := ih h
          exact ⟨Nat.le_trans a.1 b.1, Nat.le_trans a.2 b.2⟩
def RQ (G : GG) (σ : ST) (H : Heap) : Prop := va_P G.1 vwCl (g_W G σ) H ∧ (σ.1 < 121 → H.size = G.2.1.1 + σ.1) ∧ σ.1 ≤ 999 ∧ g_N σ ∧ g_sp G σ
theorem RP.q {G : GG} {s : State} {σ : ST} {H : Heap} {locs : List Loc} (h : RP G s σ H locs) : RQ G σ H := ⟨h.1, h.2.1, h.2.2.2.1, h.2.2.2.2.1, h.2.2.2.2.2⟩
theorem RQ.p {G : GG} {s : State} {σ : ST} {H : Heap} {locs : List Loc} (h : RQ G σ H) (hS : va_S (g_A G) s.heap H locs) : RP G s σ H locs := ⟨h.1, h.2.1, hS, h.2.2.1, h.2.2.2.1, h.2.2.2.2⟩
def am_Pc (G : GG) (as : List AV) (σ : ST) : Array Value → State → Prop := fun v U => v = (as.map (cv G)).toArray ∧ KX G U ∧ RQ G σ U.heap
def am_Qc (G : GG) (r : Option AV) (σ' : ST) : Array Value → State → Outcome → State → Prop := fun _ st oc t => oc = .returned (r.map (cv G)) ∧ (∀ v, r = some v → NV v) ∧ RQ G σ' t.heap ∧ va_F (g_A G) st t
def am_rm (z mc ms : Nat) : Room := { frames := am_fr z, cells := mc, slots := ms, locals := am_lo z }
def MetA (l : Launch) (G : GG) (z : Nat) (as : List AV) (σ : ST) (r : Option AV) (σ' : ST) : Prop := Met l (am_Y z) [.code (am_Y z) (am_C z) (am_L z) (am_R z)] (am_rm z (σ'.1 - σ.1) (σ'.2.1 - σ.2.1)) (am_Pc G as σ) (am_Qc G r σ') (σ'.1 - σ.1) (σ'.2.1 - σ.2.1) (g_A G)
theorem pc_blind (G : GG) (as : List AV) (σ : ST) : FrameBlind (am_Pc G as σ) := fun _ _ _ _ h => ⟨h.1, h.2.1.blind, h.2.2⟩
theorem pop_spec : ∀ (n : Nat) {acc st as rest : List AV}, am_pop n acc st = some (as, rest) → ∃ xs : List AV, xs.length = n ∧ st = xs ++ rest ∧ as = xs.reverse ++ acc
  | 0, acc, st, as, rest, h => by
    simp only [am_pop] at h
    cases h
    exact ⟨[], rfl, rfl, rfl⟩
  | n + 1, acc, [], as, rest, h => by simp only [am_pop] at h; cases h
  | n + 1, acc, v :: st, as, rest, h => by
    simp only [am_pop] at h
    obtain ⟨xs, h1, h2, h3⟩ := pop_spec n h
    exact ⟨v :: xs, by simp [h1], by rw [h2]; rfl, by rw [h3]; simp⟩
theorem cat_le (G : GG) (st : List AV) : ((st.map (cv G)).map fun v => v.category).sum = am_cat st := by
  unfold am_cat
  rw [List.map_map]
  congr 1
  apply List.map_congr_left
  intro v _
  exact cv_cat G v
theorem nvs_app {a b : List AV} (h : nvs (a ++ b)) : nvs a ∧ nvs b := ⟨fun v hv => h v (List.mem_append_left _ hv), fun v hv => h v (List.mem_append_right _ hv)⟩
theorem nvs_rev {a : List AV} (h : nvs a) : nvs a.reverse := fun v hv => h v (List.mem_reverse.mp hv)
theorem z_ck {z : Nat} (h : z < 254) : am_lw (am_w3 z).2.1 = some (.initialized (am_Y z).cls) ∧ (am_st z = true → am_lw (am_w3 z).2.2 = some (.static (am_Y z))) ∧ (am_st z = false → am_lw (am_w3 z).2.2 = some (.instanceMethod (am_Y z))) ∧ ((am_Y z).cls ≠ "java/lang/invoke/MethodHandle" ∧ (am_Y z).cls ≠ "java/lang/invoke/VarHandle") ∧ (parseMethodDescriptor (am_Y z).desc).map (fun d => d.parameters.length) = some (am_np z) ∧ plainFor (am_Y z) = true := by
  have h1 := List.all_eq_true.mp ck_w1 z (List.mem_range.mpr h)
  unfold am_ckw at h1
  simp only [Bool.and_eq_true, decide_eq_true_eq] at h1
  obtain ⟨⟨⟨⟨a1, a2⟩, a3⟩, a4⟩, a5⟩ := h1
  refine ⟨a1, fun q => ?_, fun q => ?_, a3, a4, a5⟩
  · rw [if_pos q] at a2; exact of_decide_eq_true a2
  · rw [if_neg (by rw [q]; decide)] at a2; exact of_decide_eq_true a2
theorem vd_none {z c : Nat} (h : 254 ≤ z) : am_vd z c = none := by
  unfold am_vd
  simp only [show ¬ z ≤ 127 by omega, show ¬ z ≤ 191 by omega, show ¬ z ≤ 223 by omega, show ¬ z ≤ 239 by omega, show ¬ z ≤ 247 by omega, show ¬ z ≤ 251 by omega, show ¬ z ≤ 253 by omega, if_false]
section SC
variable {G : GG} {y : Nat} {p : Program} {l : Launch} {e : Env} {R : Room} {s : State} {m : MethodId} {args : Array Value} {below : List Frame} {meth : Method} {c : Code} {n0 w0 : Nat} {Q : State → Prop}
variable {pc len wa wb z : Nat} {L : LV} {st as rest : List AV} {σ σ1 : ST} {r : Option AV} {am : Instr}
theorem run_go {H : Heap} {locs : List Loc} {ls : Array Slot} {st0 : List Value} {a : Array Value} (hrun : va_Run p l e R s m args below meth c H locs (σ.1 - n0) (σ.2.1 - w0) (σ1.1 - σ.1) (σ1.2.1 - σ.2.1) (F0 m pc ls st0) (rest.map (cv G)) (am_Qc G r σ1 a) (g_A G)) (hR : RP G s σ H locs) (hL : LR G ls (am_L y) L) (hrest : nvs rest) (h1 : n0 ≤ σ.1) (h2 : w0 ≤ σ.2.1) (h3 : σ.1 ≤ σ1.1 ∧ σ.2.1 ≤ σ1.2.1) (kk : WA G y p l e R s m args below meth c n0 w0 Q (pc + 3) L (r.toList ++ rest) σ1) : W p l e R s m args below meth c H locs (σ.1 - n0) (σ.2.1 - w0) Q (F0 m pc ls st0) := by
  intro T hT XX
  obtain ⟨v, st9, t, T', Lc, h0, X', hLc, e1, e2, ⟨hv, hnv, hRQ, hz, hk⟩, stp⟩ := hrun T hT XX
  have hv' : v = r.map (cv G) := by cases hv; rfl
  subst hv'
  rw [h0] at hz hk
  have hS := hR.2.2.1
  have hS' : va_S (g_A G) s.heap T'.heap (locs ++ Lc) := ⟨Nat.le_trans hS.1 (by rw [e1]; exact hz), fun q q1 q2 => by rw [e1, hk q (Nat.lt_of_lt_of_le q1 hS.1) q2]; exact hS.2.1 q q1 q2, fun q hq => by
    rcases List.mem_append.mp hq with h | h
    · exact hS.2.2 q h
    · exact hLc q h⟩
  have hnv' : nvs (r.toList ++ rest) := fun w hw => by
    rcases List.mem_append.mp hw with h | h
    · cases r with
      | none => cases h
      | some x =>
        have : w = x := by simpa using h
        subst this
        exact hnv w rfl
    · exact hrest w h
  have K := kk T'.heap (locs ++ Lc) ls hL hnv' (RQ.p (by rw [e1]; exact hRQ) hS') (by omega) (by omega)
  rw [show σ.1 - n0 + (σ1.1 - σ.1) = σ1.1 - n0 by omega, show σ.2.1 - w0 + (σ1.2.1 - σ.2.1) = σ1.2.1 - w0 by omega] at X'
  obtain ⟨t2, a1, b1⟩ := K T' rfl X'
  refine ⟨t2, stp t2 ?_, b1⟩
  cases r with
  | none => exact a1
  | some x => exact a1
theorem cb_of (X : FX G y p R s m meth c) (hz : z < 254) (hok : am_okc y z = true) {index mc ms : Nat} (hl : (Cond.methodLink (am_own y) index (am_Y z)).before args s = true) : CallB R s args (am_own y) index (am_Y z) (am_C z) (am_L z) (am_R z) [.code (am_Y z) (am_C z) (am_L z) (am_R z)] (am_rm z mc ms) mc ms (am_np z) := by
  have hTW := X.2.2.2.2.2.2.2.1.1
  have hfr := X.2.2.2.2.2.2.2.2
  obtain ⟨c1, -, -, c2, c3, -⟩ := z_ck hz
  unfold am_okc at hok
  simp only [Bool.and_eq_true, decide_eq_true_eq] at hok
  refine ⟨rfl, rfl, by show am_fr z + 1 ≤ _; omega, by show 8 + (am_L z + 11) + am_lo z ≤ _; omega, fun w hw a' U hW => ?_, List.mem_cons_self, hTW.get (cw_all z hz) rfl args, hTW.get c1 rfl args, c2, fun sig h => ?_, hl⟩
  · have e : w = .code (am_Y z) (am_C z) (am_L z) (am_R z) := by simpa using hw
    subst e
    exact (hTW.warm hW).get (cw_all z hz) rfl a'
  · rw [h] at c3
    exact (Option.some.inj c3).symm
theorem cn_of (X : FX G y p R s m meth c) (hz : z < 254) (hok : am_okc y z = true) {index mc ms : Nat} (hl : (Cond.methodLinkNest (am_own y) index (am_Y z) "SpoonCensus").before args s = true) : va_CN R s args (am_own y) index (am_Y z) "SpoonCensus" (am_C z) (am_L z) (am_R z) [.code (am_Y z) (am_C z) (am_L z) (am_R z)] (am_rm z mc ms) mc ms (am_np z) := by
  have hTW := X.2.2.2.2.2.2.2.1.1
  have hfr := X.2.2.2.2.2.2.2.2
  obtain ⟨c1, -, -, c2, c3, -⟩ := z_ck hz
  unfold am_okc at hok
  simp only [Bool.and_eq_true, decide_eq_true_eq] at hok
  refine ⟨⟨rfl, rfl, by show am_fr z + 1 ≤ _; omega, by show 8 + (am_L z + 11) + am_lo z ≤ _; omega, fun w hw a' U hW => ?_, List.mem_cons_self⟩, hTW.get (cw_all z hz) rfl args, hTW.get c1 rfl args, c2, fun sig h => ?_, hl⟩
  · have e : w = .code (am_Y z) (am_C z) (am_L z) (am_R z) := by simpa using hw
    subst e
    exact (hTW.warm hW).get (cw_all z hz) rfl a'
  · rw [h] at c3
    exact (Option.some.inj c3).symm
theorem fixC (X : FX G y p R s m meth c) : CallFix p m c (am_C y) (am_L y) s args [] (am_own y) := ⟨X.1, X.2.1, X.2.2.1, X.2.2.2.1, fun w h => by cases h⟩
theorem pre_ok {H : Heap} {locs : List Loc} (X : FX G y p R s m meth c) (hR : RP G s σ H locs) : ∀ U : State, U.heap = H → s.WarmedH U.vm → am_Pc G as σ (as.map (cv G)).toArray U := fun U hU hW => ⟨rfl, X.2.2.2.2.2.2.2.1.call hR.2.2.1 hU hW, by rw [hU]; exact hR.q⟩
theorem ss_cS (X : FX G y p R s m meth c) (hd : decode (am_C y) pc = .ok (.invokestatic wa, 3)) (hw : am_ckm y wa wb z = true) (hs : am_st z = true) (hp : am_pop (am_np z) [] st = some (as, rest)) (hq : am_okc y z = true ∧ am_cat rest ≤ 8 ∧ z < 254) (hM : nvs as → MetA l G z as σ r σ1) (hr : σ1.1 - n0 ≤ R.cells ∧ σ1.2.1 - w0 ≤ R.slots) (h3 : σ.1 ≤ σ1.1 ∧ σ.2.1 ≤ σ1.2.1) (kk : WA G y p l e R s m args below meth c n0 w0 Q (pc + 3) L (r.toList ++ rest) σ1) : WA G y p l e R s m args below meth c n0 w0 Q pc L st σ := by
  intro H locs ls hL hst hR h1 h2
  obtain ⟨xs, x1, x2, x3⟩ := pop_spec _ hp
  rw [List.append_nil] at x3
  subst x2
  have hTW := X.2.2.2.2.2.2.2.1.1
  obtain ⟨hn1, hn2⟩ := nvs_app hst
  have hnas : nvs as := by rw [x3]; exact nvs_rev hn1
  have hstk : (F0 m pc ls ((xs ++ rest).map (cv G))).stack = (as.map (cv G)).reverse ++ rest.map (cv G) := by
    rw [x3]; simp
  have hcat : 2 * (F0 m pc ls ((xs ++ rest).map (cv G))).monitorRoom + ((rest.map (cv G)).map fun v => v.category).sum ≤ 8 := by
    rw [cat_le]; show 2 * 0 + _ ≤ _; omega
  have hlen : (as.map (cv G)).length = am_np z := by rw [x3]; simp [x1]
  have hroom : σ.1 - n0 + (σ1.1 - σ.1) ≤ R.cells ∧ σ.2.1 - w0 + (σ1.2.1 - σ.2.1) ≤ R.slots := by omega
  have hstat := hTW.get ((z_ck hq.2.2).2.1 hs) rfl args
  refine run_go (a := (as.map (cv G)).toArray) ?_ hR hL hn2 h1 h2 h3 kk
  unfold am_ckm at hw
  simp only [Bool.or_eq_true, decide_eq_true_eq] at hw
  rcases hw with hw | hw
  · exact va_runS (fixC X) (hM hnas) ⟨cb_of X hq.2.2 hq.1 (hTW.get hw rfl args), hstat⟩ ⟨pc_blind G as σ, pre_ok X hR⟩ rfl hlen hL.1 hstk hcat hd hroom
  · exact va_runSN (fixC X) (hM hnas) ⟨cn_of X hq.2.2 hq.1 (hTW.get hw rfl args), hstat, trivial⟩ ⟨pc_blind G as σ, pre_ok X hR⟩ rfl hlen hL.1 hstk hcat hd hroom
theorem ss_cI {k : Nat} (X : FX G y p R s m meth c) (hd : decode (am_C y) pc = .ok (.invokespecial wa, 3)) (hw : am_ckm y wa wb z = true) (hs : am_st z = false) (hnm : (am_Y z).name = "<init>") (hrn : am_R z = none) (hp : am_pop (am_np z + 1) [] st = some (.inr (.inr (some k)) :: as, rest)) (hq : am_okc y z = true ∧ am_cat rest ≤ 8 ∧ z < 254) (hM : nvs as → MetA l G z (.inr (.inr (some k)) :: as) σ r σ1) (hr : σ1.1 - n0 ≤ R.cells ∧ σ1.2.1 - w0 ≤ R.slots) (h3 : σ.1 ≤ σ1.1 ∧ σ.2.1 ≤ σ1.2.1) (kk : WA G y p l e R s m args below meth c n0 w0 Q (pc + 3) L (r.toList ++ rest) σ1) : WA G y p l e R s m args below meth c n0 w0 Q pc L st σ := by
  intro H locs ls hL hst hR h1 h2
  obtain ⟨xs, x1, x2, x3⟩ := pop_spec _ hp
  rw [List.append_nil] at x3
  subst x2
  have hTW := X.2.2.2.2.2.2.2.1.1
  obtain ⟨hn1, hn2⟩ := nvs_app hst
  have hnas : nvs as := by
    have : nvs (.inr (.inr (some k)) :: as) := by rw [x3]; exact nvs_rev hn1
    exact nvs_t this
  have hxs : xs = as.reverse ++ [.inr (.inr (some k))] := by
    have := congrArg List.reverse x3
    simpa using this.symm
  have hstk : (F0 m pc ls ((xs ++ rest).map (cv G))).stack = (as.map (cv G)).reverse ++ .ref (g_ad G k) :: rest.map (cv G) := by
    rw [hxs]; simp [cv]
  have hcat : 2 * (F0 m pc ls ((xs ++ rest).map (cv G))).monitorRoom + ((rest.map (cv G)).map fun v => v.category).sum ≤ 8 := by
    rw [cat_le]; show 2 * 0 + _ ≤ _; omega
  have hlen : (as.map (cv G)).length = am_np z := by
    rw [hxs] at x1; simp at x1; simp [x1]
  have hroom : σ.1 - n0 + (σ1.1 - σ.1) ≤ R.cells ∧ σ.2.1 - w0 + (σ1.2.1 - σ.2.1) ≤ R.slots := by omega
  have hinst := hTW.get ((z_ck hq.2.2).2.2.1 hs) rfl args
  refine run_go (a := (Value.ref (g_ad G k) :: as.map (cv G)).toArray) ?_ hR hL hn2 h1 h2 h3 kk
  have hM' := hM hnas
  unfold am_ckm at hw
  simp only [Bool.or_eq_true, decide_eq_true_eq] at hw
  rcases hw with hw | hw
  · have cb := cb_of X hq.2.2 hq.1 (mc := σ1.1 - σ.1) (ms := σ1.2.1 - σ.2.1) (hTW.get hw rfl args)
    unfold MetA at hM'
    rw [hrn] at cb hM'
    exact va_runI (fixC X) hM' ⟨cb, hnm, hinst⟩ ⟨pc_blind G _ σ, pre_ok X hR⟩ rfl hlen hL.1 hstk hcat hd hroom
  · have cb := cn_of X hq.2.2 hq.1 (mc := σ1.1 - σ.1) (ms := σ1.2.1 - σ.2.1) (hTW.get hw rfl args)
    unfold MetA at hM'
    rw [hrn] at cb hM'
    exact va_runIN (fixC X) hM' ⟨cb, hnm, hinst⟩ ⟨pc_blind G _ σ, pre_ok X hR⟩ rfl hlen hL.1 hstk hcat hd hroom
theorem ss_cV {k t : Nat} (X : FX G y p R s m meth c) (hd : decode (am_C y) pc = .ok (.invokevirtual wa, 3)) (hw : am_lw wb = some (.methodLink (am_own y) wa (am_vx z))) (hp : am_pop (am_np z + 1) [] st = some (.inr (.inr (some k)) :: as, rest)) (hk : k < σ.1 ∧ (σ.2.2.1 k).1 = 0 ∧ (σ.2.2.1 k).2.1 < 13) (hz : z < 254) (hv : am_vd z (σ.2.2.1 k).2.1 = some t) (hq : am_okc y t = true ∧ am_cat rest ≤ 8 ∧ t < 254) (hM : nvs as → MetA l G t (.inr (.inr (some k)) :: as) σ r σ1) (hr : σ1.1 - n0 ≤ R.cells ∧ σ1.2.1 - w0 ≤ R.slots) (h3 : σ.1 ≤ σ1.1 ∧ σ.2.1 ≤ σ1.2.1) (kk : WA G y p l e R s m args below meth c n0 w0 Q (pc + 3) L (r.toList ++ rest) σ1) : WA G y p l e R s m args below meth c n0 w0 Q pc L st σ := by
  intro H locs ls hL hst hR h1 h2
  obtain ⟨xs, x1, x2, x3⟩ := pop_spec _ hp
  rw [List.append_nil] at x3
  subst x2
  have hKX := X.2.2.2.2.2.2.2.1
  have hTW := hKX.1
  obtain ⟨hn1, hn2⟩ := nvs_app hst
  have hnas : nvs as := by
    have : nvs (.inr (.inr (some k)) :: as) := by rw [x3]; exact nvs_rev hn1
    exact nvs_t this
  have hxs : xs = as.reverse ++ [.inr (.inr (some k))] := by
    have := congrArg List.reverse x3
    simpa using this.symm
  have hk9 : k < 1000 := by have := hR.2.2.2.1; omega
  have hstk : (F0 m pc ls ((xs ++ rest).map (cv G))).stack = (as.map (cv G)).reverse ++ .ref (G.2.1.1 + k) :: rest.map (cv G) := by
    rw [hxs, ← g_adk hk9]; simp [cv]
  have hcat : 2 * (F0 m pc ls ((xs ++ rest).map (cv G))).monitorRoom + ((rest.map (cv G)).map fun v => v.category).sum ≤ 8 := by
    rw [cat_le]; show 2 * 0 + _ ≤ _; omega
  have hroom : σ.1 - n0 + (σ1.1 - σ.1) ≤ R.cells ∧ σ.2.1 - w0 + (σ1.2.1 - σ.2.1) ≤ R.slots := by omega
  have hck := List.all_eq_true.mp (List.all_eq_true.mp ck_d1 z (List.mem_range.mpr hz)) _ (List.mem_range.mpr hk.2.2)
  unfold am_ckd at hck
  simp only [hv, Bool.and_eq_true, Bool.or_eq_true, decide_eq_true_eq, Bool.not_eq_true'] at hck
  obtain ⟨⟨⟨⟨d1, d2⟩, d3⟩, d4⟩, d5⟩ := hck
  have hlen : (as.map (cv G)).length = am_np t := by
    rw [hxs] at x1; simp at x1; rw [d2]; simp [x1]
  have hinst := hTW.get ((z_ck hq.2.2).2.2.1 d3) rfl args
  have hsel := hTW.get d4 rfl args
  have hlink := hTW.get hw rfl args
  have hM' := hM hnas
  have hrv := recv hKX hR hk.1 hk.2.1 hk.2.2
  have hPc : ∀ U : State, U.heap = H → s.WarmedH U.vm → am_Pc G (.inr (.inr (some k)) :: as) σ (Value.ref (G.2.1.1 + k) :: as.map (cv G)).toArray U := fun U hU hW => by
    have := pre_ok (as := .inr (.inr (some k)) :: as) X hR U hU hW
    rw [List.map_cons] at this
    rw [← g_adk hk9]
    exact this
  refine run_go (a := (Value.ref (G.2.1.1 + k) :: as.map (cv G)).toArray) ?_ hR hL hn2 h1 h2 h3 kk
  rcases d5 with ⟨e1, e2⟩ | ⟨⟨e1, e2⟩, e3⟩
  · rw [e1] at hlink hsel
    exact va_runV (fixC X) hM' ⟨cb_of X hq.2.2 hq.1 hlink, hinst, hsel⟩ ⟨pc_blind G _ σ, hrv, hPc⟩ rfl hlen hL.1 hstk hcat hd hroom
  · have hzck := z_ck hz
    have htck := z_ck hq.2.2
    have cb := cb_of (z := t) (index := wa) (mc := σ1.1 - σ.1) (ms := σ1.2.1 - σ.2.1) (args := args) X hq.2.2 hq.1
    have hok := hq.1
    unfold am_okc at hok
    simp only [Bool.and_eq_true, decide_eq_true_eq] at hok
    have hfr := X.2.2.2.2.2.2.2.2
    have hnm : (⟨(am_Y z).cls, (am_vx z).name, (am_vx z).desc⟩ : MethodName) = am_Y z := by rw [e2.1, e2.2]
    have hdecl : va_Decl s ⟨(am_Y z).cls, (am_vx z).name, (am_vx z).desc⟩ := by
      rw [hnm]
      exact va_Decl.of (hTW.get (hzck.2.2.1 e3) rfl args) (hTW.get (cw_all z hz) rfl args)
    refine va_runU (owner := (am_Y z).cls) (C := am_RN (σ.2.2.1 k).2.1) (fixC X) hM' ⟨⟨rfl, rfl, by show am_fr t + 1 ≤ _; omega, by show 8 + (am_L t + 11) + am_lo t ≤ _; omega, fun w hw a' U hW => ?_, List.mem_cons_self⟩, hTW.get (cw_all t hq.2.2) rfl args, hTW.get htck.1 rfl args, hzck.2.2.2.1, fun sig h => ?_, hlink, hTW.get e1 rfl args, hdecl, hsel, hinst⟩ ⟨pc_blind G _ σ, hrv, hPc⟩ rfl hlen hL.1 hstk hcat hd hroom
    · have e : w = .code (am_Y t) (am_C t) (am_L t) (am_R t) := by simpa using hw
      subst e
      exact (hTW.warm hW).get (cw_all t hq.2.2) rfl a'
    · have c3 := hzck.2.2.2.2.1
      rw [← e2.2, h] at c3
      rw [d2]
      exact (Option.some.inj c3).symm
/-- a call, whichever -/
theorem ss_call (X : FX G y p R s m meth c) (hc : am_code y pc = some (am, len, wa, wb)) (ht : am_ctl y am st σ = some (.inr (.inl (z, as, rest)))) (hM : z < 254 → (am_ent as).length ≤ am_L z → nvs as → MetA l G z as σ r σ1) (hr : σ1.1 - n0 ≤ R.cells ∧ σ1.2.1 - w0 ≤ R.slots) (h3 : σ.1 ≤ σ1.1 ∧ σ.2.1 ≤ σ1.2.1) (kk : WA G y p l e R s m args below meth c n0 w0 Q (pc + len) L (r.toList ++ rest) σ1) : WA G y p l e R s m args below meth c n0 w0 Q pc L st σ := by
  obtain ⟨-, hd, hk⟩ := ck_code hc
  cases am
  case invokestatic z0 =>
    simp only [am_ctl] at ht
    by_cases e9 : z0 = 900
    · rw [if_pos e9] at ht; cases ht
    · rw [if_neg e9] at ht
      unfold am_cS at ht
      split at ht
      · rename_i as' rest' hp
        split at ht
        · rename_i hq
          cases ht
          simp only [am_ckx, if_neg e9, Bool.and_eq_true, decide_eq_true_eq] at hk
          obtain ⟨rfl, hw, hs⟩ := hk
          exact ss_cS X hd hw hs hp ⟨hq.1, hq.2.1, hq.2.2.1⟩ (hM hq.2.2.1 hq.2.2.2) hr h3 kk
        · cases ht
      · cases ht
  case invokespecial z0 =>
    simp only [am_ctl] at ht
    by_cases e9 : z0 = 901
    · rw [if_pos e9] at ht; cases ht
    · rw [if_neg e9] at ht
      unfold am_cI at ht
      split at ht
      · rename_i k as' rest' hp
        split at ht
        · rename_i hq
          cases ht
          simp only [am_ckx, if_neg e9, Bool.and_eq_true, decide_eq_true_eq, Bool.not_eq_true'] at hk
          obtain ⟨rfl, ⟨⟨hw, hs⟩, hnm⟩, hrn⟩ := hk
          exact ss_cI X hd hw hs hnm hrn hp ⟨hq.1, hq.2.1, hq.2.2.1⟩ (fun hn => hM hq.2.2.1 (by simp only [am_ent, am_isL]; simp; have := hq.2.2.2; omega) (nvs_c trivial hn)) hr h3 kk
        · cases ht
      · cases ht
  case invokevirtual z0 =>
    simp only [am_ctl] at ht
    unfold am_cV at ht
    split at ht
    · rename_i k as' rest' hp
      split at ht
      · rename_i hk0
        split at ht
        · rename_i t hv
          split at ht
          · rename_i hq
            cases ht
            simp only [am_ckx, Bool.and_eq_true, decide_eq_true_eq] at hk
            obtain ⟨rfl, hw⟩ := hk
            by_cases hz0 : z0 < 254
            · exact ss_cV X hd hw hp hk0 hz0 hv ⟨hq.1, hq.2.1, hq.2.2.1⟩ (fun hn => hM hq.2.2.1 (by simp only [am_ent, am_isL]; simp; have := hq.2.2.2; omega) (nvs_c trivial hn)) hr h3 kk
            · exfalso
              have : am_vd z0 (σ.2.2.1 k).2.1 = none := vd_none (by omega)
              rw [this] at hv; cases hv
          · cases ht
        · cases ht
      · cases ht
    · cases ht
  case ireturn =>
    simp only [am_ctl, am_ri] at ht
    split at ht
    · split at ht <;> cases ht
    · cases ht
  all_goals first
    | (simp only [am_ctl] at ht; cases ht; done)
    | (simp only [am_ctl, am_ri, am_rl, am_ra, am_rv, am_b1, am_b2] at ht; repeat' split at ht; all_goals cases ht)
end SC
