/-! memory: fields and arrays -/
theorem vw_at {c : Nat} (h : c < 13) : vwCl[c]? = some (am_RN c, am_T c, am_nf c) := by
  match c, h with
  | 0, _ => rfl
  | 1, _ => rfl
  | 2, _ => rfl
  | 3, _ => rfl
  | 4, _ => rfl
  | 5, _ => rfl
  | 6, _ => rfl
  | 7, _ => rfl
  | 8, _ => rfl
  | 9, _ => rfl
  | 10, _ => rfl
  | 11, _ => rfl
  | 12, _ => rfl
  | n + 13, h => exact absurd h (by omega)
theorem li_0 : ∀ w ∈ u_ws (am_RN 0) (am_T 0) (am_nf 0), w ∈ lw_tbl ∧ am_okw w = true := by decide +kernel
theorem li_1 : ∀ w ∈ u_ws (am_RN 1) (am_T 1) (am_nf 1), w ∈ lw_tbl ∧ am_okw w = true := by decide +kernel
theorem li_2 : ∀ w ∈ u_ws (am_RN 2) (am_T 2) (am_nf 2), w ∈ lw_tbl ∧ am_okw w = true := by decide +kernel
theorem li_3 : ∀ w ∈ u_ws (am_RN 3) (am_T 3) (am_nf 3), w ∈ lw_tbl ∧ am_okw w = true := by decide +kernel
theorem li_4 : ∀ w ∈ u_ws (am_RN 4) (am_T 4) (am_nf 4), w ∈ lw_tbl ∧ am_okw w = true := by decide +kernel
theorem li_5 : ∀ w ∈ u_ws (am_RN 5) (am_T 5) (am_nf 5), w ∈ lw_tbl ∧ am_okw w = true := by decide +kernel
theorem li_6 : ∀ w ∈ u_ws (am_RN 6) (am_T 6) (am_nf 6), w ∈ lw_tbl ∧ am_okw w = true := by decide +kernel
theorem li_7 : ∀ w ∈ u_ws (am_RN 7) (am_T 7) (am_nf 7), w ∈ lw_tbl ∧ am_okw w = true := by decide +kernel
theorem li_8 : ∀ w ∈ u_ws (am_RN 8) (am_T 8) (am_nf 8), w ∈ lw_tbl ∧ am_okw w = true := by decide +kernel
theorem li_9 : ∀ w ∈ u_ws (am_RN 9) (am_T 9) (am_nf 9), w ∈ lw_tbl ∧ am_okw w = true := by decide +kernel
theorem li_10 : ∀ w ∈ u_ws (am_RN 10) (am_T 10) (am_nf 10), w ∈ lw_tbl ∧ am_okw w = true := by decide +kernel
theorem li_11 : ∀ w ∈ u_ws (am_RN 11) (am_T 11) (am_nf 11), w ∈ lw_tbl ∧ am_okw w = true := by decide +kernel
theorem li_12 : ∀ w ∈ u_ws (am_RN 12) (am_T 12) (am_nf 12), w ∈ lw_tbl ∧ am_okw w = true := by decide +kernel
theorem lay_in {c : Nat} (h : c < 13) : ∀ w ∈ u_ws (am_RN c) (am_T c) (am_nf c), w ∈ lw_tbl ∧ am_okw w = true := by
  match c, h with
  | 0, _ => exact li_0
  | 1, _ => exact li_1
  | 2, _ => exact li_2
  | 3, _ => exact li_3
  | 4, _ => exact li_4
  | 5, _ => exact li_5
  | 6, _ => exact li_6
  | 7, _ => exact li_7
  | 8, _ => exact li_8
  | 9, _ => exact li_9
  | 10, _ => exact li_10
  | 11, _ => exact li_11
  | 12, _ => exact li_12
  | n + 13, h => exact absurd h (by omega)
theorem cls_ck {c : Nat} (h : c < 13) : am_lw (am_cw c).1 = some (.instantiable (am_RN c) (am_nf c)) ∧ am_lw (am_cw c).2 = some (.initialized (am_RN c)) ∧ (∀ f, f < am_nf c → parseFieldDescriptor (am_T c f).2.2.1 = some (am_ty c f) ∧ am_tg c f = (match am_ty c f with | .int => 0 | .long => 1 | .boolean => 2 | _ => 3)) ∧ (∀ f, f < am_nf c → ∀ g, g < am_nf c → f ≠ g → (am_T c f).2.1 ≠ (am_T c g).2.1) := by
  have h1 := List.all_eq_true.mp ck_s1 c (List.mem_range.mpr h)
  unfold am_cks at h1
  simp only [Bool.and_eq_true, decide_eq_true_eq] at h1
  obtain ⟨⟨⟨a1, a2⟩, a3⟩, a4⟩ := h1
  refine ⟨a1, a2, fun f hf => ?_, fun f hf g hg hne => ?_⟩
  · have h2 := List.all_eq_true.mp a4 f (List.mem_range.mpr hf)
    simp only [Bool.and_eq_true, decide_eq_true_eq] at h2
    exact ⟨h2.1.1, h2.1.2⟩
  · have h2 := List.all_eq_true.mp a4 f (List.mem_range.mpr hf)
    simp only [Bool.and_eq_true] at h2
    have h3 := of_decide_eq_true (List.all_eq_true.mp h2.2 g (List.mem_range.mpr hg))
    exact h3.resolve_left hne
def am_tyr (c : Nat) : Bool := (List.range (am_nf c)).all (fun f => decide (am_tg c f = 3 → fits (am_ty c f) .null = true))
theorem ck_tyr : (List.range 13).all am_tyr = true := by decide +kernel
theorem ty_ref {c f : Nat} (h : c < 13) (hf : f < am_nf c) (ht : am_tg c f = 3) : fits (am_ty c f) .null = true := by
  have h1 := List.all_eq_true.mp ck_tyr c (List.mem_range.mpr h)
  exact of_decide_eq_true (List.all_eq_true.mp h1 f (List.mem_range.mpr hf)) ht
theorem lay_hts {s : State} (h : TW s) (args : Array Value) {c : Nat} (hc : c < 13) : ∀ w ∈ u_ws (am_RN c) (am_T c) (am_nf c), w.before args s = true := fun w hw => h args w (lay_in hc w hw).1 (lay_in hc w hw).2
theorem el_0 {G : GG} {σ : ST} {k : Nat} (h : (σ.2.2.1 k).1 = 0) : g_el G σ k = .inr ((σ.2.2.1 k).2.1, (List.range (am_nf (σ.2.2.1 k).2.1)).map (fun f => cv G (am_fv σ (σ.2.2.1 k).2.1 k f))) := by
  unfold g_el; rw [if_pos h]
theorem el_1 {G : GG} {σ : ST} {k : Nat} (h : (σ.2.2.1 k).1 = 1) : g_el G σ k = .inl (G.2.2.2 1, (σ.2.2.1 k).2.1, .inl (fun i => Int32.ofInt (σ.2.2.2.2 k i))) := by
  unfold g_el; rw [if_neg (by rw [h]; decide), if_pos h]
theorem el_2 {G : GG} {σ : ST} {k : Nat} (h : (σ.2.2.1 k).1 = 2) : g_el G σ k = .inl (G.2.2.2 2, (σ.2.2.1 k).2.1, .inr (.inl (fun i => Int64.ofInt (σ.2.2.2.2 k i)))) := by
  unfold g_el; rw [if_neg (by rw [h]; decide), if_neg (by rw [h]; decide), if_pos h]
theorem el_3 {G : GG} {σ : ST} {k : Nat} (h : (σ.2.2.1 k).1 = 3) : g_el G σ k = .inl (G.2.2.2 3, (σ.2.2.1 k).2.1, .inl (fun i => Int32.ofInt (σ.2.2.2.2 k i))) := by
  unfold g_el; rw [if_neg (by rw [h]; decide), if_neg (by rw [h]; decide), if_neg (by rw [h]; decide), if_pos h]
theorem el_4 {G : GG} {σ : ST} {k : Nat} (h : (σ.2.2.1 k).1 = 4) : g_el G σ k = .inl (G.2.2.2 (4 + (σ.2.2.1 k).2.2), (σ.2.2.1 k).2.1, .inr (.inr (.inr (.inr (fun i => (σ.2.2.2.1 k i).map (g_ad G)))))) := by
  unfold g_el; rw [if_neg (by rw [h]; decide), if_neg (by rw [h]; decide), if_neg (by rw [h]; decide), if_neg (by rw [h]; decide)]
theorem fv_nv {σ : ST} (h : g_N σ) (c k f : Nat) (h0 : (σ.2.2.1 k).1 = 0) (hc : (σ.2.2.1 k).2.1 = c) : NV (am_fv σ c k f) := by
  unfold am_fv
  split
  · trivial
  · rename_i h3
    split
    · rename_i h1
      exact (h k f).1 (Or.inr ⟨h0, by rw [hc]; exact h1⟩)
    · rename_i h1
      refine (h k f).2 (fun q => ?_)
      rcases q with q | q
      · rw [h0] at q; cases q
      · rw [hc] at q; exact h1 q.2
-- a write of a number: the other cells stay
theorem wr_el {G : GG} {σ : ST} {k i j : Nat} {z : Int} (hj : j ≠ k) : g_el G (am_wr σ k i z) j = g_el G σ j := by
  have e : ∀ q, am_up σ.2.2.2.2 k i z j q = σ.2.2.2.2 j q := fun q => by unfold am_up; rw [if_neg (fun h => hj h.1)]
  unfold g_el am_fv am_wr
  simp only [e]
theorem wrf_el {G : GG} {σ : ST} {k i j : Nat} {q : Option Nat} (hj : j ≠ k) : g_el G (am_wrf σ k i q) j = g_el G σ j := by
  have e : ∀ x, am_up σ.2.2.2.1 k i q j x = σ.2.2.2.1 j x := fun x => by unfold am_up; rw [if_neg (fun h => hj h.1)]
  unfold g_el am_fv am_wrf
  simp only [e]
theorem wr_N {σ : ST} {k i : Nat} {z : Int} (h : g_N σ) (h1 : am_lg σ k i → nzl z = z) (h2 : ¬ am_lg σ k i → nz z = z) : g_N (am_wr σ k i z) := by
  intro a b
  have e : am_lg (am_wr σ k i z) a b = am_lg σ a b := rfl
  rw [e]
  show (_ → nzl (am_up σ.2.2.2.2 k i z a b) = am_up σ.2.2.2.2 k i z a b) ∧ (_ → nz (am_up σ.2.2.2.2 k i z a b) = am_up σ.2.2.2.2 k i z a b)
  unfold am_up
  by_cases hab : a = k ∧ b = i
  · rw [if_pos hab]
    obtain ⟨rfl, rfl⟩ := hab
    exact ⟨h1, h2⟩
  · rw [if_neg hab]
    exact h a b
theorem wr_sp {G : GG} {σ : ST} {k i : Nat} {z : Int} (h : g_sp G σ) (hk : k < 1000) : g_sp G (am_wr σ k i z) := g_sp_eq h (fun _ _ => rfl) (fun a b ha => by
  show am_up σ.2.2.2.2 k i z a b = σ.2.2.2.2 a b
  unfold am_up; rw [if_neg (fun q => by omega)])
theorem rpA {G : GG} {s : State} {σ : ST} {H : Heap} {locs : List Loc} (h : RP G s σ H locs) : va_D (g_A G) (g_W G σ) := g_D G σ
/-- behind a write at cell k -/
theorem RP.wr {G : GG} {s : State} {σ : ST} {H H1 : Heap} {locs locs1 : List Loc} {k i : Nat} {z : Int} {el : va_E} (h : RP G s σ H locs) (hk : k < σ.1) (hsz : H1.size = H.size) (he : el = g_el G (am_wr σ k i z) k) (h1 : am_lg σ k i → nzl z = z) (h2 : ¬ am_lg σ k i → nz z = z)
    (hP : va_P G.1 vwCl ((g_W G σ).set k (G.2.1.1 + k, el)) H1) (hS : va_S (g_A G) s.heap H1 locs1) : RP G s (am_wr σ k i z) H1 locs1 := by
  obtain ⟨a1, a2, a3, a4, a5, a6⟩ := h
  rw [g_set (σ := σ) (σ' := am_wr σ k i z) rfl he (fun j hj hne => wr_el hne)] at hP
  exact ⟨hP, fun q => hsz.trans (a2 q), hS, a4, wr_N a5 h1 h2, wr_sp a6 (by omega)⟩
section SM
variable {G : GG} {y : Nat} {p : Program} {l : Launch} {e : Env} {R : Room} {s : State} {m : MethodId} {args : Array Value} {below : List Frame} {meth : Method} {c : Code} {n0 w0 : Nat} {Q : State → Prop}
variable {pc : Nat} {L : LV} {st : List AV} {σ : ST}
theorem ss_get {n k len wa wb : Nat} (X : FX G y p R s m meth c) (hd : decode (am_C y) pc = .ok (.getfield wa, len)) (hk : am_ckf y len wa wb n = true) (hq : k < σ.1 ∧ (σ.2.2.1 k).1 = 0 ∧ (σ.2.2.1 k).2.1 = n / 1000) (kk : WA G y p l e R s m args below meth c n0 w0 Q (pc + len) L (am_fv σ (n / 1000) k (n % 1000 / 10) :: st) σ) : WA G y p l e R s m args below meth c n0 w0 Q pc L (.inr (.inr (some k)) :: st) σ := by
  intro H locs ls hL hst hR h1 h2
  unfold am_ckf at hk
  simp only [Bool.and_eq_true, decide_eq_true_eq] at hk
  obtain ⟨⟨⟨⟨⟨b1, b2⟩, b3⟩, b4⟩, b5⟩, b6⟩ := hk
  obtain ⟨q1, q2, q3⟩ := hq
  subst b1
  have hKX := X.2.2.2.2.2.2.2.1
  have hK := kk H locs ls hL (nvs_c (fv_nv hR.2.2.2.2.1 _ _ _ q2 q3) (nvs_t hst)) hR h1 h2
  have hk9 : k < 1000 := by have := hR.2.2.2.1; omega
  simp only [List.map_cons, cv, g_adk hk9] at hK ⊢
  have he : (g_W G σ)[k]? = some (G.2.1.1 + k, .inr (n / 1000, (List.range (am_nf (n / 1000))).map (fun f => cv G (am_fv σ (n / 1000) k f)))) := by
    rw [g_at q1, el_0 q2, q3]
  refine va_get X.1 X.2.1 (Ts := u_ws (am_RN (n / 1000)) (am_T (n / 1000)) (am_nf (n / 1000))) (lay_hts hKX.1 args b2) (fun w h => h) X.2.2.2.1 hKX.2.2.1 hR.1 k he (vw_at b2) (n % 1000 / 10) b3 (hKX.1.get b6 rfl args) (fun x hx => by rw [← b5]; exact hx) (v := cv G (am_fv σ (n / 1000) k (n % 1000 / 10))) ?_ hd hK
  rw [List.getElem?_map, List.getElem?_range b3]
  rfl
theorem fsz {C : Nat} {f : Nat → Value} (n : Nat) (h : C < n) : C < ((List.range n).map f).length := by simp; exact h
theorem put_any {n k len wa wb : Nat} {v : AV} {σ' : ST} (X : FX G y p R s m meth c) (hd : decode (am_C y) pc = .ok (.putfield wa, len)) (hk : (am_ckf y len wa wb n && (!(am_T (n / 1000) (n % 1000 / 10)).2.2.2 || (decide ((am_Y y).name = "<init>") && decide (am_RN (n / 1000) = am_own y)))) = true) (hq : k < σ.1 ∧ (σ.2.2.1 k).1 = 0 ∧ (σ.2.2.1 k).2.1 = n / 1000)
    (hn : narrow (am_ty (n / 1000) (n % 1000 / 10)) (cv G v) = cv G v) (hf : fits (am_ty (n / 1000) (n % 1000 / 10)) (cv G v) = true)
    (hs' : σ'.1 = σ.1 ∧ σ'.2.1 = σ.2.1 ∧ (∀ j, j < σ.1 → j ≠ k → g_el G σ' j = g_el G σ j) ∧ g_el G σ' k = .inr (n / 1000, ((List.range (am_nf (n / 1000))).map (fun f => cv G (am_fv σ (n / 1000) k f))).set (n % 1000 / 10) (cv G v)) ∧ (g_N σ → g_N σ') ∧ (g_sp G σ → k < 1000 → g_sp G σ'))
    (kk : WA G y p l e R s m args below meth c n0 w0 Q (pc + len) L st σ') : WA G y p l e R s m args below meth c n0 w0 Q pc L (v :: .inr (.inr (some k)) :: st) σ := by
  intro H locs ls hL hst hR h1 h2
  rw [Bool.and_eq_true] at hk
  obtain ⟨hk, hfin⟩ := hk
  unfold am_ckf at hk
  simp only [Bool.and_eq_true, decide_eq_true_eq] at hk
  obtain ⟨⟨⟨⟨⟨b1, b2⟩, b3⟩, b4⟩, b5⟩, b6⟩ := hk
  obtain ⟨q1, q2, q3⟩ := hq
  subst b1
  have hKX := X.2.2.2.2.2.2.2.1
  have hk9 : k < 1000 := by have := hR.2.2.2.1; omega
  obtain ⟨s1, s1b, s2, s3, s4, s5⟩ := hs'
  have hck := cls_ck b2
  have hP := hR.1
  have hK := hKX.2.2.1
  have he : (g_W G σ)[k]? = some (G.2.1.1 + k, .inr (n / 1000, (List.range (am_nf (n / 1000))).map (fun f => cv G (am_fv σ (n / 1000) k f)))) := by
    rw [g_at q1, el_0 q2, q3]
  have hl : n % 1000 / 10 < ((List.range (am_nf (n / 1000))).map (fun f => cv G (am_fv σ (n / 1000) k f))).length := fsz _ b3
  generalize hfs : (List.range (am_nf (n / 1000))).map (fun f => cv G (am_fv σ (n / 1000) k f)) = fs at he hl s3
  have go : ∀ (H1 : Heap) (locs1 : List Loc), H1.size = H.size → va_P G.1 vwCl ((g_W G σ).set k (G.2.1.1 + k, .inr (n / 1000, fs.set (n % 1000 / 10) (cv G v)))) H1 → va_S (g_A G) s.heap H1 locs1 → W p l e R s m args below meth c H1 locs1 (σ.1 - n0) (σ.2.1 - w0) Q (F0 m (pc + 3) ls (st.map (cv G))) := fun H1 locs1 hz a1 a3 => by
    rw [← s3, g_set s1 rfl s2] at a1
    have := kk H1 locs1 ls hL (nvs_t (nvs_t hst)) ⟨a1, fun q => by rw [s1] at q ⊢; exact hz.trans (hR.2.1 q), a3, by rw [s1]; exact hR.2.2.2.1, s4 hR.2.2.2.2.1, s5 hR.2.2.2.2.2 hk9⟩ (by rw [s1]; exact h1) (by rw [s1b]; exact h2)
    rw [s1, s1b] at this
    exact this
  have hts := lay_hts hKX.1 args b2
  have hc := vw_at b2
  have hap := va_apart (own := am_own y) hts (fun w h => h) (am_ty (n / 1000)) (fun f h => (hck.2.2.1 f h).1) hck.2.2.2 hK hc
  obtain ⟨r, hr1, cell, p1, p2, p3, p4⟩ := hP k _ he
  have hr : r = (am_RN (n / 1000), am_T (n / 1000), am_nf (n / 1000)) := Option.some.inj (hr1.symm.trans hc)
  subst hr
  obtain ⟨hS, hfc, kC, hkC, hkind⟩ := hK.1 _ _ hc
  obtain ⟨cf, kf, fi, f, hi, hsl⟩ := hS _ b3
  have hlay := hts _ (u_in_lay b3)
  unfold u_lay at hlay
  have hst9 := (u_facts hfc hkC (u_lays hts (fun w h => h) b3) hi).1
  have hdd := (hck.2.2.1 _ b3).1
  have hsame : ∀ x, s.fieldFound? (am_T (n / 1000) (n % 1000 / 10)).1 (am_T (n / 1000) (n % 1000 / 10)).2.1 (am_T (n / 1000) (n % 1000 / 10)).2.2.1 = some x → s.fieldFound? (am_RN (n / 1000)) (am_T (n / 1000) (n % 1000 / 10)).2.1 (am_T (n / 1000) (n % 1000 / 10)).2.2.1 = some x := fun x hx => by rw [← b5]; exact hx
  have hlink := hKX.1.get b6 rfl args
  have hEnd : ∀ H' : Heap, H'[G.2.1.1 + k]? = some (cell.setSlot (G.1.2 (n / 1000) (n % 1000 / 10)) (cv G v)) → (∀ q, q ≠ G.2.1.1 + k → H'[q]? = H[q]?) → va_P G.1 vwCl ((g_W G σ).set k (G.2.1.1 + k, .inr (n / 1000, fs.set (n % 1000 / 10) (cv G v)))) H' := fun H' e1 e3 =>
    hP.set (g_D G σ) he ⟨_, hc, t_OB.to (V := updV (vp_V fs) (n % 1000 / 10) (cv G v)) ⟨_, e1, p2, p3, t_set p4 hap b3 (cv G v)⟩ (fun j _ => vp_updV_set hl (cv G v) j)⟩ e3
  show W p l e R s m args below meth c H locs (σ.1 - n0) (σ.2.1 - w0) Q (F0 m pc ls (cv G v :: .ref (g_ad G k) :: st.map (cv G)))
  rw [g_adk hk9]
  by_cases hfl : (am_T (n / 1000) (n % 1000 / 10)).2.2.2 = true
  · rw [if_pos hfl] at hlay
    rw [hfl] at hfin
    simp only [Bool.not_true, Bool.false_or, Bool.and_eq_true, decide_eq_true_eq] at hfin
    have hcf : m.cls = cf := by
      obtain ⟨_, _, c', _, _, _, -, -, hf', -, -, -, hown2, -⟩ := Cond.laysFinal_spec hlay
      have e1 : c' = cf := by have := hi.symm.trans hf'; simp at this; exact this.1.symm
      rw [b5, hfin.2] at hown2
      rw [← e1]; exact Option.some.inj (X.2.2.2.1.symm.trans hown2)
    have h6 := u_fits hfc hkC hkind (Or.inr hlay) hi hdd hn hf
    refine W.putFinK X.1 X.2.1 X.2.2.2.1 hlink (hsame _ hi) hst9 hcf (X.2.2.2.2.2.2.1 hfin.1) (by rw [p2]; exact h6) p1 p3 (by rw [hsl]; exact k2_hasslot (p4 _ b3)) rfl rfl hd fun H' e1 e2 e3 => ?_
    rw [hsl] at e1
    exact go H' _ e2 (hEnd H' e1 e3) (hR.2.2.1.put e2 e3 (Nat.le_add_right _ _))
  · rw [if_neg hfl] at hlay
    have h6 := u_store hfc hkC hkind hlay hi hdd hn hf
    refine W.putK X.1 X.2.1 (f := f) ⟨X.2.2.2.1, hlink, ⟨_, _, _, hsame _ hi⟩, hst9⟩ (by rw [p2]; exact h6) p1 p3 (by rw [hsl]; exact k2_hasslot (p4 _ b3)) rfl rfl hd fun H' e1 e2 e3 => ?_
    rw [hsl] at e1
    exact go H' _ e2 (hEnd H' e1 e3) (hR.2.2.1.put e2 e3 (Nat.le_add_right _ _))
theorem set_map {α : Type} {N f : Nat} {g g' : Nat → α} {v : α} (h1 : f < N → g' f = v) (h2 : ∀ j, j ≠ f → g' j = g j) : (List.range N).map g' = ((List.range N).map g).set f v := by
  apply List.ext_getElem?
  intro j
  rw [List.getElem?_set]
  simp only [List.getElem?_map, List.length_map, List.length_range]
  by_cases hj : j < N
  · rw [List.getElem?_range hj]
    by_cases e : f = j
    · subst e
      rw [if_pos rfl, if_pos hj]
      simp [h1 hj]
    · rw [if_neg e]
      simp [h2 j (fun q => e q.symm)]
  · have hn : (List.range N)[j]? = none := List.getElem?_eq_none (by simp; omega)
    rw [hn]
    by_cases e : f = j
    · subst e
      rw [if_pos rfl, if_neg hj]; rfl
    · rw [if_neg e]; rfl
/-- a number into a field -/
theorem put_el {k f cl : Nat} {z : Int} {v : AV} (h0 : (σ.2.2.1 k).1 = 0) (hc : (σ.2.2.1 k).2.1 = cl) (hv : am_fv (am_wr σ k f z) cl k f = v) : g_el G (am_wr σ k f z) k = .inr (cl, ((List.range (am_nf cl)).map (fun f => cv G (am_fv σ cl k f))).set f (cv G v)) := by
  have e : (am_wr σ k f z).2.2.1 = σ.2.2.1 := rfl
  rw [el_0 (by rw [e]; exact h0), e, hc, set_map (f := f) (v := cv G v) (g := fun f => cv G (am_fv σ cl k f)) (fun _ => by rw [hv]) (fun j hj => ?_)]
  have e2 : am_up σ.2.2.2.2 k f z k j = σ.2.2.2.2 k j := by unfold am_up; rw [if_neg (fun q => hj q.2)]
  unfold am_fv am_wr
  simp only [e2]
theorem putf_el {k f cl : Nat} {q : Option Nat} {v : AV} (h0 : (σ.2.2.1 k).1 = 0) (hc : (σ.2.2.1 k).2.1 = cl) (hv : am_fv (am_wrf σ k f q) cl k f = v) : g_el G (am_wrf σ k f q) k = .inr (cl, ((List.range (am_nf cl)).map (fun f => cv G (am_fv σ cl k f))).set f (cv G v)) := by
  have e : (am_wrf σ k f q).2.2.1 = σ.2.2.1 := rfl
  rw [el_0 (by rw [e]; exact h0), e, hc, set_map (f := f) (v := cv G v) (g := fun f => cv G (am_fv σ cl k f)) (fun _ => by rw [hv]) (fun j hj => ?_)]
  have e2 : am_up σ.2.2.2.1 k f q k j = σ.2.2.2.1 k j := by unfold am_up; rw [if_neg (fun q => hj q.2)]
  unfold am_fv am_wrf
  simp only [e2]
theorem tg_of {n : Nat} {len wa wb : Nat} (hk : am_ckf y len wa wb n = true) : n / 1000 < 13 ∧ n % 1000 / 10 < am_nf (n / 1000) ∧ n % 10 = am_tg (n / 1000) (n % 1000 / 10) ∧ am_tg (n / 1000) (n % 1000 / 10) = (match am_ty (n / 1000) (n % 1000 / 10) with | .int => 0 | .long => 1 | .boolean => 2 | _ => 3) ∧ (am_tg (n / 1000) (n % 1000 / 10) = 3 → fits (am_ty (n / 1000) (n % 1000 / 10)) .null = true) := by
  unfold am_ckf at hk
  simp only [Bool.and_eq_true, decide_eq_true_eq] at hk
  obtain ⟨⟨⟨⟨⟨b1, b2⟩, b3⟩, b4⟩, b5⟩, b6⟩ := hk
  have ht := ((cls_ck b2).2.2.1 _ b3).2
  refine ⟨b2, b3, b4, ht, fun h => ?_⟩
  have := ty_ref b2 b3 h
  exact this
theorem ss_put {n k len wa wb : Nat} {z : Int} (X : FX G y p R s m meth c) (hd : decode (am_C y) pc = .ok (.putfield wa, len)) (hk : (am_ckf y len wa wb n && (!(am_T (n / 1000) (n % 1000 / 10)).2.2.2 || (decide ((am_Y y).name = "<init>") && decide (am_RN (n / 1000) = am_own y)))) = true) (hq : (k < σ.1 ∧ (σ.2.2.1 k).1 = 0 ∧ (σ.2.2.1 k).2.1 = n / 1000) ∧ (n % 10 = 0 ∨ (n % 10 = 2 ∧ (z = 0 ∨ z = 1))))
    (kk : WA G y p l e R s m args below meth c n0 w0 Q (pc + len) L st (am_wr σ k (n % 1000 / 10) z)) : WA G y p l e R s m args below meth c n0 w0 Q pc L (.inl z :: .inr (.inr (some k)) :: st) σ := by
  obtain ⟨b2, b3, b4, b5, b6⟩ := tg_of ((Bool.and_eq_true _ _).mp hk).1
  intro H locs ls hL hst hR h1 h2
  have hz : nz z = z := nvs_h hst
  have hnl : ¬ am_lg σ k (n % 1000 / 10) := fun q => by
    rcases q with q | q
    · rw [hq.1.2.1] at q; cases q
    · rw [hq.1.2.2, ← b4] at q; rcases hq.2 with h | h
      · rw [h] at q; cases q.2
      · rw [h.1] at q; cases q.2
  have hty : narrow (am_ty (n / 1000) (n % 1000 / 10)) (cv G (.inl z)) = cv G (.inl z) ∧ fits (am_ty (n / 1000) (n % 1000 / 10)) (cv G (.inl z)) = true := by
    rw [b4] at hq
    rw [b5] at hq
    revert hq
    cases am_ty (n / 1000) (n % 1000 / 10) <;> intro hq <;> simp at hq
    · exact ⟨rfl, rfl⟩
    · rcases hq.2 with rfl | rfl <;> exact ⟨rfl, rfl⟩
  have hfv : am_fv (am_wr σ k (n % 1000 / 10) z) (n / 1000) k (n % 1000 / 10) = .inl z := by
    unfold am_fv am_wr am_up
    rw [if_neg (by rw [← b4]; rcases hq.2 with h | h <;> omega), if_neg (by rw [← b4]; rcases hq.2 with h | h <;> omega)]
    simp
  exact put_any (σ' := am_wr σ k (n % 1000 / 10) z) X hd hk hq.1 hty.1 hty.2 ⟨rfl, rfl, fun j _ hj => wr_el hj, put_el hq.1.2.1 hq.1.2.2 hfv, fun h => wr_N h (fun q => absurd q hnl) (fun _ => hz), fun h h9 => wr_sp h h9⟩ kk H locs ls hL hst hR h1 h2
theorem ss_putl {n k len wa wb : Nat} {z : Int} (X : FX G y p R s m meth c) (hd : decode (am_C y) pc = .ok (.putfield wa, len)) (hk : (am_ckf y len wa wb n && (!(am_T (n / 1000) (n % 1000 / 10)).2.2.2 || (decide ((am_Y y).name = "<init>") && decide (am_RN (n / 1000) = am_own y)))) = true) (hq : (k < σ.1 ∧ (σ.2.2.1 k).1 = 0 ∧ (σ.2.2.1 k).2.1 = n / 1000) ∧ n % 10 = 1)
    (kk : WA G y p l e R s m args below meth c n0 w0 Q (pc + len) L st (am_wr σ k (n % 1000 / 10) z)) : WA G y p l e R s m args below meth c n0 w0 Q pc L (.inr (.inl z) :: .inr (.inr (some k)) :: st) σ := by
  obtain ⟨b2, b3, b4, b5, b6⟩ := tg_of ((Bool.and_eq_true _ _).mp hk).1
  intro H locs ls hL hst hR h1 h2
  have hz : nzl z = z := nvs_h hst
  have hnl : am_lg σ k (n % 1000 / 10) := Or.inr ⟨hq.1.2.1, by rw [hq.1.2.2, ← b4]; exact hq.2⟩
  have hty : narrow (am_ty (n / 1000) (n % 1000 / 10)) (cv G (.inr (.inl z))) = cv G (.inr (.inl z)) ∧ fits (am_ty (n / 1000) (n % 1000 / 10)) (cv G (.inr (.inl z))) = true := by
    rw [b4] at hq
    rw [b5] at hq
    revert hq
    cases am_ty (n / 1000) (n % 1000 / 10) <;> intro hq <;> simp at hq
    · exact ⟨rfl, rfl⟩
  have hfv : am_fv (am_wr σ k (n % 1000 / 10) z) (n / 1000) k (n % 1000 / 10) = .inr (.inl z) := by
    unfold am_fv am_wr am_up
    rw [if_neg (by rw [← b4]; omega), if_pos (by rw [← b4]; exact hq.2)]
    simp
  exact put_any (σ' := am_wr σ k (n % 1000 / 10) z) X hd hk hq.1 hty.1 hty.2 ⟨rfl, rfl, fun j _ hj => wr_el hj, put_el hq.1.2.1 hq.1.2.2 hfv, fun h => wr_N h (fun _ => hz) (fun q => absurd hnl q), fun h h9 => wr_sp h h9⟩ kk H locs ls hL hst hR h1 h2
theorem ss_putr {n k q len wa wb : Nat} (X : FX G y p R s m meth c) (hd : decode (am_C y) pc = .ok (.putfield wa, len)) (hk : (am_ckf y len wa wb n && (!(am_T (n / 1000) (n % 1000 / 10)).2.2.2 || (decide ((am_Y y).name = "<init>") && decide (am_RN (n / 1000) = am_own y)))) = true) (hq : (k < σ.1 ∧ (σ.2.2.1 k).1 = 0 ∧ (σ.2.2.1 k).2.1 = n / 1000) ∧ n % 10 = 3)
    (kk : WA G y p l e R s m args below meth c n0 w0 Q (pc + len) L st (am_wrf σ k (n % 1000 / 10) (some q))) : WA G y p l e R s m args below meth c n0 w0 Q pc L (.inr (.inr (some q)) :: .inr (.inr (some k)) :: st) σ := by
  obtain ⟨b2, b3, b4, b5, b6⟩ := tg_of ((Bool.and_eq_true _ _).mp hk).1
  have hty : narrow (am_ty (n / 1000) (n % 1000 / 10)) (cv G (.inr (.inr (some q)))) = cv G (.inr (.inr (some q))) ∧ fits (am_ty (n / 1000) (n % 1000 / 10)) (cv G (.inr (.inr (some q)))) = true := by
    have h6 := b6 (by rw [← b4]; exact hq.2)
    revert h6
    cases am_ty (n / 1000) (n % 1000 / 10) <;> intro h6 <;> first | (exact ⟨rfl, rfl⟩) | (simp [fits] at h6)
  have hfv : am_fv (am_wrf σ k (n % 1000 / 10) (some q)) (n / 1000) k (n % 1000 / 10) = .inr (.inr (some q)) := by
    unfold am_fv am_wrf am_up
    rw [if_pos (by rw [← b4]; exact hq.2)]
    simp
  exact put_any (σ' := am_wrf σ k (n % 1000 / 10) (some q)) X hd hk hq.1 hty.1 hty.2 ⟨rfl, rfl, fun j _ hj => wrf_el hj, putf_el hq.1.2.1 hq.1.2.2 hfv, fun h => h, fun h _ => h⟩ kk
end SM
