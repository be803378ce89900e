/-! the world: an AM store as cells of the heap -/
abbrev GG : Type := va_G × (Nat × Nat × Nat) × (Nat × (Nat → Int32)) × (Nat → ClassId)
def g_A (G : GG) : Nat → Prop := fun q => G.2.1.1 ≤ q
def g_ad (G : GG) (k : Nat) : Nat := if k = 1000 then G.2.1.2.1 else if k = 1001 then G.2.1.2.2 else G.2.1.1 + k
def cv (G : GG) (v : AV) : Value := match v with
  | .inl z => .int (Int32.ofInt z)
  | .inr (.inl z) => .long (Int64.ofInt z)
  | .inr (.inr none) => .null
  | .inr (.inr (some k)) => .ref (g_ad G k)
def NV (v : AV) : Prop := match v with
  | .inl z => nz z = z
  | .inr (.inl z) => nzl z = z
  | .inr (.inr _) => True
def g_tys (G : GG) : List (ClassId × FieldType) := [(G.2.2.2 1, .int), (G.2.2.2 2, .long), (G.2.2.2 3, .boolean), (G.2.2.2 4, .object "SpoonCensus$Sheet"), (G.2.2.2 5, .object "SpoonCensus$Land"), (G.2.2.2 6, .object "SpoonCensus$House"), (G.2.2.2 7, .array .int)]
def g_el (G : GG) (σ : ST) (k : Nat) : va_E :=
  if (σ.2.2.1 k).1 = 0 then .inr ((σ.2.2.1 k).2.1, (List.range (am_nf (σ.2.2.1 k).2.1)).map (fun f => cv G (am_fv σ (σ.2.2.1 k).2.1 k f)))
  else if (σ.2.2.1 k).1 = 1 then .inl (G.2.2.2 1, (σ.2.2.1 k).2.1, .inl (fun i => Int32.ofInt (σ.2.2.2.2 k i)))
  else if (σ.2.2.1 k).1 = 2 then .inl (G.2.2.2 2, (σ.2.2.1 k).2.1, .inr (.inl (fun i => Int64.ofInt (σ.2.2.2.2 k i))))
  else if (σ.2.2.1 k).1 = 3 then .inl (G.2.2.2 3, (σ.2.2.1 k).2.1, .inl (fun i => Int32.ofInt (σ.2.2.2.2 k i)))
  else .inl (G.2.2.2 (4 + (σ.2.2.1 k).2.2), (σ.2.2.1 k).2.1, .inr (.inr (.inr (.inr (fun i => (σ.2.2.2.1 k i).map (g_ad G))))))
def g_W (G : GG) (σ : ST) : va_W := (List.range σ.1).map (fun k => (G.2.1.1 + k, g_el G σ k))
theorem g_at {G : GG} {σ : ST} {k : Nat} (h : k < σ.1) : (g_W G σ)[k]? = some (G.2.1.1 + k, g_el G σ k) := by
  unfold g_W
  rw [List.getElem?_map, List.getElem?_range h]
  rfl
theorem g_len (G : GG) (σ : ST) : (g_W G σ).length = σ.1 := by simp [g_W]
theorem g_inv {G : GG} {σ : ST} {k : Nat} {q : Nat × va_E} (h : (g_W G σ)[k]? = some q) : k < σ.1 ∧ q = (G.2.1.1 + k, g_el G σ k) := by
  have hk : k < σ.1 := by
    have := (List.getElem?_eq_some_iff.mp h).1
    rwa [g_len] at this
  rw [g_at hk] at h
  exact ⟨hk, (Option.some.inj h).symm⟩
theorem g_D (G : GG) (σ : ST) : va_D (g_A G) (g_W G σ) := by
  refine ⟨fun i j p q hp hq hpq => ?_, fun k q hq => ?_⟩
  · obtain ⟨-, rfl⟩ := g_inv hp
    obtain ⟨-, rfl⟩ := g_inv hq
    have : G.2.1.1 + i = G.2.1.1 + j := hpq
    omega
  · obtain ⟨-, rfl⟩ := g_inv hq
    exact Nat.le_add_right _ _
theorem g_set {G : GG} {σ σ' : ST} {k : Nat} {el : va_E} (hn : σ'.1 = σ.1) (he : el = g_el G σ' k) (ho : ∀ j, j < σ.1 → j ≠ k → g_el G σ' j = g_el G σ j) : (g_W G σ).set k (G.2.1.1 + k, el) = g_W G σ' := by
  subst he
  apply List.ext_getElem?
  intro j
  rw [List.getElem?_set]
  by_cases e : k = j
  · subst e
    rw [if_pos rfl, g_len]
    by_cases hk : k < σ.1
    · rw [if_pos hk, g_at (by rw [hn]; exact hk)]
    · rw [if_neg hk]
      symm
      rw [List.getElem?_eq_none]
      rw [g_len, hn]; omega
  · rw [if_neg e]
    by_cases hj : j < σ.1
    · rw [g_at hj, g_at (by rw [hn]; exact hj), ho j hj (fun h => e h.symm)]
    · rw [List.getElem?_eq_none (by rw [g_len]; omega), List.getElem?_eq_none (by rw [g_len, hn]; omega)]
theorem g_adk {G : GG} {k : Nat} (h : k < 1000) : g_ad G k = G.2.1.1 + k := by
  unfold g_ad
  rw [if_neg (by omega), if_neg (by omega)]
/-- is this place a long? -/
def am_lg (σ : ST) (k i : Nat) : Prop := (σ.2.2.1 k).1 = 2 ∨ ((σ.2.2.1 k).1 = 0 ∧ am_tg (σ.2.2.1 k).2.1 i = 1)
def g_N (σ : ST) : Prop := ∀ k i, (am_lg σ k i → nzl (σ.2.2.2.2 k i) = σ.2.2.2.2 k i) ∧ (¬ am_lg σ k i → nz (σ.2.2.2.2 k i) = σ.2.2.2.2 k i)
def g_let (j : Nat) : Int32 := if j = 0 then 104 else if j = 1 then 109 else if j = 2 then 98 else if j = 3 then 110 else if j = 4 then 103 else 115
def g_sp (G : GG) (σ : ST) : Prop := σ.2.2.1 1000 = (1, 6, 0) ∧ (σ.2.2.1 1001).1 = 5 ∧ (∀ i, i < 6 → Int32.ofInt (σ.2.2.2.2 1000 i) = g_let i) ∧ (σ.2.2.2.2 1001 0 < 0 ∨ (σ.2.2.2.2 1001 0 = G.2.2.1.1 ∧ G.2.2.1.1 ≤ 3072 ∧ ∀ j, j < G.2.2.1.1 → Int32.ofInt (σ.2.2.2.2 1001 (j + 1)) = G.2.2.1.2 j))
/-- two stores that have the same special cells -/
theorem g_sp_eq {G : GG} {σ τ : ST} (h : g_sp G σ) (h1 : ∀ a, 1000 ≤ a → τ.2.2.1 a = σ.2.2.1 a) (h2 : ∀ a b, 1000 ≤ a → τ.2.2.2.2 a b = σ.2.2.2.2 a b) : g_sp G τ := by
  obtain ⟨a0, a1, a2, a3⟩ := h
  refine ⟨by rw [h1 _ (by omega)]; exact a0, by rw [h1 _ (by omega)]; exact a1, fun j hj => by rw [h2 _ _ (by omega)]; exact a2 j hj, ?_⟩
  rcases a3 with q | ⟨q1, q2, q3⟩
  · exact Or.inl (by rw [h2 _ _ (by omega)]; exact q)
  · exact Or.inr ⟨by rw [h2 _ _ (by omega)]; exact q1, q2, fun j hj => by rw [h2 _ _ (by omega)]; exact q3 j hj⟩
def RP (G : GG) (s : State) (σ : ST) (H : Heap) (locs : List Loc) : Prop := va_P G.1 vwCl (g_W G σ) H ∧ (σ.1 < 121 → H.size = G.2.1.1 + σ.1) ∧ va_S (g_A G) s.heap H locs ∧ σ.1 ≤ 999 ∧ g_N σ ∧ g_sp G σ
-- the words of the tables, at any state that a call comes to
def am_okw (w : Cond) : Bool := match w with
  | .arrayClass _ => true
  | .methodLinkNest .. => true
  | .castable .. => true
  | .declares _ => true
  | .arrayOver (.object _) => true
  | .arrayOver (.array _) => true
  | w => w.onTables && w.keeps
def TW (U : State) : Prop := ∀ (a : Array Value) (w : Cond), w ∈ lw_tbl → am_okw w = true → w.before a U = true
theorem TW.get {U : State} (h : TW U) {i : Nat} {w : Cond} (hw : am_lw i = some w) (ho : am_okw w = true) (a : Array Value) : w.before a U = true := h a w (List.mem_of_getElem? hw) ho
theorem TW.warm {s U : State} (h : TW s) (hW : s.WarmedH U.vm) : TW U := by
  intro a w hw ho
  have h0 := h a w hw ho
  have hg : (w.onTables && w.keeps) = true → w.before a U = true := fun q => word_at hW (Or.inl q) h0
  cases w with
  | arrayClass ty => exact word_at hW (Or.inr ⟨ty, rfl⟩) h0
  | methodLinkNest c i x ho => exact va_Nw.use rfl (va_Nw.warmM hW (va_Nw.of rfl h0))
  | castable c t => exact va_Nw.use rfl (va_Nw.warmC hW (va_Nw.of rfl h0))
  | declares x => exact va_Nw.use rfl (va_Nw.warmD hW (va_Nw.of rfl h0))
  | arrayOver ty =>
    cases ty with
    | object C => exact va_AO.use (va_AO.moved hW.alike (va_AO.of h0))
    | array t => exact Jvm.Stand.arrayOver_alikeB hW.alike h0
    | _ => exact hg ho
  | _ => exact hg ho
def NC (U : State) : Prop := ∀ c d, am_nc c d = true → am_in c d = false → va_Nc (am_RN c) (am_RN d) U
theorem NC.moved {s U : State} (h : NC s) (hvm : s.vm.Alike U.vm) : NC U := fun c d h1 h2 => (h c d h1 h2).moved hvm
def KX (G : GG) (s : State) : Prop := TW s ∧ NC s ∧ va_K G.1 vwCl (g_tys G) s ∧ va_Z "SpoonCensus" "LETTERS" "[I" (.ref G.2.1.2.1) (g_A G) s s.heap ∧ va_T .int G.2.1.2.1 6 (fun j => .int (g_let j)) (g_A G) s s.heap ∧ va_T .int G.2.1.2.2 G.2.2.1.1 (fun j => .int (G.2.2.1.2 j)) (g_A G) s s.heap
/-- a state that a call comes to: the tables warmer, the heap changed in A alone -/
theorem KX.call {G : GG} {s U : State} {H : Heap} {locs : List Loc} (h : KX G s) (hS : va_S (g_A G) s.heap H locs) (hU : U.heap = H) (hW : s.WarmedH U.vm) : KX G U := by
  obtain ⟨h1, h2, h3, h4, h5, h6⟩ := h
  refine ⟨h1.warm hW, h2.moved hW.alike, va_K.moved hW.alike h3, ?_, ?_, ?_⟩
  · exact va_Z.moved hW.alike (h4.kept (fun a ha hn => by rw [hU]; exact hS.2.1 a ha hn))
  · exact va_T.moved hW.alike (h5.kept (fun a ha hn => by rw [hU]; exact hS.2.1 a ha hn))
  · exact va_T.moved hW.alike (h6.kept (fun a ha hn => by rw [hU]; exact hS.2.1 a ha hn))
theorem KX.blind {G : GG} {U : State} {g : JFrame} {mk : MethodId} {a : Array Value} (h : KX G U) : KX G (U.calling g mk a) := h.call (H := U.heap) (locs := []) va_S.rf rfl (State.WarmedH.refl U)
-- locals
def LR (G : GG) (ls : Array Slot) (n : Nat) (L : LV) : Prop := ls.size = n ∧ lv_wf ls ∧ L.length = n ∧ ∀ (i : Nat) (v : AV), L[i]? = some (some v) → ls[i]? = some (.val (cv G v)) ∧ NV v
def lr_l (G : GG) (L : LV) : List (Nat × Value) := (List.range L.length).filterMap (fun i => match L[i]? with
  | some (some v) => some (i, cv G v)
  | _ => none)
theorem lr_in {G : GG} {L : LV} {i : Nat} {v : AV} (h : L[i]? = some (some v)) : (i, cv G v) ∈ lr_l G L := by
  unfold lr_l
  rw [List.mem_filterMap]
  refine ⟨i, List.mem_range.mpr (List.getElem?_eq_some_iff.mp h).1, ?_⟩
  simp only [h]
theorem lr_of {G : GG} {L : LV} {q : Nat × Value} (h : q ∈ lr_l G L) : ∃ v, L[q.1]? = some (some v) ∧ q.2 = cv G v := by
  unfold lr_l at h
  rw [List.mem_filterMap] at h
  obtain ⟨i, -, hi⟩ := h
  split at hi
  · rename_i v hv
    cases hi
    exact ⟨v, hv, rfl⟩
  · cases hi
theorem LR.has {G : GG} {ls : Array Slot} {n : Nat} {L : LV} (h : LR G ls n L) : lv_has ls n (lr_l G L) := by
  refine ⟨h.1, h.2.1, fun q hq => ?_⟩
  obtain ⟨v, h1, h2⟩ := lr_of hq
  rw [h2]
  exact (h.2.2.2 _ _ h1).1
theorem cv_cat (G : GG) (v : AV) : (cv G v).category = if am_isL v = true then 2 else 1 := by
  rcases v with z | z | _ | k <;> rfl
theorem clr_len (L : LV) (i : Nat) : (am_clr L i).length = L.length := by
  unfold am_clr
  split
  · rfl
  · split
    · simp
    · rfl
theorem clr_of {L : LV} {i j : Nat} {w : AV} (h : (am_clr L i)[j]? = some (some w)) : L[j]? = some (some w) ∧ ¬ (j + 1 = i ∧ am_isL w = true) := by
  unfold am_clr at h
  split at h
  · exact ⟨h, fun q => by omega⟩
  · rename_i i
    split at h
    · rename_i z hz
      rw [List.getElem?_set] at h
      split at h
      · split at h <;> cases h
      · rename_i hne
        exact ⟨h, fun q => hne (by omega)⟩
    · rename_i hno
      refine ⟨h, fun q => ?_⟩
      obtain rfl : j = i := by omega
      rcases w with z | z | k
      · cases q.2
      · exact hno z h
      · cases q.2
theorem LR.s1 {G : GG} {ls ls' : Array Slot} {n i : Nat} {L : LV} {v : AV} (h : LR G ls n L) (hv : NV v) (h' : lv_has ls' n ((i, cv G v) :: (lr_l G L).filter (fun q => !(q.1 == i) && !(q.1 + 1 == i && q.2.category == 2)))) : LR G ls' n (am_st1 L i v) := by
  refine ⟨h'.1, h'.2.1, by rw [← h.2.2.1]; simp [am_st1, clr_len], fun j w hj => ?_⟩
  unfold am_st1 at hj
  rw [List.getElem?_set] at hj
  split at hj
  · rename_i e
    subst e
    split at hj
    · cases hj
      exact ⟨h'.2.2 _ List.mem_cons_self, hv⟩
    · cases hj
  · rename_i e
    obtain ⟨h1, h2⟩ := clr_of hj
    refine ⟨h'.2.2 (j, cv G w) (List.mem_cons_of_mem _ (List.mem_filter.mpr ⟨lr_in h1, ?_⟩)), (h.2.2.2 _ _ h1).2⟩
    simp only [Bool.and_eq_true, Bool.not_eq_true', beq_eq_false_iff_ne, Bool.and_eq_false_iff, cv_cat]
    refine ⟨fun q => e q.symm, ?_⟩
    by_cases e1 : j + 1 = i
    · right
      rw [if_neg (fun q => h2 ⟨e1, q⟩)]
      decide
    · left; exact e1
theorem LR.s2 {G : GG} {ls ls' : Array Slot} {n i : Nat} {L : LV} {v : AV} (h : LR G ls n L) (hv : NV v) (h' : lv_has ls' n ((i, cv G v) :: (lr_l G L).filter (fun q => !(q.1 == i) && (!(q.1 == i + 1) && !(q.1 + 1 == i && q.2.category == 2))))) : LR G ls' n (am_st2 L i v) := by
  refine ⟨h'.1, h'.2.1, by rw [← h.2.2.1]; simp [am_st2, clr_len], fun j w hj => ?_⟩
  unfold am_st2 at hj
  rw [List.getElem?_set] at hj
  split at hj
  · split at hj <;> cases hj
  · rename_i e2
    rw [List.getElem?_set] at hj
    split at hj
    · rename_i e
      subst e
      split at hj
      · cases hj
        exact ⟨h'.2.2 _ List.mem_cons_self, hv⟩
      · cases hj
    · rename_i e
      obtain ⟨h1, h2⟩ := clr_of hj
      refine ⟨h'.2.2 (j, cv G w) (List.mem_cons_of_mem _ (List.mem_filter.mpr ⟨lr_in h1, ?_⟩)), (h.2.2.2 _ _ h1).2⟩
      simp only [Bool.and_eq_true, Bool.not_eq_true', beq_eq_false_iff_ne, Bool.and_eq_false_iff, cv_cat]
      refine ⟨fun q => e q.symm, fun q => e2 q.symm, ?_⟩
      by_cases e1 : j + 1 = i
      · right
        rw [if_neg (fun q => h2 ⟨e1, q⟩)]
        decide
      · left; exact e1
theorem ent_len (G : GG) (as : List AV) : (lg_sl (as.map (cv G))).length = (am_ent as).length := by
  induction as with
  | nil => rfl
  | cons v r ih =>
    simp only [List.map_cons, lg_sl, List.flatMap_cons, List.length_append, cv_cat, am_ent] at ih ⊢
    by_cases h : am_isL v = true
    · simp only [h, if_true, List.length_cons, List.length_nil] at ih ⊢
      omega
    · simp only [h, if_false, List.length_cons, List.length_nil] at ih ⊢
      simp only [show ¬ (1 : Nat) = 2 by decide, if_false, List.length_cons, List.length_nil, Bool.false_eq_true] at ih ⊢
      omega
theorem ent_in (G : GG) (as : List AV) : ∀ (o i : Nat) (v : AV), (am_ent as)[i]? = some (some v) → v ∈ as ∧ (o + i, cv G v) ∈ lv_args o (as.map (cv G)) := by
  induction as with
  | nil => intro o i v h; simp [am_ent] at h
  | cons w r ih =>
    intro o i v h
    simp only [List.map_cons, lv_args, cv_cat]
    by_cases hl : am_isL w = true
    · simp only [am_ent, hl, if_true] at h ⊢
      match i, h with
      | 0, h => simp at h; subst h; exact ⟨List.mem_cons_self, by simp⟩
      | 1, h => simp at h
      | i + 2, h =>
        simp at h
        obtain ⟨h1, h2⟩ := ih (o + 2) i v h
        exact ⟨List.mem_cons_of_mem _ h1, List.mem_cons_of_mem _ (by rw [show o + (i + 2) = o + 2 + i by omega]; exact h2)⟩
    · simp only [am_ent, hl, if_false] at h ⊢
      match i, h with
      | 0, h => simp at h; subst h; exact ⟨List.mem_cons_self, by simp⟩
      | i + 1, h =>
        simp at h
        obtain ⟨h1, h2⟩ := ih (o + 1) i v h
        exact ⟨List.mem_cons_of_mem _ h1, List.mem_cons_of_mem _ (by simp only [show ¬ (1 : Nat) = 2 by decide, if_false, Bool.false_eq_true]; rw [show o + (i + 1) = o + 1 + i by omega]; exact h2)⟩
theorem LR.en (G : GG) {z : Nat} {as : List AV} (hn : (am_ent as).length ≤ am_L z) (hv : ∀ v ∈ as, NV v) : LR G ((lg_sl (as.map (cv G)) ++ List.replicate (am_L z - (lg_sl (as.map (cv G))).length) Slot.unset).toArray) (am_L z) (am_en z as) := by
  have h := lv_entry (as.map (cv G)) (n := am_L z) (by rw [ent_len]; exact hn)
  refine ⟨h.1, h.2.1, by simp [am_en]; omega, fun i v hi => ?_⟩
  unfold am_en at hi
  by_cases hl : i < (am_ent as).length
  · rw [List.getElem?_append_left hl] at hi
    obtain ⟨h1, h2⟩ := ent_in G as 0 i v hi
    rw [Nat.zero_add] at h2
    exact ⟨h.2.2 _ h2, hv v h1⟩
  · rw [List.getElem?_append_right (by omega), List.getElem?_replicate] at hi
    split at hi <;> cases hi
