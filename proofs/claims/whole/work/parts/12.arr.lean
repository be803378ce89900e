/-! arrays -/
theorem i_nat (n : Nat) : Int32.ofNat n = Int32.ofInt (n : Int) := by first | rfl | exact (Int32.ofInt_eq_ofNat).symm | simp
section SA
variable {G : GG} {y : Nat} {p : Program} {l : Launch} {e : Env} {R : Room} {s : State} {m : MethodId} {args : Array Value} {below : List Frame} {meth : Method} {c : Code} {n0 w0 : Nat} {Q : State → Prop}
variable {pc : Nat} {L : LV} {st : List AV} {σ : ST}
theorem n1_nv {k i : Nat} (h : g_N σ) (h0 : (σ.2.2.1 k).1 = 1 ∨ (σ.2.2.1 k).1 = 3 ∨ (σ.2.2.1 k).1 = 5) : nz (σ.2.2.2.2 k i) = σ.2.2.2.2 k i := (h k i).2 (fun q => by
  rcases q with q | q
  · omega
  · omega)
theorem ss_ial {k : Nat} {i : Int} (X : FX G y p R s m meth c) (hd : decode (am_C y) pc = .ok (.iaload, 1)) (h0 : (σ.2.2.1 k).1 = 1 ∧ (k < σ.1 ∨ k = 1000) ∧ 0 ≤ i ∧ i < (σ.2.2.1 k).2.1) (kk : WA G y p l e R s m args below meth c n0 w0 Q (pc + 1) L (.inl (σ.2.2.2.2 k i.toNat) :: st) σ) : WA G y p l e R s m args below meth c n0 w0 Q pc L (.inl i :: .inr (.inr (some k)) :: st) σ := by
  intro H locs ls hL hst hR h1 h2
  have hi : nz i = i := nvs_h hst
  have hKX := X.2.2.2.2.2.2.2.1
  have hK := kk H locs ls hL (nvs_c (v := .inl (σ.2.2.2.2 k i.toNat)) (n1_nv hR.2.2.2.2.1 (Or.inl h0.1)) (nvs_t (nvs_t hst))) hR h1 h2
  rcases h0.2.1 with hk | rfl
  · have hk9 : k < 1000 := by have := hR.2.2.2.1; omega
    simp only [List.map_cons, cv, g_adk hk9] at hK ⊢
    refine va_iald X.1 X.2.1 hKX.2.2.1 hR.1 k 0 (by rw [g_at hk, el_1 h0.1]) rfl (i_in hi h0.2.2.1 h0.2.2.2) hd ?_
    rw [i_cl hi h0.2.2.1]
    exact hK
  · have hsp := hR.2.2.2.2.2
    simp only [List.map_cons, cv] at hK ⊢
    have e6 : (σ.2.2.1 1000).2.1 = 6 := by rw [hsp.1]
    have hlt : i < 6 := by have := h0.2.2.2; rw [e6] at this; exact this
    refine va_ti (t := g_ad G 1000) X.1 X.2.1 hKX.2.2.2.2.1 hR.2.2.1 (i_in hi h0.2.2.1 hlt) (v := .int (Int32.ofInt (σ.2.2.2.2 1000 i.toNat))) ?_ hd hK
    rw [i_cl hi h0.2.2.1, hsp.2.2.1 _ (by omega)]
theorem ss_ials {i : Int} (X : FX G y p R s m meth c) (hd : decode (am_C y) pc = .ok (.iaload, 1)) (h0 : 0 ≤ i ∧ i < σ.2.2.2.2 1001 0) (kk : WA G y p l e R s m args below meth c n0 w0 Q (pc + 1) L (.inl (σ.2.2.2.2 1001 (i.toNat + 1)) :: st) σ) : WA G y p l e R s m args below meth c n0 w0 Q pc L (.inl i :: .inr (.inr (some 1001)) :: st) σ := by
  intro H locs ls hL hst hR h1 h2
  have hi : nz i = i := nvs_h hst
  have hKX := X.2.2.2.2.2.2.2.1
  have hsp := hR.2.2.2.2.2
  have hK := kk H locs ls hL (nvs_c (v := .inl (σ.2.2.2.2 1001 (i.toNat + 1))) (n1_nv hR.2.2.2.2.1 (Or.inr (Or.inr hsp.2.1))) (nvs_t (nvs_t hst))) hR h1 h2
  simp only [List.map_cons, cv] at hK ⊢
  rcases hsp.2.2.2 with q | ⟨q1, q2, q3⟩
  · exfalso; omega
  · have hlt : i < (G.2.2.1.1 : Nat) := by have := h0.2; rw [q1] at this; exact this
    refine va_ti (t := g_ad G 1001) X.1 X.2.1 hKX.2.2.2.2.2 hR.2.2.1 (i_in hi h0.1 hlt) (v := .int (Int32.ofInt (σ.2.2.2.2 1001 (i.toNat + 1)))) ?_ hd hK
    rw [i_cl hi h0.1, q3 _ (by omega)]
theorem ss_lal {k : Nat} {i : Int} (X : FX G y p R s m meth c) (hd : decode (am_C y) pc = .ok (.laload, 1)) (h0 : k < σ.1 ∧ (σ.2.2.1 k).1 = 2 ∧ 0 ≤ i ∧ i < (σ.2.2.1 k).2.1) (kk : WA G y p l e R s m args below meth c n0 w0 Q (pc + 1) L (.inr (.inl (σ.2.2.2.2 k i.toNat)) :: st) σ) : WA G y p l e R s m args below meth c n0 w0 Q pc L (.inl i :: .inr (.inr (some k)) :: st) σ := by
  intro H locs ls hL hst hR h1 h2
  have hi : nz i = i := nvs_h hst
  have hKX := X.2.2.2.2.2.2.2.1
  have hK := kk H locs ls hL (nvs_c (v := .inr (.inl (σ.2.2.2.2 k i.toNat))) ((hR.2.2.2.2.1 k _).1 (Or.inl h0.2.1)) (nvs_t (nvs_t hst))) hR h1 h2
  have hk9 : k < 1000 := by have := hR.2.2.2.1; omega
  simp only [List.map_cons, cv, g_adk hk9] at hK ⊢
  refine va_lald X.1 X.2.1 hKX.2.2.1 hR.1 k 1 (by rw [g_at h0.1, el_2 h0.2.1]) rfl (i_in hi h0.2.2.1 h0.2.2.2) hd ?_
  rw [i_cl hi h0.2.2.1]
  exact hK
theorem ss_bal {k : Nat} {i : Int} (X : FX G y p R s m meth c) (hd : decode (am_C y) pc = .ok (.baload, 1)) (h0 : k < σ.1 ∧ (σ.2.2.1 k).1 = 3 ∧ 0 ≤ i ∧ i < (σ.2.2.1 k).2.1) (kk : WA G y p l e R s m args below meth c n0 w0 Q (pc + 1) L (.inl (σ.2.2.2.2 k i.toNat) :: st) σ) : WA G y p l e R s m args below meth c n0 w0 Q pc L (.inl i :: .inr (.inr (some k)) :: st) σ := by
  intro H locs ls hL hst hR h1 h2
  have hi : nz i = i := nvs_h hst
  have hKX := X.2.2.2.2.2.2.2.1
  have hK := kk H locs ls hL (nvs_c (v := .inl (σ.2.2.2.2 k i.toNat)) (n1_nv hR.2.2.2.2.1 (Or.inr (Or.inl h0.2.1))) (nvs_t (nvs_t hst))) hR h1 h2
  have hk9 : k < 1000 := by have := hR.2.2.2.1; omega
  simp only [List.map_cons, cv, g_adk hk9] at hK ⊢
  refine va_zald X.1 X.2.1 hKX.2.2.1 hR.1 k 2 (by rw [g_at h0.1, el_3 h0.2.1]) rfl (i_in hi h0.2.2.1 h0.2.2.2) hd ?_
  rw [i_cl hi h0.2.2.1]
  exact hK
theorem rf_cv (r : Option Nat) : va_rf (r.map (g_ad G)) = cv G (.inr (.inr r)) := by cases r <;> rfl
/-- an array of references: its class, by its type's number -/
def am_at (t : Nat) : FieldType := if t = 0 then .object "SpoonCensus$Sheet" else if t = 1 then .object "SpoonCensus$Land" else if t = 2 then .object "SpoonCensus$House" else .array .int
theorem at_tys {t : Nat} (h : t < 4) : (g_tys G)[3 + t]? = some (G.2.2.2 (4 + t), am_at t) := by
  match t, h with
  | 0, _ => rfl
  | 1, _ => rfl
  | 2, _ => rfl
  | 3, _ => rfl
  | n + 4, h => exact absurd h (by omega)
theorem at_ref {t : Nat} : (am_at t).isReference = true := by
  unfold am_at
  split
  · rfl
  · split
    · rfl
    · split <;> rfl
theorem ss_aal {k : Nat} {i : Int} (X : FX G y p R s m meth c) (hd : decode (am_C y) pc = .ok (.aaload, 1)) (h0 : k < σ.1 ∧ (σ.2.2.1 k).1 = 4 ∧ 0 ≤ i ∧ i < (σ.2.2.1 k).2.1) (h4 : (σ.2.2.1 k).2.2 < 4) (kk : WA G y p l e R s m args below meth c n0 w0 Q (pc + 1) L (.inr (.inr (σ.2.2.2.1 k i.toNat)) :: st) σ) : WA G y p l e R s m args below meth c n0 w0 Q pc L (.inl i :: .inr (.inr (some k)) :: st) σ := by
  intro H locs ls hL hst hR h1 h2
  have hi : nz i = i := nvs_h hst
  have hKX := X.2.2.2.2.2.2.2.1
  have hK := kk H locs ls hL (nvs_c (v := .inr (.inr (σ.2.2.2.1 k i.toNat))) trivial (nvs_t (nvs_t hst))) hR h1 h2
  have hk9 : k < 1000 := by have := hR.2.2.2.1; omega
  simp only [List.map_cons] at hK ⊢
  show W p l e R s m args below meth c H locs (σ.1 - n0) (σ.2.1 - w0) Q (F0 m pc ls (.int (Int32.ofInt i) :: .ref (g_ad G k) :: st.map (cv G)))
  rw [g_adk hk9]
  have hin := i_in hi h0.2.2.1 h0.2.2.2
  have hc : H[G.2.1.1 + k]? = some (arrV (G.2.2.2 (4 + (σ.2.2.1 k).2.2)) (σ.2.2.1 k).2.1 (fun i => va_rf ((σ.2.2.2.1 k i).map (g_ad G)))) := by
    have := hR.1 k _ (g_at h0.1)
    rw [el_4 h0.2.1] at this
    exact this
  refine W.aald X.1 X.2.1 hc ((hKX.2.2.1.2 _ _ (at_tys h4)).1 _ _) at_ref (fun q => by cases q) (by rw [arrV_size]; exact hin) (v := cv G (.inr (.inr (σ.2.2.2.1 k i.toNat)))) ?_ rfl rfl hd hK
  rw [i_cl hi h0.2.2.1, arrV_read _ _ (by omega), rf_cv]
theorem ss_ias {k : Nat} {i z : Int} (X : FX G y p R s m meth c) (hd : decode (am_C y) pc = .ok (.iastore, 1)) (h0 : k < σ.1 ∧ (σ.2.2.1 k).1 = 1 ∧ 0 ≤ i ∧ i < (σ.2.2.1 k).2.1) (kk : WA G y p l e R s m args below meth c n0 w0 Q (pc + 1) L st (am_wr σ k i.toNat z)) : WA G y p l e R s m args below meth c n0 w0 Q pc L (.inl z :: .inl i :: .inr (.inr (some k)) :: st) σ := by
  intro H locs ls hL hst hR h1 h2
  have hz := nvs_h hst
  have hi : nz i = i := nvs_h (nvs_t hst)
  have hKX := X.2.2.2.2.2.2.2.1
  have hk9 : k < 1000 := by have := hR.2.2.2.1; omega
  have hin := i_in hi h0.2.2.1 h0.2.2.2
  show W p l e R s m args below meth c H locs (σ.1 - n0) (σ.2.1 - w0) Q (F0 m pc ls (.int (Int32.ofInt z) :: .int (Int32.ofInt i) :: .ref (g_ad G k) :: st.map (cv G)))
  rw [g_adk hk9]
  have ha : (g_W G σ)[k]? = some (G.2.1.1 + k, .inl (G.2.2.2 1, (σ.2.2.1 k).2.1, .inl (fun i => Int32.ofInt (σ.2.2.2.2 k i)))) := by rw [g_at h0.1, el_1 h0.2.1]
  refine W.iast X.1 X.2.1 (hR.1 k _ ha) ((hKX.2.2.1.2 0 _ rfl).1 _ (fun j => .int (Int32.ofInt (σ.2.2.2.2 k j)))) (fun q => by cases q) (by show ¬ (_ ∨ (arrV _ _ _).slots.size ≤ _); rw [arrV_size]; exact hin) rfl rfl hd fun H1 e1 e2 e3 => ?_
  refine kk H1 _ ls hL (nvs_t (nvs_t (nvs_t hst))) (hR.wr h0.1 e2 (el_1 (σ := am_wr σ k i.toNat z) h0.2.1).symm (fun q => by rcases q with q | q <;> omega) (fun _ => hz) (hR.1.set (g_D G σ) ha ?_ e3) (hR.2.2.1.put e2 e3 (Nat.le_add_right _ _))) h1 h2
  show H1[G.2.1.1 + k]? = some (arrV _ _ (fun j => .int (Int32.ofInt (am_up σ.2.2.2.2 k i.toNat z k j))))
  rw [e1]
  show some ((arrV _ _ _).setSlot _ _) = _
  rw [arrV_store, i_cl hi h0.2.2.1]
  refine congrArg some (congrArg (arrV _ _) (funext fun q => ?_))
  unfold updV am_up
  by_cases hq : q = i.toNat
  · rw [if_pos hq, if_pos ⟨rfl, hq⟩]
  · rw [if_neg hq, if_neg (fun h => hq h.2)]
theorem ss_las {k : Nat} {i z : Int} (X : FX G y p R s m meth c) (hd : decode (am_C y) pc = .ok (.lastore, 1)) (h0 : k < σ.1 ∧ (σ.2.2.1 k).1 = 2 ∧ 0 ≤ i ∧ i < (σ.2.2.1 k).2.1) (kk : WA G y p l e R s m args below meth c n0 w0 Q (pc + 1) L st (am_wr σ k i.toNat z)) : WA G y p l e R s m args below meth c n0 w0 Q pc L (.inr (.inl z) :: .inl i :: .inr (.inr (some k)) :: st) σ := by
  intro H locs ls hL hst hR h1 h2
  have hz := nvs_h hst
  have hi : nz i = i := nvs_h (nvs_t hst)
  have hKX := X.2.2.2.2.2.2.2.1
  have hk9 : k < 1000 := by have := hR.2.2.2.1; omega
  have hin := i_in hi h0.2.2.1 h0.2.2.2
  show W p l e R s m args below meth c H locs (σ.1 - n0) (σ.2.1 - w0) Q (F0 m pc ls (.long (Int64.ofInt z) :: .int (Int32.ofInt i) :: .ref (g_ad G k) :: st.map (cv G)))
  rw [g_adk hk9]
  have ha : (g_W G σ)[k]? = some (G.2.1.1 + k, .inl (G.2.2.2 2, (σ.2.2.1 k).2.1, .inr (.inl (fun i => Int64.ofInt (σ.2.2.2.2 k i))))) := by rw [g_at h0.1, el_2 h0.2.1]
  refine W.last X.1 X.2.1 (hR.1 k _ ha) ((hKX.2.2.1.2 1 _ rfl).1 _ (fun j => .long (Int64.ofInt (σ.2.2.2.2 k j)))) (fun q => by cases q) (by show ¬ (_ ∨ (arrV _ _ _).slots.size ≤ _); rw [arrV_size]; exact hin) rfl rfl hd fun H1 e1 e2 e3 => ?_
  refine kk H1 _ ls hL (nvs_t (nvs_t (nvs_t hst))) (hR.wr h0.1 e2 (el_2 (σ := am_wr σ k i.toNat z) h0.2.1).symm (fun _ => hz) (fun q => absurd (Or.inl h0.2.1) q) (hR.1.set (g_D G σ) ha ?_ e3) (hR.2.2.1.put e2 e3 (Nat.le_add_right _ _))) h1 h2
  show H1[G.2.1.1 + k]? = some (arrV _ _ (fun j => .long (Int64.ofInt (am_up σ.2.2.2.2 k i.toNat z k j))))
  rw [e1]
  show some ((arrV _ _ _).setSlot _ _) = _
  rw [arrV_store, i_cl hi h0.2.2.1]
  refine congrArg some (congrArg (arrV _ _) (funext fun q => ?_))
  unfold updV am_up
  by_cases hq : q = i.toNat
  · rw [if_pos hq, if_pos ⟨rfl, hq⟩]
  · rw [if_neg hq, if_neg (fun h => hq h.2)]
theorem ss_bas {k : Nat} {i z : Int} (X : FX G y p R s m meth c) (hd : decode (am_C y) pc = .ok (.bastore, 1)) (h0 : k < σ.1 ∧ (σ.2.2.1 k).1 = 3 ∧ 0 ≤ i ∧ i < (σ.2.2.1 k).2.1) (hz1 : z = 0 ∨ z = 1) (kk : WA G y p l e R s m args below meth c n0 w0 Q (pc + 1) L st (am_wr σ k i.toNat z)) : WA G y p l e R s m args below meth c n0 w0 Q pc L (.inl z :: .inl i :: .inr (.inr (some k)) :: st) σ := by
  intro H locs ls hL hst hR h1 h2
  have hz := nvs_h hst
  have hnb : narrow .boolean (.int (Int32.ofInt z)) = .int (Int32.ofInt z) := by rcases hz1 with rfl | rfl <;> rfl
  have hi : nz i = i := nvs_h (nvs_t hst)
  have hKX := X.2.2.2.2.2.2.2.1
  have hk9 : k < 1000 := by have := hR.2.2.2.1; omega
  have hin := i_in hi h0.2.2.1 h0.2.2.2
  show W p l e R s m args below meth c H locs (σ.1 - n0) (σ.2.1 - w0) Q (F0 m pc ls (.int (Int32.ofInt z) :: .int (Int32.ofInt i) :: .ref (g_ad G k) :: st.map (cv G)))
  rw [g_adk hk9]
  have ha : (g_W G σ)[k]? = some (G.2.1.1 + k, .inl (G.2.2.2 3, (σ.2.2.1 k).2.1, .inl (fun i => Int32.ofInt (σ.2.2.2.2 k i)))) := by rw [g_at h0.1, el_3 h0.2.1]
  refine W.zast X.1 X.2.1 (hR.1 k _ ha) ((hKX.2.2.1.2 2 _ rfl).1 _ (fun j => .int (Int32.ofInt (σ.2.2.2.2 k j)))) (fun q => by cases q) (by show ¬ (_ ∨ (arrV _ _ _).slots.size ≤ _); rw [arrV_size]; exact hin) rfl rfl hd fun H1 e1 e2 e3 => ?_
  refine kk H1 _ ls hL (nvs_t (nvs_t (nvs_t hst))) (hR.wr h0.1 e2 (el_3 (σ := am_wr σ k i.toNat z) h0.2.1).symm (fun q => by rcases q with q | q <;> omega) (fun _ => hz) (hR.1.set (g_D G σ) ha ?_ e3) (hR.2.2.1.put e2 e3 (Nat.le_add_right _ _))) h1 h2
  show H1[G.2.1.1 + k]? = some (arrV _ _ (fun j => .int (Int32.ofInt (am_up σ.2.2.2.2 k i.toNat z k j))))
  rw [e1]
  show some ((arrV _ _ _).setSlot _ _) = _
  rw [arrV_store, i_cl hi h0.2.2.1]
  refine congrArg some (congrArg (arrV _ _) (funext fun q => ?_))
  unfold updV am_up
  by_cases hq : q = i.toNat
  · rw [if_pos hq, if_pos ⟨rfl, hq⟩]; exact hnb
  · rw [if_neg hq, if_neg (fun h => hq h.2)]
theorem ss_alen {k : Nat} (X : FX G y p R s m meth c) (hd : decode (am_C y) pc = .ok (.arraylength, 1)) (h0 : k < σ.1 ∧ ((σ.2.2.1 k).1 = 1 ∨ (σ.2.2.1 k).1 = 4)) (h4 : (σ.2.2.1 k).2.2 < 4) (hlt : (σ.2.2.1 k).2.1 < 100000) (kk : WA G y p l e R s m args below meth c n0 w0 Q (pc + 1) L (.inl ((σ.2.2.1 k).2.1 : Nat) :: st) σ) : WA G y p l e R s m args below meth c n0 w0 Q pc L (.inr (.inr (some k)) :: st) σ := by
  intro H locs ls hL hst hR h1 h2
  have hKX := X.2.2.2.2.2.2.2.1
  have hK := kk H locs ls hL (nvs_c (v := .inl ((σ.2.2.1 k).2.1 : Nat)) (nz_of (by omega) (by omega)) (nvs_t hst)) hR h1 h2
  have hk9 : k < 1000 := by have := hR.2.2.2.1; omega
  simp only [List.map_cons, cv, g_adk hk9] at hK ⊢
  rcases h0.2 with q | q
  · exact va_alen X.1 X.2.1 hKX.2.2.1 hR.1 k 0 (by rw [g_at h0.1, el_1 q]) rfl (i_nat _) hd hK
  · exact va_alen X.1 X.2.1 hKX.2.2.1 hR.1 k (3 + (σ.2.2.1 k).2.2) (by rw [g_at h0.1, el_4 q]) (at_tys h4) (i_nat _) hd hK
theorem ss_alens (X : FX G y p R s m meth c) (hd : decode (am_C y) pc = .ok (.arraylength, 1)) (hpos : 0 ≤ σ.2.2.2.2 1001 0) (kk : WA G y p l e R s m args below meth c n0 w0 Q (pc + 1) L (.inl (σ.2.2.2.2 1001 0) :: st) σ) : WA G y p l e R s m args below meth c n0 w0 Q pc L (.inr (.inr (some 1001)) :: st) σ := by
  intro H locs ls hL hst hR h1 h2
  have hKX := X.2.2.2.2.2.2.2.1
  have hsp := hR.2.2.2.2.2
  have hK := kk H locs ls hL (nvs_c (v := .inl (σ.2.2.2.2 1001 0)) (n1_nv hR.2.2.2.2.1 (Or.inr (Or.inr hsp.2.1))) (nvs_t hst)) hR h1 h2
  simp only [List.map_cons, cv] at hK ⊢
  rcases hsp.2.2.2 with q | ⟨q1, q2, q3⟩
  · exfalso; omega
  · rw [q1] at hK
    exact va_tlen (t := g_ad G 1001) X.1 X.2.1 hKX.2.2.2.2.2 hR.2.2.1 (i_nat _) hd hK
theorem ss_gets {wa wb : Nat} (X : FX G y p R s m meth c) (hd : decode (am_C y) pc = .ok (.getstatic wa, 3)) (hw : am_lw wb = some (.fieldLink (am_own y) wa "SpoonCensus" "LETTERS" "[I")) (kk : WA G y p l e R s m args below meth c n0 w0 Q (pc + 3) L (.inr (.inr (some 1000)) :: st) σ) : WA G y p l e R s m args below meth c n0 w0 Q pc L st σ := by
  intro H locs ls hL hst hR h1 h2
  have hKX := X.2.2.2.2.2.2.2.1
  have hK := kk H locs ls hL (nvs_c (v := .inr (.inr (some 1000))) trivial hst) hR h1 h2
  exact va_gets X.1 X.2.1 hKX.2.2.2.1 hR.2.2.1 X.2.2.2.1 (hKX.1.get hw rfl args) (fun x hx => hx) hd hK
theorem recv {k : Nat} {H : Heap} {locs : List Loc} (hKX : KX G s) (hR : RP G s σ H locs) (hk : k < σ.1) (h0 : (σ.2.2.1 k).1 = 0) (hc : (σ.2.2.1 k).2.1 < 13) : ∃ cell : Cell, H[G.2.1.1 + k]? = some cell ∧ cell.vm.isStatics = false ∧ s.vm.findClass (am_RN (σ.2.2.1 k).2.1) = some cell.cls :=
  va_recv hKX.2.2.1 hR.1 (vw_at hc) (by rw [g_at hk, el_0 h0])
end SA
