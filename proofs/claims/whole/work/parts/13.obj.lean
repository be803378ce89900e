/-! making cells, casts, copies -/
section SN
variable {G : GG} {y : Nat} {p : Program} {l : Launch} {e : Env} {R : Room} {s : State} {m : MethodId} {args : Array Value} {below : List Frame} {meth : Method} {c : Code} {n0 w0 : Nat} {Q : State → Prop}
variable {pc : Nat} {L : LV} {st : List AV} {σ : ST}
theorem mk_el {sh : Nat × Nat × Nat} {w j : Nat} (hj : j < σ.1) : g_el G (am_mk σ sh w) j = g_el G σ j := by
  have e1 : am_u1 σ.2.2.1 σ.1 sh j = σ.2.2.1 j := by unfold am_u1; rw [if_neg (by omega)]
  have e2 : am_row σ.2.2.2.1 σ.1 (fun _ => none) j = σ.2.2.2.1 j := by funext q; unfold am_row; rw [if_neg (by omega)]
  have e3 : am_row σ.2.2.2.2 σ.1 (fun _ => 0) j = σ.2.2.2.2 j := by funext q; unfold am_row; rw [if_neg (by omega)]
  unfold g_el am_fv am_mk
  simp only [e1, e2, e3]
theorem mk_W {sh : Nat × Nat × Nat} {w : Nat} : g_W G (am_mk σ sh w) = g_W G σ ++ [(G.2.1.1 + σ.1, g_el G (am_mk σ sh w) σ.1)] := by
  have e : (am_mk σ sh w).1 = σ.1 + 1 := rfl
  unfold g_W
  rw [e, List.range_succ, List.map_append]
  congr 1
  apply List.map_congr_left
  intro k hk
  rw [mk_el (List.mem_range.mp hk)]
theorem mk_N {sh : Nat × Nat × Nat} {w : Nat} (h : g_N σ) : g_N (am_mk σ sh w) := by
  intro a b
  by_cases ha : a = σ.1
  · have e3 : (am_mk σ sh w).2.2.2.2 a b = 0 := by
      show am_row σ.2.2.2.2 σ.1 (fun _ => 0) a b = 0
      unfold am_row; rw [if_pos ha]
    rw [e3]
    exact ⟨fun _ => rfl, fun _ => rfl⟩
  · have e1 : (am_mk σ sh w).2.2.1 a = σ.2.2.1 a := by
      show am_u1 σ.2.2.1 σ.1 sh a = _
      unfold am_u1; rw [if_neg ha]
    have e3 : (am_mk σ sh w).2.2.2.2 a b = σ.2.2.2.2 a b := by
      show am_row σ.2.2.2.2 σ.1 (fun _ => 0) a b = _
      unfold am_row; rw [if_neg ha]
    unfold am_lg
    rw [e3, e1]
    exact h a b
theorem mk_sp {sh : Nat × Nat × Nat} {w : Nat} (h : g_sp G σ) (hk : σ.1 < 1000) : g_sp G (am_mk σ sh w) := by
  have e1 : ∀ a, 1000 ≤ a → (am_mk σ sh w).2.2.1 a = σ.2.2.1 a := fun a ha => by
    show am_u1 σ.2.2.1 σ.1 sh a = _
    unfold am_u1; rw [if_neg (by omega)]
  have e3 : ∀ a b, 1000 ≤ a → (am_mk σ sh w).2.2.2.2 a b = σ.2.2.2.2 a b := fun a b ha => by
    show am_row σ.2.2.2.2 σ.1 (fun _ => 0) a b = _
    unfold am_row; rw [if_neg (by omega)]
  exact g_sp_eq h e1 e3
theorem RP.mk {H H1 : Heap} {locs : List Loc} {sh : Nat × Nat × Nat} {w : Nat} (h : RP G s σ H locs) (hn : σ.1 < 121) (hsz : H1.size = H.size + 1) (hold : ∀ q, q < H.size → H1[q]? = H[q]?) (hnew : va_at G.1 vwCl (G.2.1.1 + σ.1, g_el G (am_mk σ sh w) σ.1) H1) : RP G s (am_mk σ sh w) H1 locs := by
  obtain ⟨a1, a2, a3, a4, a5, a6⟩ := h
  refine ⟨?_, fun q => ?_, ⟨by rw [hsz]; exact Nat.le_succ_of_le a3.1, fun q hq hA => ?_, a3.2.2⟩, ?_, mk_N a5, mk_sp a6 (by omega)⟩
  · rw [mk_W]
    refine va_P.app (a1.kept (fun k q hk => hold _ ((a1 k q hk).lt))) (fun k q hk => ?_)
    have h0 : k < 1 := (List.getElem?_eq_some_iff.mp hk).1
    rw [show k = 0 by omega] at hk
    cases hk
    exact hnew
  · show H1.size = G.2.1.1 + (σ.1 + 1)
    rw [hsz, a2 hn]; omega
  · rw [hold q (Nat.lt_of_lt_of_le hq a3.1)]
    exact a3.2.1 q hq hA
  · show σ.1 + 1 ≤ 999
    omega
theorem ss_new {ci len wa wb : Nat} (X : FX G y p R s m meth c) (hd : decode (am_C y) pc = .ok (.new wa, 3)) (hw : am_lw wb = some (.classLink (am_own y) wa (am_RN ci))) (hc : ci < 13 ∧ σ.1 < 121) (hr : σ.1 + 1 - n0 ≤ R.cells ∧ σ.2.1 + am_nf ci - w0 ≤ R.slots) (kk : WA G y p l e R s m args below meth c n0 w0 Q (pc + 3) L (.inr (.inr (some σ.1)) :: st) (am_mk σ (0, ci, 0) (am_nf ci))) : WA G y p l e R s m args below meth c n0 w0 Q pc L st σ := by
  intro H locs ls hL hst hR h1 h2
  have hKX := X.2.2.2.2.2.2.2.1
  have hck := cls_ck hc.1
  have hKn := hKX.2.2.1.1 _ _ (vw_at hc.1)
  refine W.newcK X.1 X.2.1 X.2.2.2.1 (hKX.1.get hw rfl args) (hKX.1.get hck.1 rfl args) (hKX.1.get hck.2.1 rfl args) (g := F0 m pc ls (st.map (cv G))) rfl hd (by omega) (by omega) (cC := G.1.1 ci) hKn.2.1 (h := G.2.1.1 + σ.1) (hR.2.1 hc.2) fun H' kC hkC hcell hsz hold => ?_
  have hsh : (am_mk σ (0, ci, 0) (am_nf ci)).2.2.1 σ.1 = (0, ci, 0) := by
    show am_u1 σ.2.2.1 σ.1 (0, ci, 0) σ.1 = _
    unfold am_u1; rw [if_pos rfl]
  have hmm : ∀ f, (am_mk σ (0, ci, 0) (am_nf ci)).2.2.2.2 σ.1 f = 0 := fun f => by
    show am_row σ.2.2.2.2 σ.1 (fun _ => 0) σ.1 f = _
    unfold am_row; rw [if_pos rfl]
  have hrr : ∀ f, (am_mk σ (0, ci, 0) (am_nf ci)).2.2.2.1 σ.1 f = none := fun f => by
    show am_row σ.2.2.2.1 σ.1 (fun _ => none) σ.1 f = _
    unfold am_row; rw [if_pos rfl]
  have hob := u_born (am_ty ci) (lay_hts hKX.1 args hc.1) (fun w h => h) hKn hkC hcell (fun f hf => (hck.2.2.1 f hf).1)
  have hRP : RP G s (am_mk σ (0, ci, 0) (am_nf ci)) H' locs := by
    refine hR.mk hc.2 (by rw [hsz, hR.2.1 hc.2]) (fun q hq => hold q (by rw [← hR.2.1 hc.2]; exact hq)) ?_
    rw [el_0 (by rw [hsh]), hsh]
    refine ⟨_, vw_at hc.1, hob.to (fun f hf => ?_)⟩
    show defaultValue (am_ty ci f) = ((List.range (am_nf ci)).map _).getD f .null
    rw [List.getD_eq_getElem?_getD, List.getElem?_map, List.getElem?_range hf]
    show defaultValue (am_ty ci f) = cv G (am_fv _ ci σ.1 f)
    unfold am_fv
    rw [hmm, hrr]
    have ht := (hck.2.2.1 f hf).2
    have hrf := ty_ref hc.1 hf
    rw [ht] at hrf ⊢
    revert hrf
    cases am_ty ci f <;> intro hrf <;> first | rfl | (simp [fits] at hrf)
  have hK := kk H' locs ls hL (nvs_c (v := .inr (.inr (some σ.1))) trivial hst) hRP (by show n0 ≤ σ.1 + 1; omega) (by show w0 ≤ σ.2.1 + am_nf ci; omega)
  have e1 : (am_mk σ (0, ci, 0) (am_nf ci)).1 - n0 = σ.1 - n0 + 1 := by show σ.1 + 1 - n0 = _; omega
  have e2 : (am_mk σ (0, ci, 0) (am_nf ci)).2.1 - w0 = σ.2.1 - w0 + am_nf ci := by show σ.2.1 + am_nf ci - w0 = _; omega
  rw [e1, e2] at hK
  simp only [List.map_cons, cv, g_adk (show σ.1 < 1000 by omega)] at hK
  exact hK
theorem mk_cell {sh : Nat × Nat × Nat} {w : Nat} : (am_mk σ sh w).2.2.1 σ.1 = sh ∧ (∀ f, (am_mk σ sh w).2.2.2.2 σ.1 f = 0) ∧ ∀ f, (am_mk σ sh w).2.2.2.1 σ.1 f = none := by
  refine ⟨?_, fun f => ?_, fun f => ?_⟩
  · show am_u1 σ.2.2.1 σ.1 sh σ.1 = _
    unfold am_u1; rw [if_pos rfl]
  · show am_row σ.2.2.2.2 σ.1 (fun _ => 0) σ.1 f = _
    unfold am_row; rw [if_pos rfl]
  · show am_row σ.2.2.2.1 σ.1 (fun _ => none) σ.1 f = _
    unfold am_row; rw [if_pos rfl]
theorem ss_nwa {t : ArrayType} {sh wb : Nat} {n : Int} (X : FX G y p R s m meth c) (hd : decode (am_C y) pc = .ok (.newarray t, 2)) (hw : am_lw wb = some (.arrayClass (newarray.typeOf t))) (ht : (t = .int ∧ sh = 1) ∨ (t = .long ∧ sh = 2) ∨ (t = .boolean ∧ sh = 3)) (hc : σ.1 < 121 ∧ 0 ≤ n ∧ n < 10000) (hr : σ.1 + 1 - n0 ≤ R.cells ∧ σ.2.1 + n.toNat - w0 ≤ R.slots) (kk : WA G y p l e R s m args below meth c n0 w0 Q (pc + 2) L (.inr (.inr (some σ.1)) :: st) (am_mk σ (sh, n.toNat, 0) n.toNat)) : WA G y p l e R s m args below meth c n0 w0 Q pc L (.inl n :: st) σ := by
  intro H locs ls hL hst hR h1 h2
  have hKX := X.2.2.2.2.2.2.2.1
  have hn : nz n = n := nvs_h hst
  have hbytes : n.toNat * componentBytes (newarray.typeOf t) ≤ 536870912 := by
    rcases ht with ⟨rfl, -⟩ | ⟨rfl, -⟩ | ⟨rfl, -⟩ <;> simp [newarray.typeOf, componentBytes] <;> omega
  refine va_newaK X.1 X.2.1 (hKX.1.get hw rfl args) (g := F0 m pc ls ((.inl n :: st).map (cv G))) rfl hd (n := Int32.ofInt n) (N := n.toNat) (rest := st.map (cv G)) rfl (i_nneg hn hc.2.1) (i_cl hn hc.2.1) hbytes (by omega) (by omega) (h := G.2.1.1 + σ.1) (hR.2.1 hc.1) fun H' cA hcell hsz hold hArr hfind => ?_
  obtain ⟨m1, m2, m3⟩ := mk_cell (σ := σ) (sh := (sh, n.toNat, 0)) (w := n.toNat)
  have hRP : RP G s (am_mk σ (sh, n.toNat, 0) n.toNat) H' locs := by
    refine hR.mk hc.1 (by rw [hsz, hR.2.1 hc.1]) (fun q hq => hold q (by rw [← hR.2.1 hc.1]; exact hq)) ?_
    rcases ht with ⟨rfl, rfl⟩ | ⟨rfl, rfl⟩ | ⟨rfl, rfl⟩
    · have e : cA = G.2.2.2 1 := Option.some.inj (hfind.symm.trans (hKX.2.2.1.2 0 _ rfl).2)
      rw [el_1 (by rw [m1]), m1]
      show H'[G.2.1.1 + σ.1]? = some (arrV (G.2.2.2 1) n.toNat (fun j => .int (Int32.ofInt ((am_mk σ (1, n.toNat, 0) n.toNat).2.2.2.2 σ.1 j))))
      rw [hcell, e]
      refine congrArg some (congrArg (arrV _ _) (funext fun q => ?_))
      rw [m2]; rfl
    · have e : cA = G.2.2.2 2 := Option.some.inj (hfind.symm.trans (hKX.2.2.1.2 1 _ rfl).2)
      rw [el_2 (by rw [m1]), m1]
      show H'[G.2.1.1 + σ.1]? = some (arrV (G.2.2.2 2) n.toNat (fun j => .long (Int64.ofInt ((am_mk σ (2, n.toNat, 0) n.toNat).2.2.2.2 σ.1 j))))
      rw [hcell, e]
      refine congrArg some (congrArg (arrV _ _) (funext fun q => ?_))
      rw [m2]; rfl
    · have e : cA = G.2.2.2 3 := Option.some.inj (hfind.symm.trans (hKX.2.2.1.2 2 _ rfl).2)
      rw [el_3 (by rw [m1]), m1]
      show H'[G.2.1.1 + σ.1]? = some (arrV (G.2.2.2 3) n.toNat (fun j => .int (Int32.ofInt ((am_mk σ (3, n.toNat, 0) n.toNat).2.2.2.2 σ.1 j))))
      rw [hcell, e]
      refine congrArg some (congrArg (arrV _ _) (funext fun q => ?_))
      rw [m2]; rfl
  have hK := kk H' locs ls hL (nvs_c (v := .inr (.inr (some σ.1))) trivial (nvs_t hst)) hRP (by show n0 ≤ σ.1 + 1; omega) (by show w0 ≤ σ.2.1 + n.toNat; omega)
  have e1 : (am_mk σ (sh, n.toNat, 0) n.toNat).1 - n0 = σ.1 - n0 + 1 := by show σ.1 + 1 - n0 = _; omega
  have e2 : (am_mk σ (sh, n.toNat, 0) n.toNat).2.1 - w0 = σ.2.1 - w0 + n.toNat := by show σ.2.1 + n.toNat - w0 = _; omega
  rw [e1, e2] at hK
  simp only [List.map_cons, cv, g_adk (show σ.1 < 1000 by omega)] at hK
  exact hK
theorem ck_over : am_lw 73 = am_lw 73 := rfl
theorem ss_nwq {t wa wb : Nat} {n : Int} (X : FX G y p R s m meth c) (hd : decode (am_C y) pc = .ok (.anewarray wa, 3)) (hw : am_lw wb = some (.classLink (am_own y) wa (am_RN (am_et t)))) (ht : t < 3) (hc : σ.1 < 121 ∧ 0 ≤ n ∧ n < 10000) (hov : ∀ a, (Cond.arrayOver (.object (am_RN (am_et t)))).before a s = true) (hr : σ.1 + 1 - n0 ≤ R.cells ∧ σ.2.1 + n.toNat - w0 ≤ R.slots) (kk : WA G y p l e R s m args below meth c n0 w0 Q (pc + 3) L (.inr (.inr (some σ.1)) :: st) (am_mk σ (4, n.toNat, t) n.toNat)) : WA G y p l e R s m args below meth c n0 w0 Q pc L (.inl n :: st) σ := by
  intro H locs ls hL hst hR h1 h2
  have hKX := X.2.2.2.2.2.2.2.1
  have hn : nz n = n := nvs_h hst
  refine W.anew (R := R) (cells := σ.1 - n0) (slots := σ.2.1 - w0) X.1 X.2.1 X.2.2.2.1 (hKX.1.get hw rfl args) (hov args) (g := F0 m pc ls ((.inl n :: st).map (cv G))) rfl hd (n := Int32.ofInt n) (rest := st.map (cv G)) rfl (i_nneg hn hc.2.1) (by rw [i_cl hn hc.2.1]; omega) (by omega) (by rw [i_cl hn hc.2.1]; omega) fun cA kA comp hfind hkA hkind hcomp => ?_
  rw [i_cl hn hc.2.1]
  obtain ⟨m1, m2, m3⟩ := mk_cell (σ := σ) (sh := (4, n.toNat, t)) (w := n.toNat)
  have hsz := hR.2.1 hc.1
  have hat : am_at t = .object (am_RN (am_et t)) := by
    match t, ht with
    | 0, _ => rfl
    | 1, _ => rfl
    | 2, _ => rfl
    | n + 3, h => exact absurd h (by omega)
  have hra := (hKX.2.2.1.2 _ _ (at_tys (G := G) (show t < 4 by omega))).2
  rw [hat] at hra
  obtain ⟨_, _, -, -, -, hf2⟩ := hra
  have e : cA = G.2.2.2 (4 + t) := Option.some.inj (hfind.symm.trans hf2)
  have hRP : RP G s (am_mk σ (4, n.toNat, t) n.toNat) (H.push { cls := cA, slots := Array.replicate n.toNat .null, vm := .none }) locs := by
    refine hR.mk hc.1 (by simp) (fun q hq => by rw [Array.getElem?_push, if_neg (by omega)]) ?_
    rw [el_4 (by rw [m1]), m1]
    show (H.push _)[G.2.1.1 + σ.1]? = some (arrV (G.2.2.2 (4 + t)) n.toNat (fun j => va_rf (Option.map (g_ad G) ((am_mk σ (4, n.toNat, t) n.toNat).2.2.2.1 σ.1 j))))
    rw [← hsz, arrV_new, Array.getElem?_push, if_pos rfl, e]
    refine congrArg some (congrArg (arrV _ _) (funext fun q => ?_))
    rw [m3]; rfl
  have hK := kk _ locs ls hL (nvs_c (v := .inr (.inr (some σ.1))) trivial (nvs_t hst)) hRP (by show n0 ≤ σ.1 + 1; omega) (by show w0 ≤ σ.2.1 + n.toNat; omega)
  have e1 : (am_mk σ (4, n.toNat, t) n.toNat).1 - n0 = σ.1 - n0 + 1 := by show σ.1 + 1 - n0 = _; omega
  have e2 : (am_mk σ (4, n.toNat, t) n.toNat).2.1 - w0 = σ.2.1 - w0 + n.toNat := by show σ.2.1 + n.toNat - w0 = _; omega
  rw [e1, e2] at hK
  simp only [List.map_cons, cv, g_adk (show σ.1 < 1000 by omega), ← hsz] at hK
  exact hK
end SN
