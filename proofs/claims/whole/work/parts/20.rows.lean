/-! rows for symbolic runs, written by wip/whole/gen20.py -/
/-- symbolic runs that stop at the program counters of c -/
def sz (c : List Nat) : Nat → Nat → Nat → LV → List AV → ST → (Option AV → ST → Prop) → Prop
  | 0, y, pc, L, st, σ, Φ => wpS y pc L st σ Φ
  | n + 1, y, pc, L, st, σ, Φ => if pc ∈ c then wpS y pc L st σ Φ else am_nx (fun pc' L' st' σ' => sz c n y pc' L' st' σ' Φ) y pc L st σ Φ
theorem sz_iff (c : List Nat) : ∀ (n : Nat) {y pc : Nat} {L : LV} {st : List AV} {σ : ST} {Φ : Option AV → ST → Prop}, wpS y pc L st σ Φ ↔ sz c n y pc L st σ Φ
  | 0, _, _, _, _, _, _ => Iff.rfl
  | n + 1, y, pc, L, st, σ, Φ => by
    rw [sz]
    by_cases h : pc ∈ c
    · rw [if_pos h]
    · rw [if_neg h, wpS_nx]
      have e : (fun pc' L' st' σ' => wpS y pc' L' st' σ' Φ) = (fun pc' L' st' σ' => sz c n y pc' L' st' σ' Φ) := by
        funext a b d f
        exact propext (sz_iff c n)
      rw [e]
def kx (c : List Nat) (q : Option NX) (n y : Nat) (Φ : Option AV → ST → Prop) : Prop := match q with
  | none => False
  | some (pc, L, st, σ) => sz c n y pc L st σ Φ
def cx (c : List Nat) (n y pc : Nat) (L : LV) (rest : List AV) (Φ : Option AV → ST → Prop) : Option AV → ST → Prop := fun rv σ' => sz c n y pc L (rv.toList ++ rest) σ' Φ
def hx (c : List Nat) (am : Instr) (len : Nat) (q : Option CT) (n y pc : Nat) (L : LV) (st : List AV) (σ : ST) (Φ : Option AV → ST → Prop) : Prop := match q with
  | none => False
  | some (.inl r) => Φ r σ
  | some (.inr (.inl (z, as, rest))) => wpM z as σ (cx c n y (pc + len) L rest Φ)
  | some (.inr (.inr (.inl (cd, t, r)))) => if cd = true then sz c n y t L r σ Φ else sz c n y (pc + len) L r σ Φ
  | some (.inr (.inr (.inr _))) => kx c (am_step am (pc + len) L st σ) n y Φ
def gx (c : List Nat) (q : Option (Instr × Nat × Nat × Nat)) (n y pc : Nat) (L : LV) (st : List AV) (σ : ST) (Φ : Option AV → ST → Prop) : Prop := match q with
  | none => False
  | some (am, len, _, _) => hx c am len (am_ctl y am st σ) n y pc L st σ Φ
theorem gx_nx (c : List Nat) (n y pc : Nat) (L : LV) (st : List AV) (σ : ST) (Φ : Option AV → ST → Prop) : am_nx (fun pc' L' st' σ' => sz c n y pc' L' st' σ' Φ) y pc L st σ Φ = gx c (am_code y pc) n y pc L st σ Φ := by
  unfold am_nx gx hx kx cx
  rfl
/-- the first instruction is done, also at a stop -/
theorem s1_iff (c : List Nat) (n : Nat) {y pc : Nat} {L : LV} {st : List AV} {σ : ST} {Φ : Option AV → ST → Prop} : wpS y pc L st σ Φ ↔ gx c (am_code y pc) n y pc L st σ Φ := by
  rw [← gx_nx, wpS_nx]
  have e : (fun pc' L' st' σ' => wpS y pc' L' st' σ' Φ) = (fun pc' L' st' σ' => sz c n y pc' L' st' σ' Φ) := by
    funext a b d f
    exact propext (sz_iff c n)
  rw [e]
theorem sz_s (c : List Nat) (n y pc : Nat) (L : LV) (st : List AV) (σ : ST) (Φ : Option AV → ST → Prop) : sz c (n + 1) y pc L st σ Φ = if pc ∈ c then wpS y pc L st σ Φ else gx c (am_code y pc) n y pc L st σ Φ := by
  rw [sz, gx_nx]
theorem sz_0 (c : List Nat) (y pc : Nat) (L : LV) (st : List AV) (σ : ST) (Φ : Option AV → ST → Prop) : sz c 0 y pc L st σ Φ = wpS y pc L st σ Φ := rfl
theorem gx_s (c : List Nat) (am : Instr) (len wa wb n y pc : Nat) (L : LV) (st : List AV) (σ : ST) (Φ : Option AV → ST → Prop) : gx c (some (am, len, wa, wb)) n y pc L st σ Φ = hx c am len (am_ctl y am st σ) n y pc L st σ Φ := rfl
theorem hx_r (c : List Nat) (am : Instr) (len : Nat) (r : Option AV) (n y pc : Nat) (L : LV) (st : List AV) (σ : ST) (Φ : Option AV → ST → Prop) : hx c am len (some (.inl r)) n y pc L st σ Φ = Φ r σ := rfl
theorem hx_c (c : List Nat) (am : Instr) (len z : Nat) (as rest : List AV) (n y pc : Nat) (L : LV) (st : List AV) (σ : ST) (Φ : Option AV → ST → Prop) : hx c am len (some (.inr (.inl (z, as, rest)))) n y pc L st σ Φ = wpM z as σ (cx c n y (pc + len) L rest Φ) := rfl
theorem hx_b (c : List Nat) (am : Instr) (len : Nat) (cd : Bool) (t : Nat) (r : List AV) (n y pc : Nat) (L : LV) (st : List AV) (σ : ST) (Φ : Option AV → ST → Prop) : hx c am len (some (.inr (.inr (.inl (cd, t, r))))) n y pc L st σ Φ = if cd = true then sz c n y t L r σ Φ else sz c n y (pc + len) L r σ Φ := rfl
theorem hx_s (c : List Nat) (am : Instr) (len : Nat) (u : Unit) (n y pc : Nat) (L : LV) (st : List AV) (σ : ST) (Φ : Option AV → ST → Prop) : hx c am len (some (.inr (.inr (.inr u)))) n y pc L st σ Φ = kx c (am_step am (pc + len) L st σ) n y Φ := rfl
theorem hx_i (c : List Nat) (am : Instr) (len : Nat) (d : Prop) [Decidable d] (a b : Option CT) (n y pc : Nat) (L : LV) (st : List AV) (σ : ST) (Φ : Option AV → ST → Prop) : hx c am len (if d then a else b) n y pc L st σ Φ = if d then hx c am len a n y pc L st σ Φ else hx c am len b n y pc L st σ Φ := by split <;> rfl
theorem hx_n (c : List Nat) (am : Instr) (len : Nat) (n y pc : Nat) (L : LV) (st : List AV) (σ : ST) (Φ : Option AV → ST → Prop) : hx c am len none n y pc L st σ Φ = False := rfl
theorem kx_s (c : List Nat) (pc : Nat) (L : LV) (st : List AV) (σ : ST) (n y : Nat) (Φ : Option AV → ST → Prop) : kx c (some (pc, L, st, σ)) n y Φ = sz c n y pc L st σ Φ := rfl
theorem kx_n (c : List Nat) (n y : Nat) (Φ : Option AV → ST → Prop) : kx c none n y Φ = False := rfl
theorem kx_i (c : List Nat) (d : Prop) [Decidable d] (a b : Option NX) (n y : Nat) (Φ : Option AV → ST → Prop) : kx c (if d then a else b) n y Φ = if d then kx c a n y Φ else kx c b n y Φ := by split <;> rfl
theorem cx_d (c : List Nat) (n y pc : Nat) (L : LV) (rest : List AV) (Φ : Option AV → ST → Prop) (rv : Option AV) (σ : ST) : cx c n y pc L rest Φ rv σ = sz c n y pc L (rv.toList ++ rest) σ Φ := rfl
theorem up_at {α : Type} (f : Nat → Nat → α) (a i : Nat) (v : α) (b j : Nat) : am_up f a i v b j = if b = a ∧ j = i then v else f b j := rfl
theorem row_at {α : Type} (f : Nat → Nat → α) (a : Nat) (g : Nat → α) (b j : Nat) : am_row f a g b j = if b = a then g j else f b j := rfl
theorem cc_1 (pc : Nat) : am_code 1 pc = if pc < 2 then ac_1 pc else none := by
  unfold am_code am_len am_tree
  simp
theorem cc_3 (pc : Nat) : am_code 3 pc = if pc < 11 then ac_3 pc else none := by
  unfold am_code am_len am_tree
  simp
theorem cc_4 (pc : Nat) : am_code 4 pc = if pc < 70 then ac_4 pc else none := by
  unfold am_code am_len am_tree
  simp
theorem cc_5 (pc : Nat) : am_code 5 pc = if pc < 40 then ac_5 pc else none := by
  unfold am_code am_len am_tree
  simp
theorem cc_7 (pc : Nat) : am_code 7 pc = if pc < 2 then ac_7 pc else none := by
  unfold am_code am_len am_tree
  simp
theorem cc_9 (pc : Nat) : am_code 9 pc = if pc < 6 then ac_9 pc else none := by
  unfold am_code am_len am_tree
  simp
theorem cc_10 (pc : Nat) : am_code 10 pc = if pc < 2 then ac_10 pc else none := by
  unfold am_code am_len am_tree
  simp
theorem cc_11 (pc : Nat) : am_code 11 pc = if pc < 27 then ac_11 pc else none := by
  unfold am_code am_len am_tree
  simp
theorem cc_13 (pc : Nat) : am_code 13 pc = if pc < 34 then ac_13 pc else none := by
  unfold am_code am_len am_tree
  simp
theorem cc_14 (pc : Nat) : am_code 14 pc = if pc < 131 then ac_14 pc else none := by
  unfold am_code am_len am_tree
  simp
theorem cc_15 (pc : Nat) : am_code 15 pc = if pc < 70 then ac_15 pc else none := by
  unfold am_code am_len am_tree
  simp
theorem cc_16 (pc : Nat) : am_code 16 pc = if pc < 12 then ac_16 pc else none := by
  unfold am_code am_len am_tree
  simp
theorem cc_17 (pc : Nat) : am_code 17 pc = if pc < 76 then ac_17 pc else none := by
  unfold am_code am_len am_tree
  simp
theorem cc_18 (pc : Nat) : am_code 18 pc = if pc < 12 then ac_18 pc else none := by
  unfold am_code am_len am_tree
  simp
theorem cc_19 (pc : Nat) : am_code 19 pc = if pc < 16 then ac_19 pc else none := by
  unfold am_code am_len am_tree
  simp
theorem cc_20 (pc : Nat) : am_code 20 pc = if pc < 29 then ac_20 pc else none := by
  unfold am_code am_len am_tree
  simp
theorem cc_21 (pc : Nat) : am_code 21 pc = if pc < 29 then ac_21 pc else none := by
  unfold am_code am_len am_tree
  simp
theorem cc_22 (pc : Nat) : am_code 22 pc = if pc < 29 then ac_22 pc else none := by
  unfold am_code am_len am_tree
  simp
theorem cc_23 (pc : Nat) : am_code 23 pc = if pc < 21 then ac_23 pc else none := by
  unfold am_code am_len am_tree
  simp
theorem cc_24 (pc : Nat) : am_code 24 pc = if pc < 34 then ac_24 pc else none := by
  unfold am_code am_len am_tree
  simp
theorem cc_25 (pc : Nat) : am_code 25 pc = if pc < 26 then ac_25 pc else none := by
  unfold am_code am_len am_tree
  simp
theorem cc_26 (pc : Nat) : am_code 26 pc = if pc < 17 then ac_26 pc else none := by
  unfold am_code am_len am_tree
  simp
theorem cc_27 (pc : Nat) : am_code 27 pc = if pc < 43 then ac_27 pc else none := by
  unfold am_code am_len am_tree
  simp
theorem cc_28 (pc : Nat) : am_code 28 pc = if pc < 26 then ac_28 pc else none := by
  unfold am_code am_len am_tree
  simp
theorem cc_29 (pc : Nat) : am_code 29 pc = if pc < 39 then ac_29 pc else none := by
  unfold am_code am_len am_tree
  simp
theorem cc_30 (pc : Nat) : am_code 30 pc = if pc < 29 then ac_30 pc else none := by
  unfold am_code am_len am_tree
  simp
theorem cc_31 (pc : Nat) : am_code 31 pc = if pc < 29 then ac_31 pc else none := by
  unfold am_code am_len am_tree
  simp
theorem cc_32 (pc : Nat) : am_code 32 pc = if pc < 34 then ac_32 pc else none := by
  unfold am_code am_len am_tree
  simp
theorem cc_33 (pc : Nat) : am_code 33 pc = if pc < 34 then ac_33 pc else none := by
  unfold am_code am_len am_tree
  simp
theorem cc_34 (pc : Nat) : am_code 34 pc = if pc < 46 then ac_34 pc else none := by
  unfold am_code am_len am_tree
  simp
theorem cc_35 (pc : Nat) : am_code 35 pc = if pc < 11 then ac_35 pc else none := by
  unfold am_code am_len am_tree
  simp
theorem cc_36 (pc : Nat) : am_code 36 pc = if pc < 170 then ac_36 pc else none := by
  unfold am_code am_len am_tree
  simp
theorem cc_38 (pc : Nat) : am_code 38 pc = if pc < 51 then ac_38 pc else none := by
  unfold am_code am_len am_tree
  simp
theorem cc_39 (pc : Nat) : am_code 39 pc = if pc < 9 then ac_39 pc else none := by
  unfold am_code am_len am_tree
  simp
theorem cc_40 (pc : Nat) : am_code 40 pc = if pc < 34 then ac_40 pc else none := by
  unfold am_code am_len am_tree
  simp
theorem cc_41 (pc : Nat) : am_code 41 pc = if pc < 82 then ac_41 pc else none := by
  unfold am_code am_len am_tree
  simp
theorem cc_42 (pc : Nat) : am_code 42 pc = if pc < 86 then ac_42 pc else none := by
  unfold am_code am_len am_tree
  simp
theorem cc_43 (pc : Nat) : am_code 43 pc = if pc < 7 then ac_43 pc else none := by
  unfold am_code am_len am_tree
  simp
theorem cc_44 (pc : Nat) : am_code 44 pc = if pc < 34 then ac_44 pc else none := by
  unfold am_code am_len am_tree
  simp
theorem cc_45 (pc : Nat) : am_code 45 pc = if pc < 117 then ac_45 pc else none := by
  unfold am_code am_len am_tree
  simp
theorem cc_46 (pc : Nat) : am_code 46 pc = if pc < 77 then ac_46 pc else none := by
  unfold am_code am_len am_tree
  simp
theorem cc_47 (pc : Nat) : am_code 47 pc = if pc < 74 then ac_47 pc else none := by
  unfold am_code am_len am_tree
  simp
theorem cc_48 (pc : Nat) : am_code 48 pc = if pc < 62 then ac_48 pc else none := by
  unfold am_code am_len am_tree
  simp
theorem cc_50 (pc : Nat) : am_code 50 pc = if pc < 12 then ac_50 pc else none := by
  unfold am_code am_len am_tree
  simp
theorem cc_51 (pc : Nat) : am_code 51 pc = if pc < 14 then ac_51 pc else none := by
  unfold am_code am_len am_tree
  simp
theorem cc_53 (pc : Nat) : am_code 53 pc = if pc < 12 then ac_53 pc else none := by
  unfold am_code am_len am_tree
  simp
theorem cc_54 (pc : Nat) : am_code 54 pc = if pc < 18 then ac_54 pc else none := by
  unfold am_code am_len am_tree
  simp
theorem cc_56 (pc : Nat) : am_code 56 pc = if pc < 14 then ac_56 pc else none := by
  unfold am_code am_len am_tree
  simp
theorem cc_57 (pc : Nat) : am_code 57 pc = if pc < 14 then ac_57 pc else none := by
  unfold am_code am_len am_tree
  simp
theorem cc_58 (pc : Nat) : am_code 58 pc = if pc < 28 then ac_58 pc else none := by
  unfold am_code am_len am_tree
  simp
theorem cc_59 (pc : Nat) : am_code 59 pc = if pc < 33 then ac_59 pc else none := by
  unfold am_code am_len am_tree
  simp
theorem cc_60 (pc : Nat) : am_code 60 pc = if pc < 47 then ac_60 pc else none := by
  unfold am_code am_len am_tree
  simp
theorem cc_62 (pc : Nat) : am_code 62 pc = if pc < 13 then ac_62 pc else none := by
  unfold am_code am_len am_tree
  simp
theorem cc_63 (pc : Nat) : am_code 63 pc = if pc < 18 then ac_63 pc else none := by
  unfold am_code am_len am_tree
  simp
theorem cc_64 (pc : Nat) : am_code 64 pc = if pc < 11 then ac_64 pc else none := by
  unfold am_code am_len am_tree
  simp
theorem cc_66 (pc : Nat) : am_code 66 pc = if pc < 119 then ac_66 pc else none := by
  unfold am_code am_len am_tree
  simp
theorem cc_67 (pc : Nat) : am_code 67 pc = if pc < 67 then ac_67 pc else none := by
  unfold am_code am_len am_tree
  simp
theorem cc_68 (pc : Nat) : am_code 68 pc = if pc < 72 then ac_68 pc else none := by
  unfold am_code am_len am_tree
  simp
theorem cc_69 (pc : Nat) : am_code 69 pc = if pc < 72 then ac_69 pc else none := by
  unfold am_code am_len am_tree
  simp
theorem cc_70 (pc : Nat) : am_code 70 pc = if pc < 30 then ac_70 pc else none := by
  unfold am_code am_len am_tree
  simp
theorem cc_71 (pc : Nat) : am_code 71 pc = if pc < 22 then ac_71 pc else none := by
  unfold am_code am_len am_tree
  simp
theorem cc_72 (pc : Nat) : am_code 72 pc = if pc < 72 then ac_72 pc else none := by
  unfold am_code am_len am_tree
  simp
theorem cc_73 (pc : Nat) : am_code 73 pc = if pc < 63 then ac_73 pc else none := by
  unfold am_code am_len am_tree
  simp
theorem cc_74 (pc : Nat) : am_code 74 pc = if pc < 7 then ac_74 pc else none := by
  unfold am_code am_len am_tree
  simp
theorem cc_75 (pc : Nat) : am_code 75 pc = if pc < 8 then ac_75 pc else none := by
  unfold am_code am_len am_tree
  simp
theorem cc_76 (pc : Nat) : am_code 76 pc = if pc < 67 then ac_76 pc else none := by
  unfold am_code am_len am_tree
  simp
theorem cc_77 (pc : Nat) : am_code 77 pc = if pc < 100 then ac_77 pc else none := by
  unfold am_code am_len am_tree
  simp
theorem cc_79 (pc : Nat) : am_code 79 pc = if pc < 24 then ac_79 pc else none := by
  unfold am_code am_len am_tree
  simp
theorem cc_80 (pc : Nat) : am_code 80 pc = if pc < 29 then ac_80 pc else none := by
  unfold am_code am_len am_tree
  simp
theorem cc_81 (pc : Nat) : am_code 81 pc = if pc < 59 then ac_81 pc else none := by
  unfold am_code am_len am_tree
  simp
theorem cc_82 (pc : Nat) : am_code 82 pc = if pc < 41 then ac_82 pc else none := by
  unfold am_code am_len am_tree
  simp
theorem cc_83 (pc : Nat) : am_code 83 pc = if pc < 126 then ac_83 pc else none := by
  unfold am_code am_len am_tree
  simp
theorem cc_84 (pc : Nat) : am_code 84 pc = if pc < 88 then ac_84 pc else none := by
  unfold am_code am_len am_tree
  simp
theorem cc_85 (pc : Nat) : am_code 85 pc = if pc < 24 then ac_85 pc else none := by
  unfold am_code am_len am_tree
  simp
theorem cc_86 (pc : Nat) : am_code 86 pc = if pc < 75 then ac_86 pc else none := by
  unfold am_code am_len am_tree
  simp
theorem cc_87 (pc : Nat) : am_code 87 pc = if pc < 38 then ac_87 pc else none := by
  unfold am_code am_len am_tree
  simp
theorem cc_88 (pc : Nat) : am_code 88 pc = if pc < 100 then ac_88 pc else none := by
  unfold am_code am_len am_tree
  simp
theorem cc_89 (pc : Nat) : am_code 89 pc = if pc < 39 then ac_89 pc else none := by
  unfold am_code am_len am_tree
  simp
theorem cc_90 (pc : Nat) : am_code 90 pc = if pc < 211 then ac_90 pc else none := by
  unfold am_code am_len am_tree
  simp
theorem cc_91 (pc : Nat) : am_code 91 pc = if pc < 28 then ac_91 pc else none := by
  unfold am_code am_len am_tree
  simp
theorem cc_92 (pc : Nat) : am_code 92 pc = if pc < 43 then ac_92 pc else none := by
  unfold am_code am_len am_tree
  simp
theorem cc_93 (pc : Nat) : am_code 93 pc = if pc < 89 then ac_93 pc else none := by
  unfold am_code am_len am_tree
  simp
theorem cc_94 (pc : Nat) : am_code 94 pc = if pc < 47 then ac_94 pc else none := by
  unfold am_code am_len am_tree
  simp
theorem cc_95 (pc : Nat) : am_code 95 pc = if pc < 39 then ac_95 pc else none := by
  unfold am_code am_len am_tree
  simp
theorem cc_96 (pc : Nat) : am_code 96 pc = if pc < 39 then ac_96 pc else none := by
  unfold am_code am_len am_tree
  simp
theorem cc_97 (pc : Nat) : am_code 97 pc = if pc < 63 then ac_97 pc else none := by
  unfold am_code am_len am_tree
  simp
theorem cc_98 (pc : Nat) : am_code 98 pc = if pc < 224 then ac_98 pc else none := by
  unfold am_code am_len am_tree
  simp
theorem cc_99 (pc : Nat) : am_code 99 pc = if pc < 54 then ac_99 pc else none := by
  unfold am_code am_len am_tree
  simp
theorem cc_100 (pc : Nat) : am_code 100 pc = if pc < 56 then ac_100 pc else none := by
  unfold am_code am_len am_tree
  simp
theorem cc_101 (pc : Nat) : am_code 101 pc = if pc < 45 then ac_101 pc else none := by
  unfold am_code am_len am_tree
  simp
theorem cc_102 (pc : Nat) : am_code 102 pc = if pc < 39 then ac_102 pc else none := by
  unfold am_code am_len am_tree
  simp
theorem cc_103 (pc : Nat) : am_code 103 pc = if pc < 41 then ac_103 pc else none := by
  unfold am_code am_len am_tree
  simp
theorem cc_104 (pc : Nat) : am_code 104 pc = if pc < 58 then ac_104 pc else none := by
  unfold am_code am_len am_tree
  simp
theorem cc_105 (pc : Nat) : am_code 105 pc = if pc < 76 then ac_105 pc else none := by
  unfold am_code am_len am_tree
  simp
theorem cc_106 (pc : Nat) : am_code 106 pc = if pc < 75 then ac_106 pc else none := by
  unfold am_code am_len am_tree
  simp
theorem cc_107 (pc : Nat) : am_code 107 pc = if pc < 67 then ac_107 pc else none := by
  unfold am_code am_len am_tree
  simp
theorem cc_108 (pc : Nat) : am_code 108 pc = if pc < 43 then ac_108 pc else none := by
  unfold am_code am_len am_tree
  simp
theorem cc_109 (pc : Nat) : am_code 109 pc = if pc < 106 then ac_109 pc else none := by
  unfold am_code am_len am_tree
  simp
theorem cc_110 (pc : Nat) : am_code 110 pc = if pc < 54 then ac_110 pc else none := by
  unfold am_code am_len am_tree
  simp
theorem cc_111 (pc : Nat) : am_code 111 pc = if pc < 115 then ac_111 pc else none := by
  unfold am_code am_len am_tree
  simp
theorem cc_112 (pc : Nat) : am_code 112 pc = if pc < 38 then ac_112 pc else none := by
  unfold am_code am_len am_tree
  simp
theorem cc_113 (pc : Nat) : am_code 113 pc = if pc < 38 then ac_113 pc else none := by
  unfold am_code am_len am_tree
  simp
theorem cc_114 (pc : Nat) : am_code 114 pc = if pc < 97 then ac_114 pc else none := by
  unfold am_code am_len am_tree
  simp
theorem cc_115 (pc : Nat) : am_code 115 pc = if pc < 68 then ac_115 pc else none := by
  unfold am_code am_len am_tree
  simp
theorem cc_116 (pc : Nat) : am_code 116 pc = if pc < 26 then ac_116 pc else none := by
  unfold am_code am_len am_tree
  simp
theorem cc_117 (pc : Nat) : am_code 117 pc = if pc < 40 then ac_117 pc else none := by
  unfold am_code am_len am_tree
  simp
theorem cc_118 (pc : Nat) : am_code 118 pc = if pc < 79 then ac_118 pc else none := by
  unfold am_code am_len am_tree
  simp
theorem cc_119 (pc : Nat) : am_code 119 pc = if pc < 24 then ac_119 pc else none := by
  unfold am_code am_len am_tree
  simp
theorem cc_120 (pc : Nat) : am_code 120 pc = if pc < 111 then ac_120 pc else none := by
  unfold am_code am_len am_tree
  simp
theorem cc_121 (pc : Nat) : am_code 121 pc = if pc < 113 then ac_121 pc else none := by
  unfold am_code am_len am_tree
  simp
theorem cc_122 (pc : Nat) : am_code 122 pc = if pc < 5 then ac_122 pc else none := by
  unfold am_code am_len am_tree
  simp
theorem cc_123 (pc : Nat) : am_code 123 pc = if pc < 5 then ac_123 pc else none := by
  unfold am_code am_len am_tree
  simp
theorem cc_124 (pc : Nat) : am_code 124 pc = if pc < 5 then ac_124 pc else none := by
  unfold am_code am_len am_tree
  simp
theorem cc_125 (pc : Nat) : am_code 125 pc = if pc < 126 then ac_125 pc else none := by
  unfold am_code am_len am_tree
  simp
theorem cc_126 (pc : Nat) : am_code 126 pc = if pc < 5 then ac_126 pc else none := by
  unfold am_code am_len am_tree
  simp
theorem cc_127 (pc : Nat) : am_code 127 pc = if pc < 19 then ac_127 pc else none := by
  unfold am_code am_len am_tree
  simp
theorem cc_128 (pc : Nat) : am_code 128 pc = if pc < 137 then ac_128 pc else none := by
  unfold am_code am_len am_tree
  simp
theorem cc_129 (pc : Nat) : am_code 129 pc = if pc < 15 then ac_129 pc else none := by
  unfold am_code am_len am_tree
  simp
theorem cc_130 (pc : Nat) : am_code 130 pc = if pc < 17 then ac_130 pc else none := by
  unfold am_code am_len am_tree
  simp
theorem cc_131 (pc : Nat) : am_code 131 pc = if pc < 23 then ac_131 pc else none := by
  unfold am_code am_len am_tree
  simp
theorem cc_132 (pc : Nat) : am_code 132 pc = if pc < 39 then ac_132 pc else none := by
  unfold am_code am_len am_tree
  simp
theorem cc_133 (pc : Nat) : am_code 133 pc = if pc < 18 then ac_133 pc else none := by
  unfold am_code am_len am_tree
  simp
theorem cc_134 (pc : Nat) : am_code 134 pc = if pc < 7 then ac_134 pc else none := by
  unfold am_code am_len am_tree
  simp
theorem cc_135 (pc : Nat) : am_code 135 pc = if pc < 23 then ac_135 pc else none := by
  unfold am_code am_len am_tree
  simp
theorem cc_136 (pc : Nat) : am_code 136 pc = if pc < 44 then ac_136 pc else none := by
  unfold am_code am_len am_tree
  simp
theorem cc_137 (pc : Nat) : am_code 137 pc = if pc < 29 then ac_137 pc else none := by
  unfold am_code am_len am_tree
  simp
theorem cc_138 (pc : Nat) : am_code 138 pc = if pc < 30 then ac_138 pc else none := by
  unfold am_code am_len am_tree
  simp
theorem cc_139 (pc : Nat) : am_code 139 pc = if pc < 28 then ac_139 pc else none := by
  unfold am_code am_len am_tree
  simp
theorem cc_140 (pc : Nat) : am_code 140 pc = if pc < 63 then ac_140 pc else none := by
  unfold am_code am_len am_tree
  simp
theorem cc_141 (pc : Nat) : am_code 141 pc = if pc < 50 then ac_141 pc else none := by
  unfold am_code am_len am_tree
  simp
theorem cc_142 (pc : Nat) : am_code 142 pc = if pc < 38 then ac_142 pc else none := by
  unfold am_code am_len am_tree
  simp
theorem cc_143 (pc : Nat) : am_code 143 pc = if pc < 85 then ac_143 pc else none := by
  unfold am_code am_len am_tree
  simp
theorem cc_144 (pc : Nat) : am_code 144 pc = if pc < 48 then ac_144 pc else none := by
  unfold am_code am_len am_tree
  simp
theorem cc_145 (pc : Nat) : am_code 145 pc = if pc < 41 then ac_145 pc else none := by
  unfold am_code am_len am_tree
  simp
theorem cc_146 (pc : Nat) : am_code 146 pc = if pc < 69 then ac_146 pc else none := by
  unfold am_code am_len am_tree
  simp
theorem cc_147 (pc : Nat) : am_code 147 pc = if pc < 40 then ac_147 pc else none := by
  unfold am_code am_len am_tree
  simp
theorem cc_148 (pc : Nat) : am_code 148 pc = if pc < 74 then ac_148 pc else none := by
  unfold am_code am_len am_tree
  simp
theorem cc_149 (pc : Nat) : am_code 149 pc = if pc < 12 then ac_149 pc else none := by
  unfold am_code am_len am_tree
  simp
theorem cc_150 (pc : Nat) : am_code 150 pc = if pc < 39 then ac_150 pc else none := by
  unfold am_code am_len am_tree
  simp
theorem cc_151 (pc : Nat) : am_code 151 pc = if pc < 41 then ac_151 pc else none := by
  unfold am_code am_len am_tree
  simp
theorem cc_152 (pc : Nat) : am_code 152 pc = if pc < 42 then ac_152 pc else none := by
  unfold am_code am_len am_tree
  simp
theorem cc_153 (pc : Nat) : am_code 153 pc = if pc < 58 then ac_153 pc else none := by
  unfold am_code am_len am_tree
  simp
theorem cc_154 (pc : Nat) : am_code 154 pc = if pc < 120 then ac_154 pc else none := by
  unfold am_code am_len am_tree
  simp
theorem cc_156 (pc : Nat) : am_code 156 pc = if pc < 19 then ac_156 pc else none := by
  unfold am_code am_len am_tree
  simp
theorem cc_157 (pc : Nat) : am_code 157 pc = if pc < 15 then ac_157 pc else none := by
  unfold am_code am_len am_tree
  simp
theorem cc_158 (pc : Nat) : am_code 158 pc = if pc < 11 then ac_158 pc else none := by
  unfold am_code am_len am_tree
  simp
theorem cc_159 (pc : Nat) : am_code 159 pc = if pc < 11 then ac_159 pc else none := by
  unfold am_code am_len am_tree
  simp
theorem cc_160 (pc : Nat) : am_code 160 pc = if pc < 18 then ac_160 pc else none := by
  unfold am_code am_len am_tree
  simp
theorem cc_161 (pc : Nat) : am_code 161 pc = if pc < 7 then ac_161 pc else none := by
  unfold am_code am_len am_tree
  simp
theorem cc_162 (pc : Nat) : am_code 162 pc = if pc < 60 then ac_162 pc else none := by
  unfold am_code am_len am_tree
  simp
theorem cc_163 (pc : Nat) : am_code 163 pc = if pc < 10 then ac_163 pc else none := by
  unfold am_code am_len am_tree
  simp
theorem cc_164 (pc : Nat) : am_code 164 pc = if pc < 10 then ac_164 pc else none := by
  unfold am_code am_len am_tree
  simp
theorem cc_165 (pc : Nat) : am_code 165 pc = if pc < 59 then ac_165 pc else none := by
  unfold am_code am_len am_tree
  simp
theorem cc_166 (pc : Nat) : am_code 166 pc = if pc < 37 then ac_166 pc else none := by
  unfold am_code am_len am_tree
  simp
theorem cc_167 (pc : Nat) : am_code 167 pc = if pc < 61 then ac_167 pc else none := by
  unfold am_code am_len am_tree
  simp
theorem cc_168 (pc : Nat) : am_code 168 pc = if pc < 47 then ac_168 pc else none := by
  unfold am_code am_len am_tree
  simp
theorem cc_169 (pc : Nat) : am_code 169 pc = if pc < 33 then ac_169 pc else none := by
  unfold am_code am_len am_tree
  simp
theorem cc_170 (pc : Nat) : am_code 170 pc = if pc < 178 then ac_170 pc else none := by
  unfold am_code am_len am_tree
  simp
theorem cc_171 (pc : Nat) : am_code 171 pc = if pc < 90 then ac_171 pc else none := by
  unfold am_code am_len am_tree
  simp
theorem cc_172 (pc : Nat) : am_code 172 pc = if pc < 60 then ac_172 pc else none := by
  unfold am_code am_len am_tree
  simp
theorem cc_173 (pc : Nat) : am_code 173 pc = if pc < 81 then ac_173 pc else none := by
  unfold am_code am_len am_tree
  simp
theorem cc_174 (pc : Nat) : am_code 174 pc = if pc < 62 then ac_174 pc else none := by
  unfold am_code am_len am_tree
  simp
theorem cc_175 (pc : Nat) : am_code 175 pc = if pc < 180 then ac_175 pc else none := by
  unfold am_code am_len am_tree
  simp
theorem cc_176 (pc : Nat) : am_code 176 pc = if pc < 32 then ac_176 pc else none := by
  unfold am_code am_len am_tree
  simp
theorem cc_177 (pc : Nat) : am_code 177 pc = if pc < 195 then ac_177 pc else none := by
  unfold am_code am_len am_tree
  simp
theorem cc_178 (pc : Nat) : am_code 178 pc = if pc < 16 then ac_178 pc else none := by
  unfold am_code am_len am_tree
  simp
theorem cc_179 (pc : Nat) : am_code 179 pc = if pc < 39 then ac_179 pc else none := by
  unfold am_code am_len am_tree
  simp
theorem cc_180 (pc : Nat) : am_code 180 pc = if pc < 39 then ac_180 pc else none := by
  unfold am_code am_len am_tree
  simp
theorem cc_181 (pc : Nat) : am_code 181 pc = if pc < 87 then ac_181 pc else none := by
  unfold am_code am_len am_tree
  simp
theorem cc_182 (pc : Nat) : am_code 182 pc = if pc < 35 then ac_182 pc else none := by
  unfold am_code am_len am_tree
  simp
theorem cc_183 (pc : Nat) : am_code 183 pc = if pc < 37 then ac_183 pc else none := by
  unfold am_code am_len am_tree
  simp
theorem cc_184 (pc : Nat) : am_code 184 pc = if pc < 75 then ac_184 pc else none := by
  unfold am_code am_len am_tree
  simp
theorem cc_185 (pc : Nat) : am_code 185 pc = if pc < 37 then ac_185 pc else none := by
  unfold am_code am_len am_tree
  simp
theorem cc_186 (pc : Nat) : am_code 186 pc = if pc < 37 then ac_186 pc else none := by
  unfold am_code am_len am_tree
  simp
theorem cc_187 (pc : Nat) : am_code 187 pc = if pc < 31 then ac_187 pc else none := by
  unfold am_code am_len am_tree
  simp
theorem cc_188 (pc : Nat) : am_code 188 pc = if pc < 33 then ac_188 pc else none := by
  unfold am_code am_len am_tree
  simp
theorem cc_189 (pc : Nat) : am_code 189 pc = if pc < 31 then ac_189 pc else none := by
  unfold am_code am_len am_tree
  simp
theorem cc_190 (pc : Nat) : am_code 190 pc = if pc < 160 then ac_190 pc else none := by
  unfold am_code am_len am_tree
  simp
theorem cc_191 (pc : Nat) : am_code 191 pc = if pc < 30 then ac_191 pc else none := by
  unfold am_code am_len am_tree
  simp
theorem cc_192 (pc : Nat) : am_code 192 pc = if pc < 118 then ac_192 pc else none := by
  unfold am_code am_len am_tree
  simp
theorem cc_193 (pc : Nat) : am_code 193 pc = if pc < 42 then ac_193 pc else none := by
  unfold am_code am_len am_tree
  simp
theorem cc_194 (pc : Nat) : am_code 194 pc = if pc < 35 then ac_194 pc else none := by
  unfold am_code am_len am_tree
  simp
theorem cc_195 (pc : Nat) : am_code 195 pc = if pc < 39 then ac_195 pc else none := by
  unfold am_code am_len am_tree
  simp
theorem cc_196 (pc : Nat) : am_code 196 pc = if pc < 62 then ac_196 pc else none := by
  unfold am_code am_len am_tree
  simp
theorem cc_197 (pc : Nat) : am_code 197 pc = if pc < 81 then ac_197 pc else none := by
  unfold am_code am_len am_tree
  simp
theorem cc_198 (pc : Nat) : am_code 198 pc = if pc < 69 then ac_198 pc else none := by
  unfold am_code am_len am_tree
  simp
theorem cc_199 (pc : Nat) : am_code 199 pc = if pc < 85 then ac_199 pc else none := by
  unfold am_code am_len am_tree
  simp
theorem cc_200 (pc : Nat) : am_code 200 pc = if pc < 56 then ac_200 pc else none := by
  unfold am_code am_len am_tree
  simp
theorem cc_201 (pc : Nat) : am_code 201 pc = if pc < 53 then ac_201 pc else none := by
  unfold am_code am_len am_tree
  simp
theorem cc_202 (pc : Nat) : am_code 202 pc = if pc < 93 then ac_202 pc else none := by
  unfold am_code am_len am_tree
  simp
theorem cc_203 (pc : Nat) : am_code 203 pc = if pc < 225 then ac_203 pc else none := by
  unfold am_code am_len am_tree
  simp
theorem cc_204 (pc : Nat) : am_code 204 pc = if pc < 75 then ac_204 pc else none := by
  unfold am_code am_len am_tree
  simp
theorem cc_205 (pc : Nat) : am_code 205 pc = if pc < 76 then ac_205 pc else none := by
  unfold am_code am_len am_tree
  simp
theorem cc_206 (pc : Nat) : am_code 206 pc = if pc < 61 then ac_206 pc else none := by
  unfold am_code am_len am_tree
  simp
theorem cc_207 (pc : Nat) : am_code 207 pc = if pc < 10 then ac_207 pc else none := by
  unfold am_code am_len am_tree
  simp
theorem cc_208 (pc : Nat) : am_code 208 pc = if pc < 73 then ac_208 pc else none := by
  unfold am_code am_len am_tree
  simp
theorem cc_209 (pc : Nat) : am_code 209 pc = if pc < 45 then ac_209 pc else none := by
  unfold am_code am_len am_tree
  simp
theorem cc_210 (pc : Nat) : am_code 210 pc = if pc < 80 then ac_210 pc else none := by
  unfold am_code am_len am_tree
  simp
theorem cc_211 (pc : Nat) : am_code 211 pc = if pc < 81 then ac_211 pc else none := by
  unfold am_code am_len am_tree
  simp
theorem cc_212 (pc : Nat) : am_code 212 pc = if pc < 71 then ac_212 pc else none := by
  unfold am_code am_len am_tree
  simp
theorem cc_213 (pc : Nat) : am_code 213 pc = if pc < 57 then ac_213 pc else none := by
  unfold am_code am_len am_tree
  simp
theorem cc_214 (pc : Nat) : am_code 214 pc = if pc < 345 then ac_214 pc else none := by
  unfold am_code am_len am_tree
  simp
theorem cc_215 (pc : Nat) : am_code 215 pc = if pc < 25 then ac_215 pc else none := by
  unfold am_code am_len am_tree
  simp
theorem cc_216 (pc : Nat) : am_code 216 pc = if pc < 67 then ac_216 pc else none := by
  unfold am_code am_len am_tree
  simp
theorem cc_217 (pc : Nat) : am_code 217 pc = if pc < 50 then ac_217 pc else none := by
  unfold am_code am_len am_tree
  simp
theorem cc_218 (pc : Nat) : am_code 218 pc = if pc < 104 then ac_218 pc else none := by
  unfold am_code am_len am_tree
  simp
theorem cc_219 (pc : Nat) : am_code 219 pc = if pc < 134 then ac_219 pc else none := by
  unfold am_code am_len am_tree
  simp
theorem cc_220 (pc : Nat) : am_code 220 pc = if pc < 124 then ac_220 pc else none := by
  unfold am_code am_len am_tree
  simp
theorem cc_221 (pc : Nat) : am_code 221 pc = if pc < 42 then ac_221 pc else none := by
  unfold am_code am_len am_tree
  simp
theorem cc_222 (pc : Nat) : am_code 222 pc = if pc < 22 then ac_222 pc else none := by
  unfold am_code am_len am_tree
  simp
theorem cc_223 (pc : Nat) : am_code 223 pc = if pc < 29 then ac_223 pc else none := by
  unfold am_code am_len am_tree
  simp
theorem cc_224 (pc : Nat) : am_code 224 pc = if pc < 50 then ac_224 pc else none := by
  unfold am_code am_len am_tree
  simp
theorem cc_225 (pc : Nat) : am_code 225 pc = if pc < 26 then ac_225 pc else none := by
  unfold am_code am_len am_tree
  simp
theorem cc_226 (pc : Nat) : am_code 226 pc = if pc < 110 then ac_226 pc else none := by
  unfold am_code am_len am_tree
  simp
theorem cc_227 (pc : Nat) : am_code 227 pc = if pc < 120 then ac_227 pc else none := by
  unfold am_code am_len am_tree
  simp
theorem cc_228 (pc : Nat) : am_code 228 pc = if pc < 114 then ac_228 pc else none := by
  unfold am_code am_len am_tree
  simp
theorem cc_229 (pc : Nat) : am_code 229 pc = if pc < 37 then ac_229 pc else none := by
  unfold am_code am_len am_tree
  simp
theorem cc_230 (pc : Nat) : am_code 230 pc = if pc < 120 then ac_230 pc else none := by
  unfold am_code am_len am_tree
  simp
theorem cc_231 (pc : Nat) : am_code 231 pc = if pc < 56 then ac_231 pc else none := by
  unfold am_code am_len am_tree
  simp
theorem cc_232 (pc : Nat) : am_code 232 pc = if pc < 86 then ac_232 pc else none := by
  unfold am_code am_len am_tree
  simp
theorem cc_233 (pc : Nat) : am_code 233 pc = if pc < 185 then ac_233 pc else none := by
  unfold am_code am_len am_tree
  simp
theorem cc_234 (pc : Nat) : am_code 234 pc = if pc < 119 then ac_234 pc else none := by
  unfold am_code am_len am_tree
  simp
theorem cc_235 (pc : Nat) : am_code 235 pc = if pc < 125 then ac_235 pc else none := by
  unfold am_code am_len am_tree
  simp
theorem cc_236 (pc : Nat) : am_code 236 pc = if pc < 226 then ac_236 pc else none := by
  unfold am_code am_len am_tree
  simp
theorem cc_237 (pc : Nat) : am_code 237 pc = if pc < 105 then ac_237 pc else none := by
  unfold am_code am_len am_tree
  simp
theorem cc_238 (pc : Nat) : am_code 238 pc = if pc < 177 then ac_238 pc else none := by
  unfold am_code am_len am_tree
  simp
theorem cc_239 (pc : Nat) : am_code 239 pc = if pc < 5 then ac_239 pc else none := by
  unfold am_code am_len am_tree
  simp
theorem cc_240 (pc : Nat) : am_code 240 pc = if pc < 5 then ac_240 pc else none := by
  unfold am_code am_len am_tree
  simp
theorem cc_241 (pc : Nat) : am_code 241 pc = if pc < 5 then ac_241 pc else none := by
  unfold am_code am_len am_tree
  simp
theorem cc_242 (pc : Nat) : am_code 242 pc = if pc < 51 then ac_242 pc else none := by
  unfold am_code am_len am_tree
  simp
theorem cc_243 (pc : Nat) : am_code 243 pc = if pc < 45 then ac_243 pc else none := by
  unfold am_code am_len am_tree
  simp
theorem cc_244 (pc : Nat) : am_code 244 pc = if pc < 114 then ac_244 pc else none := by
  unfold am_code am_len am_tree
  simp
theorem cc_245 (pc : Nat) : am_code 245 pc = if pc < 5 then ac_245 pc else none := by
  unfold am_code am_len am_tree
  simp
theorem cc_246 (pc : Nat) : am_code 246 pc = if pc < 23 then ac_246 pc else none := by
  unfold am_code am_len am_tree
  simp
theorem cc_247 (pc : Nat) : am_code 247 pc = if pc < 15 then ac_247 pc else none := by
  unfold am_code am_len am_tree
  simp
theorem cc_248 (pc : Nat) : am_code 248 pc = if pc < 357 then ac_248 pc else none := by
  unfold am_code am_len am_tree
  simp
theorem cc_249 (pc : Nat) : am_code 249 pc = if pc < 21 then ac_249 pc else none := by
  unfold am_code am_len am_tree
  simp
theorem cc_250 (pc : Nat) : am_code 250 pc = if pc < 11 then ac_250 pc else none := by
  unfold am_code am_len am_tree
  simp
theorem cc_251 (pc : Nat) : am_code 251 pc = if pc < 11 then ac_251 pc else none := by
  unfold am_code am_len am_tree
  simp
theorem cc_252 (pc : Nat) : am_code 252 pc = if pc < 11 then ac_252 pc else none := by
  unfold am_code am_len am_tree
  simp
theorem cc_253 (pc : Nat) : am_code 253 pc = if pc < 53 then ac_253 pc else none := by
  unfold am_code am_len am_tree
  simp
theorem cc_254 (pc : Nat) : am_code 254 pc = if pc < 1629 then ac_254 pc else none := by
  unfold am_code am_len am_tree
  simp
theorem nL_1 : am_L 1 = 4 := rfl
theorem np_1 : am_np 1 = 3 := rfl
theorem rb_1 : am_rb 1 = false := rfl
theorem nL_3 : am_L 3 = 1 := rfl
theorem np_3 : am_np 3 = 0 := rfl
theorem rb_3 : am_rb 3 = false := rfl
theorem nL_4 : am_L 4 = 5 := rfl
theorem np_4 : am_np 4 = 4 := rfl
theorem rb_4 : am_rb 4 = false := rfl
theorem nL_5 : am_L 5 = 1 := rfl
theorem np_5 : am_np 5 = 0 := rfl
theorem rb_5 : am_rb 5 = false := rfl
theorem nL_7 : am_L 7 = 1 := rfl
theorem np_7 : am_np 7 = 0 := rfl
theorem rb_7 : am_rb 7 = false := rfl
theorem nL_9 : am_L 9 = 4 := rfl
theorem np_9 : am_np 9 = 3 := rfl
theorem rb_9 : am_rb 9 = false := rfl
theorem nL_10 : am_L 10 = 1 := rfl
theorem np_10 : am_np 10 = 0 := rfl
theorem rb_10 : am_rb 10 = false := rfl
theorem nL_11 : am_L 11 = 6 := rfl
theorem np_11 : am_np 11 = 4 := rfl
theorem rb_11 : am_rb 11 = false := rfl
theorem nL_13 : am_L 13 = 1 := rfl
theorem np_13 : am_np 13 = 0 := rfl
theorem rb_13 : am_rb 13 = false := rfl
theorem nL_14 : am_L 14 = 2 := rfl
theorem np_14 : am_np 14 = 1 := rfl
theorem rb_14 : am_rb 14 = false := rfl
theorem nL_15 : am_L 15 = 5 := rfl
theorem np_15 : am_np 15 = 4 := rfl
theorem rb_15 : am_rb 15 = false := rfl
theorem nL_16 : am_L 16 = 2 := rfl
theorem np_16 : am_np 16 = 1 := rfl
theorem rb_16 : am_rb 16 = false := rfl
theorem nL_17 : am_L 17 = 3 := rfl
theorem np_17 : am_np 17 = 2 := rfl
theorem rb_17 : am_rb 17 = false := rfl
theorem nL_18 : am_L 18 = 3 := rfl
theorem np_18 : am_np 18 = 2 := rfl
theorem rb_18 : am_rb 18 = false := rfl
theorem nL_19 : am_L 19 = 4 := rfl
theorem np_19 : am_np 19 = 3 := rfl
theorem rb_19 : am_rb 19 = false := rfl
theorem nL_20 : am_L 20 = 4 := rfl
theorem np_20 : am_np 20 = 1 := rfl
theorem rb_20 : am_rb 20 = false := rfl
theorem nL_21 : am_L 21 = 4 := rfl
theorem np_21 : am_np 21 = 1 := rfl
theorem rb_21 : am_rb 21 = false := rfl
theorem nL_22 : am_L 22 = 4 := rfl
theorem np_22 : am_np 22 = 3 := rfl
theorem rb_22 : am_rb 22 = true := rfl
theorem nL_23 : am_L 23 = 4 := rfl
theorem np_23 : am_np 23 = 3 := rfl
theorem rb_23 : am_rb 23 = false := rfl
theorem nL_24 : am_L 24 = 2 := rfl
theorem np_24 : am_np 24 = 1 := rfl
theorem rb_24 : am_rb 24 = false := rfl
theorem nL_25 : am_L 25 = 3 := rfl
theorem np_25 : am_np 25 = 2 := rfl
theorem rb_25 : am_rb 25 = false := rfl
theorem nL_26 : am_L 26 = 2 := rfl
theorem np_26 : am_np 26 = 1 := rfl
theorem rb_26 : am_rb 26 = false := rfl
theorem nL_27 : am_L 27 = 5 := rfl
theorem np_27 : am_np 27 = 2 := rfl
theorem rb_27 : am_rb 27 = false := rfl
theorem nL_28 : am_L 28 = 4 := rfl
theorem np_28 : am_np 28 = 1 := rfl
theorem rb_28 : am_rb 28 = false := rfl
theorem nL_29 : am_L 29 = 4 := rfl
theorem np_29 : am_np 29 = 1 := rfl
theorem rb_29 : am_rb 29 = false := rfl
theorem nL_30 : am_L 30 = 3 := rfl
theorem np_30 : am_np 30 = 0 := rfl
theorem rb_30 : am_rb 30 = false := rfl
theorem nL_31 : am_L 31 = 3 := rfl
theorem np_31 : am_np 31 = 0 := rfl
theorem rb_31 : am_rb 31 = false := rfl
theorem nL_32 : am_L 32 = 3 := rfl
theorem np_32 : am_np 32 = 0 := rfl
theorem rb_32 : am_rb 32 = false := rfl
theorem nL_33 : am_L 33 = 3 := rfl
theorem np_33 : am_np 33 = 0 := rfl
theorem rb_33 : am_rb 33 = false := rfl
theorem nL_34 : am_L 34 = 2 := rfl
theorem np_34 : am_np 34 = 0 := rfl
theorem rb_34 : am_rb 34 = false := rfl
theorem nL_35 : am_L 35 = 3 := rfl
theorem np_35 : am_np 35 = 2 := rfl
theorem rb_35 : am_rb 35 = false := rfl
theorem nL_36 : am_L 36 = 7 := rfl
theorem np_36 : am_np 36 = 1 := rfl
theorem rb_36 : am_rb 36 = false := rfl
theorem nL_38 : am_L 38 = 3 := rfl
theorem np_38 : am_np 38 = 2 := rfl
theorem rb_38 : am_rb 38 = false := rfl
theorem nL_39 : am_L 39 = 1 := rfl
theorem np_39 : am_np 39 = 0 := rfl
theorem rb_39 : am_rb 39 = false := rfl
theorem nL_40 : am_L 40 = 4 := rfl
theorem np_40 : am_np 40 = 3 := rfl
theorem rb_40 : am_rb 40 = true := rfl
theorem nL_41 : am_L 41 = 4 := rfl
theorem np_41 : am_np 41 = 0 := rfl
theorem rb_41 : am_rb 41 = false := rfl
theorem nL_42 : am_L 42 = 4 := rfl
theorem np_42 : am_np 42 = 0 := rfl
theorem rb_42 : am_rb 42 = false := rfl
theorem nL_43 : am_L 43 = 1 := rfl
theorem np_43 : am_np 43 = 0 := rfl
theorem rb_43 : am_rb 43 = false := rfl
theorem nL_44 : am_L 44 = 3 := rfl
theorem np_44 : am_np 44 = 0 := rfl
theorem rb_44 : am_rb 44 = false := rfl
theorem nL_45 : am_L 45 = 4 := rfl
theorem np_45 : am_np 45 = 1 := rfl
theorem rb_45 : am_rb 45 = true := rfl
theorem nL_46 : am_L 46 = 5 := rfl
theorem np_46 : am_np 46 = 1 := rfl
theorem rb_46 : am_rb 46 = false := rfl
theorem nL_47 : am_L 47 = 3 := rfl
theorem np_47 : am_np 47 = 0 := rfl
theorem rb_47 : am_rb 47 = false := rfl
theorem nL_48 : am_L 48 = 4 := rfl
theorem np_48 : am_np 48 = 1 := rfl
theorem rb_48 : am_rb 48 = false := rfl
theorem nL_50 : am_L 50 = 4 := rfl
theorem np_50 : am_np 50 = 3 := rfl
theorem rb_50 : am_rb 50 = false := rfl
theorem nL_51 : am_L 51 = 4 := rfl
theorem np_51 : am_np 51 = 3 := rfl
theorem rb_51 : am_rb 51 = false := rfl
theorem nL_53 : am_L 53 = 2 := rfl
theorem np_53 : am_np 53 = 1 := rfl
theorem rb_53 : am_rb 53 = true := rfl
theorem nL_54 : am_L 54 = 4 := rfl
theorem np_54 : am_np 54 = 3 := rfl
theorem rb_54 : am_rb 54 = false := rfl
theorem nL_56 : am_L 56 = 1 := rfl
theorem np_56 : am_np 56 = 0 := rfl
theorem rb_56 : am_rb 56 = true := rfl
theorem nL_57 : am_L 57 = 3 := rfl
theorem np_57 : am_np 57 = 2 := rfl
theorem rb_57 : am_rb 57 = false := rfl
theorem nL_58 : am_L 58 = 3 := rfl
theorem np_58 : am_np 58 = 2 := rfl
theorem rb_58 : am_rb 58 = true := rfl
theorem nL_59 : am_L 59 = 3 := rfl
theorem np_59 : am_np 59 = 1 := rfl
theorem rb_59 : am_rb 59 = true := rfl
theorem nL_60 : am_L 60 = 6 := rfl
theorem np_60 : am_np 60 = 1 := rfl
theorem rb_60 : am_rb 60 = false := rfl
theorem nL_62 : am_L 62 = 2 := rfl
theorem np_62 : am_np 62 = 1 := rfl
theorem rb_62 : am_rb 62 = true := rfl
theorem nL_63 : am_L 63 = 5 := rfl
theorem np_63 : am_np 63 = 4 := rfl
theorem rb_63 : am_rb 63 = false := rfl
theorem nL_64 : am_L 64 = 2 := rfl
theorem np_64 : am_np 64 = 1 := rfl
theorem rb_64 : am_rb 64 = false := rfl
theorem nL_66 : am_L 66 = 5 := rfl
theorem np_66 : am_np 66 = 2 := rfl
theorem rb_66 : am_rb 66 = true := rfl
theorem nL_67 : am_L 67 = 2 := rfl
theorem np_67 : am_np 67 = 0 := rfl
theorem rb_67 : am_rb 67 = false := rfl
theorem nL_68 : am_L 68 = 2 := rfl
theorem np_68 : am_np 68 = 0 := rfl
theorem rb_68 : am_rb 68 = false := rfl
theorem nL_69 : am_L 69 = 7 := rfl
theorem np_69 : am_np 69 = 3 := rfl
theorem rb_69 : am_rb 69 = false := rfl
theorem nL_70 : am_L 70 = 3 := rfl
theorem np_70 : am_np 70 = 1 := rfl
theorem rb_70 : am_rb 70 = false := rfl
theorem nL_71 : am_L 71 = 2 := rfl
theorem np_71 : am_np 71 = 1 := rfl
theorem rb_71 : am_rb 71 = false := rfl
theorem nL_72 : am_L 72 = 7 := rfl
theorem np_72 : am_np 72 = 3 := rfl
theorem rb_72 : am_rb 72 = false := rfl
theorem nL_73 : am_L 73 = 5 := rfl
theorem np_73 : am_np 73 = 1 := rfl
theorem rb_73 : am_rb 73 = false := rfl
theorem nL_74 : am_L 74 = 2 := rfl
theorem np_74 : am_np 74 = 1 := rfl
theorem rb_74 : am_rb 74 = false := rfl
theorem nL_75 : am_L 75 = 2 := rfl
theorem np_75 : am_np 75 = 1 := rfl
theorem rb_75 : am_rb 75 = false := rfl
theorem nL_76 : am_L 76 = 4 := rfl
theorem np_76 : am_np 76 = 2 := rfl
theorem rb_76 : am_rb 76 = false := rfl
theorem nL_77 : am_L 77 = 6 := rfl
theorem np_77 : am_np 77 = 2 := rfl
theorem rb_77 : am_rb 77 = false := rfl
theorem nL_79 : am_L 79 = 3 := rfl
theorem np_79 : am_np 79 = 2 := rfl
theorem rb_79 : am_rb 79 = false := rfl
theorem nL_80 : am_L 80 = 5 := rfl
theorem np_80 : am_np 80 = 3 := rfl
theorem rb_80 : am_rb 80 = false := rfl
theorem nL_81 : am_L 81 = 4 := rfl
theorem np_81 : am_np 81 = 2 := rfl
theorem rb_81 : am_rb 81 = false := rfl
theorem nL_82 : am_L 82 = 2 := rfl
theorem np_82 : am_np 82 = 1 := rfl
theorem rb_82 : am_rb 82 = false := rfl
theorem nL_83 : am_L 83 = 6 := rfl
theorem np_83 : am_np 83 = 5 := rfl
theorem rb_83 : am_rb 83 = false := rfl
theorem nL_84 : am_L 84 = 6 := rfl
theorem np_84 : am_np 84 = 1 := rfl
theorem rb_84 : am_rb 84 = false := rfl
theorem nL_85 : am_L 85 = 3 := rfl
theorem np_85 : am_np 85 = 2 := rfl
theorem rb_85 : am_rb 85 = false := rfl
theorem nL_86 : am_L 86 = 6 := rfl
theorem np_86 : am_np 86 = 3 := rfl
theorem rb_86 : am_rb 86 = false := rfl
theorem nL_87 : am_L 87 = 2 := rfl
theorem np_87 : am_np 87 = 1 := rfl
theorem rb_87 : am_rb 87 = false := rfl
theorem nL_88 : am_L 88 = 3 := rfl
theorem np_88 : am_np 88 = 1 := rfl
theorem rb_88 : am_rb 88 = false := rfl
theorem nL_89 : am_L 89 = 3 := rfl
theorem np_89 : am_np 89 = 2 := rfl
theorem rb_89 : am_rb 89 = false := rfl
theorem nL_90 : am_L 90 = 7 := rfl
theorem np_90 : am_np 90 = 2 := rfl
theorem rb_90 : am_rb 90 = false := rfl
theorem nL_91 : am_L 91 = 3 := rfl
theorem np_91 : am_np 91 = 1 := rfl
theorem rb_91 : am_rb 91 = false := rfl
theorem nL_92 : am_L 92 = 4 := rfl
theorem np_92 : am_np 92 = 3 := rfl
theorem rb_92 : am_rb 92 = false := rfl
theorem nL_93 : am_L 93 = 4 := rfl
theorem np_93 : am_np 93 = 3 := rfl
theorem rb_93 : am_rb 93 = false := rfl
theorem nL_94 : am_L 94 = 3 := rfl
theorem np_94 : am_np 94 = 2 := rfl
theorem rb_94 : am_rb 94 = false := rfl
theorem nL_95 : am_L 95 = 2 := rfl
theorem np_95 : am_np 95 = 1 := rfl
theorem rb_95 : am_rb 95 = false := rfl
theorem nL_96 : am_L 96 = 2 := rfl
theorem np_96 : am_np 96 = 1 := rfl
theorem rb_96 : am_rb 96 = false := rfl
theorem nL_97 : am_L 97 = 2 := rfl
theorem np_97 : am_np 97 = 0 := rfl
theorem rb_97 : am_rb 97 = false := rfl
theorem nL_98 : am_L 98 = 5 := rfl
theorem np_98 : am_np 98 = 0 := rfl
theorem rb_98 : am_rb 98 = false := rfl
theorem nL_99 : am_L 99 = 2 := rfl
theorem np_99 : am_np 99 = 1 := rfl
theorem rb_99 : am_rb 99 = false := rfl
theorem nL_100 : am_L 100 = 2 := rfl
theorem np_100 : am_np 100 = 1 := rfl
theorem rb_100 : am_rb 100 = false := rfl
theorem nL_101 : am_L 101 = 2 := rfl
theorem np_101 : am_np 101 = 1 := rfl
theorem rb_101 : am_rb 101 = false := rfl
theorem nL_102 : am_L 102 = 2 := rfl
theorem np_102 : am_np 102 = 1 := rfl
theorem rb_102 : am_rb 102 = false := rfl
theorem nL_103 : am_L 103 = 3 := rfl
theorem np_103 : am_np 103 = 2 := rfl
theorem rb_103 : am_rb 103 = false := rfl
theorem nL_104 : am_L 104 = 5 := rfl
theorem np_104 : am_np 104 = 0 := rfl
theorem rb_104 : am_rb 104 = false := rfl
theorem nL_105 : am_L 105 = 3 := rfl
theorem np_105 : am_np 105 = 0 := rfl
theorem rb_105 : am_rb 105 = false := rfl
theorem nL_106 : am_L 106 = 6 := rfl
theorem np_106 : am_np 106 = 0 := rfl
theorem rb_106 : am_rb 106 = false := rfl
theorem nL_107 : am_L 107 = 3 := rfl
theorem np_107 : am_np 107 = 2 := rfl
theorem rb_107 : am_rb 107 = false := rfl
theorem nL_108 : am_L 108 = 3 := rfl
theorem np_108 : am_np 108 = 2 := rfl
theorem rb_108 : am_rb 108 = false := rfl
theorem nL_109 : am_L 109 = 5 := rfl
theorem np_109 : am_np 109 = 3 := rfl
theorem rb_109 : am_rb 109 = false := rfl
theorem nL_110 : am_L 110 = 3 := rfl
theorem np_110 : am_np 110 = 2 := rfl
theorem rb_110 : am_rb 110 = false := rfl
theorem nL_111 : am_L 111 = 6 := rfl
theorem np_111 : am_np 111 = 3 := rfl
theorem rb_111 : am_rb 111 = false := rfl
theorem nL_112 : am_L 112 = 3 := rfl
theorem np_112 : am_np 112 = 2 := rfl
theorem rb_112 : am_rb 112 = false := rfl
theorem nL_113 : am_L 113 = 2 := rfl
theorem np_113 : am_np 113 = 1 := rfl
theorem rb_113 : am_rb 113 = false := rfl
theorem nL_114 : am_L 114 = 5 := rfl
theorem np_114 : am_np 114 = 0 := rfl
theorem rb_114 : am_rb 114 = false := rfl
theorem nL_115 : am_L 115 = 5 := rfl
theorem np_115 : am_np 115 = 1 := rfl
theorem rb_115 : am_rb 115 = false := rfl
theorem nL_116 : am_L 116 = 4 := rfl
theorem np_116 : am_np 116 = 2 := rfl
theorem rb_116 : am_rb 116 = false := rfl
theorem nL_117 : am_L 117 = 4 := rfl
theorem np_117 : am_np 117 = 2 := rfl
theorem rb_117 : am_rb 117 = false := rfl
theorem nL_118 : am_L 118 = 5 := rfl
theorem np_118 : am_np 118 = 3 := rfl
theorem rb_118 : am_rb 118 = false := rfl
theorem nL_119 : am_L 119 = 4 := rfl
theorem np_119 : am_np 119 = 2 := rfl
theorem rb_119 : am_rb 119 = false := rfl
theorem nL_120 : am_L 120 = 4 := rfl
theorem np_120 : am_np 120 = 1 := rfl
theorem rb_120 : am_rb 120 = false := rfl
theorem nL_121 : am_L 121 = 8 := rfl
theorem np_121 : am_np 121 = 2 := rfl
theorem rb_121 : am_rb 121 = false := rfl
theorem nL_122 : am_L 122 = 1 := rfl
theorem np_122 : am_np 122 = 0 := rfl
theorem rb_122 : am_rb 122 = false := rfl
theorem nL_123 : am_L 123 = 1 := rfl
theorem np_123 : am_np 123 = 0 := rfl
theorem rb_123 : am_rb 123 = false := rfl
theorem nL_124 : am_L 124 = 1 := rfl
theorem np_124 : am_np 124 = 0 := rfl
theorem rb_124 : am_rb 124 = false := rfl
theorem nL_125 : am_L 125 = 2 := rfl
theorem np_125 : am_np 125 = 1 := rfl
theorem rb_125 : am_rb 125 = false := rfl
theorem nL_126 : am_L 126 = 1 := rfl
theorem np_126 : am_np 126 = 0 := rfl
theorem rb_126 : am_rb 126 = false := rfl
theorem nL_127 : am_L 127 = 2 := rfl
theorem np_127 : am_np 127 = 1 := rfl
theorem rb_127 : am_rb 127 = false := rfl
theorem nL_128 : am_L 128 = 4 := rfl
theorem np_128 : am_np 128 = 0 := rfl
theorem rb_128 : am_rb 128 = false := rfl
theorem nL_129 : am_L 129 = 2 := rfl
theorem np_129 : am_np 129 = 2 := rfl
theorem rb_129 : am_rb 129 = true := rfl
theorem nL_130 : am_L 130 = 1 := rfl
theorem np_130 : am_np 130 = 1 := rfl
theorem rb_130 : am_rb 130 = true := rfl
theorem nL_131 : am_L 131 = 2 := rfl
theorem np_131 : am_np 131 = 2 := rfl
theorem rb_131 : am_rb 131 = true := rfl
theorem nL_132 : am_L 132 = 3 := rfl
theorem np_132 : am_np 132 = 2 := rfl
theorem rb_132 : am_rb 132 = true := rfl
theorem nL_133 : am_L 133 = 2 := rfl
theorem np_133 : am_np 133 = 1 := rfl
theorem rb_133 : am_rb 133 = false := rfl
theorem nL_134 : am_L 134 = 2 := rfl
theorem np_134 : am_np 134 = 1 := rfl
theorem rb_134 : am_rb 134 = false := rfl
theorem nL_135 : am_L 135 = 4 := rfl
theorem np_135 : am_np 135 = 2 := rfl
theorem rb_135 : am_rb 135 = false := rfl
theorem nL_136 : am_L 136 = 6 := rfl
theorem np_136 : am_np 136 = 2 := rfl
theorem rb_136 : am_rb 136 = false := rfl
theorem nL_137 : am_L 137 = 4 := rfl
theorem np_137 : am_np 137 = 3 := rfl
theorem rb_137 : am_rb 137 = false := rfl
theorem nL_138 : am_L 138 = 3 := rfl
theorem np_138 : am_np 138 = 1 := rfl
theorem rb_138 : am_rb 138 = false := rfl
theorem nL_139 : am_L 139 = 2 := rfl
theorem np_139 : am_np 139 = 1 := rfl
theorem rb_139 : am_rb 139 = false := rfl
theorem nL_140 : am_L 140 = 4 := rfl
theorem np_140 : am_np 140 = 1 := rfl
theorem rb_140 : am_rb 140 = false := rfl
theorem nL_141 : am_L 141 = 3 := rfl
theorem np_141 : am_np 141 = 2 := rfl
theorem rb_141 : am_rb 141 = false := rfl
theorem nL_142 : am_L 142 = 2 := rfl
theorem np_142 : am_np 142 = 2 := rfl
theorem rb_142 : am_rb 142 = true := rfl
theorem nL_143 : am_L 143 = 3 := rfl
theorem np_143 : am_np 143 = 1 := rfl
theorem rb_143 : am_rb 143 = false := rfl
theorem nL_144 : am_L 144 = 4 := rfl
theorem np_144 : am_np 144 = 3 := rfl
theorem rb_144 : am_rb 144 = true := rfl
theorem nL_145 : am_L 145 = 3 := rfl
theorem np_145 : am_np 145 = 2 := rfl
theorem rb_145 : am_rb 145 = true := rfl
theorem nL_146 : am_L 146 = 2 := rfl
theorem np_146 : am_np 146 = 1 := rfl
theorem rb_146 : am_rb 146 = true := rfl
theorem nL_147 : am_L 147 = 2 := rfl
theorem np_147 : am_np 147 = 1 := rfl
theorem rb_147 : am_rb 147 = true := rfl
theorem nL_148 : am_L 148 = 3 := rfl
theorem np_148 : am_np 148 = 2 := rfl
theorem rb_148 : am_rb 148 = true := rfl
theorem nL_149 : am_L 149 = 1 := rfl
theorem np_149 : am_np 149 = 0 := rfl
theorem rb_149 : am_rb 149 = false := rfl
theorem nL_150 : am_L 150 = 2 := rfl
theorem np_150 : am_np 150 = 0 := rfl
theorem rb_150 : am_rb 150 = false := rfl
theorem nL_151 : am_L 151 = 4 := rfl
theorem np_151 : am_np 151 = 1 := rfl
theorem rb_151 : am_rb 151 = false := rfl
theorem nL_152 : am_L 152 = 4 := rfl
theorem np_152 : am_np 152 = 1 := rfl
theorem rb_152 : am_rb 152 = false := rfl
theorem nL_153 : am_L 153 = 5 := rfl
theorem np_153 : am_np 153 = 1 := rfl
theorem rb_153 : am_rb 153 = false := rfl
theorem nL_154 : am_L 154 = 5 := rfl
theorem np_154 : am_np 154 = 2 := rfl
theorem rb_154 : am_rb 154 = false := rfl
theorem nL_156 : am_L 156 = 6 := rfl
theorem np_156 : am_np 156 = 3 := rfl
theorem rb_156 : am_rb 156 = true := rfl
theorem nL_157 : am_L 157 = 2 := rfl
theorem np_157 : am_np 157 = 2 := rfl
theorem rb_157 : am_rb 157 = true := rfl
theorem nL_158 : am_L 158 = 2 := rfl
theorem np_158 : am_np 158 = 2 := rfl
theorem rb_158 : am_rb 158 = false := rfl
theorem nL_159 : am_L 159 = 1 := rfl
theorem np_159 : am_np 159 = 1 := rfl
theorem rb_159 : am_rb 159 = false := rfl
theorem nL_160 : am_L 160 = 2 := rfl
theorem np_160 : am_np 160 = 1 := rfl
theorem rb_160 : am_rb 160 = false := rfl
theorem nL_161 : am_L 161 = 2 := rfl
theorem np_161 : am_np 161 = 1 := rfl
theorem rb_161 : am_rb 161 = false := rfl
theorem nL_162 : am_L 162 = 11 := rfl
theorem np_162 : am_np 162 = 2 := rfl
theorem rb_162 : am_rb 162 = false := rfl
theorem nL_163 : am_L 163 = 1 := rfl
theorem np_163 : am_np 163 = 1 := rfl
theorem rb_163 : am_rb 163 = true := rfl
theorem nL_164 : am_L 164 = 1 := rfl
theorem np_164 : am_np 164 = 1 := rfl
theorem rb_164 : am_rb 164 = true := rfl
theorem nL_165 : am_L 165 = 4 := rfl
theorem np_165 : am_np 165 = 2 := rfl
theorem rb_165 : am_rb 165 = false := rfl
theorem nL_166 : am_L 166 = 3 := rfl
theorem np_166 : am_np 166 = 2 := rfl
theorem rb_166 : am_rb 166 = false := rfl
theorem nL_167 : am_L 167 = 5 := rfl
theorem np_167 : am_np 167 = 3 := rfl
theorem rb_167 : am_rb 167 = false := rfl
theorem nL_168 : am_L 168 = 3 := rfl
theorem np_168 : am_np 168 = 2 := rfl
theorem rb_168 : am_rb 168 = false := rfl
theorem nL_169 : am_L 169 = 2 := rfl
theorem np_169 : am_np 169 = 1 := rfl
theorem rb_169 : am_rb 169 = false := rfl
theorem nL_170 : am_L 170 = 7 := rfl
theorem np_170 : am_np 170 = 5 := rfl
theorem rb_170 : am_rb 170 = false := rfl
theorem nL_171 : am_L 171 = 5 := rfl
theorem np_171 : am_np 171 = 1 := rfl
theorem rb_171 : am_rb 171 = false := rfl
theorem nL_172 : am_L 172 = 4 := rfl
theorem np_172 : am_np 172 = 2 := rfl
theorem rb_172 : am_rb 172 = false := rfl
theorem nL_173 : am_L 173 = 5 := rfl
theorem np_173 : am_np 173 = 3 := rfl
theorem rb_173 : am_rb 173 = false := rfl
theorem nL_174 : am_L 174 = 1 := rfl
theorem np_174 : am_np 174 = 1 := rfl
theorem rb_174 : am_rb 174 = false := rfl
theorem nL_175 : am_L 175 = 7 := rfl
theorem np_175 : am_np 175 = 1 := rfl
theorem rb_175 : am_rb 175 = false := rfl
theorem nL_176 : am_L 176 = 2 := rfl
theorem np_176 : am_np 176 = 1 := rfl
theorem rb_176 : am_rb 176 = false := rfl
theorem nL_177 : am_L 177 = 3 := rfl
theorem np_177 : am_np 177 = 1 := rfl
theorem rb_177 : am_rb 177 = false := rfl
theorem nL_178 : am_L 178 = 2 := rfl
theorem np_178 : am_np 178 = 1 := rfl
theorem rb_178 : am_rb 178 = true := rfl
theorem nL_179 : am_L 179 = 4 := rfl
theorem np_179 : am_np 179 = 1 := rfl
theorem rb_179 : am_rb 179 = false := rfl
theorem nL_180 : am_L 180 = 4 := rfl
theorem np_180 : am_np 180 = 1 := rfl
theorem rb_180 : am_rb 180 = false := rfl
theorem nL_181 : am_L 181 = 3 := rfl
theorem np_181 : am_np 181 = 2 := rfl
theorem rb_181 : am_rb 181 = false := rfl
theorem nL_182 : am_L 182 = 3 := rfl
theorem np_182 : am_np 182 = 2 := rfl
theorem rb_182 : am_rb 182 = false := rfl
theorem nL_183 : am_L 183 = 2 := rfl
theorem np_183 : am_np 183 = 2 := rfl
theorem rb_183 : am_rb 183 = true := rfl
theorem nL_184 : am_L 184 = 5 := rfl
theorem np_184 : am_np 184 = 4 := rfl
theorem rb_184 : am_rb 184 = false := rfl
theorem nL_185 : am_L 185 = 5 := rfl
theorem np_185 : am_np 185 = 5 := rfl
theorem rb_185 : am_rb 185 = false := rfl
theorem nL_186 : am_L 186 = 3 := rfl
theorem np_186 : am_np 186 = 2 := rfl
theorem rb_186 : am_rb 186 = false := rfl
theorem nL_187 : am_L 187 = 4 := rfl
theorem np_187 : am_np 187 = 1 := rfl
theorem rb_187 : am_rb 187 = false := rfl
theorem nL_188 : am_L 188 = 4 := rfl
theorem np_188 : am_np 188 = 1 := rfl
theorem rb_188 : am_rb 188 = false := rfl
theorem nL_189 : am_L 189 = 2 := rfl
theorem np_189 : am_np 189 = 2 := rfl
theorem rb_189 : am_rb 189 = true := rfl
theorem nL_190 : am_L 190 = 6 := rfl
theorem np_190 : am_np 190 = 2 := rfl
theorem rb_190 : am_rb 190 = false := rfl
theorem nL_191 : am_L 191 = 3 := rfl
theorem np_191 : am_np 191 = 1 := rfl
theorem rb_191 : am_rb 191 = false := rfl
theorem nL_192 : am_L 192 = 6 := rfl
theorem np_192 : am_np 192 = 4 := rfl
theorem rb_192 : am_rb 192 = false := rfl
theorem nL_193 : am_L 193 = 6 := rfl
theorem np_193 : am_np 193 = 5 := rfl
theorem rb_193 : am_rb 193 = false := rfl
theorem nL_194 : am_L 194 = 4 := rfl
theorem np_194 : am_np 194 = 3 := rfl
theorem rb_194 : am_rb 194 = true := rfl
theorem nL_195 : am_L 195 = 4 := rfl
theorem np_195 : am_np 195 = 3 := rfl
theorem rb_195 : am_rb 195 = true := rfl
theorem nL_196 : am_L 196 = 4 := rfl
theorem np_196 : am_np 196 = 3 := rfl
theorem rb_196 : am_rb 196 = false := rfl
theorem nL_197 : am_L 197 = 4 := rfl
theorem np_197 : am_np 197 = 3 := rfl
theorem rb_197 : am_rb 197 = false := rfl
theorem nL_198 : am_L 198 = 3 := rfl
theorem np_198 : am_np 198 = 2 := rfl
theorem rb_198 : am_rb 198 = false := rfl
theorem nL_199 : am_L 199 = 2 := rfl
theorem np_199 : am_np 199 = 1 := rfl
theorem rb_199 : am_rb 199 = false := rfl
theorem nL_200 : am_L 200 = 2 := rfl
theorem np_200 : am_np 200 = 1 := rfl
theorem rb_200 : am_rb 200 = false := rfl
theorem nL_201 : am_L 201 = 4 := rfl
theorem np_201 : am_np 201 = 1 := rfl
theorem rb_201 : am_rb 201 = false := rfl
theorem nL_202 : am_L 202 = 3 := rfl
theorem np_202 : am_np 202 = 0 := rfl
theorem rb_202 : am_rb 202 = false := rfl
theorem nL_203 : am_L 203 = 5 := rfl
theorem np_203 : am_np 203 = 0 := rfl
theorem rb_203 : am_rb 203 = false := rfl
theorem nL_204 : am_L 204 = 3 := rfl
theorem np_204 : am_np 204 = 1 := rfl
theorem rb_204 : am_rb 204 = false := rfl
theorem nL_205 : am_L 205 = 3 := rfl
theorem np_205 : am_np 205 = 1 := rfl
theorem rb_205 : am_rb 205 = false := rfl
theorem nL_206 : am_L 206 = 2 := rfl
theorem np_206 : am_np 206 = 1 := rfl
theorem rb_206 : am_rb 206 = false := rfl
theorem nL_207 : am_L 207 = 1 := rfl
theorem np_207 : am_np 207 = 1 := rfl
theorem rb_207 : am_rb 207 = true := rfl
theorem nL_208 : am_L 208 = 3 := rfl
theorem np_208 : am_np 208 = 1 := rfl
theorem rb_208 : am_rb 208 = false := rfl
theorem nL_209 : am_L 209 = 3 := rfl
theorem np_209 : am_np 209 = 2 := rfl
theorem rb_209 : am_rb 209 = false := rfl
theorem nL_210 : am_L 210 = 4 := rfl
theorem np_210 : am_np 210 = 0 := rfl
theorem rb_210 : am_rb 210 = false := rfl
theorem nL_211 : am_L 211 = 4 := rfl
theorem np_211 : am_np 211 = 0 := rfl
theorem rb_211 : am_rb 211 = false := rfl
theorem nL_212 : am_L 212 = 4 := rfl
theorem np_212 : am_np 212 = 0 := rfl
theorem rb_212 : am_rb 212 = false := rfl
theorem nL_213 : am_L 213 = 3 := rfl
theorem np_213 : am_np 213 = 1 := rfl
theorem rb_213 : am_rb 213 = false := rfl
theorem nL_214 : am_L 214 = 8 := rfl
theorem np_214 : am_np 214 = 2 := rfl
theorem rb_214 : am_rb 214 = false := rfl
theorem nL_215 : am_L 215 = 3 := rfl
theorem np_215 : am_np 215 = 2 := rfl
theorem rb_215 : am_rb 215 = true := rfl
theorem nL_216 : am_L 216 = 3 := rfl
theorem np_216 : am_np 216 = 2 := rfl
theorem rb_216 : am_rb 216 = false := rfl
theorem nL_217 : am_L 217 = 3 := rfl
theorem np_217 : am_np 217 = 2 := rfl
theorem rb_217 : am_rb 217 = false := rfl
theorem nL_218 : am_L 218 = 6 := rfl
theorem np_218 : am_np 218 = 3 := rfl
theorem rb_218 : am_rb 218 = false := rfl
theorem nL_219 : am_L 219 = 8 := rfl
theorem np_219 : am_np 219 = 2 := rfl
theorem rb_219 : am_rb 219 = false := rfl
theorem nL_220 : am_L 220 = 6 := rfl
theorem np_220 : am_np 220 = 3 := rfl
theorem rb_220 : am_rb 220 = false := rfl
theorem nL_221 : am_L 221 = 3 := rfl
theorem np_221 : am_np 221 = 2 := rfl
theorem rb_221 : am_rb 221 = false := rfl
theorem nL_222 : am_L 222 = 2 := rfl
theorem np_222 : am_np 222 = 1 := rfl
theorem rb_222 : am_rb 222 = false := rfl
theorem nL_223 : am_L 223 = 2 := rfl
theorem np_223 : am_np 223 = 1 := rfl
theorem rb_223 : am_rb 223 = false := rfl
theorem nL_224 : am_L 224 = 4 := rfl
theorem np_224 : am_np 224 = 1 := rfl
theorem rb_224 : am_rb 224 = false := rfl
theorem nL_225 : am_L 225 = 3 := rfl
theorem np_225 : am_np 225 = 1 := rfl
theorem rb_225 : am_rb 225 = false := rfl
theorem nL_226 : am_L 226 = 6 := rfl
theorem np_226 : am_np 226 = 0 := rfl
theorem rb_226 : am_rb 226 = false := rfl
theorem nL_227 : am_L 227 = 6 := rfl
theorem np_227 : am_np 227 = 1 := rfl
theorem rb_227 : am_rb 227 = false := rfl
theorem nL_228 : am_L 228 = 4 := rfl
theorem np_228 : am_np 228 = 2 := rfl
theorem rb_228 : am_rb 228 = false := rfl
theorem nL_229 : am_L 229 = 5 := rfl
theorem np_229 : am_np 229 = 4 := rfl
theorem rb_229 : am_rb 229 = true := rfl
theorem nL_230 : am_L 230 = 9 := rfl
theorem np_230 : am_np 230 = 2 := rfl
theorem rb_230 : am_rb 230 = false := rfl
theorem nL_231 : am_L 231 = 4 := rfl
theorem np_231 : am_np 231 = 2 := rfl
theorem rb_231 : am_rb 231 = false := rfl
theorem nL_232 : am_L 232 = 6 := rfl
theorem np_232 : am_np 232 = 2 := rfl
theorem rb_232 : am_rb 232 = false := rfl
theorem nL_233 : am_L 233 = 12 := rfl
theorem np_233 : am_np 233 = 4 := rfl
theorem rb_233 : am_rb 233 = true := rfl
theorem nL_234 : am_L 234 = 6 := rfl
theorem np_234 : am_np 234 = 2 := rfl
theorem rb_234 : am_rb 234 = false := rfl
theorem nL_235 : am_L 235 = 7 := rfl
theorem np_235 : am_np 235 = 3 := rfl
theorem rb_235 : am_rb 235 = false := rfl
theorem nL_236 : am_L 236 = 9 := rfl
theorem np_236 : am_np 236 = 2 := rfl
theorem rb_236 : am_rb 236 = false := rfl
theorem nL_237 : am_L 237 = 6 := rfl
theorem np_237 : am_np 237 = 1 := rfl
theorem rb_237 : am_rb 237 = false := rfl
theorem nL_238 : am_L 238 = 10 := rfl
theorem np_238 : am_np 238 = 2 := rfl
theorem rb_238 : am_rb 238 = false := rfl
theorem nL_239 : am_L 239 = 1 := rfl
theorem np_239 : am_np 239 = 0 := rfl
theorem rb_239 : am_rb 239 = false := rfl
theorem nL_240 : am_L 240 = 1 := rfl
theorem np_240 : am_np 240 = 0 := rfl
theorem rb_240 : am_rb 240 = false := rfl
theorem nL_241 : am_L 241 = 1 := rfl
theorem np_241 : am_np 241 = 0 := rfl
theorem rb_241 : am_rb 241 = false := rfl
theorem nL_242 : am_L 242 = 5 := rfl
theorem np_242 : am_np 242 = 2 := rfl
theorem rb_242 : am_rb 242 = false := rfl
theorem nL_243 : am_L 243 = 4 := rfl
theorem np_243 : am_np 243 = 1 := rfl
theorem rb_243 : am_rb 243 = false := rfl
theorem nL_244 : am_L 244 = 2 := rfl
theorem np_244 : am_np 244 = 1 := rfl
theorem rb_244 : am_rb 244 = false := rfl
theorem nL_245 : am_L 245 = 1 := rfl
theorem np_245 : am_np 245 = 0 := rfl
theorem rb_245 : am_rb 245 = false := rfl
theorem nL_246 : am_L 246 = 2 := rfl
theorem np_246 : am_np 246 = 1 := rfl
theorem rb_246 : am_rb 246 = false := rfl
theorem nL_247 : am_L 247 = 3 := rfl
theorem np_247 : am_np 247 = 1 := rfl
theorem rb_247 : am_rb 247 = false := rfl
theorem nL_248 : am_L 248 = 4 := rfl
theorem np_248 : am_np 248 = 0 := rfl
theorem rb_248 : am_rb 248 = false := rfl
theorem nL_249 : am_L 249 = 4 := rfl
theorem np_249 : am_np 249 = 2 := rfl
theorem rb_249 : am_rb 249 = false := rfl
theorem nL_250 : am_L 250 = 2 := rfl
theorem np_250 : am_np 250 = 2 := rfl
theorem rb_250 : am_rb 250 = false := rfl
theorem nL_251 : am_L 251 = 2 := rfl
theorem np_251 : am_np 251 = 2 := rfl
theorem rb_251 : am_rb 251 = false := rfl
theorem nL_252 : am_L 252 = 1 := rfl
theorem np_252 : am_np 252 = 1 := rfl
theorem rb_252 : am_rb 252 = false := rfl
theorem nL_253 : am_L 253 = 1 := rfl
theorem np_253 : am_np 253 = 1 := rfl
theorem rb_253 : am_rb 253 = false := rfl
theorem nL_254 : am_L 254 = 4 := rfl
theorem np_254 : am_np 254 = 1 := rfl
theorem rb_254 : am_rb 254 = true := rfl
theorem ok_4_250 : am_okc 4 250 = true := rfl
theorem ok_9_250 : am_okc 9 250 = true := rfl
theorem ok_11_1 : am_okc 11 1 = true := rfl
theorem ok_11_9 : am_okc 11 9 = true := rfl
theorem ok_11_50 : am_okc 11 50 = true := rfl
theorem ok_11_54 : am_okc 11 54 = true := rfl
theorem vd_9_0 : am_vd 9 0 = some 1 := rfl
theorem vd_9_2 : am_vd 9 2 = some 1 := rfl
theorem vd_9_3 : am_vd 9 3 = some 9 := rfl
theorem vd_9_6 : am_vd 9 6 = some 50 := rfl
theorem vd_9_7 : am_vd 9 7 = some 54 := rfl
theorem vd_9_9 : am_vd 9 9 = some 54 := rfl
theorem ok_11_7 : am_okc 11 7 = true := rfl
theorem ok_11_10 : am_okc 11 10 = true := rfl
theorem vd_10_0 : am_vd 10 0 = some 10 := rfl
theorem vd_10_2 : am_vd 10 2 = some 7 := rfl
theorem vd_10_3 : am_vd 10 3 = some 10 := rfl
theorem vd_10_6 : am_vd 10 6 = some 10 := rfl
theorem vd_10_7 : am_vd 10 7 = some 10 := rfl
theorem vd_10_9 : am_vd 10 9 = some 10 := rfl
theorem ok_13_249 : am_okc 13 249 = true := rfl
theorem ok_15_129 : am_okc 15 129 = true := rfl
theorem ok_17_20 : am_okc 17 20 = true := rfl
theorem vd_20_4 : am_vd 20 4 = some 20 := rfl
theorem ok_17_21 : am_okc 17 21 = true := rfl
theorem vd_21_4 : am_vd 21 4 = some 21 := rfl
theorem ok_20_18 : am_okc 20 18 = true := rfl
theorem vd_18_4 : am_vd 18 4 = some 18 := rfl
theorem ok_21_18 : am_okc 21 18 = true := rfl
theorem ok_24_1 : am_okc 24 1 = true := rfl
theorem ok_24_9 : am_okc 24 9 = true := rfl
theorem ok_24_50 : am_okc 24 50 = true := rfl
theorem ok_24_54 : am_okc 24 54 = true := rfl
theorem ok_24_7 : am_okc 24 7 = true := rfl
theorem ok_24_10 : am_okc 24 10 = true := rfl
theorem ok_24_16 : am_okc 24 16 = true := rfl
theorem vd_16_4 : am_vd 16 4 = some 16 := rfl
theorem ok_25_11 : am_okc 25 11 = true := rfl
theorem ok_25_63 : am_okc 25 63 = true := rfl
theorem vd_11_0 : am_vd 11 0 = some 11 := rfl
theorem vd_11_2 : am_vd 11 2 = some 11 := rfl
theorem vd_11_3 : am_vd 11 3 = some 11 := rfl
theorem vd_11_6 : am_vd 11 6 = some 11 := rfl
theorem vd_11_7 : am_vd 11 7 = some 11 := rfl
theorem vd_11_9 : am_vd 11 9 = some 63 := rfl
theorem ok_25_16 : am_okc 25 16 = true := rfl
theorem ok_26_25 : am_okc 26 25 = true := rfl
theorem vd_25_4 : am_vd 25 4 = some 25 := rfl
theorem ok_27_25 : am_okc 27 25 = true := rfl
theorem ok_28_27 : am_okc 28 27 = true := rfl
theorem vd_27_4 : am_vd 27 4 = some 27 := rfl
theorem ok_32_16 : am_okc 32 16 = true := rfl
theorem ok_33_16 : am_okc 33 16 = true := rfl
theorem ok_34_27 : am_okc 34 27 = true := rfl
theorem ok_36_17 : am_okc 36 17 = true := rfl
theorem vd_17_4 : am_vd 17 4 = some 17 := rfl
theorem ok_36_18 : am_okc 36 18 = true := rfl
theorem ok_38_41 : am_okc 38 41 = true := rfl
theorem vd_41_5 : am_vd 41 5 = some 41 := rfl
theorem ok_38_42 : am_okc 38 42 = true := rfl
theorem vd_42_5 : am_vd 42 5 = some 42 := rfl
theorem ok_40_252 : am_okc 40 252 = true := rfl
theorem ok_41_249 : am_okc 41 249 = true := rfl
theorem ok_41_253 : am_okc 41 253 = true := rfl
theorem ok_41_39 : am_okc 41 39 = true := rfl
theorem vd_39_5 : am_vd 39 5 = some 39 := rfl
theorem ok_41_40 : am_okc 41 40 = true := rfl
theorem vd_40_5 : am_vd 40 5 = some 40 := rfl
theorem ok_42_249 : am_okc 42 249 = true := rfl
theorem ok_42_253 : am_okc 42 253 = true := rfl
theorem ok_42_39 : am_okc 42 39 = true := rfl
theorem ok_42_40 : am_okc 42 40 = true := rfl
theorem ok_44_45 : am_okc 44 45 = true := rfl
theorem vd_45_5 : am_vd 45 5 = some 45 := rfl
theorem ok_45_249 : am_okc 45 249 = true := rfl
theorem ok_45_253 : am_okc 45 253 = true := rfl
theorem ok_45_39 : am_okc 45 39 = true := rfl
theorem ok_45_40 : am_okc 45 40 = true := rfl
theorem ok_45_43 : am_okc 45 43 = true := rfl
theorem vd_43_5 : am_vd 43 5 = some 43 := rfl
theorem ok_46_40 : am_okc 46 40 = true := rfl
theorem ok_47_249 : am_okc 47 249 = true := rfl
theorem ok_47_251 : am_okc 47 251 = true := rfl
theorem ok_47_253 : am_okc 47 253 = true := rfl
theorem ok_47_39 : am_okc 47 39 = true := rfl
theorem ok_47_48 : am_okc 47 48 = true := rfl
theorem vd_48_5 : am_vd 48 5 = some 48 := rfl
theorem ok_48_39 : am_okc 48 39 = true := rfl
theorem ok_48_40 : am_okc 48 40 = true := rfl
theorem ok_50_250 : am_okc 50 250 = true := rfl
theorem ok_50_251 : am_okc 50 251 = true := rfl
theorem ok_51_250 : am_okc 51 250 = true := rfl
theorem ok_51_50 : am_okc 51 50 = true := rfl
theorem vd_50_6 : am_vd 50 6 = some 50 := rfl
theorem ok_54_250 : am_okc 54 250 = true := rfl
theorem ok_54_53 : am_okc 54 53 = true := rfl
theorem ok_54_62 : am_okc 54 62 = true := rfl
theorem vd_53_7 : am_vd 53 7 = some 53 := rfl
theorem vd_53_9 : am_vd 53 9 = some 62 := rfl
theorem ok_57_249 : am_okc 57 249 = true := rfl
theorem ok_59_129 : am_okc 59 129 = true := rfl
theorem ok_63_54 : am_okc 63 54 = true := rfl
theorem vd_54_9 : am_vd 54 9 = some 54 := rfl
theorem ok_66_11 : am_okc 66 11 = true := rfl
theorem ok_66_63 : am_okc 66 63 = true := rfl
theorem ok_66_16 : am_okc 66 16 = true := rfl
theorem ok_66_67 : am_okc 66 67 = true := rfl
theorem vd_67_10 : am_vd 67 10 = some 67 := rfl
theorem ok_66_68 : am_okc 66 68 = true := rfl
theorem vd_68_10 : am_vd 68 10 = some 68 := rfl
theorem ok_67_249 : am_okc 67 249 = true := rfl
theorem ok_67_69 : am_okc 67 69 = true := rfl
theorem vd_69_10 : am_vd 69 10 = some 69 := rfl
theorem ok_68_249 : am_okc 68 249 = true := rfl
theorem ok_68_69 : am_okc 68 69 = true := rfl
theorem ok_73_71 : am_okc 73 71 = true := rfl
theorem vd_71_10 : am_vd 71 10 = some 71 := rfl
theorem ok_73_72 : am_okc 73 72 = true := rfl
theorem vd_72_10 : am_vd 72 10 = some 72 := rfl
theorem ok_74_76 : am_okc 74 76 = true := rfl
theorem vd_76_10 : am_vd 76 10 = some 76 := rfl
theorem ok_75_76 : am_okc 75 76 = true := rfl
theorem ok_76_249 : am_okc 76 249 = true := rfl
theorem ok_76_77 : am_okc 76 77 = true := rfl
theorem vd_77_10 : am_vd 77 10 = some 77 := rfl
theorem ok_77_251 : am_okc 77 251 = true := rfl
theorem ok_79_129 : am_okc 79 129 = true := rfl
theorem ok_79_137 : am_okc 79 137 = true := rfl
theorem vd_137_11 : am_vd 137 11 = some 137 := rfl
theorem ok_80_81 : am_okc 80 81 = true := rfl
theorem vd_81_11 : am_vd 81 11 = some 81 := rfl
theorem ok_81_129 : am_okc 81 129 = true := rfl
theorem ok_81_56 : am_okc 81 56 = true := rfl
theorem vd_56_8 : am_vd 56 8 = some 56 := rfl
theorem ok_81_133 : am_okc 81 133 = true := rfl
theorem vd_133_11 : am_vd 133 11 = some 133 := rfl
theorem ok_81_134 : am_okc 81 134 = true := rfl
theorem vd_134_11 : am_vd 134 11 = some 134 := rfl
theorem ok_82_129 : am_okc 82 129 = true := rfl
theorem ok_82_56 : am_okc 82 56 = true := rfl
theorem ok_82_133 : am_okc 82 133 = true := rfl
theorem ok_83_129 : am_okc 83 129 = true := rfl
theorem ok_83_56 : am_okc 83 56 = true := rfl
theorem ok_83_58 : am_okc 83 58 = true := rfl
theorem vd_58_8 : am_vd 58 8 = some 58 := rfl
theorem ok_83_133 : am_okc 83 133 = true := rfl
theorem ok_84_129 : am_okc 84 129 = true := rfl
theorem ok_84_56 : am_okc 84 56 = true := rfl
theorem ok_84_133 : am_okc 84 133 = true := rfl
theorem ok_84_134 : am_okc 84 134 = true := rfl
theorem ok_85_129 : am_okc 85 129 = true := rfl
theorem ok_85_137 : am_okc 85 137 = true := rfl
theorem ok_86_129 : am_okc 86 129 = true := rfl
theorem ok_86_56 : am_okc 86 56 = true := rfl
theorem ok_86_133 : am_okc 86 133 = true := rfl
theorem ok_87_129 : am_okc 87 129 = true := rfl
theorem ok_87_140 : am_okc 87 140 = true := rfl
theorem ok_87_56 : am_okc 87 56 = true := rfl
theorem ok_87_133 : am_okc 87 133 = true := rfl
theorem ok_88_129 : am_okc 88 129 = true := rfl
theorem ok_88_140 : am_okc 88 140 = true := rfl
theorem ok_88_3 : am_okc 88 3 = true := rfl
theorem vd_3_1 : am_vd 3 1 = some 3 := rfl
theorem ok_88_13 : am_okc 88 13 = true := rfl
theorem vd_13_4 : am_vd 13 4 = some 13 := rfl
theorem ok_88_56 : am_okc 88 56 = true := rfl
theorem ok_88_133 : am_okc 88 133 = true := rfl
theorem ok_88_143 : am_okc 88 143 = true := rfl
theorem vd_143_11 : am_vd 143 11 = some 143 := rfl
theorem ok_89_129 : am_okc 89 129 = true := rfl
theorem ok_89_17 : am_okc 89 17 = true := rfl
theorem ok_89_134 : am_okc 89 134 = true := rfl
theorem ok_90_129 : am_okc 90 129 = true := rfl
theorem ok_90_16 : am_okc 90 16 = true := rfl
theorem ok_90_25 : am_okc 90 25 = true := rfl
theorem ok_90_51 : am_okc 90 51 = true := rfl
theorem vd_51_6 : am_vd 51 6 = some 51 := rfl
theorem ok_90_53 : am_okc 90 53 = true := rfl
theorem ok_90_62 : am_okc 90 62 = true := rfl
theorem ok_90_64 : am_okc 90 64 = true := rfl
theorem vd_64_9 : am_vd 64 9 = some 64 := rfl
theorem ok_90_133 : am_okc 90 133 = true := rfl
theorem ok_91_129 : am_okc 91 129 = true := rfl
theorem ok_92_130 : am_okc 92 130 = true := rfl
theorem ok_92_18 : am_okc 92 18 = true := rfl
theorem ok_92_132 : am_okc 92 132 = true := rfl
theorem vd_132_11 : am_vd 132 11 = some 132 := rfl
theorem ok_92_144 : am_okc 92 144 = true := rfl
theorem vd_144_11 : am_vd 144 11 = some 144 := rfl
theorem ok_93_130 : am_okc 93 130 = true := rfl
theorem ok_93_4 : am_okc 93 4 = true := rfl
theorem vd_4_1 : am_vd 4 1 = some 4 := rfl
theorem ok_93_18 : am_okc 93 18 = true := rfl
theorem ok_93_19 : am_okc 93 19 = true := rfl
theorem vd_19_4 : am_vd 19 4 = some 19 := rfl
theorem ok_93_22 : am_okc 93 22 = true := rfl
theorem vd_22_4 : am_vd 22 4 = some 22 := rfl
theorem ok_93_23 : am_okc 93 23 = true := rfl
theorem vd_23_4 : am_vd 23 4 = some 23 := rfl
theorem ok_93_132 : am_okc 93 132 = true := rfl
theorem ok_94_129 : am_okc 94 129 = true := rfl
theorem ok_94_130 : am_okc 94 130 = true := rfl
theorem ok_94_145 : am_okc 94 145 = true := rfl
theorem vd_145_11 : am_vd 145 11 = some 145 := rfl
theorem ok_95_129 : am_okc 95 129 = true := rfl
theorem ok_95_146 : am_okc 95 146 = true := rfl
theorem vd_146_11 : am_vd 146 11 = some 146 := rfl
theorem ok_96_129 : am_okc 96 129 = true := rfl
theorem ok_96_147 : am_okc 96 147 = true := rfl
theorem vd_147_11 : am_vd 147 11 = some 147 := rfl
theorem ok_97_4 : am_okc 97 4 = true := rfl
theorem ok_97_28 : am_okc 97 28 = true := rfl
theorem vd_28_4 : am_vd 28 4 = some 28 := rfl
theorem ok_97_34 : am_okc 97 34 = true := rfl
theorem vd_34_4 : am_vd 34 4 = some 34 := rfl
theorem ok_98_5 : am_okc 98 5 = true := rfl
theorem vd_5_1 : am_vd 5 1 = some 5 := rfl
theorem ok_98_19 : am_okc 98 19 = true := rfl
theorem ok_98_23 : am_okc 98 23 = true := rfl
theorem ok_99_129 : am_okc 99 129 = true := rfl
theorem ok_99_14 : am_okc 99 14 = true := rfl
theorem vd_14_4 : am_vd 14 4 = some 14 := rfl
theorem ok_100_129 : am_okc 100 129 = true := rfl
theorem ok_100_3 : am_okc 100 3 = true := rfl
theorem ok_100_14 : am_okc 100 14 = true := rfl
theorem ok_100_133 : am_okc 100 133 = true := rfl
theorem ok_101_129 : am_okc 101 129 = true := rfl
theorem ok_101_24 : am_okc 101 24 = true := rfl
theorem vd_24_4 : am_vd 24 4 = some 24 := rfl
theorem ok_101_25 : am_okc 101 25 = true := rfl
theorem ok_101_134 : am_okc 101 134 = true := rfl
theorem ok_102_129 : am_okc 102 129 = true := rfl
theorem ok_102_27 : am_okc 102 27 = true := rfl
theorem ok_102_29 : am_okc 102 29 = true := rfl
theorem vd_29_4 : am_vd 29 4 = some 29 := rfl
theorem ok_102_134 : am_okc 102 134 = true := rfl
theorem ok_103_129 : am_okc 103 129 = true := rfl
theorem ok_103_35 : am_okc 103 35 = true := rfl
theorem vd_35_4 : am_vd 35 4 = some 35 := rfl
theorem ok_103_133 : am_okc 103 133 = true := rfl
theorem ok_104_252 : am_okc 104 252 = true := rfl
theorem ok_104_26 : am_okc 104 26 = true := rfl
theorem vd_26_4 : am_vd 26 4 = some 26 := rfl
theorem ok_104_134 : am_okc 104 134 = true := rfl
theorem ok_104_135 : am_okc 104 135 = true := rfl
theorem vd_135_11 : am_vd 135 11 = some 135 := rfl
theorem ok_105_252 : am_okc 105 252 = true := rfl
theorem ok_105_26 : am_okc 105 26 = true := rfl
theorem ok_105_134 : am_okc 105 134 = true := rfl
theorem ok_106_252 : am_okc 106 252 = true := rfl
theorem ok_106_28 : am_okc 106 28 = true := rfl
theorem ok_106_30 : am_okc 106 30 = true := rfl
theorem vd_30_4 : am_vd 30 4 = some 30 := rfl
theorem ok_106_134 : am_okc 106 134 = true := rfl
theorem ok_107_131 : am_okc 107 131 = true := rfl
theorem ok_107_66 : am_okc 107 66 = true := rfl
theorem vd_66_10 : am_vd 66 10 = some 66 := rfl
theorem ok_107_71 : am_okc 107 71 = true := rfl
theorem ok_107_74 : am_okc 107 74 = true := rfl
theorem vd_74_10 : am_vd 74 10 = some 74 := rfl
theorem ok_107_75 : am_okc 107 75 = true := rfl
theorem vd_75_10 : am_vd 75 10 = some 75 := rfl
theorem ok_107_133 : am_okc 107 133 = true := rfl
theorem ok_107_134 : am_okc 107 134 = true := rfl
theorem ok_108_131 : am_okc 108 131 = true := rfl
theorem ok_108_66 : am_okc 108 66 = true := rfl
theorem ok_108_71 : am_okc 108 71 = true := rfl
theorem ok_108_135 : am_okc 108 135 = true := rfl
theorem ok_109_129 : am_okc 109 129 = true := rfl
theorem ok_109_66 : am_okc 109 66 = true := rfl
theorem ok_109_70 : am_okc 109 70 = true := rfl
theorem vd_70_10 : am_vd 70 10 = some 70 := rfl
theorem ok_109_71 : am_okc 109 71 = true := rfl
theorem ok_109_72 : am_okc 109 72 = true := rfl
theorem ok_109_133 : am_okc 109 133 = true := rfl
theorem ok_109_135 : am_okc 109 135 = true := rfl
theorem ok_110_131 : am_okc 110 131 = true := rfl
theorem ok_110_66 : am_okc 110 66 = true := rfl
theorem ok_110_71 : am_okc 110 71 = true := rfl
theorem ok_110_73 : am_okc 110 73 = true := rfl
theorem vd_73_10 : am_vd 73 10 = some 73 := rfl
theorem ok_110_133 : am_okc 110 133 = true := rfl
theorem ok_111_129 : am_okc 111 129 = true := rfl
theorem ok_111_35 : am_okc 111 35 = true := rfl
theorem ok_111_133 : am_okc 111 133 = true := rfl
theorem ok_111_134 : am_okc 111 134 = true := rfl
theorem ok_112_129 : am_okc 112 129 = true := rfl
theorem ok_113_129 : am_okc 113 129 = true := rfl
theorem ok_113_26 : am_okc 113 26 = true := rfl
theorem ok_113_134 : am_okc 113 134 = true := rfl
theorem ok_114_253 : am_okc 114 253 = true := rfl
theorem ok_114_134 : am_okc 114 134 = true := rfl
theorem ok_114_149 : am_okc 114 149 = true := rfl
theorem vd_149_11 : am_vd 149 11 = some 149 := rfl
theorem ok_114_150 : am_okc 114 150 = true := rfl
theorem vd_150_11 : am_vd 150 11 = some 150 := rfl
theorem ok_114_151 : am_okc 114 151 = true := rfl
theorem vd_151_11 : am_vd 151 11 = some 151 := rfl
theorem ok_115_129 : am_okc 115 129 = true := rfl
theorem ok_115_149 : am_okc 115 149 = true := rfl
theorem ok_115_150 : am_okc 115 150 = true := rfl
theorem ok_115_151 : am_okc 115 151 = true := rfl
theorem ok_115_152 : am_okc 115 152 = true := rfl
theorem vd_152_11 : am_vd 152 11 = some 152 := rfl
theorem ok_116_43 : am_okc 116 43 = true := rfl
theorem ok_116_135 : am_okc 116 135 = true := rfl
theorem ok_116_154 : am_okc 116 154 = true := rfl
theorem vd_154_11 : am_vd 154 11 = some 154 := rfl
theorem ok_117_43 : am_okc 117 43 = true := rfl
theorem ok_117_44 : am_okc 117 44 = true := rfl
theorem vd_44_5 : am_vd 44 5 = some 44 := rfl
theorem ok_117_133 : am_okc 117 133 = true := rfl
theorem ok_117_154 : am_okc 117 154 = true := rfl
theorem ok_118_129 : am_okc 118 129 = true := rfl
theorem ok_118_43 : am_okc 118 43 = true := rfl
theorem ok_118_46 : am_okc 118 46 = true := rfl
theorem vd_46_5 : am_vd 46 5 = some 46 := rfl
theorem ok_118_57 : am_okc 118 57 = true := rfl
theorem vd_57_8 : am_vd 57 8 = some 57 := rfl
theorem ok_118_133 : am_okc 118 133 = true := rfl
theorem ok_118_154 : am_okc 118 154 = true := rfl
theorem ok_119_47 : am_okc 119 47 = true := rfl
theorem vd_47_5 : am_vd 47 5 = some 47 := rfl
theorem ok_119_154 : am_okc 119 154 = true := rfl
theorem ok_120_129 : am_okc 120 129 = true := rfl
theorem ok_120_35 : am_okc 120 35 = true := rfl
theorem ok_120_134 : am_okc 120 134 = true := rfl
theorem ok_120_135 : am_okc 120 135 = true := rfl
theorem ok_121_148 : am_okc 121 148 = true := rfl
theorem vd_148_11 : am_vd 148 11 = some 148 := rfl
theorem ok_125_138 : am_okc 125 138 = true := rfl
theorem ok_125_30 : am_okc 125 30 = true := rfl
theorem ok_125_31 : am_okc 125 31 = true := rfl
theorem vd_31_4 : am_vd 31 4 = some 31 := rfl
theorem ok_125_32 : am_okc 125 32 = true := rfl
theorem vd_32_4 : am_vd 32 4 = some 32 := rfl
theorem ok_125_33 : am_okc 125 33 = true := rfl
theorem vd_33_4 : am_vd 33 4 = some 33 := rfl
theorem ok_128_36 : am_okc 128 36 = true := rfl
theorem vd_36_4 : am_vd 36 4 = some 36 := rfl
theorem ok_128_60 : am_okc 128 60 = true := rfl
theorem vd_60_8 : am_vd 60 8 = some 60 := rfl
theorem ok_128_125 : am_okc 128 125 = true := rfl
theorem vd_125_11 : am_vd 125 11 = some 125 := rfl
theorem ok_131_129 : am_okc 131 129 = true := rfl
theorem ok_132_129 : am_okc 132 129 = true := rfl
theorem ok_135_136 : am_okc 135 136 = true := rfl
theorem ok_137_57 : am_okc 137 57 = true := rfl
theorem ok_137_133 : am_okc 137 133 = true := rfl
theorem ok_138_56 : am_okc 138 56 = true := rfl
theorem ok_140_141 : am_okc 140 141 = true := rfl
theorem ok_141_142 : am_okc 141 142 = true := rfl
theorem ok_142_129 : am_okc 142 129 = true := rfl
theorem ok_142_139 : am_okc 142 139 = true := rfl
theorem ok_143_139 : am_okc 143 139 = true := rfl
theorem ok_143_15 : am_okc 143 15 = true := rfl
theorem vd_15_4 : am_vd 15 4 = some 15 := rfl
theorem ok_144_4 : am_okc 144 4 = true := rfl
theorem ok_144_19 : am_okc 144 19 = true := rfl
theorem ok_144_22 : am_okc 144 22 = true := rfl
theorem ok_144_23 : am_okc 144 23 = true := rfl
theorem ok_145_4 : am_okc 145 4 = true := rfl
theorem ok_146_4 : am_okc 146 4 = true := rfl
theorem ok_147_4 : am_okc 147 4 = true := rfl
theorem ok_148_144 : am_okc 148 144 = true := rfl
theorem ok_148_145 : am_okc 148 145 = true := rfl
theorem ok_148_146 : am_okc 148 146 = true := rfl
theorem ok_148_147 : am_okc 148 147 = true := rfl
theorem ok_150_251 : am_okc 150 251 = true := rfl
theorem ok_150_26 : am_okc 150 26 = true := rfl
theorem ok_152_151 : am_okc 152 151 = true := rfl
theorem ok_152_153 : am_okc 152 153 = true := rfl
theorem vd_153_11 : am_vd 153 11 = some 153 := rfl
theorem ok_154_129 : am_okc 154 129 = true := rfl
theorem ok_154_38 : am_okc 154 38 = true := rfl
theorem vd_38_5 : am_vd 38 5 = some 38 := rfl
theorem ok_154_56 : am_okc 154 56 = true := rfl
theorem ok_154_59 : am_okc 154 59 = true := rfl
theorem vd_59_8 : am_vd 59 8 = some 59 := rfl
theorem ok_154_133 : am_okc 154 133 = true := rfl
theorem ok_163_156 : am_okc 163 156 = true := rfl
theorem ok_164_156 : am_okc 164 156 = true := rfl
theorem ok_165_163 : am_okc 165 163 = true := rfl
theorem ok_165_160 : am_okc 165 160 = true := rfl
theorem vd_160_12 : am_vd 160 12 = some 160 := rfl
theorem ok_166_156 : am_okc 166 156 = true := rfl
theorem ok_167_163 : am_okc 167 163 = true := rfl
theorem ok_167_160 : am_okc 167 160 = true := rfl
theorem ok_167_161 : am_okc 167 161 = true := rfl
theorem vd_161_12 : am_vd 161 12 = some 161 := rfl
theorem ok_167_166 : am_okc 167 166 = true := rfl
theorem vd_166_12 : am_vd 166 12 = some 166 := rfl
theorem ok_168_163 : am_okc 168 163 = true := rfl
theorem ok_168_160 : am_okc 168 160 = true := rfl
theorem ok_168_161 : am_okc 168 161 = true := rfl
theorem ok_168_166 : am_okc 168 166 = true := rfl
theorem ok_169_163 : am_okc 169 163 = true := rfl
theorem ok_169_160 : am_okc 169 160 = true := rfl
theorem ok_170_163 : am_okc 170 163 = true := rfl
theorem ok_170_160 : am_okc 170 160 = true := rfl
theorem ok_171_163 : am_okc 171 163 = true := rfl
theorem ok_171_160 : am_okc 171 160 = true := rfl
theorem ok_171_161 : am_okc 171 161 = true := rfl
theorem ok_172_164 : am_okc 172 164 = true := rfl
theorem ok_172_160 : am_okc 172 160 = true := rfl
theorem ok_173_156 : am_okc 173 156 = true := rfl
theorem ok_173_164 : am_okc 173 164 = true := rfl
theorem ok_173_160 : am_okc 173 160 = true := rfl
theorem ok_175_156 : am_okc 175 156 = true := rfl
theorem ok_175_174 : am_okc 175 174 = true := rfl
theorem ok_176_164 : am_okc 176 164 = true := rfl
theorem ok_176_160 : am_okc 176 160 = true := rfl
theorem ok_176_175 : am_okc 176 175 = true := rfl
theorem vd_175_12 : am_vd 175 12 = some 175 := rfl
theorem ok_177_164 : am_okc 177 164 = true := rfl
theorem ok_177_160 : am_okc 177 160 = true := rfl
theorem ok_177_175 : am_okc 177 175 = true := rfl
theorem ok_178_156 : am_okc 178 156 = true := rfl
theorem ok_181_179 : am_okc 181 179 = true := rfl
theorem vd_179_12 : am_vd 179 12 = some 179 := rfl
theorem ok_181_180 : am_okc 181 180 = true := rfl
theorem vd_180_12 : am_vd 180 12 = some 180 := rfl
theorem ok_182_156 : am_okc 182 156 = true := rfl
theorem ok_182_161 : am_okc 182 161 = true := rfl
theorem ok_182_178 : am_okc 182 178 = true := rfl
theorem vd_178_12 : am_vd 178 12 = some 178 := rfl
theorem ok_182_181 : am_okc 182 181 = true := rfl
theorem vd_181_12 : am_vd 181 12 = some 181 := rfl
theorem ok_184_158 : am_okc 184 158 = true := rfl
theorem ok_184_183 : am_okc 184 183 = true := rfl
theorem ok_185_184 : am_okc 185 184 = true := rfl
theorem ok_186_185 : am_okc 186 185 = true := rfl
theorem ok_187_186 : am_okc 187 186 = true := rfl
theorem vd_186_12 : am_vd 186 12 = some 186 := rfl
theorem ok_190_156 : am_okc 190 156 = true := rfl
theorem ok_190_158 : am_okc 190 158 = true := rfl
theorem ok_190_183 : am_okc 190 183 = true := rfl
theorem ok_190_189 : am_okc 190 189 = true := rfl
theorem ok_190_160 : am_okc 190 160 = true := rfl
theorem ok_190_178 : am_okc 190 178 = true := rfl
theorem ok_191_156 : am_okc 191 156 = true := rfl
theorem ok_195_156 : am_okc 195 156 = true := rfl
theorem ok_195_178 : am_okc 195 178 = true := rfl
theorem ok_196_192 : am_okc 196 192 = true := rfl
theorem vd_192_12 : am_vd 192 12 = some 192 := rfl
theorem ok_196_193 : am_okc 196 193 = true := rfl
theorem vd_193_12 : am_vd 193 12 = some 193 := rfl
theorem ok_196_194 : am_okc 196 194 = true := rfl
theorem vd_194_12 : am_vd 194 12 = some 194 := rfl
theorem ok_196_195 : am_okc 196 195 = true := rfl
theorem vd_195_12 : am_vd 195 12 = some 195 := rfl
theorem ok_197_192 : am_okc 197 192 = true := rfl
theorem ok_197_193 : am_okc 197 193 = true := rfl
theorem ok_197_194 : am_okc 197 194 = true := rfl
theorem ok_197_195 : am_okc 197 195 = true := rfl
theorem ok_198_156 : am_okc 198 156 = true := rfl
theorem ok_198_178 : am_okc 198 178 = true := rfl
theorem ok_198_192 : am_okc 198 192 = true := rfl
theorem ok_199_178 : am_okc 199 178 = true := rfl
theorem ok_199_192 : am_okc 199 192 = true := rfl
theorem ok_200_178 : am_okc 200 178 = true := rfl
theorem ok_200_192 : am_okc 200 192 = true := rfl
theorem ok_201_186 : am_okc 201 186 = true := rfl
theorem ok_202_187 : am_okc 202 187 = true := rfl
theorem vd_187_12 : am_vd 187 12 = some 187 := rfl
theorem ok_202_192 : am_okc 202 192 = true := rfl
theorem ok_202_201 : am_okc 202 201 = true := rfl
theorem vd_201_12 : am_vd 201 12 = some 201 := rfl
theorem ok_203_193 : am_okc 203 193 = true := rfl
theorem ok_204_156 : am_okc 204 156 = true := rfl
theorem ok_205_156 : am_okc 205 156 = true := rfl
theorem ok_205_160 : am_okc 205 160 = true := rfl
theorem ok_206_184 : am_okc 206 184 = true := rfl
theorem ok_206_178 : am_okc 206 178 = true := rfl
theorem ok_206_186 : am_okc 206 186 = true := rfl
theorem ok_207_156 : am_okc 207 156 = true := rfl
theorem ok_208_207 : am_okc 208 207 = true := rfl
theorem ok_208_201 : am_okc 208 201 = true := rfl
theorem ok_209_207 : am_okc 209 207 = true := rfl
theorem ok_209_160 : am_okc 209 160 = true := rfl
theorem ok_210_159 : am_okc 210 159 = true := rfl
theorem ok_210_161 : am_okc 210 161 = true := rfl
theorem ok_210_186 : am_okc 210 186 = true := rfl
theorem ok_210_187 : am_okc 210 187 = true := rfl
theorem ok_210_188 : am_okc 210 188 = true := rfl
theorem vd_188_12 : am_vd 188 12 = some 188 := rfl
theorem ok_211_159 : am_okc 211 159 = true := rfl
theorem ok_211_186 : am_okc 211 186 = true := rfl
theorem ok_212_158 : am_okc 212 158 = true := rfl
theorem ok_212_159 : am_okc 212 159 = true := rfl
theorem ok_212_187 : am_okc 212 187 = true := rfl
theorem ok_212_188 : am_okc 212 188 = true := rfl
theorem ok_214_158 : am_okc 214 158 = true := rfl
theorem ok_214_185 : am_okc 214 185 = true := rfl
theorem ok_215_156 : am_okc 215 156 = true := rfl
theorem ok_215_207 : am_okc 215 207 = true := rfl
theorem ok_216_160 : am_okc 216 160 = true := rfl
theorem ok_216_213 : am_okc 216 213 = true := rfl
theorem vd_213_12 : am_vd 213 12 = some 213 := rfl
theorem ok_216_214 : am_okc 216 214 = true := rfl
theorem vd_214_12 : am_vd 214 12 = some 214 := rfl
theorem ok_216_215 : am_okc 216 215 = true := rfl
theorem vd_215_12 : am_vd 215 12 = some 215 := rfl
theorem ok_217_213 : am_okc 217 213 = true := rfl
theorem ok_217_214 : am_okc 217 214 = true := rfl
theorem ok_217_215 : am_okc 217 215 = true := rfl
theorem ok_218_156 : am_okc 218 156 = true := rfl
theorem ok_218_160 : am_okc 218 160 = true := rfl
theorem ok_218_162 : am_okc 218 162 = true := rfl
theorem vd_162_12 : am_vd 162 12 = some 162 := rfl
theorem ok_218_178 : am_okc 218 178 = true := rfl
theorem ok_218_213 : am_okc 218 213 = true := rfl
theorem ok_218_214 : am_okc 218 214 = true := rfl
theorem ok_219_160 : am_okc 219 160 = true := rfl
theorem ok_219_213 : am_okc 219 213 = true := rfl
theorem ok_219_214 : am_okc 219 214 = true := rfl
theorem ok_219_215 : am_okc 219 215 = true := rfl
theorem ok_220_156 : am_okc 220 156 = true := rfl
theorem ok_220_207 : am_okc 220 207 = true := rfl
theorem ok_220_160 : am_okc 220 160 = true := rfl
theorem ok_221_156 : am_okc 221 156 = true := rfl
theorem ok_222_186 : am_okc 222 186 = true := rfl
theorem ok_223_161 : am_okc 223 161 = true := rfl
theorem ok_223_178 : am_okc 223 178 = true := rfl
theorem ok_223_222 : am_okc 223 222 = true := rfl
theorem vd_222_12 : am_vd 222 12 = some 222 := rfl
theorem ok_224_157 : am_okc 224 157 = true := rfl
theorem ok_224_222 : am_okc 224 222 = true := rfl
theorem ok_226_225 : am_okc 226 225 = true := rfl
theorem ok_226_224 : am_okc 226 224 = true := rfl
theorem vd_224_12 : am_vd 224 12 = some 224 := rfl
theorem ok_227_156 : am_okc 227 156 = true := rfl
theorem ok_227_225 : am_okc 227 225 = true := rfl
theorem ok_227_224 : am_okc 227 224 = true := rfl
theorem ok_228_156 : am_okc 228 156 = true := rfl
theorem ok_229_159 : am_okc 229 159 = true := rfl
theorem ok_230_157 : am_okc 230 157 = true := rfl
theorem ok_230_225 : am_okc 230 225 = true := rfl
theorem ok_230_229 : am_okc 230 229 = true := rfl
theorem vd_229_12 : am_vd 229 12 = some 229 := rfl
theorem ok_231_163 : am_okc 231 163 = true := rfl
theorem ok_231_160 : am_okc 231 160 = true := rfl
theorem ok_231_228 : am_okc 231 228 = true := rfl
theorem vd_228_12 : am_vd 228 12 = some 228 := rfl
theorem ok_231_230 : am_okc 231 230 = true := rfl
theorem vd_230_12 : am_vd 230 12 = some 230 := rfl
theorem ok_232_157 : am_okc 232 157 = true := rfl
theorem ok_232_229 : am_okc 232 229 = true := rfl
theorem ok_233_157 : am_okc 233 157 = true := rfl
theorem ok_233_225 : am_okc 233 225 = true := rfl
theorem ok_233_229 : am_okc 233 229 = true := rfl
theorem ok_233_230 : am_okc 233 230 = true := rfl
theorem ok_234_163 : am_okc 234 163 = true := rfl
theorem ok_234_160 : am_okc 234 160 = true := rfl
theorem ok_234_228 : am_okc 234 228 = true := rfl
theorem ok_234_230 : am_okc 234 230 = true := rfl
theorem ok_234_232 : am_okc 234 232 = true := rfl
theorem vd_232_12 : am_vd 232 12 = some 232 := rfl
theorem ok_234_233 : am_okc 234 233 = true := rfl
theorem vd_233_12 : am_vd 233 12 = some 233 := rfl
theorem ok_235_163 : am_okc 235 163 = true := rfl
theorem ok_235_160 : am_okc 235 160 = true := rfl
theorem ok_235_228 : am_okc 235 228 = true := rfl
theorem ok_235_230 : am_okc 235 230 = true := rfl
theorem ok_235_232 : am_okc 235 232 = true := rfl
theorem ok_236_157 : am_okc 236 157 = true := rfl
theorem ok_236_163 : am_okc 236 163 = true := rfl
theorem ok_236_160 : am_okc 236 160 = true := rfl
theorem ok_236_228 : am_okc 236 228 = true := rfl
theorem ok_236_229 : am_okc 236 229 = true := rfl
theorem ok_237_207 : am_okc 237 207 = true := rfl
theorem ok_237_161 : am_okc 237 161 = true := rfl
theorem ok_237_162 : am_okc 237 162 = true := rfl
theorem ok_238_156 : am_okc 238 156 = true := rfl
theorem ok_238_196 : am_okc 238 196 = true := rfl
theorem vd_196_12 : am_vd 196 12 = some 196 := rfl
theorem ok_238_198 : am_okc 238 198 = true := rfl
theorem vd_198_12 : am_vd 198 12 = some 198 := rfl
theorem ok_238_199 : am_okc 238 199 = true := rfl
theorem vd_199_12 : am_vd 199 12 = some 199 := rfl
theorem ok_238_200 : am_okc 238 200 = true := rfl
theorem vd_200_12 : am_vd 200 12 = some 200 := rfl
theorem ok_243_189 : am_okc 243 189 = true := rfl
theorem ok_244_188 : am_okc 244 188 = true := rfl
theorem ok_244_242 : am_okc 244 242 = true := rfl
theorem vd_242_12 : am_vd 242 12 = some 242 := rfl
theorem ok_244_243 : am_okc 244 243 = true := rfl
theorem vd_243_12 : am_vd 243 12 = some 243 := rfl
theorem ok_246_156 : am_okc 246 156 = true := rfl
theorem ok_248_181 : am_okc 248 181 = true := rfl
theorem ok_248_244 : am_okc 248 244 = true := rfl
theorem vd_244_12 : am_vd 244 12 = some 244 := rfl
theorem ok_248_247 : am_okc 248 247 = true := rfl
theorem vd_247_12 : am_vd 247 12 = some 247 := rfl
theorem ok_254_79 : am_okc 254 79 = true := rfl
theorem vd_79_11 : am_vd 79 11 = some 79 := rfl
theorem ok_254_80 : am_okc 254 80 = true := rfl
theorem vd_80_11 : am_vd 80 11 = some 80 := rfl
theorem ok_254_81 : am_okc 254 81 = true := rfl
theorem ok_254_82 : am_okc 254 82 = true := rfl
theorem vd_82_11 : am_vd 82 11 = some 82 := rfl
theorem ok_254_83 : am_okc 254 83 = true := rfl
theorem vd_83_11 : am_vd 83 11 = some 83 := rfl
theorem ok_254_84 : am_okc 254 84 = true := rfl
theorem vd_84_11 : am_vd 84 11 = some 84 := rfl
theorem ok_254_85 : am_okc 254 85 = true := rfl
theorem vd_85_11 : am_vd 85 11 = some 85 := rfl
theorem ok_254_86 : am_okc 254 86 = true := rfl
theorem vd_86_11 : am_vd 86 11 = some 86 := rfl
theorem ok_254_87 : am_okc 254 87 = true := rfl
theorem vd_87_11 : am_vd 87 11 = some 87 := rfl
theorem ok_254_88 : am_okc 254 88 = true := rfl
theorem vd_88_11 : am_vd 88 11 = some 88 := rfl
theorem ok_254_89 : am_okc 254 89 = true := rfl
theorem vd_89_11 : am_vd 89 11 = some 89 := rfl
theorem ok_254_90 : am_okc 254 90 = true := rfl
theorem vd_90_11 : am_vd 90 11 = some 90 := rfl
theorem ok_254_91 : am_okc 254 91 = true := rfl
theorem vd_91_11 : am_vd 91 11 = some 91 := rfl
theorem ok_254_92 : am_okc 254 92 = true := rfl
theorem vd_92_11 : am_vd 92 11 = some 92 := rfl
theorem ok_254_93 : am_okc 254 93 = true := rfl
theorem vd_93_11 : am_vd 93 11 = some 93 := rfl
theorem ok_254_94 : am_okc 254 94 = true := rfl
theorem vd_94_11 : am_vd 94 11 = some 94 := rfl
theorem ok_254_95 : am_okc 254 95 = true := rfl
theorem vd_95_11 : am_vd 95 11 = some 95 := rfl
theorem ok_254_96 : am_okc 254 96 = true := rfl
theorem vd_96_11 : am_vd 96 11 = some 96 := rfl
theorem ok_254_97 : am_okc 254 97 = true := rfl
theorem vd_97_11 : am_vd 97 11 = some 97 := rfl
theorem ok_254_98 : am_okc 254 98 = true := rfl
theorem vd_98_11 : am_vd 98 11 = some 98 := rfl
theorem ok_254_99 : am_okc 254 99 = true := rfl
theorem vd_99_11 : am_vd 99 11 = some 99 := rfl
theorem ok_254_100 : am_okc 254 100 = true := rfl
theorem vd_100_11 : am_vd 100 11 = some 100 := rfl
theorem ok_254_101 : am_okc 254 101 = true := rfl
theorem vd_101_11 : am_vd 101 11 = some 101 := rfl
theorem ok_254_102 : am_okc 254 102 = true := rfl
theorem vd_102_11 : am_vd 102 11 = some 102 := rfl
theorem ok_254_103 : am_okc 254 103 = true := rfl
theorem vd_103_11 : am_vd 103 11 = some 103 := rfl
theorem ok_254_104 : am_okc 254 104 = true := rfl
theorem vd_104_11 : am_vd 104 11 = some 104 := rfl
theorem ok_254_105 : am_okc 254 105 = true := rfl
theorem vd_105_11 : am_vd 105 11 = some 105 := rfl
theorem ok_254_106 : am_okc 254 106 = true := rfl
theorem vd_106_11 : am_vd 106 11 = some 106 := rfl
theorem ok_254_107 : am_okc 254 107 = true := rfl
theorem vd_107_11 : am_vd 107 11 = some 107 := rfl
theorem ok_254_108 : am_okc 254 108 = true := rfl
theorem vd_108_11 : am_vd 108 11 = some 108 := rfl
theorem ok_254_109 : am_okc 254 109 = true := rfl
theorem vd_109_11 : am_vd 109 11 = some 109 := rfl
theorem ok_254_110 : am_okc 254 110 = true := rfl
theorem vd_110_11 : am_vd 110 11 = some 110 := rfl
theorem ok_254_111 : am_okc 254 111 = true := rfl
theorem vd_111_11 : am_vd 111 11 = some 111 := rfl
theorem ok_254_112 : am_okc 254 112 = true := rfl
theorem vd_112_11 : am_vd 112 11 = some 112 := rfl
theorem ok_254_113 : am_okc 254 113 = true := rfl
theorem vd_113_11 : am_vd 113 11 = some 113 := rfl
theorem ok_254_114 : am_okc 254 114 = true := rfl
theorem vd_114_11 : am_vd 114 11 = some 114 := rfl
theorem ok_254_115 : am_okc 254 115 = true := rfl
theorem vd_115_11 : am_vd 115 11 = some 115 := rfl
theorem ok_254_116 : am_okc 254 116 = true := rfl
theorem vd_116_11 : am_vd 116 11 = some 116 := rfl
theorem ok_254_117 : am_okc 254 117 = true := rfl
theorem vd_117_11 : am_vd 117 11 = some 117 := rfl
theorem ok_254_118 : am_okc 254 118 = true := rfl
theorem vd_118_11 : am_vd 118 11 = some 118 := rfl
theorem ok_254_119 : am_okc 254 119 = true := rfl
theorem vd_119_11 : am_vd 119 11 = some 119 := rfl
theorem ok_254_120 : am_okc 254 120 = true := rfl
theorem vd_120_11 : am_vd 120 11 = some 120 := rfl
theorem ok_254_121 : am_okc 254 121 = true := rfl
theorem vd_121_11 : am_vd 121 11 = some 121 := rfl
theorem ok_254_122 : am_okc 254 122 = true := rfl
theorem vd_122_11 : am_vd 122 11 = some 122 := rfl
theorem ok_254_123 : am_okc 254 123 = true := rfl
theorem vd_123_11 : am_vd 123 11 = some 123 := rfl
theorem ok_254_124 : am_okc 254 124 = true := rfl
theorem vd_124_11 : am_vd 124 11 = some 124 := rfl
theorem ok_254_125 : am_okc 254 125 = true := rfl
theorem ok_254_126 : am_okc 254 126 = true := rfl
theorem vd_126_11 : am_vd 126 11 = some 126 := rfl
theorem ok_254_127 : am_okc 254 127 = true := rfl
theorem vd_127_11 : am_vd 127 11 = some 127 := rfl
theorem ok_254_128 : am_okc 254 128 = true := rfl
theorem vd_128_11 : am_vd 128 11 = some 128 := rfl
theorem ok_254_165 : am_okc 254 165 = true := rfl
theorem vd_165_12 : am_vd 165 12 = some 165 := rfl
theorem ok_254_167 : am_okc 254 167 = true := rfl
theorem vd_167_12 : am_vd 167 12 = some 167 := rfl
theorem ok_254_168 : am_okc 254 168 = true := rfl
theorem vd_168_12 : am_vd 168 12 = some 168 := rfl
theorem ok_254_169 : am_okc 254 169 = true := rfl
theorem vd_169_12 : am_vd 169 12 = some 169 := rfl
theorem ok_254_170 : am_okc 254 170 = true := rfl
theorem vd_170_12 : am_vd 170 12 = some 170 := rfl
theorem ok_254_171 : am_okc 254 171 = true := rfl
theorem vd_171_12 : am_vd 171 12 = some 171 := rfl
theorem ok_254_172 : am_okc 254 172 = true := rfl
theorem vd_172_12 : am_vd 172 12 = some 172 := rfl
theorem ok_254_173 : am_okc 254 173 = true := rfl
theorem vd_173_12 : am_vd 173 12 = some 173 := rfl
theorem ok_254_176 : am_okc 254 176 = true := rfl
theorem vd_176_12 : am_vd 176 12 = some 176 := rfl
theorem ok_254_177 : am_okc 254 177 = true := rfl
theorem vd_177_12 : am_vd 177 12 = some 177 := rfl
theorem ok_254_182 : am_okc 254 182 = true := rfl
theorem vd_182_12 : am_vd 182 12 = some 182 := rfl
theorem ok_254_190 : am_okc 254 190 = true := rfl
theorem vd_190_12 : am_vd 190 12 = some 190 := rfl
theorem ok_254_191 : am_okc 254 191 = true := rfl
theorem vd_191_12 : am_vd 191 12 = some 191 := rfl
theorem ok_254_196 : am_okc 254 196 = true := rfl
theorem ok_254_197 : am_okc 254 197 = true := rfl
theorem vd_197_12 : am_vd 197 12 = some 197 := rfl
theorem ok_254_198 : am_okc 254 198 = true := rfl
theorem ok_254_199 : am_okc 254 199 = true := rfl
theorem ok_254_200 : am_okc 254 200 = true := rfl
theorem ok_254_202 : am_okc 254 202 = true := rfl
theorem vd_202_12 : am_vd 202 12 = some 202 := rfl
theorem ok_254_203 : am_okc 254 203 = true := rfl
theorem vd_203_12 : am_vd 203 12 = some 203 := rfl
theorem ok_254_204 : am_okc 254 204 = true := rfl
theorem vd_204_12 : am_vd 204 12 = some 204 := rfl
theorem ok_254_205 : am_okc 254 205 = true := rfl
theorem vd_205_12 : am_vd 205 12 = some 205 := rfl
theorem ok_254_206 : am_okc 254 206 = true := rfl
theorem vd_206_12 : am_vd 206 12 = some 206 := rfl
theorem ok_254_208 : am_okc 254 208 = true := rfl
theorem vd_208_12 : am_vd 208 12 = some 208 := rfl
theorem ok_254_209 : am_okc 254 209 = true := rfl
theorem vd_209_12 : am_vd 209 12 = some 209 := rfl
theorem ok_254_210 : am_okc 254 210 = true := rfl
theorem vd_210_12 : am_vd 210 12 = some 210 := rfl
theorem ok_254_211 : am_okc 254 211 = true := rfl
theorem vd_211_12 : am_vd 211 12 = some 211 := rfl
theorem ok_254_212 : am_okc 254 212 = true := rfl
theorem vd_212_12 : am_vd 212 12 = some 212 := rfl
theorem ok_254_216 : am_okc 254 216 = true := rfl
theorem vd_216_12 : am_vd 216 12 = some 216 := rfl
theorem ok_254_217 : am_okc 254 217 = true := rfl
theorem vd_217_12 : am_vd 217 12 = some 217 := rfl
theorem ok_254_218 : am_okc 254 218 = true := rfl
theorem vd_218_12 : am_vd 218 12 = some 218 := rfl
theorem ok_254_219 : am_okc 254 219 = true := rfl
theorem vd_219_12 : am_vd 219 12 = some 219 := rfl
theorem ok_254_220 : am_okc 254 220 = true := rfl
theorem vd_220_12 : am_vd 220 12 = some 220 := rfl
theorem ok_254_221 : am_okc 254 221 = true := rfl
theorem vd_221_12 : am_vd 221 12 = some 221 := rfl
theorem ok_254_223 : am_okc 254 223 = true := rfl
theorem vd_223_12 : am_vd 223 12 = some 223 := rfl
theorem ok_254_226 : am_okc 254 226 = true := rfl
theorem vd_226_12 : am_vd 226 12 = some 226 := rfl
theorem ok_254_227 : am_okc 254 227 = true := rfl
theorem vd_227_12 : am_vd 227 12 = some 227 := rfl
theorem ok_254_231 : am_okc 254 231 = true := rfl
theorem vd_231_12 : am_vd 231 12 = some 231 := rfl
theorem ok_254_234 : am_okc 254 234 = true := rfl
theorem vd_234_12 : am_vd 234 12 = some 234 := rfl
theorem ok_254_235 : am_okc 254 235 = true := rfl
theorem vd_235_12 : am_vd 235 12 = some 235 := rfl
theorem ok_254_236 : am_okc 254 236 = true := rfl
theorem vd_236_12 : am_vd 236 12 = some 236 := rfl
theorem ok_254_237 : am_okc 254 237 = true := rfl
theorem vd_237_12 : am_vd 237 12 = some 237 := rfl
theorem ok_254_238 : am_okc 254 238 = true := rfl
theorem vd_238_12 : am_vd 238 12 = some 238 := rfl
theorem ok_254_239 : am_okc 254 239 = true := rfl
theorem vd_239_12 : am_vd 239 12 = some 239 := rfl
theorem ok_254_240 : am_okc 254 240 = true := rfl
theorem vd_240_12 : am_vd 240 12 = some 240 := rfl
theorem ok_254_241 : am_okc 254 241 = true := rfl
theorem vd_241_12 : am_vd 241 12 = some 241 := rfl
theorem ok_254_244 : am_okc 254 244 = true := rfl
theorem ok_254_245 : am_okc 254 245 = true := rfl
theorem vd_245_12 : am_vd 245 12 = some 245 := rfl
theorem ok_254_246 : am_okc 254 246 = true := rfl
theorem vd_246_12 : am_vd 246 12 = some 246 := rfl
theorem ok_254_248 : am_okc 254 248 = true := rfl
theorem vd_248_12 : am_vd 248 12 = some 248 := rfl
theorem tg_1_0 : am_tg 1 0 = 3 := rfl
theorem tg_1_1 : am_tg 1 1 = 3 := rfl
theorem tg_1_2 : am_tg 1 2 = 3 := rfl
theorem tg_1_3 : am_tg 1 3 = 3 := rfl
theorem tg_1_4 : am_tg 1 4 = 0 := rfl
theorem tg_1_5 : am_tg 1 5 = 0 := rfl
theorem tg_4_0 : am_tg 4 0 = 3 := rfl
theorem tg_4_1 : am_tg 4 1 = 3 := rfl
theorem tg_4_2 : am_tg 4 2 = 3 := rfl
theorem tg_4_3 : am_tg 4 3 = 3 := rfl
theorem tg_4_4 : am_tg 4 4 = 3 := rfl
theorem tg_4_5 : am_tg 4 5 = 3 := rfl
theorem tg_4_6 : am_tg 4 6 = 3 := rfl
theorem tg_4_7 : am_tg 4 7 = 0 := rfl
theorem tg_4_8 : am_tg 4 8 = 0 := rfl
theorem tg_4_9 : am_tg 4 9 = 0 := rfl
theorem tg_4_10 : am_tg 4 10 = 0 := rfl
theorem tg_4_11 : am_tg 4 11 = 0 := rfl
theorem tg_4_12 : am_tg 4 12 = 2 := rfl
theorem tg_5_0 : am_tg 5 0 = 3 := rfl
theorem tg_5_1 : am_tg 5 1 = 3 := rfl
theorem tg_5_2 : am_tg 5 2 = 3 := rfl
theorem tg_5_3 : am_tg 5 3 = 3 := rfl
theorem tg_5_4 : am_tg 5 4 = 3 := rfl
theorem tg_5_5 : am_tg 5 5 = 0 := rfl
theorem tg_8_0 : am_tg 8 0 = 3 := rfl
theorem tg_8_1 : am_tg 8 1 = 0 := rfl
theorem tg_10_0 : am_tg 10 0 = 3 := rfl
theorem tg_10_1 : am_tg 10 1 = 3 := rfl
theorem tg_10_2 : am_tg 10 2 = 3 := rfl
theorem tg_10_3 : am_tg 10 3 = 3 := rfl
theorem tg_10_4 : am_tg 10 4 = 3 := rfl
theorem tg_10_5 : am_tg 10 5 = 0 := rfl
theorem tg_11_0 : am_tg 11 0 = 3 := rfl
theorem tg_11_1 : am_tg 11 1 = 3 := rfl
theorem tg_11_2 : am_tg 11 2 = 3 := rfl
theorem tg_11_3 : am_tg 11 3 = 3 := rfl
theorem tg_11_4 : am_tg 11 4 = 3 := rfl
theorem tg_11_5 : am_tg 11 5 = 3 := rfl
theorem tg_11_6 : am_tg 11 6 = 3 := rfl
theorem tg_11_7 : am_tg 11 7 = 3 := rfl
theorem tg_11_8 : am_tg 11 8 = 3 := rfl
theorem tg_11_9 : am_tg 11 9 = 0 := rfl
theorem tg_11_10 : am_tg 11 10 = 0 := rfl
theorem tg_11_11 : am_tg 11 11 = 1 := rfl
theorem tg_11_12 : am_tg 11 12 = 1 := rfl
theorem tg_12_0 : am_tg 12 0 = 3 := rfl
theorem tg_12_1 : am_tg 12 1 = 3 := rfl
theorem tg_12_2 : am_tg 12 2 = 3 := rfl
theorem tg_12_3 : am_tg 12 3 = 3 := rfl
theorem tg_12_4 : am_tg 12 4 = 3 := rfl
theorem tg_12_5 : am_tg 12 5 = 3 := rfl
theorem tg_12_6 : am_tg 12 6 = 3 := rfl
theorem tg_12_7 : am_tg 12 7 = 0 := rfl
theorem tg_12_8 : am_tg 12 8 = 0 := rfl
theorem tg_12_9 : am_tg 12 9 = 1 := rfl
theorem tg_12_10 : am_tg 12 10 = 1 := rfl
theorem tg_12_11 : am_tg 12 11 = 3 := rfl
theorem tg_12_12 : am_tg 12 12 = 0 := rfl
theorem tg_12_13 : am_tg 12 13 = 3 := rfl
theorem tg_12_14 : am_tg 12 14 = 3 := rfl
theorem tg_12_15 : am_tg 12 15 = 0 := rfl
theorem tg_12_16 : am_tg 12 16 = 3 := rfl
theorem tg_12_17 : am_tg 12 17 = 0 := rfl
theorem tg_12_18 : am_tg 12 18 = 3 := rfl
theorem tg_12_19 : am_tg 12 19 = 3 := rfl
theorem tg_12_20 : am_tg 12 20 = 3 := rfl
theorem tg_12_21 : am_tg 12 21 = 3 := rfl
theorem tg_12_22 : am_tg 12 22 = 3 := rfl
theorem tg_12_23 : am_tg 12 23 = 3 := rfl
theorem tg_12_24 : am_tg 12 24 = 3 := rfl
theorem tg_12_25 : am_tg 12 25 = 3 := rfl
theorem tg_12_26 : am_tg 12 26 = 1 := rfl
theorem sh_0 : sh0 0 = (0, 11, 0) := rfl
theorem sh_1 : sh0 1 = (4, 6, 0) := rfl
theorem sh_2 : sh0 2 = (4, 4, 0) := rfl
theorem sh_3 : sh0 3 = (4, 3, 1) := rfl
theorem sh_4 : sh0 4 = (0, 1, 0) := rfl
theorem sh_5 : sh0 5 = (1, 60, 0) := rfl
theorem sh_6 : sh0 6 = (1, 60, 0) := rfl
theorem sh_7 : sh0 7 = (1, 60, 0) := rfl
theorem sh_8 : sh0 8 = (1, 60, 0) := rfl
theorem sh_9 : sh0 9 = (0, 10, 0) := rfl
theorem sh_10 : sh0 10 = (1, 5, 0) := rfl
theorem sh_11 : sh0 11 = (4, 5, 3) := rfl
theorem sh_12 : sh0 12 = (1, 10, 0) := rfl
theorem sh_13 : sh0 13 = (1, 10, 0) := rfl
theorem sh_14 : sh0 14 = (1, 10, 0) := rfl
theorem sh_15 : sh0 15 = (1, 10, 0) := rfl
theorem sh_16 : sh0 16 = (1, 10, 0) := rfl
theorem sh_17 : sh0 17 = (4, 6, 3) := rfl
theorem sh_18 : sh0 18 = (1, 51, 0) := rfl
theorem sh_19 : sh0 19 = (1, 51, 0) := rfl
theorem sh_20 : sh0 20 = (1, 51, 0) := rfl
theorem sh_21 : sh0 21 = (1, 51, 0) := rfl
theorem sh_22 : sh0 22 = (1, 51, 0) := rfl
theorem sh_23 : sh0 23 = (1, 51, 0) := rfl
theorem sh_24 : sh0 24 = (4, 6, 3) := rfl
theorem sh_25 : sh0 25 = (1, 51, 0) := rfl
theorem sh_26 : sh0 26 = (1, 51, 0) := rfl
theorem sh_27 : sh0 27 = (1, 51, 0) := rfl
theorem sh_28 : sh0 28 = (1, 51, 0) := rfl
theorem sh_29 : sh0 29 = (1, 51, 0) := rfl
theorem sh_30 : sh0 30 = (1, 51, 0) := rfl
theorem sh_31 : sh0 31 = (4, 6, 3) := rfl
theorem sh_32 : sh0 32 = (1, 51, 0) := rfl
theorem sh_33 : sh0 33 = (1, 51, 0) := rfl
theorem sh_34 : sh0 34 = (1, 51, 0) := rfl
theorem sh_35 : sh0 35 = (1, 51, 0) := rfl
theorem sh_36 : sh0 36 = (1, 51, 0) := rfl
theorem sh_37 : sh0 37 = (1, 51, 0) := rfl
theorem sh_38 : sh0 38 = (0, 5, 0) := rfl
theorem sh_39 : sh0 39 = (1, 8, 0) := rfl
theorem sh_40 : sh0 40 = (1, 8, 0) := rfl
theorem sh_41 : sh0 41 = (1, 256, 0) := rfl
theorem sh_42 : sh0 42 = (1, 256, 0) := rfl
theorem sh_43 : sh0 43 = (1, 8, 0) := rfl
theorem sh_44 : sh0 44 = (1, 8, 0) := rfl
theorem sh_45 : sh0 45 = (1, 6, 0) := rfl
theorem sh_46 : sh0 46 = (0, 8, 0) := rfl
theorem sh_47 : sh0 47 = (1, 60, 0) := rfl
theorem sh_48 : sh0 48 = (0, 8, 0) := rfl
theorem sh_49 : sh0 49 = (1, 60, 0) := rfl
theorem sh_50 : sh0 50 = (0, 8, 0) := rfl
theorem sh_51 : sh0 51 = (1, 60, 0) := rfl
theorem sh_52 : sh0 52 = (0, 8, 0) := rfl
theorem sh_53 : sh0 53 = (1, 60, 0) := rfl
theorem sh_54 : sh0 54 = (0, 8, 0) := rfl
theorem sh_55 : sh0 55 = (1, 60, 0) := rfl
theorem sh_56 : sh0 56 = (0, 8, 0) := rfl
theorem sh_57 : sh0 57 = (1, 60, 0) := rfl
theorem sh_58 : sh0 58 = (0, 8, 0) := rfl
theorem sh_59 : sh0 59 = (1, 80, 0) := rfl
theorem sh_60 : sh0 60 = (0, 8, 0) := rfl
theorem sh_61 : sh0 61 = (1, 80, 0) := rfl
theorem sh_62 : sh0 62 = (0, 8, 0) := rfl
theorem sh_63 : sh0 63 = (1, 80, 0) := rfl
theorem sh_64 : sh0 64 = (0, 8, 0) := rfl
theorem sh_65 : sh0 65 = (1, 80, 0) := rfl
theorem sh_66 : sh0 66 = (4, 6, 2) := rfl
theorem sh_67 : sh0 67 = (0, 3, 0) := rfl
theorem sh_68 : sh0 68 = (0, 6, 0) := rfl
theorem sh_69 : sh0 69 = (0, 0, 0) := rfl
theorem sh_70 : sh0 70 = (0, 7, 0) := rfl
theorem sh_71 : sh0 71 = (0, 2, 0) := rfl
theorem sh_72 : sh0 72 = (0, 9, 0) := rfl
theorem sh_73 : sh0 73 = (0, 4, 0) := rfl
theorem sh_74 : sh0 74 = (1, 8, 0) := rfl
theorem sh_75 : sh0 75 = (1, 8, 0) := rfl
theorem sh_76 : sh0 76 = (1, 8, 0) := rfl
theorem sh_77 : sh0 77 = (1, 8, 0) := rfl
theorem sh_78 : sh0 78 = (1, 64, 0) := rfl
theorem sh_79 : sh0 79 = (1, 90, 0) := rfl
theorem sh_80 : sh0 80 = (0, 4, 0) := rfl
theorem sh_81 : sh0 81 = (1, 8, 0) := rfl
theorem sh_82 : sh0 82 = (1, 8, 0) := rfl
theorem sh_83 : sh0 83 = (1, 8, 0) := rfl
theorem sh_84 : sh0 84 = (1, 8, 0) := rfl
theorem sh_85 : sh0 85 = (1, 64, 0) := rfl
theorem sh_86 : sh0 86 = (1, 90, 0) := rfl
theorem sh_87 : sh0 87 = (0, 4, 0) := rfl
theorem sh_88 : sh0 88 = (1, 8, 0) := rfl
theorem sh_89 : sh0 89 = (1, 8, 0) := rfl
theorem sh_90 : sh0 90 = (1, 8, 0) := rfl
theorem sh_91 : sh0 91 = (1, 8, 0) := rfl
theorem sh_92 : sh0 92 = (1, 64, 0) := rfl
theorem sh_93 : sh0 93 = (1, 90, 0) := rfl
theorem sh_94 : sh0 94 = (0, 4, 0) := rfl
theorem sh_95 : sh0 95 = (1, 8, 0) := rfl
theorem sh_96 : sh0 96 = (1, 8, 0) := rfl
theorem sh_97 : sh0 97 = (1, 8, 0) := rfl
theorem sh_98 : sh0 98 = (1, 8, 0) := rfl
theorem sh_99 : sh0 99 = (1, 64, 0) := rfl
theorem sh_100 : sh0 100 = (1, 90, 0) := rfl
theorem sh_101 : sh0 101 = (0, 12, 0) := rfl
theorem sh_102 : sh0 102 = (1, 800, 0) := rfl
theorem sh_103 : sh0 103 = (3, 3, 0) := rfl
theorem sh_104 : sh0 104 = (1, 360, 0) := rfl
theorem sh_105 : sh0 105 = (1, 6, 0) := rfl
theorem sh_106 : sh0 106 = (1, 320, 0) := rfl
theorem sh_107 : sh0 107 = (1, 4, 0) := rfl
theorem sh_108 : sh0 108 = (1, 6, 0) := rfl
theorem sh_109 : sh0 109 = (1, 240, 0) := rfl
theorem sh_110 : sh0 110 = (1, 60, 0) := rfl
theorem sh_111 : sh0 111 = (1, 32, 0) := rfl
theorem sh_112 : sh0 112 = (1, 8, 0) := rfl
theorem sh_113 : sh0 113 = (2, 100, 0) := rfl
theorem sh_114 : sh0 114 = (2, 100, 0) := rfl
theorem sh_115 : sh0 115 = (1, 100, 0) := rfl
theorem sh_116 : sh0 116 = (1, 100, 0) := rfl
theorem sh_117 : sh0 117 = (1, 100, 0) := rfl
theorem sh_118 : sh0 118 = (1, 100, 0) := rfl
theorem sh_119 : sh0 119 = (2, 256, 0) := rfl
theorem sh_120 : sh0 120 = (1, 8, 0) := rfl
theorem sh_1000 : sh0 1000 = (1, 6, 0) := rfl
theorem sh_1001 : sh0 1001 = (5, 0, 0) := rfl
theorem rf_0_0 : rf0 0 0 = some 1 := rfl
theorem rf_0_1 : rf0 0 1 = some 2 := rfl
theorem rf_0_2 : rf0 0 2 = some 73 := rfl
theorem rf_0_3 : rf0 0 3 = some 3 := rfl
theorem rf_0_4 : rf0 0 4 = some 4 := rfl
theorem rf_0_5 : rf0 0 5 = some 9 := rfl
theorem rf_0_6 : rf0 0 6 = some 38 := rfl
theorem rf_0_7 : rf0 0 7 = some 44 := rfl
theorem rf_0_8 : rf0 0 8 = some 45 := rfl
theorem rf_1_0 : rf0 1 0 = some 46 := rfl
theorem rf_1_1 : rf0 1 1 = some 48 := rfl
theorem rf_1_2 : rf0 1 2 = some 50 := rfl
theorem rf_1_3 : rf0 1 3 = some 52 := rfl
theorem rf_1_4 : rf0 1 4 = some 54 := rfl
theorem rf_1_5 : rf0 1 5 = some 56 := rfl
theorem rf_2_0 : rf0 2 0 = some 58 := rfl
theorem rf_2_1 : rf0 2 1 = some 60 := rfl
theorem rf_2_2 : rf0 2 2 = some 62 := rfl
theorem rf_2_3 : rf0 2 3 = some 64 := rfl
theorem rf_3_0 : rf0 3 0 = some 80 := rfl
theorem rf_3_1 : rf0 3 1 = some 87 := rfl
theorem rf_3_2 : rf0 3 2 = some 94 := rfl
theorem rf_4_0 : rf0 4 0 = some 5 := rfl
theorem rf_4_1 : rf0 4 1 = some 6 := rfl
theorem rf_4_2 : rf0 4 2 = some 7 := rfl
theorem rf_4_3 : rf0 4 3 = some 8 := rfl
theorem rf_9_0 : rf0 9 0 = some 10 := rfl
theorem rf_9_1 : rf0 9 1 = some 11 := rfl
theorem rf_9_2 : rf0 9 2 = some 17 := rfl
theorem rf_9_3 : rf0 9 3 = some 24 := rfl
theorem rf_9_4 : rf0 9 4 = some 31 := rfl
theorem rf_11_0 : rf0 11 0 = some 12 := rfl
theorem rf_11_1 : rf0 11 1 = some 13 := rfl
theorem rf_11_2 : rf0 11 2 = some 14 := rfl
theorem rf_11_3 : rf0 11 3 = some 15 := rfl
theorem rf_11_4 : rf0 11 4 = some 16 := rfl
theorem rf_17_0 : rf0 17 0 = some 18 := rfl
theorem rf_17_1 : rf0 17 1 = some 19 := rfl
theorem rf_17_2 : rf0 17 2 = some 20 := rfl
theorem rf_17_3 : rf0 17 3 = some 21 := rfl
theorem rf_17_4 : rf0 17 4 = some 22 := rfl
theorem rf_17_5 : rf0 17 5 = some 23 := rfl
theorem rf_24_0 : rf0 24 0 = some 25 := rfl
theorem rf_24_1 : rf0 24 1 = some 26 := rfl
theorem rf_24_2 : rf0 24 2 = some 27 := rfl
theorem rf_24_3 : rf0 24 3 = some 28 := rfl
theorem rf_24_4 : rf0 24 4 = some 29 := rfl
theorem rf_24_5 : rf0 24 5 = some 30 := rfl
theorem rf_31_0 : rf0 31 0 = some 32 := rfl
theorem rf_31_1 : rf0 31 1 = some 33 := rfl
theorem rf_31_2 : rf0 31 2 = some 34 := rfl
theorem rf_31_3 : rf0 31 3 = some 35 := rfl
theorem rf_31_4 : rf0 31 4 = some 36 := rfl
theorem rf_31_5 : rf0 31 5 = some 37 := rfl
theorem rf_38_0 : rf0 38 0 = some 39 := rfl
theorem rf_38_1 : rf0 38 1 = some 40 := rfl
theorem rf_38_2 : rf0 38 2 = some 41 := rfl
theorem rf_38_3 : rf0 38 3 = some 42 := rfl
theorem rf_38_4 : rf0 38 4 = some 43 := rfl
theorem rf_46_0 : rf0 46 0 = some 47 := rfl
theorem rf_48_0 : rf0 48 0 = some 49 := rfl
theorem rf_50_0 : rf0 50 0 = some 51 := rfl
theorem rf_52_0 : rf0 52 0 = some 53 := rfl
theorem rf_54_0 : rf0 54 0 = some 55 := rfl
theorem rf_56_0 : rf0 56 0 = some 57 := rfl
theorem rf_58_0 : rf0 58 0 = some 59 := rfl
theorem rf_60_0 : rf0 60 0 = some 61 := rfl
theorem rf_62_0 : rf0 62 0 = some 63 := rfl
theorem rf_64_0 : rf0 64 0 = some 65 := rfl
theorem rf_66_0 : rf0 66 0 = some 67 := rfl
theorem rf_66_1 : rf0 66 1 = some 68 := rfl
theorem rf_66_2 : rf0 66 2 = some 69 := rfl
theorem rf_66_3 : rf0 66 3 = some 70 := rfl
theorem rf_66_4 : rf0 66 4 = some 71 := rfl
theorem rf_66_5 : rf0 66 5 = some 72 := rfl
theorem rf_73_0 : rf0 73 0 = some 66 := rfl
theorem rf_73_1 : rf0 73 1 = some 74 := rfl
theorem rf_73_2 : rf0 73 2 = some 75 := rfl
theorem rf_73_3 : rf0 73 3 = some 76 := rfl
theorem rf_73_4 : rf0 73 4 = some 77 := rfl
theorem rf_73_5 : rf0 73 5 = some 78 := rfl
theorem rf_73_6 : rf0 73 6 = some 79 := rfl
theorem rf_80_0 : rf0 80 0 = some 66 := rfl
theorem rf_80_1 : rf0 80 1 = some 81 := rfl
theorem rf_80_2 : rf0 80 2 = some 82 := rfl
theorem rf_80_3 : rf0 80 3 = some 83 := rfl
theorem rf_80_4 : rf0 80 4 = some 84 := rfl
theorem rf_80_5 : rf0 80 5 = some 85 := rfl
theorem rf_80_6 : rf0 80 6 = some 86 := rfl
theorem rf_87_0 : rf0 87 0 = some 66 := rfl
theorem rf_87_1 : rf0 87 1 = some 88 := rfl
theorem rf_87_2 : rf0 87 2 = some 89 := rfl
theorem rf_87_3 : rf0 87 3 = some 90 := rfl
theorem rf_87_4 : rf0 87 4 = some 91 := rfl
theorem rf_87_5 : rf0 87 5 = some 92 := rfl
theorem rf_87_6 : rf0 87 6 = some 93 := rfl
theorem rf_94_0 : rf0 94 0 = some 66 := rfl
theorem rf_94_1 : rf0 94 1 = some 95 := rfl
theorem rf_94_2 : rf0 94 2 = some 96 := rfl
theorem rf_94_3 : rf0 94 3 = some 97 := rfl
theorem rf_94_4 : rf0 94 4 = some 98 := rfl
theorem rf_94_5 : rf0 94 5 = some 99 := rfl
theorem rf_94_6 : rf0 94 6 = some 100 := rfl
theorem rf_101_0 : rf0 101 0 = some 102 := rfl
theorem rf_101_1 : rf0 101 1 = some 103 := rfl
theorem rf_101_2 : rf0 101 2 = some 104 := rfl
theorem rf_101_3 : rf0 101 3 = some 105 := rfl
theorem rf_101_4 : rf0 101 4 = some 106 := rfl
theorem rf_101_5 : rf0 101 5 = some 107 := rfl
theorem rf_101_6 : rf0 101 6 = some 108 := rfl
theorem rf_101_11 : rf0 101 11 = some 109 := rfl
theorem rf_101_13 : rf0 101 13 = some 110 := rfl
theorem rf_101_14 : rf0 101 14 = some 111 := rfl
theorem rf_101_16 : rf0 101 16 = some 112 := rfl
theorem rf_101_18 : rf0 101 18 = some 113 := rfl
theorem rf_101_19 : rf0 101 19 = some 114 := rfl
theorem rf_101_20 : rf0 101 20 = some 115 := rfl
theorem rf_101_21 : rf0 101 21 = some 116 := rfl
theorem rf_101_22 : rf0 101 22 = some 117 := rfl
theorem rf_101_23 : rf0 101 23 = some 118 := rfl
theorem rf_101_24 : rf0 101 24 = some 119 := rfl
theorem rf_101_25 : rf0 101 25 = some 120 := rfl
