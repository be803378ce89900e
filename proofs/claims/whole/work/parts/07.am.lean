/-! THE ABSTRACT MACHINE: values are int, long, reference (a cell's number); a store is (how many cells, how many slots, shapes, references, numbers).
Shapes: (0, class, _) an object, (1, n, _) int[n], (2, n, _) long[n], (3, n, _) boolean[n], (4, n, t) an array of references, (5, _, _) the law's script: its length stands at place 0, its ints behind it.
Cell 1000 is SpoonCensus.LETTERS, cell 1001 the script: both are read alone. -/
abbrev AV : Type := Int ⊕ (Int ⊕ Option Nat)
abbrev LV : Type := List (Option AV)
abbrev ST : Type := Nat × Nat × (Nat → Nat × Nat × Nat) × (Nat → Nat → Option Nat) × (Nat → Nat → Int)
abbrev NX : Type := Nat × LV × List AV × ST
def am_isL (v : AV) : Bool := match v with
  | .inr (.inl _) => true
  | _ => false
def am_up {α : Type} (f : Nat → Nat → α) (a i : Nat) (v : α) : Nat → Nat → α := fun b j => if b = a ∧ j = i then v else f b j
def am_row {α : Type} (f : Nat → Nat → α) (a : Nat) (g : Nat → α) : Nat → Nat → α := fun b j => if b = a then g j else f b j
def am_u1 {α : Type} (f : Nat → α) (a : Nat) (v : α) : Nat → α := fun b => if b = a then v else f b
-- locals
def am_clr (L : LV) (i : Nat) : LV := match i with
  | 0 => L
  | j + 1 => match L[j]? with
    | some (some (.inr (.inl _))) => L.set j none
    | _ => L
def am_st1 (L : LV) (i : Nat) (v : AV) : LV := (am_clr L i).set i (some v)
def am_st2 (L : LV) (i : Nat) (v : AV) : LV := ((am_clr L i).set i (some v)).set (i + 1) none
-- arithmetic
def am_and (a b : Int) : Int := (Int32.ofInt a &&& Int32.ofInt b).toInt
def am_or (a b : Int) : Int := (Int32.ofInt a ||| Int32.ofInt b).toInt
def am_xor (a b : Int) : Int := (Int32.ofInt a ^^^ Int32.ofInt b).toInt
def am_shl (a b : Int) : Int := (Int32.ofInt a <<< (Int32.ofInt b &&& 31)).toInt
def am_shr (a b : Int) : Int := (Int32.ofInt a >>> (Int32.ofInt b &&& 31)).toInt
def am_ushr (a b : Int) : Int := ((Int32.ofInt a).toUInt32 >>> ((Int32.ofInt b).toUInt32 &&& Int32.toUInt32 31)).toInt32.toInt
def am_i2b (a : Int) : Int := (Int32.ofInt a).toInt8.toInt32.toInt
def am_cmp (a b : Int) : Int := if a < b then -1 else if a = b then 0 else 1
def am_cnd (c : ClassFile.Cond) (a b : Int) : Bool := match c with
  | .eq => decide (a = b)
  | .ne => decide (¬ a = b)
  | .lt => decide (a < b)
  | .ge => decide (b ≤ a)
  | .gt => decide (b < a)
  | .le => decide (a ≤ b)
def am_i1 (f : Int → Int) (nx : Nat) (L : LV) (st : List AV) (σ : ST) : Option NX := match st with
  | .inl a :: r => some (nx, L, .inl (f a) :: r, σ)
  | _ => none
def am_i2 (f : Int → Int → Int) (nx : Nat) (L : LV) (st : List AV) (σ : ST) : Option NX := match st with
  | .inl b :: .inl a :: r => some (nx, L, .inl (f a b) :: r, σ)
  | _ => none
def am_i2d (f : Int → Int → Int) (nx : Nat) (L : LV) (st : List AV) (σ : ST) : Option NX := match st with
  | .inl b :: .inl a :: r => if b = 0 then none else some (nx, L, .inl (f a b) :: r, σ)
  | _ => none
def am_l1 (f : Int → Int) (nx : Nat) (L : LV) (st : List AV) (σ : ST) : Option NX := match st with
  | .inr (.inl a) :: r => some (nx, L, .inr (.inl (f a)) :: r, σ)
  | _ => none
def am_l2 (f : Int → Int → Int) (nx : Nat) (L : LV) (st : List AV) (σ : ST) : Option NX := match st with
  | .inr (.inl b) :: .inr (.inl a) :: r => some (nx, L, .inr (.inl (f a b)) :: r, σ)
  | _ => none
def am_l2d (f : Int → Int → Int) (nx : Nat) (L : LV) (st : List AV) (σ : ST) : Option NX := match st with
  | .inr (.inl b) :: .inr (.inl a) :: r => if b = 0 then none else some (nx, L, .inr (.inl (f a b)) :: r, σ)
  | _ => none
def am_ldi (i nx : Nat) (L : LV) (st : List AV) (σ : ST) : Option NX := match L[i]? with
  | some (some (.inl z)) => some (nx, L, .inl z :: st, σ)
  | _ => none
def am_ldl (i nx : Nat) (L : LV) (st : List AV) (σ : ST) : Option NX := match L[i]? with
  | some (some (.inr (.inl z))) => some (nx, L, .inr (.inl z) :: st, σ)
  | _ => none
def am_lda (i nx : Nat) (L : LV) (st : List AV) (σ : ST) : Option NX := match L[i]? with
  | some (some (.inr (.inr (some k)))) => some (nx, L, .inr (.inr (some k)) :: st, σ)
  | _ => none
def am_sti (i nx : Nat) (L : LV) (st : List AV) (σ : ST) : Option NX := match st with
  | .inl z :: r => if i < L.length then some (nx, am_st1 L i (.inl z), r, σ) else none
  | _ => none
def am_sta (i nx : Nat) (L : LV) (st : List AV) (σ : ST) : Option NX := match st with
  | .inr (.inr (some k)) :: r => if i < L.length then some (nx, am_st1 L i (.inr (.inr (some k))), r, σ) else none
  | _ => none
def am_stl (i nx : Nat) (L : LV) (st : List AV) (σ : ST) : Option NX := match st with
  | .inr (.inl z) :: r => if i + 1 < L.length then some (nx, am_st2 L i (.inr (.inl z)), r, σ) else none
  | _ => none
def am_inc (i : Nat) (n : Int) (nx : Nat) (L : LV) (st : List AV) (σ : ST) : Option NX := match L[i]? with
  | some (some (.inl z)) => some (nx, am_st1 L i (.inl (nz (z + n))), st, σ)
  | _ => none
def am_i2l (nx : Nat) (L : LV) (st : List AV) (σ : ST) : Option NX := match st with
  | .inl a :: r => some (nx, L, .inr (.inl a) :: r, σ)
  | _ => none
def am_l2i (nx : Nat) (L : LV) (st : List AV) (σ : ST) : Option NX := match st with
  | .inr (.inl a) :: r => some (nx, L, .inl (nz a) :: r, σ)
  | _ => none
def am_lcmp (nx : Nat) (L : LV) (st : List AV) (σ : ST) : Option NX := match st with
  | .inr (.inl b) :: .inr (.inl a) :: r => some (nx, L, .inl (am_cmp a b) :: r, σ)
  | _ => none
def am_dup (nx : Nat) (L : LV) (st : List AV) (σ : ST) : Option NX := match st with
  | v :: r => if am_isL v then none else some (nx, L, v :: v :: r, σ)
  | _ => none
def am_dup2 (nx : Nat) (L : LV) (st : List AV) (σ : ST) : Option NX := match st with
  | v :: w :: r => if am_isL v || am_isL w then none else some (nx, L, v :: w :: v :: w :: r, σ)
  | _ => none
def am_pop1 (nx : Nat) (L : LV) (st : List AV) (σ : ST) : Option NX := match st with
  | v :: r => if am_isL v then none else some (nx, L, r, σ)
  | _ => none
def am_fv (σ : ST) (c k f : Nat) : AV := if am_tg c f = 3 then .inr (.inr (σ.2.2.2.1 k f)) else if am_tg c f = 1 then .inr (.inl (σ.2.2.2.2 k f)) else .inl (σ.2.2.2.2 k f)
def am_getf (n nx : Nat) (L : LV) (st : List AV) (σ : ST) : Option NX := match st with
  | .inr (.inr (some k)) :: r => if k < σ.1 ∧ (σ.2.2.1 k).1 = 0 ∧ (σ.2.2.1 k).2.1 = n / 1000 then some (nx, L, am_fv σ (n / 1000) k (n % 1000 / 10) :: r, σ) else none
  | _ => none
def am_wr (σ : ST) (k i : Nat) (z : Int) : ST := (σ.1, σ.2.1, σ.2.2.1, σ.2.2.2.1, am_up σ.2.2.2.2 k i z)
def am_wrf (σ : ST) (k i : Nat) (q : Option Nat) : ST := (σ.1, σ.2.1, σ.2.2.1, am_up σ.2.2.2.1 k i q, σ.2.2.2.2)
def am_putf (n nx : Nat) (L : LV) (st : List AV) (σ : ST) : Option NX := match st with
  | .inl z :: .inr (.inr (some k)) :: r => if (k < σ.1 ∧ (σ.2.2.1 k).1 = 0 ∧ (σ.2.2.1 k).2.1 = n / 1000) ∧ (n % 10 = 0 ∨ (n % 10 = 2 ∧ (z = 0 ∨ z = 1))) then some (nx, L, r, am_wr σ k (n % 1000 / 10) z) else none
  | .inr (.inl z) :: .inr (.inr (some k)) :: r => if (k < σ.1 ∧ (σ.2.2.1 k).1 = 0 ∧ (σ.2.2.1 k).2.1 = n / 1000) ∧ n % 10 = 1 then some (nx, L, r, am_wr σ k (n % 1000 / 10) z) else none
  | .inr (.inr (some q)) :: .inr (.inr (some k)) :: r => if (k < σ.1 ∧ (σ.2.2.1 k).1 = 0 ∧ (σ.2.2.1 k).2.1 = n / 1000) ∧ n % 10 = 3 then some (nx, L, r, am_wrf σ k (n % 1000 / 10) (some q)) else none
  | _ => none
def am_ial (nx : Nat) (L : LV) (st : List AV) (σ : ST) : Option NX := match st with
  | .inl i :: .inr (.inr (some k)) :: r =>
    if (σ.2.2.1 k).1 = 1 ∧ (k < σ.1 ∨ k = 1000) ∧ 0 ≤ i ∧ i < (σ.2.2.1 k).2.1 then some (nx, L, .inl (σ.2.2.2.2 k i.toNat) :: r, σ)
    else if k = 1001 ∧ 0 ≤ i ∧ i < σ.2.2.2.2 k 0 then some (nx, L, .inl (σ.2.2.2.2 k (i.toNat + 1)) :: r, σ) else none
  | _ => none
def am_lal (nx : Nat) (L : LV) (st : List AV) (σ : ST) : Option NX := match st with
  | .inl i :: .inr (.inr (some k)) :: r => if k < σ.1 ∧ (σ.2.2.1 k).1 = 2 ∧ 0 ≤ i ∧ i < (σ.2.2.1 k).2.1 then some (nx, L, .inr (.inl (σ.2.2.2.2 k i.toNat)) :: r, σ) else none
  | _ => none
def am_bal (nx : Nat) (L : LV) (st : List AV) (σ : ST) : Option NX := match st with
  | .inl i :: .inr (.inr (some k)) :: r => if k < σ.1 ∧ (σ.2.2.1 k).1 = 3 ∧ 0 ≤ i ∧ i < (σ.2.2.1 k).2.1 then some (nx, L, .inl (σ.2.2.2.2 k i.toNat) :: r, σ) else none
  | _ => none
def am_aal (nx : Nat) (L : LV) (st : List AV) (σ : ST) : Option NX := match st with
  | .inl i :: .inr (.inr (some k)) :: r => if (k < σ.1 ∧ (σ.2.2.1 k).1 = 4 ∧ 0 ≤ i ∧ i < (σ.2.2.1 k).2.1) ∧ (σ.2.2.1 k).2.2 < 4 then some (nx, L, .inr (.inr (σ.2.2.2.1 k i.toNat)) :: r, σ) else none
  | _ => none
def am_ias (nx : Nat) (L : LV) (st : List AV) (σ : ST) : Option NX := match st with
  | .inl z :: .inl i :: .inr (.inr (some k)) :: r => if k < σ.1 ∧ (σ.2.2.1 k).1 = 1 ∧ 0 ≤ i ∧ i < (σ.2.2.1 k).2.1 then some (nx, L, r, am_wr σ k i.toNat z) else none
  | _ => none
def am_las (nx : Nat) (L : LV) (st : List AV) (σ : ST) : Option NX := match st with
  | .inr (.inl z) :: .inl i :: .inr (.inr (some k)) :: r => if k < σ.1 ∧ (σ.2.2.1 k).1 = 2 ∧ 0 ≤ i ∧ i < (σ.2.2.1 k).2.1 then some (nx, L, r, am_wr σ k i.toNat z) else none
  | _ => none
def am_bas (nx : Nat) (L : LV) (st : List AV) (σ : ST) : Option NX := match st with
  | .inl z :: .inl i :: .inr (.inr (some k)) :: r => if (k < σ.1 ∧ (σ.2.2.1 k).1 = 3 ∧ 0 ≤ i ∧ i < (σ.2.2.1 k).2.1) ∧ (z = 0 ∨ z = 1) then some (nx, L, r, am_wr σ k i.toNat z) else none
  | _ => none
def am_aas (nx : Nat) (L : LV) (st : List AV) (σ : ST) : Option NX := match st with
  | .inr (.inr (some q)) :: .inl i :: .inr (.inr (some k)) :: r =>
    if (k < σ.1 ∧ (σ.2.2.1 k).1 = 4 ∧ 0 ≤ i ∧ i < (σ.2.2.1 k).2.1) ∧ (σ.2.2.1 k).2.2 < 3 ∧ q < σ.1 ∧ (σ.2.2.1 q).1 = 0 ∧ am_in (σ.2.2.1 q).2.1 (am_et (σ.2.2.1 k).2.2) = true ∧ (σ.2.2.1 q).2.1 < 13 then some (nx, L, r, am_wrf σ k i.toNat (some q)) else none
  | _ => none
def am_alen (nx : Nat) (L : LV) (st : List AV) (σ : ST) : Option NX := match st with
  | .inr (.inr (some k)) :: r =>
    if (k < σ.1 ∧ ((σ.2.2.1 k).1 = 1 ∨ (σ.2.2.1 k).1 = 4)) ∧ (σ.2.2.1 k).2.2 < 4 then (if (σ.2.2.1 k).2.1 < 100000 then some (nx, L, .inl (σ.2.2.1 k).2.1 :: r, σ) else none)
    else if k = 1001 ∧ 0 ≤ σ.2.2.2.2 k 0 then some (nx, L, .inl (σ.2.2.2.2 k 0) :: r, σ) else none
  | _ => none
-- making
def am_mk (σ : ST) (sh : Nat × Nat × Nat) (w : Nat) : ST := (σ.1 + 1, σ.2.1 + w, am_u1 σ.2.2.1 σ.1 sh, am_row σ.2.2.2.1 σ.1 (fun _ => none), am_row σ.2.2.2.2 σ.1 (fun _ => 0))
def am_new (c nx : Nat) (L : LV) (st : List AV) (σ : ST) : Option NX := if c < 13 ∧ σ.1 < 121 then some (nx, L, .inr (.inr (some σ.1)) :: st, am_mk σ (0, c, 0) (am_nf c)) else none
def am_nwa (sh nx : Nat) (L : LV) (st : List AV) (σ : ST) : Option NX := match st with
  | .inl n :: r => if σ.1 < 121 ∧ 0 ≤ n ∧ n < 10000 ∧ 1 ≤ sh ∧ sh ≤ 3 then some (nx, L, .inr (.inr (some σ.1)) :: r, am_mk σ (sh, n.toNat, 0) n.toNat) else none
  | _ => none
def am_nwq (t nx : Nat) (L : LV) (st : List AV) (σ : ST) : Option NX := match st with
  | .inl n :: r => if σ.1 < 121 ∧ 0 ≤ n ∧ n < 10000 ∧ t < 3 then some (nx, L, .inr (.inr (some σ.1)) :: r, am_mk σ (4, n.toNat, t) n.toNat) else none
  | _ => none
/-- new int[n][k]: the outer array at cell σ.1, its rows behind it -/
def am_mkm (σ : ST) (n k : Nat) : ST := (σ.1 + 1 + n, σ.2.1 + n + n * k, (fun b => if b = σ.1 then (4, n, 3) else if σ.1 < b ∧ b ≤ σ.1 + n then (1, k, 0) else σ.2.2.1 b), (fun b j => if b = σ.1 then (if j < n then some (σ.1 + 1 + j) else none) else if σ.1 < b ∧ b ≤ σ.1 + n then none else σ.2.2.2.1 b j), (fun b j => if σ.1 ≤ b ∧ b ≤ σ.1 + n then 0 else σ.2.2.2.2 b j))
def am_nwm (nx : Nat) (L : LV) (st : List AV) (σ : ST) : Option NX := match st with
  | .inl k :: .inl n :: r => if σ.1 < 121 ∧ 0 ≤ n ∧ n < 50 ∧ 0 ≤ k ∧ k < 10000 then some (nx, L, .inr (.inr (some σ.1)) :: r, am_mkm σ n.toNat k.toNat) else none
  | _ => none
/-- kinds of houses: of them the tables say what isn't an instance -/
def am_nc (c d : Nat) : Bool := (c == 0 || c == 2 || c == 3 || c == 6 || c == 7 || c == 9) && (d == 0 || d == 2 || d == 6 || d == 7 || d == 9)
def am_inst (d nx : Nat) (L : LV) (st : List AV) (σ : ST) : Option NX := match st with
  | .inr (.inr (some k)) :: r => if k < σ.1 ∧ (σ.2.2.1 k).1 = 0 ∧ am_nc (σ.2.2.1 k).2.1 d = true then some (nx, L, .inl (if am_in (σ.2.2.1 k).2.1 d = true then 1 else 0) :: r, σ) else none
  | _ => none
def am_cast (d nx : Nat) (L : LV) (st : List AV) (σ : ST) : Option NX := match st with
  | .inr (.inr (some k)) :: r => if k < σ.1 ∧ (σ.2.2.1 k).1 = 0 ∧ am_nc (σ.2.2.1 k).2.1 d = true ∧ am_in (σ.2.2.1 k).2.1 d = true then some (nx, L, .inr (.inr (some k)) :: r, σ) else none
  | _ => none
def am_cpm (μ : Nat → Nat → Int) (a sp b dp n : Nat) : Nat → Nat → Int := am_row μ b (fun j => if dp ≤ j ∧ j < dp + n then μ a (sp + (j - dp)) else μ b j)
def am_copy (nx : Nat) (L : LV) (st : List AV) (σ : ST) : Option NX := match st with
  | .inl n :: .inl dp :: .inr (.inr (some b)) :: .inl sp :: .inr (.inr (some a)) :: r =>
    if (121 ≤ σ.1 ∧ a < σ.1 ∧ b < σ.1 ∧ (σ.2.2.1 a).1 = 1 ∧ (σ.2.2.1 b).1 = 1) ∧ (0 ≤ n ∧ 0 ≤ dp ∧ 0 ≤ sp) ∧ sp + n ≤ (σ.2.2.1 a).2.1 ∧ dp + n ≤ (σ.2.2.1 b).2.1 ∧ r = [] then
      some (nx, L, r, (σ.1, σ.2.1, σ.2.2.1, σ.2.2.2.1, am_cpm σ.2.2.2.2 a sp.toNat b dp.toNat n.toNat)) else none
  | _ => none
def am_oin (nx : Nat) (L : LV) (st : List AV) (σ : ST) : Option NX := match st with
  | .inr (.inr (some _)) :: r => if r = [] then some (nx, L, r, σ) else none
  | _ => none
def am_tsw (d lo hi : Int) (offs : Array Int) (L : LV) (st : List AV) (σ : ST) : Option NX := match st with
  | .inl x :: r => if x < lo ∨ hi < x then some (d.toNat, L, r, σ) else match offs[(x - lo).toNat]? with
    | some t => some (t.toNat, L, r, σ)
    | none => none
  | _ => none
def am_step (am : Instr) (nx : Nat) (L : LV) (st : List AV) (σ : ST) : Option NX := match am with
  | .iconst z => some (nx, L, .inl z :: st, σ)
  | .sipush z => some (nx, L, .inr (.inl z) :: st, σ)
  | .iload i => am_ldi i nx L st σ
  | .lload i => am_ldl i nx L st σ
  | .aload i => am_lda i nx L st σ
  | .istore i => am_sti i nx L st σ
  | .lstore i => am_stl i nx L st σ
  | .astore i => am_sta i nx L st σ
  | .iinc i n => am_inc i n nx L st σ
  | .iadd => am_i2 (fun a b => nz (a + b)) nx L st σ
  | .isub => am_i2 (fun a b => nz (a - b)) nx L st σ
  | .imul => am_i2 (fun a b => nz (a * b)) nx L st σ
  | .idiv => am_i2d (fun a b => nz (a.tdiv b)) nx L st σ
  | .irem => am_i2d (fun a b => a.tmod b) nx L st σ
  | .ineg => am_i1 (fun a => nz (-a)) nx L st σ
  | .iand => am_i2 am_and nx L st σ
  | .ior => am_i2 am_or nx L st σ
  | .ixor => am_i2 am_xor nx L st σ
  | .ishl => am_i2 am_shl nx L st σ
  | .ishr => am_i2 am_shr nx L st σ
  | .iushr => am_i2 am_ushr nx L st σ
  | .ladd => am_l2 (fun a b => nzl (a + b)) nx L st σ
  | .lsub => am_l2 (fun a b => nzl (a - b)) nx L st σ
  | .lmul => am_l2 (fun a b => nzl (a * b)) nx L st σ
  | .ldiv => am_l2d (fun a b => nzl (a.tdiv b)) nx L st σ
  | .lrem => am_l2d (fun a b => a.tmod b) nx L st σ
  | .lneg => am_l1 (fun a => nzl (-a)) nx L st σ
  | .lcmp => am_lcmp nx L st σ
  | .i2l => am_i2l nx L st σ
  | .l2i => am_l2i nx L st σ
  | .i2b => am_i1 am_i2b nx L st σ
  | .dup => am_dup nx L st σ
  | .dup2 => am_dup2 nx L st σ
  | .pop => am_pop1 nx L st σ
  | .getfield n => am_getf n nx L st σ
  | .putfield n => am_putf n nx L st σ
  | .getstatic _ => some (nx, L, .inr (.inr (some 1000)) :: st, σ)
  | .iaload => am_ial nx L st σ
  | .laload => am_lal nx L st σ
  | .baload => am_bal nx L st σ
  | .aaload => am_aal nx L st σ
  | .iastore => am_ias nx L st σ
  | .lastore => am_las nx L st σ
  | .bastore => am_bas nx L st σ
  | .aastore => am_aas nx L st σ
  | .arraylength => am_alen nx L st σ
  | .new c => am_new c nx L st σ
  | .newarray t => am_nwa (match t with | .int => 1 | .long => 2 | .boolean => 3 | _ => 0) nx L st σ
  | .anewarray t => am_nwq t nx L st σ
  | .multianewarray _ _ => am_nwm nx L st σ
  | .instanceof d => am_inst d nx L st σ
  | .checkcast d => am_cast d nx L st σ
  | .goto t => some (t.toNat, L, st, σ)
  | .tableswitch d lo hi offs => am_tsw d lo hi offs L st σ
  | .invokestatic _ => am_copy nx L st σ
  | .invokespecial _ => am_oin nx L st σ
  | _ => none
-- control
def am_pop : Nat → List AV → List AV → Option (List AV × List AV)
  | 0, acc, st => some (acc, st)
  | n + 1, acc, v :: st => am_pop n (v :: acc) st
  | _ + 1, _, [] => none
def am_cat (st : List AV) : Nat := (st.map (fun v => if am_isL v then 2 else 1)).sum
def am_okc (y z : Nat) : Bool := decide (am_fr z + 1 ≤ am_fr y) && decide (19 + am_L z + am_lo z ≤ am_lo y)
def am_ent : List AV → LV
  | [] => []
  | v :: r => if am_isL v = true then some v :: none :: am_ent r else some v :: am_ent r
abbrev CT : Type := Option AV ⊕ ((Nat × List AV × List AV) ⊕ ((Bool × Nat × List AV) ⊕ Unit))
def am_cS (y z : Nat) (st : List AV) : Option CT := match am_pop (am_np z) [] st with
  | some (as, rest) => if am_okc y z = true ∧ am_cat rest ≤ 8 ∧ z < 254 ∧ (am_ent as).length ≤ am_L z then some (.inr (.inl (z, as, rest))) else none
  | none => none
def am_cI (y z : Nat) (st : List AV) : Option CT := match am_pop (am_np z + 1) [] st with
  | some (.inr (.inr (some k)) :: as, rest) => if am_okc y z = true ∧ am_cat rest ≤ 8 ∧ z < 254 ∧ (am_ent as).length < am_L z then some (.inr (.inl (z, .inr (.inr (some k)) :: as, rest))) else none
  | _ => none
def am_cV (y z : Nat) (st : List AV) (σ : ST) : Option CT := match am_pop (am_np z + 1) [] st with
  | some (.inr (.inr (some k)) :: as, rest) => if k < σ.1 ∧ (σ.2.2.1 k).1 = 0 ∧ (σ.2.2.1 k).2.1 < 13 then
      match am_vd z (σ.2.2.1 k).2.1 with
      | some t => if am_okc y t = true ∧ am_cat rest ≤ 8 ∧ t < 254 ∧ (am_ent as).length < am_L t then some (.inr (.inl (t, .inr (.inr (some k)) :: as, rest))) else none
      | none => none
    else none
  | _ => none
def am_ri (y : Nat) (st : List AV) : Option CT := match st with
  | [.inl v] => if am_rb y = true ∧ ¬ v = 0 ∧ ¬ v = 1 then none else some (.inl (some (.inl v)))
  | _ => none
def am_rl (st : List AV) : Option CT := match st with
  | [.inr (.inl v)] => some (.inl (some (.inr (.inl v))))
  | _ => none
def am_ra (st : List AV) : Option CT := match st with
  | [.inr (.inr (some v))] => some (.inl (some (.inr (.inr (some v)))))
  | _ => none
def am_rv (st : List AV) : Option CT := match st with
  | [] => some (.inl none)
  | _ => none
def am_b1 (c : ClassFile.Cond) (t : Int) (st : List AV) : Option CT := match st with
  | .inl a :: r => some (.inr (.inr (.inl (am_cnd c a 0, t.toNat, r))))
  | _ => none
def am_b2 (c : ClassFile.Cond) (t : Int) (st : List AV) : Option CT := match st with
  | .inl b :: .inl a :: r => some (.inr (.inr (.inl (am_cnd c a b, t.toNat, r))))
  | _ => none
def am_ctl (y : Nat) (am : Instr) (st : List AV) (σ : ST) : Option CT := match am with
  | .ireturn => am_ri y st
  | .lreturn => am_rl st
  | .areturn => am_ra st
  | .return_ => am_rv st
  | .ifCond c t => am_b1 c t st
  | .if_icmp c t => am_b2 c t st
  | .invokestatic z => if z = 900 then some (.inr (.inr (.inr ()))) else am_cS y z st
  | .invokespecial z => if z = 901 then some (.inr (.inr (.inr ()))) else am_cI y z st
  | .invokevirtual z => am_cV y z st σ
  | _ => some (.inr (.inr (.inr ())))
def am_en (z : Nat) (as : List AV) : LV := am_ent as ++ List.replicate (am_L z - (am_ent as).length) none
def am_ex : Nat → Nat → Nat → LV → List AV → ST → Option (Option AV × ST)
  | 0, _, _, _, _, _ => none
  | F + 1, y, pc, L, st, σ => match am_code y pc with
    | none => none
    | some (am, len, _, _) => match am_ctl y am st σ with
      | none => none
      | some (.inl r) => some (r, σ)
      | some (.inr (.inl (z, as, rest))) => match am_ex F z 0 (am_en z as) [] σ with
        | none => none
        | some (rv, σ') => am_ex F y (pc + len) L (rv.toList ++ rest) σ'
      | some (.inr (.inr (.inl (c, t, r)))) => if c = true then am_ex F y t L r σ else am_ex F y (pc + len) L r σ
      | some (.inr (.inr (.inr _))) => match am_step am (pc + len) L st σ with
        | none => none
        | some (pc', L', st', σ') => am_ex F y pc' L' st' σ'
theorem am_ex_mono : ∀ (F : Nat) (y pc : Nat) (L : LV) (st : List AV) (σ : ST) (x : Option AV × ST), am_ex F y pc L st σ = some x → am_ex (F + 1) y pc L st σ = some x := by
  intro F
  induction F with
  | zero => intro y pc L st σ x h; simp [am_ex] at h
  | succ F ih =>
    intro y pc L st σ x h
    rw [am_ex] at h ⊢
    rcases hc : am_code y pc with _ | ⟨am, len, wa, wb⟩
    · simp only [hc] at h; cases h
    · simp only [hc] at h ⊢
      rcases hr : am_ctl y am st σ with _ | r | ⟨z, as, rest⟩ | ⟨c, t, r⟩ | u
      · simp only [hr] at h; cases h
      · simp only [hr] at h ⊢; exact h
      · simp only [hr] at h ⊢
        rcases he : am_ex F z 0 (am_en z as) [] σ with _ | ⟨rv, s2⟩
        · simp only [he] at h; cases h
        · simp only [he] at h
          simp only [ih _ _ _ _ _ _ he]
          exact ih _ _ _ _ _ _ h
      · simp only [hr] at h ⊢
        by_cases hcc : c = true
        · rw [if_pos hcc] at h ⊢; exact ih _ _ _ _ _ _ h
        · rw [if_neg hcc] at h ⊢; exact ih _ _ _ _ _ _ h
      · simp only [hr] at h ⊢
        rcases he : am_step am (pc + len) L st σ with _ | ⟨a, b, c, d⟩
        · simp only [he] at h; cases h
        · simp only [he] at h ⊢
          exact ih _ _ _ _ _ _ h
theorem am_ex_le {F F' y pc : Nat} {L : LV} {st : List AV} {σ : ST} {x : Option AV × ST} (h : am_ex F y pc L st σ = some x) (hF : F ≤ F') : am_ex F' y pc L st σ = some x := by
  induction hF with
  | refl => exact h
  | step _ ih => exact am_ex_mono _ _ _ _ _ _ _ ih
def wpS (y pc : Nat) (L : LV) (st : List AV) (σ : ST) (Φ : Option AV → ST → Prop) : Prop := ∃ (F : Nat) (r : Option AV) (σ' : ST), am_ex F y pc L st σ = some (r, σ') ∧ Φ r σ'
def wpM (z : Nat) (as : List AV) (σ : ST) (Φ : Option AV → ST → Prop) : Prop := wpS z 0 (am_en z as) [] σ Φ
theorem wpS_mono {y pc : Nat} {L : LV} {st : List AV} {σ : ST} {Φ Ψ : Option AV → ST → Prop} (h : wpS y pc L st σ Φ) (k : ∀ r σ', Φ r σ' → Ψ r σ') : wpS y pc L st σ Ψ := by
  obtain ⟨F, r, σ', h1, h2⟩ := h
  exact ⟨F, r, σ', h1, k _ _ h2⟩
theorem wpM_det {z : Nat} {as : List AV} {σ σ0 : ST} {r0 : Option AV} (h : wpM z as σ (fun r σ' => r = r0 ∧ σ' = σ0)) (Φ : Option AV → ST → Prop) : wpM z as σ Φ ↔ Φ r0 σ0 := by
  obtain ⟨F, r, σ', h1, rfl, rfl⟩ := h
  constructor
  · rintro ⟨F2, r2, s2, g1, g2⟩
    have a := am_ex_le h1 (Nat.le_max_left F F2)
    have b := am_ex_le g1 (Nat.le_max_right F F2)
    rw [a] at b
    cases b
    exact g2
  · intro h2
    exact ⟨F, _, _, h1, h2⟩
/-- one instruction, as the rule that it is; symbolic runs unfold this -/
def am_nx (K : Nat → LV → List AV → ST → Prop) (y pc : Nat) (L : LV) (st : List AV) (σ : ST) (Φ : Option AV → ST → Prop) : Prop := match am_code y pc with
  | none => False
  | some (am, len, _, _) => match am_ctl y am st σ with
    | none => False
    | some (.inl r) => Φ r σ
    | some (.inr (.inl (z, as, rest))) => wpM z as σ (fun rv σ' => K (pc + len) L (rv.toList ++ rest) σ')
    | some (.inr (.inr (.inl (c, t, r)))) => if c = true then K t L r σ else K (pc + len) L r σ
    | some (.inr (.inr (.inr _))) => match am_step am (pc + len) L st σ with
      | none => False
      | some (pc', L', st', σ') => K pc' L' st' σ'
theorem wpS_nx {y pc : Nat} {L : LV} {st : List AV} {σ : ST} {Φ : Option AV → ST → Prop} : wpS y pc L st σ Φ ↔ am_nx (fun pc' L' st' σ' => wpS y pc' L' st' σ' Φ) y pc L st σ Φ := by
  unfold am_nx
  rcases hc : am_code y pc with _ | ⟨am, len, wa, wb⟩
  · constructor
    · rintro ⟨F, r, s2, h1, h2⟩
      cases F with
      | zero => simp [am_ex] at h1
      | succ F => simp only [am_ex, hc] at h1; cases h1
    · intro h; exact h.elim
  · rcases hr : am_ctl y am st σ with _ | r | ⟨z, as, rest⟩ | ⟨c, t, q⟩ | u <;> simp only [hr]
    · constructor
      · rintro ⟨F, r, s2, h1, h2⟩
        cases F with
        | zero => simp [am_ex] at h1
        | succ F => simp only [am_ex, hc, hr] at h1; cases h1
      · intro h; exact h.elim
    · constructor
      · rintro ⟨F, r, s2, h1, h2⟩
        cases F with
        | zero => simp [am_ex] at h1
        | succ F => simp only [am_ex, hc, hr] at h1; cases h1; exact h2
      · intro h; exact ⟨1, r, σ, by simp only [am_ex, hc, hr], h⟩
    · constructor
      · rintro ⟨F, r, s2, h1, h2⟩
        cases F with
        | zero => simp [am_ex] at h1
        | succ F =>
          simp only [am_ex, hc, hr] at h1
          rcases he : am_ex F z 0 (am_en z as) [] σ with _ | ⟨rv, s3⟩
          · simp only [he] at h1; cases h1
          · simp only [he] at h1
            exact ⟨F, rv, s3, he, F, r, s2, h1, h2⟩
      · rintro ⟨F1, rv, s1, h1, F2, r, s2, h2, h3⟩
        refine ⟨max F1 F2 + 1, r, s2, ?_, h3⟩
        simp only [am_ex, hc, hr, am_ex_le h1 (Nat.le_max_left F1 F2)]
        exact am_ex_le h2 (Nat.le_max_right F1 F2)
    · by_cases hcc : c = true
      · simp only [if_pos hcc]
        constructor
        · rintro ⟨F, r, s2, h1, h2⟩
          cases F with
          | zero => simp [am_ex] at h1
          | succ F => simp only [am_ex, hc, hr, if_pos hcc] at h1; exact ⟨F, r, s2, h1, h2⟩
        · rintro ⟨F, r, s2, h1, h2⟩
          exact ⟨F + 1, r, s2, by simp only [am_ex, hc, hr, if_pos hcc]; exact h1, h2⟩
      · simp only [if_neg hcc]
        constructor
        · rintro ⟨F, r, s2, h1, h2⟩
          cases F with
          | zero => simp [am_ex] at h1
          | succ F => simp only [am_ex, hc, hr, if_neg hcc] at h1; exact ⟨F, r, s2, h1, h2⟩
        · rintro ⟨F, r, s2, h1, h2⟩
          exact ⟨F + 1, r, s2, by simp only [am_ex, hc, hr, if_neg hcc]; exact h1, h2⟩
    · rcases he : am_step am (pc + len) L st σ with _ | ⟨a, b, c, d⟩
      · constructor
        · rintro ⟨F, r, s2, h1, h2⟩
          cases F with
          | zero => simp [am_ex] at h1
          | succ F => simp only [am_ex, hc, hr, he] at h1; cases h1
        · intro h; simp only [he] at h
      · constructor
        · rintro ⟨F, r, s2, h1, h2⟩
          cases F with
          | zero => simp [am_ex] at h1
          | succ F => simp only [am_ex, hc, hr, he] at h1; simp only [he]; exact ⟨F, r, s2, h1, h2⟩
        · intro h
          simp only [he] at h
          obtain ⟨F, r, s2, h1, h2⟩ := h
          exact ⟨F + 1, r, s2, by simp only [am_ex, hc, hr, he]; exact h1, h2⟩
/-- n instructions, at most -/
def sx : Nat → Nat → Nat → LV → List AV → ST → (Option AV → ST → Prop) → Prop
  | 0, y, pc, L, st, σ, Φ => wpS y pc L st σ Φ
  | n + 1, y, pc, L, st, σ, Φ => am_nx (fun pc' L' st' σ' => sx n y pc' L' st' σ' Φ) y pc L st σ Φ
theorem sx_iff : ∀ (n : Nat) {y pc : Nat} {L : LV} {st : List AV} {σ : ST} {Φ : Option AV → ST → Prop}, wpS y pc L st σ Φ ↔ sx n y pc L st σ Φ
  | 0, _, _, _, _, _, _ => Iff.rfl
  | n + 1, y, pc, L, st, σ, Φ => by
    rw [wpS_nx]
    have e : (fun pc' L' st' σ' => wpS y pc' L' st' σ' Φ) = (fun pc' L' st' σ' => sx n y pc' L' st' σ' Φ) := by
      funext a b c d
      exact propext (sx_iff n)
    rw [e]
    exact Iff.rfl
