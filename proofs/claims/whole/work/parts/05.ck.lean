/-! the tables against the bytes and the words: all by evaluation -/
def am_raw (pc wa : Nat) (am : Instr) : Instr := match am with
  | .iconst z => if wa = 0 then .iconst z else if wa = 1 then .bipush z else if wa = 2 then .sipush z else if 100000 ≤ wa then .ldc_w (wa - 100000) else .ldc (wa - 10)
  | .sipush z => if wa = 0 then (if z = 0 then .lconst 0 else .lconst 1) else .ldc2_w wa
  | .iload i => if wa = 1 then .iload i else .iload_n (Fin.ofNat 4 i)
  | .lload i => if wa = 1 then .lload i else .lload_n (Fin.ofNat 4 i)
  | .aload i => if wa = 1 then .aload i else .aload_n (Fin.ofNat 4 i)
  | .istore i => if wa = 1 then .istore i else .istore_n (Fin.ofNat 4 i)
  | .lstore i => if wa = 1 then .lstore i else .lstore_n (Fin.ofNat 4 i)
  | .astore i => if wa = 1 then .astore i else .astore_n (Fin.ofNat 4 i)
  | .ifCond c t => .ifCond c (t - pc)
  | .if_icmp c t => .if_icmp c (t - pc)
  | .goto t => .goto (t - pc)
  | .tableswitch d lo hi offs => .tableswitch (d - pc) lo hi (offs.map (fun t => t - pc))
  | .getfield _ => .getfield wa
  | .putfield _ => .putfield wa
  | .getstatic _ => .getstatic wa
  | .new _ => .new wa
  | .anewarray _ => .anewarray wa
  | .multianewarray _ d => .multianewarray wa d
  | .instanceof _ => .instanceof wa
  | .checkcast _ => .checkcast wa
  | .invokestatic _ => .invokestatic wa
  | .invokespecial _ => .invokespecial wa
  | .invokevirtual _ => .invokevirtual wa
  | x => x
def am_lw (i : Nat) : Option Cond := lw_tbl[i]?
def am_ckc (y len wa wb : Nat) (z : Int) : Bool := decide (nz z = z) && (if wa = 0 then decide (len = 1) else if wa = 1 then decide (len = 2) && decide ((Int8.ofInt z).toInt32 = Int32.ofInt z) else if wa = 2 then decide (len = 3) && decide ((Int16.ofInt z).toInt32 = Int32.ofInt z)
  else if 100000 ≤ wa then decide (len = 3) && decide (am_lw wb = some (.constant (am_own y) (wa - 100000) (Int32.ofInt z))) else decide (len = 2) && decide (am_lw wb = some (.constant (am_own y) (wa - 10) (Int32.ofInt z))))
def am_ckl (y len wa wb : Nat) (z : Int) : Bool := decide (nzl z = z) && (if wa = 0 then decide (len = 1) && decide (z = 0 ∨ z = 1) else decide (len = 3) && decide (am_lw wb = some (.constantLong (am_own y) wa (Int64.ofInt z))))
def am_ckv (i len wa : Nat) : Bool := if wa = 1 then decide (len = 2) else decide (len = 1) && decide (i < 4)
def am_ckf (y len wa wb n : Nat) : Bool := decide (len = 3) && decide (n / 1000 < 13) && decide (n % 1000 / 10 < am_nf (n / 1000)) && decide (n % 10 = am_tg (n / 1000) (n % 1000 / 10)) && decide ((am_T (n / 1000) (n % 1000 / 10)).1 = am_RN (n / 1000))
  && decide (am_lw wb = some (.fieldLink (am_own y) wa (am_RN (n / 1000)) (am_T (n / 1000) (n % 1000 / 10)).2.1 (am_T (n / 1000) (n % 1000 / 10)).2.2.1))
def am_vx (z : Nat) : MethodName := if z = 54 then ⟨"SpoonCensus$Sticks", "handsOwn", "(III)I"⟩ else am_Y z
def am_ckm (y wa wb z : Nat) : Bool := decide (am_lw wb = some (.methodLink (am_own y) wa (am_Y z))) || decide (am_lw wb = some (.methodLinkNest (am_own y) wa (am_Y z) "SpoonCensus"))
def am_ckx (y len wa wb : Nat) (am : Instr) : Bool := match am with
  | .iconst z => am_ckc y len wa wb z
  | .sipush z => am_ckl y len wa wb z
  | .iload i => am_ckv i len wa
  | .lload i => am_ckv i len wa
  | .aload i => am_ckv i len wa
  | .istore i => am_ckv i len wa
  | .lstore i => am_ckv i len wa
  | .astore i => am_ckv i len wa
  | .iinc _ _ => decide (len = 3)
  | .ifCond _ t => decide (len = 3) && decide (0 ≤ t)
  | .if_icmp _ t => decide (len = 3) && decide (0 ≤ t)
  | .goto t => decide (0 ≤ t)
  | .tableswitch d _ _ offs => decide (0 ≤ d) && offs.all (fun t => decide (0 ≤ t))
  | .getfield n => am_ckf y len wa wb n
  | .putfield n => am_ckf y len wa wb n && (!(am_T (n / 1000) (n % 1000 / 10)).2.2.2 || (decide ((am_Y y).name = "<init>") && decide (am_RN (n / 1000) = am_own y)))
  | .getstatic _ => decide (len = 3) && decide (am_lw wb = some (.fieldLink (am_own y) wa "SpoonCensus" "LETTERS" "[I"))
  | .new c => decide (len = 3) && decide (am_lw wb = some (.classLink (am_own y) wa (am_RN c)))
  | .newarray t => decide (len = 2) && decide (t = .int ∨ t = .long ∨ t = .boolean) && decide (am_lw wb = some (.arrayClass (newarray.typeOf t)))
  | .anewarray t => decide (len = 3) && decide (am_lw wb = some (.classLink (am_own y) wa (am_RN (am_et t))))
  | .multianewarray _ d => decide (len = 4) && decide (d = 2) && decide (am_lw wb = some (.classLink (am_own y) wa "[[I"))
  | .instanceof d => decide (len = 3) && decide (d < 13) && decide (am_lw wb = some (.classLink (am_own y) wa (am_RN d)))
  | .checkcast d => decide (len = 3) && decide (d < 13) && decide (am_lw wb = some (.classLink (am_own y) wa (am_RN d)))
  | .invokestatic z => decide (len = 3) && (if z = 900 then decide (am_lw wb = some (.methodLink (am_own y) wa arraycopyName)) && decide (60 ≤ am_lo y ∧ 1 ≤ am_fr y) else am_ckm y wa wb z && am_st z)
  | .invokespecial z => decide (len = 3) && (if z = 901 then decide (am_lw wb = some (.methodLink (am_own y) wa objectInit)) && decide (20 ≤ am_lo y ∧ 1 ≤ am_fr y) else am_ckm y wa wb z && !am_st z && decide ((am_Y z).name = "<init>") && decide (am_R z = none))
  | .invokevirtual z => decide (len = 3) && decide (am_lw wb = some (.methodLink (am_own y) wa (am_vx z)))
  | .ireturn => decide (am_R y = some .int ∨ am_R y = some .boolean) && decide (am_rb y = true ↔ am_R y = some .boolean)
  | .lreturn => decide (am_R y = some .long)
  | .areturn => decide (am_R y = some (.object "SpoonCensus$House"))
  | .return_ => decide (am_R y = none)
  | _ => decide (len = 1)
def am_ck (y pc : Nat) (am : Instr) (len wa wb : Nat) : Bool := decide (decode (am_C y) pc = .ok (am_raw pc wa am, len)) && am_ckx y len wa wb am
def am_ckM (y : Nat) : Bool := (List.range (am_len y)).all (fun pc => match am_tree y pc with
  | none => true
  | some (am, len, wa, wb) => am_ck y pc am len wa wb)
/-- a method's own words -/
def am_ckw (z : Nat) : Bool := decide (am_lw (am_w3 z).2.1 = some (.initialized (am_Y z).cls)) && (if am_st z = true then decide (am_lw (am_w3 z).2.2 = some (.static (am_Y z))) else decide (am_lw (am_w3 z).2.2 = some (.instanceMethod (am_Y z))))
  && decide ((am_Y z).cls ≠ "java/lang/invoke/MethodHandle" ∧ (am_Y z).cls ≠ "java/lang/invoke/VarHandle") && decide ((parseMethodDescriptor (am_Y z).desc).map (fun d => d.parameters.length) = some (am_np z)) && plainFor (am_Y z)
/-- a call on an object of class c -/
def am_ckd (z c : Nat) : Bool := match am_vd z c with
  | none => true
  | some t => decide (t < 254) && decide (am_np t = am_np z) && !am_st t && decide (am_lw (am_vp z c).1 = some (.selects (am_RN c) (am_vx z) (am_Y t)))
    && ((decide (am_vx z = am_Y t) && decide ((am_Y t).cls = am_RN c)) || (decide (am_lw (am_vp z c).2 = some (.sameMethod (am_vx z).cls (am_Y z).cls (am_vx z).name (am_vx z).desc)) && decide ((am_vx z).name = (am_Y z).name ∧ (am_vx z).desc = (am_Y z).desc) && !am_st z))
def am_cks (c : Nat) : Bool := decide (am_lw (am_cw c).1 = some (.instantiable (am_RN c) (am_nf c))) && decide (am_lw (am_cw c).2 = some (.initialized (am_RN c))) && decide (vwCl[c]?.map (fun q => (q.1, q.2.2)) = some (am_RN c, am_nf c))
  && (List.range (am_nf c)).all (fun f => decide (parseFieldDescriptor (am_T c f).2.2.1 = some (am_ty c f)) && decide (am_tg c f = (match am_ty c f with | .int => 0 | .long => 1 | .boolean => 2 | _ => 3)) && (List.range (am_nf c)).all (fun g => decide (f = g ∨ (am_T c f).2.1 ≠ (am_T c g).2.1)))
theorem ck_w1 : (List.range 254).all am_ckw = true := by decide +kernel
theorem ck_d1 : (List.range 254).all (fun z => (List.range 13).all (fun c => am_ckd z c)) = true := by decide +kernel
theorem ck_s1 : (List.range 13).all am_cks = true := by decide +kernel
