/-! each row of code is as the bytes and the tables say -/
def am_lens : Instr → Nat
  | .bipush _ => 2
  | .sipush _ => 3
  | .ldc _ => 2
  | .ldc_w _ => 3
  | .ldc2_w _ => 3
  | .iload _ => 2
  | .lload _ => 2
  | .aload _ => 2
  | .istore _ => 2
  | .lstore _ => 2
  | .astore _ => 2
  | .iinc _ _ => 3
  | .ifCond _ _ => 3
  | .if_icmp _ _ => 3
  | .goto _ => 3
  | .getfield _ => 3
  | .putfield _ => 3
  | .getstatic _ => 3
  | .invokevirtual _ => 3
  | .invokestatic _ => 3
  | .invokespecial _ => 3
  | .new _ => 3
  | _ => 1
def am_isw : Instr → Bool
  | .tableswitch _ _ _ _ => true
  | .lookupswitch _ _ => true
  | _ => false
/-- a lookup's cases -/
def am_lkc (pc : Nat) : List (Int × Int) → List (Int32 × Nat) → Bool
  | [], [] => true
  | (a, off) :: r, (c, t) :: r' => decide (c.toInt = a) && (decide ((pc : Int) + off = (t : Int)) && am_lkc pc r r')
  | _, _ => false
def am_ckx (o rk nL rz : Nat) (ret : Option FieldType) (e : am_E) : Bool :=
  match e with
  | (pc, ins, _, x1, x2, h, v, sw, ks) =>
  match ins with
  | .iconst n => decide (v = .int (Int32.ofInt n))
  | .bipush n => decide (v = .int (Int8.ofInt n).toInt32)
  | .sipush n => decide (v = .int (Int16.ofInt n).toInt32)
  | .lconst n => decide (v = .long (Int64.ofNat (n : Nat)))
  | .ldc i => (match v with
    | .int c => decide (tc[h]? = some (o, i, c))
    | .ref a => (match am_strs[x1]? with
      | some q => decide (q.1 = o) && (decide (q.2.1 = i) && decide (am_sid x1 = a ∧ a ≠ am_fid))
      | none => false)
    | _ => false)
  | .ldc_w i => (match v with
    | .int c => decide (tc[h]? = some (o, i, c))
    | _ => false)
  | .ldc2_w i => (match v with
    | .long c => decide (tj[h]? = some (o, i, c))
    | _ => false)
  | .getstatic i => decide (v = .ref am_bid ∧ o = 0 ∧ i = 85) || (decide (v = .int 1 ∧ o = 13 ∧ i = 38) || decide (v = .ref am_fid ∧ o = 13 ∧ i = 1053))
  | .iload_n k => decide ((k : Nat) = x1)
  | .iload i => decide (i = x1)
  | .lload_n k => decide ((k : Nat) = x1)
  | .lload i => decide (i = x1)
  | .aload_n k => decide ((k : Nat) = x1)
  | .aload i => decide (i = x1)
  | .istore_n k => decide ((k : Nat) = x1) && decide (x1 < nL)
  | .istore i => decide (i = x1) && decide (x1 < nL)
  | .lstore_n k => decide ((k : Nat) = x1) && decide (x1 + 1 < nL)
  | .lstore i => decide (i = x1) && decide (x1 + 1 < nL)
  | .astore_n k => decide ((k : Nat) = x1) && decide (x1 < nL)
  | .astore i => decide (i = x1) && decide (x1 < nL)
  | .iinc i n => decide (i = x1) && (decide (x1 < nL) && decide (v = .int (Int32.ofInt n)))
  | .ifCond _ off => decide ((pc : Int) + off = (x1 : Int))
  | .if_icmp _ off => decide ((pc : Int) + off = (x1 : Int))
  | .goto off => decide ((pc : Int) + off = (x1 : Int))
  | .tableswitch d lo hi offs => decide ((pc : Int) + d = (x1 : Int)) && (decide (sw.length = offs.size) && (decide (hi - lo + 1 = (offs.size : Int)) && (List.range offs.size).all (fun i => match sw[i]?, offs[i]? with
    | some ct, some off => decide (ct.1.toInt = lo + (i : Int)) && decide ((pc : Int) + off = (ct.2 : Int))
    | _, _ => false)))
  | .lookupswitch d ps => decide ((pc : Int) + d = (x1 : Int)) && ((ps.toList.zip (ps.toList.drop 1)).all (fun (a, next) => a.1 < next.1) && am_lkc pc ps.toList sw)
  | .getfield i => (match x2 % 10 with
    | 0 => decide (tf[h]? = some (o, i, x1, x2 / 10)) && (decide (x1 < 13 ∧ x2 / 10 < am_nf x1) && decide (am_ft x1 (x2 / 10) = 0 ∨ am_ft x1 (x2 / 10) = 1))
    | 2 => decide (tf[h]? = some (o, i, x1, x2 / 10)) && (decide (x1 < 13 ∧ x2 / 10 < am_nf x1) && decide (am_ft x1 (x2 / 10) = 2))
    | 3 => decide (tf[h]? = some (o, i, x1, x2 / 10)) && (decide (x1 < 13 ∧ x2 / 10 < am_nf x1) && decide (am_ft x1 (x2 / 10) = 3))
    | 5 => decide (o = 13 ∧ i = 15 ∧ x2 = 15)
    | 6 => decide (o = 13 ∧ i = 9 ∧ x2 = 6)
    | _ => false)
  | .putfield i => (match x2 % 10 with
    | 0 => decide (tf[h]? = some (o, i, x1, x2 / 10)) && (decide (x1 < 13 ∧ x2 / 10 < am_nf x1) && decide (am_ft x1 (x2 / 10) = 0 ∧ (am_fT x1 (x2 / 10)).2.2.2 = false))
    | 1 => decide (tf[h]? = some (o, i, x1, x2 / 10)) && (decide (x1 < 13 ∧ x2 / 10 < am_nf x1) && decide (am_ft x1 (x2 / 10) = 1 ∧ (am_fT x1 (x2 / 10)).2.2.2 = false))
    | 2 => decide (tf[h]? = some (o, i, x1, x2 / 10)) && (decide (x1 < 13 ∧ x2 / 10 < am_nf x1) && decide (am_ft x1 (x2 / 10) = 2 ∧ (am_fT x1 (x2 / 10)).2.2.2 = false))
    | _ => false)
  | .invokestatic i => decide (x2 = 9) || (decide (x2 = 9999 ∧ o = 11 ∧ i = 390 ∧ 1 ≤ rk) || (decide (x2 ≠ 9999 ∧ tk[h]? = some (o, i, x1)) && decide (x1 < 275 ∧ mK x1 < rk ∧ x2 / 10 = mP x1 ∧ mS x1 = true ∧ mL x1 ≤ 21 ∧ mW x1 < 19 ∧ ks = [mL x1])))
  | .invokevirtual i => decide (x2 = 9) || (decide (tk[h]? = some (o, i, x1)) && decide (x1 < 275 ∧ mK x1 < rk ∧ x2 / 10 = mP x1 + 1 ∧ mS x1 = false ∧ mL x1 ≤ 21 ∧ mW x1 < 14 ∧ v = .ref (mW x1) ∧ ks = [mL x1]))
  | .ireturn => decide (rz = 1 ∧ ret = some .int) || (decide (rz = 2 ∧ ret = some .boolean) || (decide (rz = 5 ∧ ret = some .byte) || decide (rz = 6 ∧ ret = some .char)))
  | .lreturn => decide (ret = some .long)
  | .areturn => (match ret with
    | some (.object _) => true
    | some (.array _) => true
    | _ => false)
  | .return_ => decide (ret = none)
  | _ => true
def am_ck (o : Nat) (bs : ByteArray) (rk nL rz : Nat) (ret : Option FieldType) (e : am_E) : Bool :=
  decide (decode bs e.1 = .ok (e.2.1, e.2.2.1 - e.1)) && ((decide (e.2.2.1 = e.1 + am_lens e.2.1) || am_isw e.2.1) && am_ckx o rk nL rz ret e)

/-- a loop's head at a method's entry: there no local but the first one is kept -/
noncomputable def am_c0 (y : Nat) : Bool := match am_cut (T0 y).2.2 0 with
  | none => true
  | some k => decide (k = [0])
noncomputable def am_cks (y : Nat) : Bool := am_c0 y && (T0 y).2.1.all fun b => b.2.all fun e => am_ck (mW y) (mB y) (mK y) (mL y) (T0 y).1 (mR y) e
