/-! THE ABSTRACT MACHINE: bytecode over numbered objects (no addresses). A memory: ints (and booleans) by object and place, longs likewise. The graph g: how many objects, how many slots, the kind of each (0, c), (1, n) int[n], (2, n) boolean[n], (3, n) long[n], (4 + c, n) C[n], (40, n) int[][n]; from 50 on what stood before; the references; what is never written. -/
abbrev am_M : Type := (Nat → Nat → Int32) × (Nat → Nat → Int64)
abbrev am_G : Type := Nat × Nat × (Nat → Nat × Nat) × (Nat → Nat → Option Nat) × (Nat → Nat → Int32)
abbrev am_R : Type := Option Value × am_M
abbrev am_L : Type := List (Nat × Value)
/-- a row of code: place, instruction, next place, two operands, the word's place, a value, a switch's cases, the locals that are kept by a store -/
abbrev am_E : Type := Nat × Instr × Nat × Nat × Nat × Nat × Value × List (Int32 × Nat) × List Nat
def gK (g : am_G) (a : Nat) : Nat × Nat := g.2.2.1 a
def gR (g : am_G) (a k : Nat) : Option Nat := g.2.2.2.1 a k
def gO (g : am_G) (a k : Nat) : Int32 := g.2.2.2.2 a k
def rI (M : am_M) (a i : Nat) : Int32 := M.1 a i
def rJ (M : am_M) (a i : Nat) : Int64 := M.2 a i
def am_up {α : Type} (f : Nat → Nat → α) (a i : Nat) (v : α) : Nat → Nat → α := fun b j => if b = a ∧ j = i then v else f b j
def wI (M : am_M) (a i : Nat) (v : Int32) : am_M := (am_up M.1 a i v, M.2)
def wJ (M : am_M) (a i : Nat) (v : Int64) : am_M := (M.1, am_up M.2 a i v)
/-- a whole int row written anew -/
def wA (M : am_M) (a : Nat) (f : Nat → Int32) : am_M := (fun b j => if b = a then f j else M.1 b j, M.2)
section Ops
variable {β : Type}
def am_ia (g : am_G) (M : am_M) (a : Nat) (i : Int32) (κ : Int32 → Option β) : Option β :=
  match gK g a with
  | (1, n) => if i < 0 ∨ n ≤ i.toNatClampNeg then none else κ (rI M a i.toNatClampNeg)
  | (51, n) => if i < 0 ∨ n ≤ i.toNatClampNeg then none else κ (gO g a i.toNatClampNeg)
  | _ => none
def am_za (g : am_G) (M : am_M) (a : Nat) (i : Int32) (κ : Int32 → Option β) : Option β :=
  match gK g a with
  | (2, n) => if i < 0 ∨ n ≤ i.toNatClampNeg then none else κ (rI M a i.toNatClampNeg)
  | (52, n) => if i < 0 ∨ n ≤ i.toNatClampNeg then none else κ (gO g a i.toNatClampNeg)
  | _ => none
def am_la (g : am_G) (M : am_M) (a : Nat) (i : Int32) (κ : Int64 → Option β) : Option β :=
  match gK g a with
  | (3, n) => if i < 0 ∨ n ≤ i.toNatClampNeg then none else κ (rJ M a i.toNatClampNeg)
  | _ => none
def am_qa (g : am_G) (a : Nat) (i : Int32) (κ : Nat → Option β) : Option β :=
  if 4 ≤ (gK g a).1 ∧ (gK g a).1 < 50 then
    if i < 0 ∨ (gK g a).2 ≤ i.toNatClampNeg then none else (gR g a i.toNatClampNeg).bind κ
  else none
def am_is (g : am_G) (M : am_M) (a : Nat) (i : Int32) (x : Int32) (κ : am_M → Option β) : Option β :=
  match gK g a with
  | (1, n) => if i < 0 ∨ n ≤ i.toNatClampNeg then none else κ (wI M a i.toNatClampNeg x)
  | _ => none
def am_zs (g : am_G) (M : am_M) (a : Nat) (i : Int32) (x : Int32) (κ : am_M → Option β) : Option β :=
  match gK g a with
  | (2, n) => if i < 0 ∨ n ≤ i.toNatClampNeg then none else κ (wI M a i.toNatClampNeg (vp_nar .boolean x))
  | _ => none
def am_ls (g : am_G) (M : am_M) (a : Nat) (i : Int32) (x : Int64) (κ : am_M → Option β) : Option β :=
  match gK g a with
  | (3, n) => if i < 0 ∨ n ≤ i.toNatClampNeg then none else κ (wJ M a i.toNatClampNeg x)
  | _ => none
def am_ln (g : am_G) (a : Nat) (κ : Int32 → Option β) : Option β :=
  if (1 ≤ (gK g a).1 ∧ (gK g a).1 < 50) ∨ (gK g a).1 = 51 ∨ (gK g a).1 = 52 then κ (Int32.ofNat (gK g a).2) else none
def am_gI (g : am_G) (M : am_M) (a c k : Nat) (κ : Int32 → Option β) : Option β := if gK g a = (0, c) then κ (rI M a k) else none
def am_gJ (g : am_G) (M : am_M) (a c k : Nat) (κ : Int64 → Option β) : Option β := if gK g a = (0, c) then κ (rJ M a k) else none
def am_gR (g : am_G) (a c k : Nat) (κ : Nat → Option β) : Option β := if gK g a = (0, c) then (gR g a k).bind κ else none
def am_gO (g : am_G) (a k : Nat) (κ : Int32 → Option β) : Option β := if gK g a = (60, 13) then κ (gO g a k) else none
def am_gS (g : am_G) (a k : Nat) (κ : Nat → Option β) : Option β := if gK g a = (60, 13) then (gR g a k).bind κ else none
def am_pI (g : am_G) (M : am_M) (a c k : Nat) (x : Int32) (κ : am_M → Option β) : Option β := if gK g a = (0, c) then κ (wI M a k x) else none
def am_pZ (g : am_G) (M : am_M) (a c k : Nat) (x : Int32) (κ : am_M → Option β) : Option β := if gK g a = (0, c) ∧ (x = 0 ∨ x = 1) then κ (wI M a k x) else none
def am_pJ (g : am_G) (M : am_M) (a c k : Nat) (x : Int64) (κ : am_M → Option β) : Option β := if gK g a = (0, c) then κ (wJ M a k x) else none
/-- the receiver of a call is an object of that kind -/
def am_rc (g : am_G) (a c : Nat) (A : Option β) : Option β := if gK g a = (0, c) ∨ (c = 13 ∧ gK g a = (60, 13)) then A else none
def am_ci (r : Option am_R) (κ : Int32 → am_M → Option β) : Option β := match r with
  | some (some (.int x), M) => κ x M
  | _ => none
def am_cj (r : Option am_R) (κ : Int64 → am_M → Option β) : Option β := match r with
  | some (some (.long x), M) => κ x M
  | _ => none
def am_cr (r : Option am_R) (κ : Nat → am_M → Option β) : Option β := match r with
  | some (some (.ref a), M) => κ a M
  | _ => none
def am_cv (r : Option am_R) (κ : am_M → Option β) : Option β := match r with
  | some (none, M) => κ M
  | _ => none
def am_dv (y : Int32) (A : Option β) : Option β := if y = 0 then none else A
def am_dw (y : Int64) (A : Option β) : Option β := if y = 0 then none else A
/-- System.arraycopy over ints -/
def am_cp (g : am_G) (M : am_M) (a : Nat) (i : Int32) (b : Nat) (j n : Int32) (κ : am_M → Option β) : Option β :=
  if (gK g a).1 = 1 ∧ (gK g b).1 = 1 ∧ ¬ i < 0 ∧ ¬ j < 0 ∧ ¬ n < 0 ∧ i.toNatClampNeg + n.toNatClampNeg ≤ (gK g a).2 ∧ j.toNatClampNeg + n.toNatClampNeg ≤ (gK g b).2 then
    κ (wA M b (va_cpy (M.1 a) (M.1 b) i.toNatClampNeg j.toNatClampNeg n.toNatClampNeg))
  else none
end Ops
/-- an int at a method's end: 1 int, 2 boolean, 5 byte, 6 char -/
def am_rt (rz : Nat) (x : Int32) (M : am_M) : Option am_R := match rz with
  | 1 => some (some (.int x), M)
  | 2 => if x = 0 ∨ x = 1 then some (some (.int x), M) else none
  | 5 => if vp_nar .byte x = x then some (some (.int x), M) else none
  | 6 => if vp_nar .char x = x then some (some (.int x), M) else none
  | _ => none
/-- so that what stands below is unfolded ahead of what stands above -/
def am_hi : Nat := let _ := @am_ia Nat; let _ := @am_za Nat; let _ := @am_la Nat; let _ := @am_qa Nat; let _ := @am_is Nat; let _ := @am_zs Nat; let _ := @am_ls Nat; let _ := @am_ln Nat; let _ := @am_gI Nat; let _ := @am_gJ Nat; let _ := @am_gR Nat; let _ := @am_gO Nat; let _ := @am_gS Nat; let _ := @am_pI Nat; let _ := @am_pZ Nat; let _ := @am_pJ Nat; let _ := @am_rc Nat; let _ := @am_ci Nat; let _ := @am_cj Nat; let _ := @am_cr Nat; let _ := @am_cv Nat; let _ := @am_dv Nat; let _ := @am_dw Nat; let _ := @am_cp Nat; let _ := am_rt; let _ := @ite Nat; 0
section Shapes
variable {β : Type}
-- the stack's own shapes
def am_1i (st : List Value) (f : Int32 → List Value → Option β) : Option β := let _ := am_hi; match st with
  | .int x :: st => f x st
  | _ => none
def am_2i (st : List Value) (f : Int32 → Int32 → List Value → Option β) : Option β := let _ := am_hi; match st with
  | .int y :: .int x :: st => f x y st
  | _ => none
def am_1l (st : List Value) (f : Int64 → List Value → Option β) : Option β := let _ := am_hi; match st with
  | .long x :: st => f x st
  | _ => none
def am_2l (st : List Value) (f : Int64 → Int64 → List Value → Option β) : Option β := let _ := am_hi; match st with
  | .long y :: .long x :: st => f x y st
  | _ => none
def am_il (st : List Value) (f : Int64 → Int32 → List Value → Option β) : Option β := let _ := am_hi; match st with
  | .int y :: .long x :: st => f x y st
  | _ => none
def am_1r (st : List Value) (f : Nat → List Value → Option β) : Option β := let _ := am_hi; match st with
  | .ref a :: st => f a st
  | _ => none
def am_ri (st : List Value) (f : Nat → Int32 → List Value → Option β) : Option β := let _ := am_hi; match st with
  | .int i :: .ref a :: st => f a i st
  | _ => none
def am_rj (st : List Value) (f : Nat → Int64 → List Value → Option β) : Option β := let _ := am_hi; match st with
  | .long i :: .ref a :: st => f a i st
  | _ => none
def am_rii (st : List Value) (f : Nat → Int32 → Int32 → List Value → Option β) : Option β := let _ := am_hi; match st with
  | .int x :: .int i :: .ref a :: st => f a i x st
  | _ => none
def am_rij (st : List Value) (f : Nat → Int32 → Int64 → List Value → Option β) : Option β := let _ := am_hi; match st with
  | .long x :: .int i :: .ref a :: st => f a i x st
  | _ => none
def am_vI (v : Option Value) (f : Int32 → Option β) : Option β := let _ := am_hi; match v with
  | some (.int x) => f x
  | _ => none
def am_vJ (v : Option Value) (f : Int64 → Option β) : Option β := let _ := am_hi; match v with
  | some (.long x) => f x
  | _ => none
def am_vR (v : Option Value) (f : Nat → Option β) : Option β := let _ := am_hi; match v with
  | some (.ref x) => f x
  | _ => none
def am_sw : List (Int32 × Nat) → Nat → Int32 → (Nat → Option β) → Option β
  | [], d, _, κ => let _ := am_hi; κ d
  | (c, t) :: r, d, x, κ => if x = c then κ t else am_sw r d x κ
end Shapes
def am_lk : am_L → Nat → Option Value
  | [], _ => none
  | (j, v) :: t, i => bif Nat.beq j i then some v else am_lk t i
def am_wide : Value → Bool
  | .long _ => true
  | .double _ => true
  | _ => false
/-- the locals behind a store at x (and y): those of the list, as they were -/
def am_sub (ls : am_L) (x y : Nat) : List Nat → Option am_L
  | [] => some []
  | k :: t => match am_lk ls k with
    | some v => (bif Nat.beq k x || (Nat.beq k y || (Nat.beq (k + 1) x && am_wide v)) then none else match am_sub ls x y t with
      | some r => some ((k, v) :: r)
      | none => none)
    | none => none
def am_so {β : Type} (o : Option am_L) (κ : am_L → Option β) : Option β := let _ := am_hi; match o with
  | some l => κ l
  | none => none
def am_pop : Nat → List Value → List Value → Option (List Value × List Value)
  | 0, acc, st => some (acc, st)
  | n + 1, acc, v :: st => am_pop n (v :: acc) st
  | _ + 1, _, [] => none
/-- how many words values take -/
def am_wds : List Value → Nat
  | [] => 0
  | v :: t => (bif am_wide v then 2 else 1) + am_wds t
/-- few values below a call, and what is handed over has room -/
def am_fe {β : Type} (a st : List Value) (ks : List Nat) (A : Option β) : Option β := let _ := am_hi; bif Nat.ble st.length 4 && Nat.ble (am_wds a) (ks.headD 0) then A else none
/-- what comes back from a call: 0 nothing, 1 an int, 2 a long, 3 a reference -/
def am_kr (k : Nat) (r : Option am_R) (st : List Value) (κ : List Value → am_M → Option am_R) : Option am_R := let _ := am_hi; match k with
  | 0 => am_cv r fun M => κ st M
  | 1 => am_ci r fun x M => κ (.int x :: st) M
  | 2 => am_cj r fun x M => κ (.long x :: st) M
  | 3 => am_cr r fun a M => κ (.ref a :: st) M
  | _ => none
def am_step (Γ : Nat → List Value → am_M → Option am_R) (g : am_G) (rz : Nat) (e : am_E) (ls : am_L) (st : List Value) (M : am_M) (κ : Nat → am_L → List Value → am_M → Option am_R) : Option am_R :=
  let _ := am_hi; match e with
  | (_, ins, nx, x1, x2, _, v, sw, ks) =>
  match ins with
  | .iconst _ => κ nx ls (v :: st) M
  | .bipush _ => κ nx ls (v :: st) M
  | .sipush _ => κ nx ls (v :: st) M
  | .lconst _ => κ nx ls (v :: st) M
  | .ldc _ => κ nx ls (v :: st) M
  | .ldc_w _ => κ nx ls (v :: st) M
  | .ldc2_w _ => κ nx ls (v :: st) M
  | .getstatic _ => κ nx ls (v :: st) M
  | .iload_n _ => am_vI (am_lk ls x1) fun x => κ nx ls (.int x :: st) M
  | .iload _ => am_vI (am_lk ls x1) fun x => κ nx ls (.int x :: st) M
  | .lload_n _ => am_vJ (am_lk ls x1) fun x => κ nx ls (.long x :: st) M
  | .lload _ => am_vJ (am_lk ls x1) fun x => κ nx ls (.long x :: st) M
  | .aload_n _ => am_vR (am_lk ls x1) fun x => κ nx ls (.ref x :: st) M
  | .aload _ => am_vR (am_lk ls x1) fun x => κ nx ls (.ref x :: st) M
  | .istore_n _ => am_1i st fun x st => am_so (am_sub ls x1 x1 ks) fun l => κ nx ((x1, .int x) :: l) st M
  | .istore _ => am_1i st fun x st => am_so (am_sub ls x1 x1 ks) fun l => κ nx ((x1, .int x) :: l) st M
  | .lstore_n _ => am_1l st fun x st => am_so (am_sub ls x1 (x1 + 1) ks) fun l => κ nx ((x1, .long x) :: l) st M
  | .lstore _ => am_1l st fun x st => am_so (am_sub ls x1 (x1 + 1) ks) fun l => κ nx ((x1, .long x) :: l) st M
  | .astore_n _ => am_1r st fun x st => am_so (am_sub ls x1 x1 ks) fun l => κ nx ((x1, .ref x) :: l) st M
  | .astore _ => am_1r st fun x st => am_so (am_sub ls x1 x1 ks) fun l => κ nx ((x1, .ref x) :: l) st M
  | .iinc _ _ => am_vI (am_lk ls x1) fun x => am_vI (some v) fun c => am_so (am_sub ls x1 x1 ks) fun l => κ nx ((x1, .int (x + c)) :: l) st M
  | .iadd => am_2i st fun x y st => κ nx ls (.int (x + y) :: st) M
  | .isub => am_2i st fun x y st => κ nx ls (.int (x - y) :: st) M
  | .imul => am_2i st fun x y st => κ nx ls (.int (x * y) :: st) M
  | .iand => am_2i st fun x y st => κ nx ls (.int (x &&& y) :: st) M
  | .ior => am_2i st fun x y st => κ nx ls (.int (x ||| y) :: st) M
  | .ixor => am_2i st fun x y st => κ nx ls (.int (x ^^^ y) :: st) M
  | .ishl => am_2i st fun x y st => κ nx ls (.int (x <<< (y &&& 31)) :: st) M
  | .ishr => am_2i st fun x y st => κ nx ls (.int (x >>> (y &&& 31)) :: st) M
  | .iushr => am_2i st fun x y st => κ nx ls (.int (x.toUInt32 >>> (y.toUInt32 &&& Int32.toUInt32 31)).toInt32 :: st) M
  | .idiv => am_2i st fun x y st => am_dv y (κ nx ls (.int (x / y) :: st) M)
  | .irem => am_2i st fun x y st => am_dv y (κ nx ls (.int (x - x / y * y) :: st) M)
  | .ineg => am_1i st fun x st => κ nx ls (.int (-x) :: st) M
  | .ladd => am_2l st fun x y st => κ nx ls (.long (x + y) :: st) M
  | .lsub => am_2l st fun x y st => κ nx ls (.long (x - y) :: st) M
  | .lmul => am_2l st fun x y st => κ nx ls (.long (x * y) :: st) M
  | .ldiv => am_2l st fun x y st => am_dw y (κ nx ls (.long (x / y) :: st) M)
  | .land => am_2l st fun x y st => κ nx ls (.long (x &&& y) :: st) M
  | .lor => am_2l st fun x y st => κ nx ls (.long (x ||| y) :: st) M
  | .lcmp => am_2l st fun x y st => κ nx ls (.int (lg_cmp x y) :: st) M
  | .lshl => am_il st fun x y st => κ nx ls (.long (x <<< (y.toInt64 &&& 63)) :: st) M
  | .lshr => am_il st fun x y st => κ nx ls (.long (x >>> (y.toInt64 &&& 63)) :: st) M
  | .lushr => am_il st fun x y st => κ nx ls (.long (x.toUInt64 >>> (y.toInt64.toUInt64 &&& Int64.toUInt64 63)).toInt64 :: st) M
  | .i2l => am_1i st fun x st => κ nx ls (.long x.toInt64 :: st) M
  | .l2i => am_1l st fun x st => κ nx ls (.int x.toInt32 :: st) M
  | .i2b => am_1i st fun x st => κ nx ls (.int x.toInt8.toInt32 :: st) M
  | .i2s => am_1i st fun x st => κ nx ls (.int x.toInt16.toInt32 :: st) M
  | .i2c => am_1i st fun x st => κ nx ls (.int (x.toUInt32 % 65536).toInt32 :: st) M
  | .dup => am_1r st fun a st => κ nx ls (.ref a :: .ref a :: st) M
  | .dup2 => am_ri st fun a i st => κ nx ls (.int i :: .ref a :: .int i :: .ref a :: st) M
  | .pop => am_1i st fun _ st => κ nx ls st M
  | .ifCond c _ => am_1i st fun x st => match c with
    | .eq => if x = 0 then κ x1 ls st M else κ nx ls st M
    | .ne => if x = 0 then κ nx ls st M else κ x1 ls st M
    | .lt => if x < 0 then κ x1 ls st M else κ nx ls st M
    | .ge => if 0 ≤ x then κ x1 ls st M else κ nx ls st M
    | .gt => if 0 < x then κ x1 ls st M else κ nx ls st M
    | .le => if x ≤ 0 then κ x1 ls st M else κ nx ls st M
  | .if_icmp c _ => am_2i st fun x y st => match c with
    | .eq => if x = y then κ x1 ls st M else κ nx ls st M
    | .ne => if x = y then κ nx ls st M else κ x1 ls st M
    | .lt => if x < y then κ x1 ls st M else κ nx ls st M
    | .ge => if y ≤ x then κ x1 ls st M else κ nx ls st M
    | .gt => if y < x then κ x1 ls st M else κ nx ls st M
    | .le => if x ≤ y then κ x1 ls st M else κ nx ls st M
  | .goto _ => κ x1 ls st M
  | .tableswitch _ _ _ _ => am_1i st fun x st => am_sw sw x1 x fun t => κ t ls st M
  | .lookupswitch _ _ => am_1i st fun x st => am_sw sw x1 x fun t => κ t ls st M
  | .getfield _ => am_1r st fun a st => match x2 % 10 with
    | 0 => am_gI g M a x1 (x2 / 10) fun x => κ nx ls (.int x :: st) M
    | 2 => am_gJ g M a x1 (x2 / 10) fun x => κ nx ls (.long x :: st) M
    | 3 => am_gR g a x1 (x2 / 10) fun q => κ nx ls (.ref q :: st) M
    | 5 => am_gO g a (x2 / 10) fun x => κ nx ls (.int x :: st) M
    | 6 => am_gS g a (x2 / 10) fun q => κ nx ls (.ref q :: st) M
    | _ => none
  | .putfield _ => match x2 % 10 with
    | 0 => am_ri st fun a x st => am_pI g M a x1 (x2 / 10) x fun M => κ nx ls st M
    | 1 => am_ri st fun a x st => am_pZ g M a x1 (x2 / 10) x fun M => κ nx ls st M
    | 2 => am_rj st fun a x st => am_pJ g M a x1 (x2 / 10) x fun M => κ nx ls st M
    | _ => none
  | .iaload => am_ri st fun a i st => am_ia g M a i fun x => κ nx ls (.int x :: st) M
  | .baload => am_ri st fun a i st => am_za g M a i fun x => κ nx ls (.int x :: st) M
  | .laload => am_ri st fun a i st => am_la g M a i fun x => κ nx ls (.long x :: st) M
  | .aaload => am_ri st fun a i st => am_qa g a i fun q => κ nx ls (.ref q :: st) M
  | .iastore => am_rii st fun a i x st => am_is g M a i x fun M => κ nx ls st M
  | .bastore => am_rii st fun a i x st => am_zs g M a i x fun M => κ nx ls st M
  | .lastore => am_rij st fun a i x st => am_ls g M a i x fun M => κ nx ls st M
  | .arraylength => am_1r st fun a st => am_ln g a fun x => κ nx ls (.int x :: st) M
  | .invokestatic _ => match x2 with
    | 9999 => (match st with
      | [.int n, .int j, .ref b, .int i, .ref a] => am_cp g M a i b j n fun M => κ nx ls [] M
      | _ => none)
    | _ => (match am_pop (x2 / 10) [] st with
      | some q => am_fe q.1 q.2 ks (am_kr (x2 % 10) (Γ x1 q.1 M) q.2 fun st M => κ nx ls st M)
      | none => none)
  | .invokevirtual _ => (match am_pop (x2 / 10) [] st with
    | some (.ref a :: As, st) => (match v with
      | .ref c => am_fe (.ref a :: As) st ks (am_rc g a c (am_kr (x2 % 10) (Γ x1 (.ref a :: As) M) st fun st M => κ nx ls st M))
      | _ => none)
    | _ => none)
  | .ireturn => (match st with
    | [.int x] => am_rt rz x M
    | _ => none)
  | .lreturn => (match st with
    | [.long x] => some (some (.long x), M)
    | _ => none)
  | .areturn => (match st with
    | [.ref a] => some (some (.ref a), M)
    | _ => none)
  | .return_ => (match st with
    | [] => some (none, M)
    | _ => none)
  | _ => none
/-- a row of a method's code by its place: rows in blocks, a block by the first place behind it -/
def am_row : List am_E → Nat → Option am_E
  | [], _ => none
  | e :: t, pc => bif Nat.beq e.1 pc then some e else am_row t pc
def am_at : List (Nat × List am_E) → Nat → Option am_E
  | [], _ => none
  | b :: t, pc => bif Nat.blt pc b.1 then am_row b.2 pc else am_at t pc
def am_cut : List (Nat × List Nat) → Nat → Option (List Nat)
  | [], _ => none
  | (p, k) :: t, pc => bif Nat.beq p pc then some k else am_cut t pc
def am_pick (ls : am_L) : List Nat → Option (List Value)
  | [] => some []
  | k :: t => match am_lk ls k with
    | some v => (match am_pick ls t with
      | some r => some (v :: r)
      | none => none)
    | none => none
def am_run (Γ : Nat → List Value → am_M → Option am_R) (g : am_G) (rz : Nat) (code : List (Nat × List am_E)) (cuts : List (Nat × List Nat)) (κ : Nat → List Value → List Value → am_M → Option am_R) : Nat → Nat → am_L → List Value → am_M → Option am_R
  | 0, _, _, _, _ => none
  | n + 1, pc, ls, st, M => match am_at code pc with
    | none => none
    | some e => am_step Γ g rz e ls st M fun pc' ls' st' M' => match am_cut cuts pc' with
      | some keep => (match am_pick ls' keep with
        | some vs => κ pc' vs st' M'
        | none => none)
      | none => am_run Γ g rz code cuts κ n pc' ls' st' M'
