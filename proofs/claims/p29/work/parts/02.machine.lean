/-! the small machine: the class and the reference over a memory of rows -/
/-- ints, longs, references by address and place; kind (tag, length); next address; slots used -/
abbrev SM : Type := (Nat → Nat → Int32) × (Nat → Nat → Int64) × (Nat → Nat → Option Nat) × (Nat → Nat × Nat) × Nat × Nat
def mI (M : SM) : Nat → Nat → Int32 := M.1
def mJ (M : SM) : Nat → Nat → Int64 := M.2.1
def mP (M : SM) : Nat → Nat → Option Nat := M.2.2.1
def mK (M : SM) : Nat → Nat × Nat := M.2.2.2.1
def mS (M : SM) : Nat := M.2.2.2.2.1
def mU (M : SM) : Nat := M.2.2.2.2.2
def sI (M : SM) (a : Nat) (f : Nat → Int32) : SM := (fun b => if b = a then f else mI M b, M.2)
def sJ (M : SM) (a : Nat) (f : Nat → Int64) : SM := (M.1, fun b => if b = a then f else mJ M b, M.2.2)
def sP (M : SM) (a : Nat) (f : Nat → Option Nat) : SM := (M.1, M.2.1, fun b => if b = a then f else mP M b, M.2.2.2)
/-- a new cell of that kind, of so many slots -/
def nw (M : SM) (kd : Nat × Nat) (u : Nat) : SM := (fun b => if b = mS M then fun _ => 0 else mI M b, fun b => if b = mS M then fun _ => 0 else mJ M b, fun b => if b = mS M then fun _ => none else mP M b, fun b => if b = mS M then kd else mK M b, mS M + 1, mU M + u)
/-- what a field holds -/
def fv (M : SM) (a ci k : Nat) : Value := match fT ci k with
  | 0 => .int (mI M a k)
  | 1 => .long (mJ M a k)
  | 2 => va_rf (mP M a k)
  | _ => .int (mI M a k)
def fld (own idx : Nat) : Option (Nat × Nat) := (fldT.find? fun e => e.1 == own && e.2.1 == idx).map fun e => (e.2.2.1, e.2.2.2.1)
def cal (own idx : Nat) : Option (Nat × Nat) := (calT.find? fun e => e.1 == own && e.2.1 == idx).map fun e => (e.2.2.1, e.2.2.2.1)
def cst (own idx : Nat) : Option Int64 := (cstT.find? fun e => e.1 == own && e.2.1 == idx).map fun e => e.2.2.1
def cni (own idx : Nat) : Option Int32 := (cniT.find? fun e => e.1 == own && e.2.1 == idx).map fun e => e.2.2.1
def ncl (own idx : Nat) : Option Nat := (nclT.find? fun e => e.1 == own && e.2.1 == idx).map fun e => e.2.2.1
def isObj (own idx : Nat) : Bool := objT.any fun e => e.1 == own && e.2.1 == idx
def isCpy (own idx : Nat) : Bool := cpyT.any fun e => e.1 == own && e.2.1 == idx
def nPar (q : Nat) : Nat := match parseMethodDescriptor (yN q).desc with
  | some d => d.parameters.length
  | none => 0
def catS (st : List Value) : Nat := (st.map fun v => v.category).sum
/-- the locals with which a method begins -/
def entA : List Value → List (Option Value)
  | [] => []
  | v :: vs => if v.category = 2 then some v :: none :: entA vs else some v :: entA vs
def ent (q : Nat) (args : List Value) : List (Option Value) := entA args ++ List.replicate (mL q - (entA args).length) none
abbrev Nx : Type := Nat × List (Option Value) × List Value × SM
abbrev Res : Type := Nx ⊕ ((Option Value × SM) ⊕ (Nat × List Value × SM × Nat × List (Option Value) × List Value))
abbrev Out : Type := Option (Option Value × SM)
/-- a place of a row -/
abbrev inR (i : Int32) (n : Nat) : Prop := ¬ i < 0 ∧ i.toNatClampNeg < n
def nx (pc : Nat) (ls : List (Option Value)) (st : List Value) (M : SM) : Option Nx := some (pc, ls, st, M)
/-- an int may be returned as it is -/
def retOK (r : Option FieldType) (v : Int32) : Bool := match r with
  | some .int => true
  | some .boolean => v == 0 || v == 1
  | _ => false
/-- the classes of the arrays of references, by tag -/
def aoC (tag : Nat) : Nat := if tag = 3 then 1 else 8
/-- what can be said of a call ahead of the run: its arguments fit the callee's locals, the rest is small, the depth falls -/
def callOK (q q2 : Nat) (as rest : List Value) : Bool := Nat.ble (entA as).length (mL q2) && Nat.ble (catS rest) 8 && Nat.blt (dp q2) (dp q)
def doV (q pc : Nat) (ls : List (Option Value)) (st : List Value) (M : SM) (q2 kd : Nat) : Option Res :=
  match (st.take (nPar q2)).reverse, st.drop (nPar q2) with
  | as, .ref a :: r => if callOK q q2 (.ref a :: as) r && (kd == 0 || kd == 1) && as.length == nPar q2 then (if mK M a = (10 + ow q2, 0) then some (.inr (.inr (q2, .ref a :: as, M, pc + 3, ls, r))) else none) else none
  | _, _ => none
def doI (q pc : Nat) (ls : List (Option Value)) (st : List Value) (M : SM) (q2 kd : Nat) : Option Res :=
  match (st.take (nPar q2)).reverse, st.drop (nPar q2) with
  | as, .ref a :: r => if callOK q q2 (.ref a :: as) r && (kd == 4 || kd == 5) && as.length == nPar q2 then some (.inr (.inr (q2, .ref a :: as, M, pc + 3, ls, r))) else none
  | _, _ => none
def doS (q pc : Nat) (ls : List (Option Value)) (st : List Value) (M : SM) (q2 kd : Nat) : Option Res :=
  match (st.take (nPar q2)).reverse, st.drop (nPar q2) with
  | as, r => if callOK q q2 as r && (kd == 2 || kd == 3) && as.length == nPar q2 then some (.inr (.inr (q2, as, M, pc + 3, ls, r))) else none
/-- System.arraycopy, rows of ints and of longs -/
def doC (q pc : Nat) (ls : List (Option Value)) (st : List Value) (M : SM) : Option Nx :=
  match st with
  | .int n :: .int dp0 :: .ref a :: .int sp0 :: .ref b :: r =>
    if Nat.ble (catS r) 8 && Nat.ble 1 (dp q) then
      (if (¬ sp0 < 0 ∧ ¬ dp0 < 0 ∧ ¬ n < 0) ∧ sp0.toNatClampNeg + n.toNatClampNeg ≤ (mK M b).2 ∧ dp0.toNatClampNeg + n.toNatClampNeg ≤ (mK M a).2 then
        (if (mK M a).1 = 1 ∧ (mK M b).1 = 1 then nx (pc + 3) ls r (sI M a (va_cpy (mI M b) (mI M a) sp0.toNatClampNeg dp0.toNatClampNeg n.toNatClampNeg))
         else if (mK M a).1 = 2 ∧ (mK M b).1 = 2 then nx (pc + 3) ls r (sJ M a (va_cpy (mJ M b) (mJ M a) sp0.toNatClampNeg dp0.toNatClampNeg n.toNatClampNeg)) else none)
       else none)
    else none
  | _ => none
/-- a jump -/
def nxj (pc : Nat) (o : Int) (ls : List (Option Value)) (st : List Value) (M : SM) : Option Nx := if 0 ≤ (pc : Int) + o then nx ((pc : Int) + o).toNat ls st M else none
/-- an instruction's length -/
def lenOK (i : Instr) (len : Nat) : Bool := match i with
  | .iload _ | .lload _ | .aload _ | .istore _ | .lstore _ | .astore _ | .bipush _ | .ldc _ | .newarray _ => len == 2
  | .iinc _ _ | .sipush _ | .ldc2_w _ | .goto _ | .ifCond _ _ | .if_icmp _ _ | .getfield _ | .putfield _ | .new _ | .anewarray _ | .invokevirtual _ | .invokestatic _ | .invokespecial _ => len == 3
  | .tableswitch _ _ _ _ => true
  | _ => len == 1
/-- a final field is written in its own class's constructor -/
def finOK (ci k q : Nat) : Bool := !(TT ci k).2.2.2 || (isI q && ci == ow q)
def stp (i : Instr) (q pc : Nat) (ls : List (Option Value)) (st : List Value) (M : SM) : Option Nx := match i with
  | .iload_n k => match ls[(k : Nat)]? with | some (some (.int x)) => nx (pc + 1) ls (.int x :: st) M | _ => none
  | .iload k => match ls[k]? with | some (some (.int x)) => nx (pc + 2) ls (.int x :: st) M | _ => none
  | .aload_n k => match ls[(k : Nat)]? with | some (some (.ref x)) => nx (pc + 1) ls (.ref x :: st) M | _ => none
  | .aload k => match ls[k]? with | some (some (.ref x)) => nx (pc + 2) ls (.ref x :: st) M | _ => none
  | .lload_n k => match ls[(k : Nat)]?, ls[(k : Nat) + 1]? with | some (some (.long x)), some none => nx (pc + 1) ls (.long x :: st) M | _, _ => none
  | .lload k => match ls[k]?, ls[k + 1]? with | some (some (.long x)), some none => nx (pc + 2) ls (.long x :: st) M | _, _ => none
  | .istore_n k => match st with | .int x :: r => if (k : Nat) < ls.length then nx (pc + 1) (ls.set (k : Nat) (some (.int x))) r M else none | _ => none
  | .istore k => match st with | .int x :: r => if k < ls.length then nx (pc + 2) (ls.set k (some (.int x))) r M else none | _ => none
  | .astore_n k => match st with | .ref x :: r => if (k : Nat) < ls.length then nx (pc + 1) (ls.set (k : Nat) (some (.ref x))) r M else none | _ => none
  | .astore k => match st with | .ref x :: r => if k < ls.length then nx (pc + 2) (ls.set k (some (.ref x))) r M else none | _ => none
  | .lstore_n k => match st with | .long x :: r => if (k : Nat) + 1 < ls.length then nx (pc + 1) ((ls.set (k : Nat) (some (.long x))).set ((k : Nat) + 1) none) r M else none | _ => none
  | .lstore k => match st with | .long x :: r => if k + 1 < ls.length then nx (pc + 2) ((ls.set k (some (.long x))).set (k + 1) none) r M else none | _ => none
  | .iinc k n => match ls[k]? with | some (some (.int x)) => nx (pc + 3) (ls.set k (some (.int (x + Int32.ofInt n)))) st M | _ => none
  | .iconst n => nx (pc + 1) ls (.int (Int32.ofInt n) :: st) M
  | .bipush n => nx (pc + 2) ls (.int (Int8.ofInt n).toInt32 :: st) M
  | .sipush n => nx (pc + 3) ls (.int (Int16.ofInt n).toInt32 :: st) M
  | .lconst n => nx (pc + 1) ls (.long (Int64.ofNat (n : Nat)) :: st) M
  | .ldc2_w i => match cst (ow q) i with | some x => nx (pc + 3) ls (.long x :: st) M | none => none
  | .iadd => match st with | .int y :: .int x :: r => nx (pc + 1) ls (.int (x + y) :: r) M | _ => none
  | .isub => match st with | .int y :: .int x :: r => nx (pc + 1) ls (.int (x - y) :: r) M | _ => none
  | .imul => match st with | .int y :: .int x :: r => nx (pc + 1) ls (.int (x * y) :: r) M | _ => none
  | .ixor => match st with | .int y :: .int x :: r => nx (pc + 1) ls (.int (x ^^^ y) :: r) M | _ => none
  | .ishr => match st with | .int y :: .int x :: r => nx (pc + 1) ls (.int (x >>> (y &&& 31)) :: r) M | _ => none
  | .irem => match st with | .int y :: .int x :: r => if y = 0 then none else nx (pc + 1) ls (.int (x - x / y * y) :: r) M | _ => none
  | .ldc i => match cni (ow q) i with | some x => nx (pc + 2) ls (.int x :: st) M | none => none
  | .iand => match st with | .int y :: .int x :: r => nx (pc + 1) ls (.int (x &&& y) :: r) M | _ => none
  | .ior => match st with | .int y :: .int x :: r => nx (pc + 1) ls (.int (x ||| y) :: r) M | _ => none
  | .ishl => match st with | .int y :: .int x :: r => nx (pc + 1) ls (.int (x <<< (y &&& 31)) :: r) M | _ => none
  | .idiv => match st with | .int y :: .int x :: r => if y = 0 then none else nx (pc + 1) ls (.int (x / y) :: r) M | _ => none
  | .ladd => match st with | .long y :: .long x :: r => nx (pc + 1) ls (.long (x + y) :: r) M | _ => none
  | .lsub => match st with | .long y :: .long x :: r => nx (pc + 1) ls (.long (x - y) :: r) M | _ => none
  | .land => match st with | .long y :: .long x :: r => nx (pc + 1) ls (.long (x &&& y) :: r) M | _ => none
  | .lor => match st with | .long y :: .long x :: r => nx (pc + 1) ls (.long (x ||| y) :: r) M | _ => none
  | .lxor => match st with | .long y :: .long x :: r => nx (pc + 1) ls (.long (x ^^^ y) :: r) M | _ => none
  | .lshl => match st with | .int y :: .long x :: r => nx (pc + 1) ls (.long (x <<< (y.toInt64 &&& 63)) :: r) M | _ => none
  | .lshr => match st with | .int y :: .long x :: r => nx (pc + 1) ls (.long (x >>> (y.toInt64 &&& 63)) :: r) M | _ => none
  | .lushr => match st with | .int y :: .long x :: r => nx (pc + 1) ls (.long ((x.toUInt64 >>> (y.toInt64.toUInt64 &&& Int64.toUInt64 63)).toInt64) :: r) M | _ => none
  | .lcmp => match st with | .long y :: .long x :: r => nx (pc + 1) ls (.int (lg_cmp x y) :: r) M | _ => none
  | .i2l => match st with | .int x :: r => nx (pc + 1) ls (.long x.toInt64 :: r) M | _ => none
  | .l2i => match st with | .long x :: r => nx (pc + 1) ls (.int x.toInt32 :: r) M | _ => none
  | .dup => match st with | v :: r => if v.category = 1 then nx (pc + 1) ls (v :: v :: r) M else none | _ => none
  | .pop => match st with | v :: r => if v.category = 1 then nx (pc + 1) ls r M else none | _ => none
  | .dup2 => match st with | v :: w :: r => if v.category = 1 ∧ w.category = 1 then nx (pc + 1) ls (v :: w :: v :: w :: r) M else none | _ => none
  | .goto o => nxj pc o ls st M
  | .ifCond c o => match st with | .int x :: r => (match c with | .eq => if 0 ≤ (pc : Int) + o then (if x = 0 then nx ((pc : Int) + o).toNat ls r M else nx (pc + 3) ls r M) else none | .ne => if 0 ≤ (pc : Int) + o then (if ¬ x = 0 then nx ((pc : Int) + o).toNat ls r M else nx (pc + 3) ls r M) else none | .lt => if 0 ≤ (pc : Int) + o then (if x < 0 then nx ((pc : Int) + o).toNat ls r M else nx (pc + 3) ls r M) else none | .ge => if 0 ≤ (pc : Int) + o then (if 0 ≤ x then nx ((pc : Int) + o).toNat ls r M else nx (pc + 3) ls r M) else none | .gt => if 0 ≤ (pc : Int) + o then (if 0 < x then nx ((pc : Int) + o).toNat ls r M else nx (pc + 3) ls r M) else none | .le => if 0 ≤ (pc : Int) + o then (if x ≤ 0 then nx ((pc : Int) + o).toNat ls r M else nx (pc + 3) ls r M) else none) | _ => none
  | .if_icmp c o => match st with | .int y :: .int x :: r => (match c with | .eq => if 0 ≤ (pc : Int) + o then (if x = y then nx ((pc : Int) + o).toNat ls r M else nx (pc + 3) ls r M) else none | .ne => if 0 ≤ (pc : Int) + o then (if ¬ x = y then nx ((pc : Int) + o).toNat ls r M else nx (pc + 3) ls r M) else none | .lt => if 0 ≤ (pc : Int) + o then (if x < y then nx ((pc : Int) + o).toNat ls r M else nx (pc + 3) ls r M) else none | .ge => if 0 ≤ (pc : Int) + o then (if y ≤ x then nx ((pc : Int) + o).toNat ls r M else nx (pc + 3) ls r M) else none | .gt => if 0 ≤ (pc : Int) + o then (if y < x then nx ((pc : Int) + o).toNat ls r M else nx (pc + 3) ls r M) else none | .le => if 0 ≤ (pc : Int) + o then (if x ≤ y then nx ((pc : Int) + o).toNat ls r M else nx (pc + 3) ls r M) else none) | _ => none
  | .tableswitch d lo hi offs => match st with | .int x :: r => if x.toInt < lo ∨ hi < x.toInt then nxj pc d ls r M else (match offs[(x.toInt - lo).toNat]? with | some o => nxj pc o ls r M | none => none) | _ => none
  | .getfield i => match fld (ow q) i, st with | some (ci, k), .ref a :: r => if mK M a = (10 + ci, 0) then nx (pc + 3) ls (fv M a ci k :: r) M else none | _, _ => none
  | .putfield i => match fld (ow q) i, st with
    | some (ci, k), .int x :: .ref a :: r => if mK M a = (10 + ci, 0) ∧ finOK ci k q = true then (if fT ci k = 0 ∨ (fT ci k = 3 ∧ (x = 0 ∨ x = 1)) then nx (pc + 3) ls r (sI M a (va_up (mI M a) k x)) else none) else none
    | some (ci, k), .long x :: .ref a :: r => if mK M a = (10 + ci, 0) ∧ finOK ci k q = true then (if fT ci k = 1 then nx (pc + 3) ls r (sJ M a (va_up (mJ M a) k x)) else none) else none
    | some (ci, k), .ref b :: .ref a :: r => if mK M a = (10 + ci, 0) ∧ finOK ci k q = true then (if fT ci k = 2 then nx (pc + 3) ls r (sP M a (va_up (mP M a) k (some b))) else none) else none
    | _, _ => none
  | .iaload => match st with | .int i :: .ref a :: r => if ((mK M a).1 = 1 ∨ (mK M a).1 = 5) ∧ inR i (mK M a).2 then nx (pc + 1) ls (.int (mI M a i.toNatClampNeg) :: r) M else none | _ => none
  | .laload => match st with | .int i :: .ref a :: r => if (mK M a).1 = 2 ∧ inR i (mK M a).2 then nx (pc + 1) ls (.long (mJ M a i.toNatClampNeg) :: r) M else none | _ => none
  | .aaload => match st with | .int i :: .ref a :: r => if ((mK M a).1 = 3 ∨ (mK M a).1 = 4) ∧ inR i (mK M a).2 then nx (pc + 1) ls (va_rf (mP M a i.toNatClampNeg) :: r) M else none | _ => none
  | .iastore => match st with | .int x :: .int i :: .ref a :: r => if (mK M a).1 = 1 ∧ inR i (mK M a).2 then nx (pc + 1) ls r (sI M a (va_up (mI M a) i.toNatClampNeg x)) else none | _ => none
  | .lastore => match st with | .long x :: .int i :: .ref a :: r => if (mK M a).1 = 2 ∧ inR i (mK M a).2 then nx (pc + 1) ls r (sJ M a (va_up (mJ M a) i.toNatClampNeg x)) else none | _ => none
  | .aastore => match st with | .ref b :: .int i :: .ref a :: r => if ((mK M a = (3, (mK M a).2) ∧ mK M b = (10 + aoC 3, 0)) ∨ (mK M a = (4, (mK M a).2) ∧ mK M b = (10 + aoC 4, 0))) ∧ inR i (mK M a).2 then nx (pc + 1) ls r (sP M a (va_up (mP M a) i.toNatClampNeg (some b))) else none | _ => none
  | .arraylength => match st with | .ref a :: r => if (mK M a).1 = 1 ∨ (mK M a).1 = 5 then nx (pc + 1) ls (.int (Int32.ofNat (mK M a).2) :: r) M else none | _ => none
  | .new i => match ncl (ow q) i with | some ci => if ci < nCl then nx (pc + 3) ls (.ref (mS M) :: st) (nw M (10 + ci, 0) (NN ci)) else none | none => none
  | .newarray t => match t, st with | .int, .int n :: r => if 0 ≤ n ∧ n ≤ 100000 then nx (pc + 2) ls (.ref (mS M) :: r) (nw M (1, n.toNatClampNeg) n.toNatClampNeg) else none | .long, .int n :: r => if 0 ≤ n ∧ n ≤ 100000 then nx (pc + 2) ls (.ref (mS M) :: r) (nw M (2, n.toNatClampNeg) n.toNatClampNeg) else none | _, _ => none
  | .anewarray i => match ncl (ow q) i, st with | some ci, .int n :: r => if (0 ≤ n ∧ n ≤ 100000) ∧ (ci = aoC 3 ∨ ci = aoC 4) then nx (pc + 3) ls (.ref (mS M) :: r) (nw M ((if ci = aoC 3 then 3 else 4), n.toNatClampNeg) n.toNatClampNeg) else none | _, _ => none
  | .invokestatic i => if isCpy (ow q) i = true then doC q pc ls st M else none
  | .invokespecial i => if isObj (ow q) i = true then (match st with | .ref a :: r => if catS r ≤ 8 ∧ 1 ≤ dp q then nx (pc + 3) ls r M else none | _ => none) else none
  | _ => none
/-- the way out of a method, a call, or the next instruction -/
def sto (i : Instr) (q pc : Nat) (ls : List (Option Value)) (st : List Value) (M : SM) : Option Res := match i with
  | .return_ => match st with | [] => if mRt q = none then some (.inr (.inl (none, M))) else none | _ => none
  | .ireturn => match st with | [.int x] => if retOK (mRt q) x = true then some (.inr (.inl (some (.int x), M))) else none | _ => none
  | .lreturn => match st with | [.long x] => if mRt q = some .long then some (.inr (.inl (some (.long x), M))) else none | _ => none
  | .invokevirtual k => match cal (ow q) k with | some (q2, kd) => doV q pc ls st M q2 kd | none => none
  | .invokestatic k => if isCpy (ow q) k = true then (stp (.invokestatic k) q pc ls st M).map .inl else match cal (ow q) k with | some (q2, kd) => doS q pc ls st M q2 kd | none => none
  | .invokespecial k => if isObj (ow q) k = true then (stp (.invokespecial k) q pc ls st M).map .inl else match cal (ow q) k with | some (q2, kd) => doI q pc ls st M q2 kd | none => none
  | i => (stp i q pc ls st M).map .inl
def stq (i : Instr) (len q pc : Nat) (ls : List (Option Value)) (st : List Value) (M : SM) : Option Res := if lenOK i len = true then sto i q pc ls st M else none
def hdl (K : Nat → List (Option Value) → List Value → SM → Out) (C : Nat → List Value → SM → Out) : Option Res → Out
  | none => none
  | some (.inl (pc, ls, st, M)) => K pc ls st M
  | some (.inr (.inl r)) => some r
  | some (.inr (.inr (q, as, M, pc, ls, rest))) => match C q as M with
    | some (v, M1) => K pc ls (v.toList ++ rest) M1
    | none => none
/-- so many steps, calls counted with theirs -/
def ex : Nat → Nat → Nat → List (Option Value) → List Value → SM → Out
  | 0, _, _, _, _, _ => none
  | n + 1, q, pc, ls, st, M => match decode (mB q) pc with
    | .ok (i, len) => hdl (ex n q) (fun q2 as M2 => ex n q2 0 (ent q2 as) [] M2) (stq i len q pc ls st M)
    | _ => none
theorem hdl_mono {K K' : Nat → List (Option Value) → List Value → SM → Out} {C C' : Nat → List Value → SM → Out} (hK : ∀ pc ls st M r, K pc ls st M = some r → K' pc ls st M = some r) (hC : ∀ q as M r, C q as M = some r → C' q as M = some r) (x : Option Res) (r : Option Value × SM) (h : hdl K C x = some r) : hdl K' C' x = some r := by
  match x, h with
  | some (.inl (pc, ls, st, M)), h => exact hK _ _ _ _ _ h
  | some (.inr (.inl r')), h => exact h
  | some (.inr (.inr (q, as, M, pc, ls, rest))), h =>
    simp only [hdl] at h ⊢
    cases hc : C q as M with
    | none => rw [hc] at h; cases h
    | some y =>
      obtain ⟨v, M1⟩ := y
      rw [hc] at h
      rw [hC _ _ _ _ hc]
      exact hK _ _ _ _ _ h
theorem ex_mono1 : ∀ (n q pc : Nat) (ls : List (Option Value)) (st : List Value) (M : SM) (r : Option Value × SM), ex n q pc ls st M = some r → ex (n + 1) q pc ls st M = some r
  | 0, _, _, _, _, _, _, h => by cases h
  | n + 1, q, pc, ls, st, M, r, h => by
    rw [ex] at h ⊢
    cases hd : decode (mB q) pc with
    | error _ => rw [hd] at h; cases h
    | ok x =>
      obtain ⟨i, l⟩ := x
      rw [hd] at h
      exact hdl_mono (fun pc ls st M r h => ex_mono1 n q pc ls st M r h) (fun q as M r h => ex_mono1 n q 0 (ent q as) [] M r h) _ _ h
theorem ex_mono {n n' : Nat} (hn : n ≤ n') {q pc : Nat} {ls : List (Option Value)} {st : List Value} {M : SM} {r : Option Value × SM} (h : ex n q pc ls st M = some r) : ex n' q pc ls st M = some r := by
  induction hn with
  | refl => exact h
  | step _ ih => exact ex_mono1 _ _ _ _ _ _ _ ih
/-- the whole run, without a count -/
noncomputable def rn (q pc : Nat) (ls : List (Option Value)) (st : List Value) (M : SM) : Out := @dite Out (∃ (r : Option Value × SM) (n : Nat), ex n q pc ls st M = some r) (Classical.propDecidable _) (fun h => some (Classical.choose h)) (fun _ => none)
theorem rn_iff {q pc : Nat} {ls : List (Option Value)} {st : List Value} {M : SM} {r : Option Value × SM} : rn q pc ls st M = some r ↔ ∃ n, ex n q pc ls st M = some r := by
  unfold rn
  constructor
  · intro h
    split at h
    · rename_i h0
      cases h
      exact Classical.choose_spec h0
    · cases h
  · rintro ⟨n, hn⟩
    have h0 : ∃ (r : Option Value × SM) (n : Nat), ex n q pc ls st M = some r := ⟨r, n, hn⟩
    rw [dif_pos h0]
    obtain ⟨n2, hn2⟩ := Classical.choose_spec h0
    have a := ex_mono (Nat.le_max_left n n2) hn
    have b := ex_mono (Nat.le_max_right n n2) hn2
    rw [← b, a]
/-- a call -/
noncomputable def cl (q : Nat) (as : List Value) (M : SM) : Out := rn q 0 (ent q as) [] M
theorem out_ext {a b : Out} (h : ∀ r, a = some r ↔ b = some r) : a = b := by
  cases a with
  | none => cases b with
    | none => rfl
    | some y => exact ((h y).mpr rfl)
  | some x => exact ((h x).mp rfl).symm
theorem rn_eq {q pc len : Nat} {i : Instr} (hd : decode (mB q) pc = .ok (i, len)) (ls : List (Option Value)) (st : List Value) (M : SM) : rn q pc ls st M = hdl (rn q) cl (stq i len q pc ls st M) := by
  apply out_ext
  intro r
  rw [rn_iff]
  constructor
  · rintro ⟨n, h⟩
    cases n with
    | zero => cases h
    | succ n =>
      rw [ex, hd] at h
      exact hdl_mono (fun pc ls st M r h => rn_iff.mpr ⟨n, h⟩) (fun q as M r h => rn_iff.mpr ⟨n, h⟩) _ _ h
  · intro h
    have up : ∀ (n : Nat), hdl (ex n q) (fun q2 as M2 => ex n q2 0 (ent q2 as) [] M2) (stq i len q pc ls st M) = some r → ∃ n, ex n q pc ls st M = some r := fun n h => ⟨n + 1, by rw [ex, hd]; exact h⟩
    match hx : stq i len q pc ls st M, h with
    | some (.inl (pc', ls', st', M')), h =>
      obtain ⟨n, hn⟩ := rn_iff.mp (show rn q pc' ls' st' M' = some r from h)
      exact up n (by rw [hx]; exact hn)
    | some (.inr (.inl r')), h => exact up 0 (by rw [hx]; exact h)
    | some (.inr (.inr (q2, as, M', pc', ls', rest))), h =>
      simp only [hdl] at h
      cases hc : cl q2 as M' with
      | none => rw [hc] at h; cases h
      | some y =>
        obtain ⟨v, M1⟩ := y
        rw [hc] at h
        obtain ⟨n1, h1⟩ := rn_iff.mp hc
        obtain ⟨n2, h2⟩ := rn_iff.mp h
        refine up (max n1 n2) ?_
        rw [hx]
        show (match ex (max n1 n2) q2 0 (ent q2 as) [] M' with | some (v, M1) => ex (max n1 n2) q pc' ls' (v.toList ++ rest) M1 | none => none) = some r
        rw [ex_mono (Nat.le_max_left n1 n2) h1]
        exact ex_mono (Nat.le_max_right n1 n2) h2
