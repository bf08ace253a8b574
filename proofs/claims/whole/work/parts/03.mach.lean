section
/-! THE SMALL MACHINE: memory by numbers, one method body at a time; calls by an oracle -/
/-- memory: ints (fields, elements), references (likewise), tags with lengths, how many cells, how many slots -/
abbrev SM : Type := (Nat → Nat → Int32) × (Nat → Nat → Option Nat) × (Nat → Nat × Nat) × Nat × Nat
def mI (t : SM) : Nat → Nat → Int32 := t.1
def mR (t : SM) : Nat → Nat → Option Nat := t.2.1
def mT (t : SM) : Nat → Nat × Nat := t.2.2.1
def mN (t : SM) : Nat := t.2.2.2.1
def mZ (t : SM) : Nat := t.2.2.2.2
def setA (t : SM) (k : Nat) (f : Nat → Int32) : SM := (fun q => if q = k then f else t.1 q, t.2)
def setI (t : SM) (k j : Nat) (v : Int32) : SM := setA t k (upd (t.1 k) j v)
def setR (t : SM) (k j : Nat) (o : Option Nat) : SM := (t.1, (fun q => if q = k then va_up (t.2.1 q) j o else t.2.1 q), t.2.2)
/-- a new cell: tag g, length n, z slots -/
def mPush (t : SM) (g n z : Nat) : SM := ((fun q => if q = t.2.2.2.1 then (fun _ => 0) else t.1 q), (fun q => if q = t.2.2.2.1 then (fun _ => none) else t.2.1 q), (fun q => if q = t.2.2.2.1 then (g, n) else t.2.2.1 q), t.2.2.2.1 + 1, t.2.2.2.2 + z)
abbrev LV : Type := List (Nat × Value)
abbrev RR : Type := Option Value × SM
abbrev OR : Type := Option RR
/-- an index within -/
abbrev inB (i : Int32) (n : Nat) : Prop := ¬ (i < 0 ∨ n ≤ i.toNatClampNeg)
/-! tags: 0 .. 11 objects of vwCl; 20 int[], 21 boolean[]; 30 + c: arrays of class c; 999 none -/
section
variable {α : Type}
def hGetI (t : SM) (ci k j : Nat) (c : Int32 → Option α) : Option α := if (mT t k).1 = ci then c (mI t k j) else none
def hGetR (t : SM) (ci k j : Nat) (cn : Option α) (cs : Nat → Option α) : Option α := if (mT t k).1 = ci then (match mR t k j with | none => cn | some r => cs r) else none
def hGetC (t : SM) (ci k j r : Nat) (c : Option α) : Option α := if (mT t k).1 = ci ∧ mR t k j = some r then c else none
def hPutI (t : SM) (ci k j : Nat) (v : Int32) (c : SM → Option α) : Option α := if (mT t k).1 = ci then c (setI t k j v) else none
def hPutR (t : SM) (ci k j : Nat) (o : Option Nat) (c : SM → Option α) : Option α := if (mT t k).1 = ci then c (setR t k j o) else none
def hALd (t : SM) (a : Nat) (i : Int32) (c : Int32 → Option α) : Option α := if (mT t a).1 = 20 ∧ inB i (mT t a).2 then c (mI t a i.toNatClampNeg) else none
def hASt (t : SM) (a : Nat) (i v : Int32) (c : SM → Option α) : Option α := if (mT t a).1 = 20 ∧ inB i (mT t a).2 then c (setI t a i.toNatClampNeg v) else none
def hBLd (t : SM) (a : Nat) (i : Int32) (c : Int32 → Option α) : Option α := if (mT t a).1 = 21 ∧ inB i (mT t a).2 then c (mI t a i.toNatClampNeg) else none
def hBSt (t : SM) (a : Nat) (i v : Int32) (c : SM → Option α) : Option α := if (mT t a).1 = 21 ∧ inB i (mT t a).2 then (if v = 0 ∨ v = 1 then c (setI t a i.toNatClampNeg v) else none) else none
def hQLd (t : SM) (ci a : Nat) (i : Int32) (cn : Option α) (cs : Nat → Option α) : Option α := if (mT t a).1 = 30 + ci ∧ inB i (mT t a).2 then (match mR t a i.toNatClampNeg with | none => cn | some r => cs r) else none
def hQSt (t : SM) (ci a : Nat) (i : Int32) (r : Nat) (c : SM → Option α) : Option α := if (mT t a).1 = 30 + ci ∧ inB i (mT t a).2 ∧ (mT t r).1 = ci then c (setR t a i.toNatClampNeg (some r)) else none
def hALen (t : SM) (a : Nat) (c : Int32 → Option α) : Option α := if 20 ≤ (mT t a).1 ∧ (mT t a).1 < 50 then c (Int32.ofNat (mT t a).2) else none
def hNewA (t : SM) (g : Nat) (n : Int32) (c : Nat → SM → Option α) : Option α := if ¬ n < 0 ∧ n.toNatClampNeg ≤ 100000 then c (mN t) (mPush t g n.toNatClampNeg n.toNatClampNeg) else none
def hRecv (t : SM) (ci b : Nat) (c : Option α) : Option α := if (mT t b).1 = ci then c else none
def hNZ (y : Int32) (c : Option α) : Option α := if y = 0 then none else c
def hNZL (y : Int64) (c : Option α) : Option α := if y = 0 then none else c
def hZ (v : Int32) (c : Option α) : Option α := if v = 0 ∨ v = 1 then c else none
def hC16 (v : Int32) (c : Option α) : Option α := if 0 ≤ v ∧ v ≤ 65535 then c else none
def hCpy (t : SM) (a : Nat) (sp : Int32) (b : Nat) (dp n : Int32) (c : SM → Option α) : Option α :=
  if ((mT t a).1 = 20 ∧ (mT t b).1 = 20) ∧ (¬ sp < 0 ∧ ¬ dp < 0 ∧ ¬ n < 0) ∧ sp.toNatClampNeg + n.toNatClampNeg ≤ (mT t a).2 ∧ dp.toNatClampNeg + n.toNatClampNeg ≤ (mT t b).2
  then c (setA t b (va_cpy (mI t a) (mI t b) sp.toNatClampNeg dp.toNatClampNeg n.toNatClampNeg)) else none
def hClone (t : SM) (a : Nat) (c : Nat → SM → Option α) : Option α := if (mT t a).1 = 20 then c (mN t) (setA (mPush t 20 (mT t a).2 (mT t a).2) (mN t) (mI t a)) else none
end
def lkp (i : Nat) : LV → Option Value
  | [] => none
  | q :: r => if q.1 = i then some q.2 else lkp i r
def put1 (L : LV) (i : Nat) (v : Value) : LV := (i, v) :: L.filter (fun q => !(q.1 == i) && !(q.1 + 1 == i && q.2.category == 2))
def put2 (L : LV) (i : Nat) (v : Value) : LV := (i, v) :: L.filter (fun q => !(q.1 == i) && (!(q.1 == i + 1) && !(q.1 + 1 == i && q.2.category == 2)))
/-- loads, by kind: 0 int, 1 long, 2 reference -/
def okK (kd : Nat) (v : Value) : Bool := match v with
  | .int _ => kd == 0
  | .long _ => kd == 1
  | .ref _ => kd == 2
  | .null => kd == 2
  | .float _ => kd == 2
  | _ => false
def sLoad (kd i pc' : Nat) (L : LV) (st : List Value) : Option (Nat × LV × List Value) := match lkp i L with
  | some v => if okK kd v = true then some (pc', L, v :: st) else none
  | none => none
def sStore (kd nL i pc' : Nat) (L : LV) (st : List Value) : Option (Nat × LV × List Value) := match st with
  | v :: r => if okK kd v = true then (if kd = 1 then (if i + 1 < nL then some (pc', put2 L i v, r) else none) else (if i < nL then some (pc', put1 L i v, r) else none)) else none
  | [] => none
def sI2 (f : Int32 → Int32 → Int32) (pc : Nat) (L : LV) (st : List Value) : Option (Nat × LV × List Value) := match st with
  | .int y :: .int x :: r => some (pc + 1, L, .int (f x y) :: r)
  | _ => none
def sL2 (f : Int64 → Int64 → Int64) (pc : Nat) (L : LV) (st : List Value) : Option (Nat × LV × List Value) := match st with
  | .long y :: .long x :: r => some (pc + 1, L, .long (f x y) :: r)
  | _ => none
def sLS (f : Int64 → Int32 → Int64) (pc : Nat) (L : LV) (st : List Value) : Option (Nat × LV × List Value) := match st with
  | .int y :: .long x :: r => some (pc + 1, L, .long (f x y) :: r)
  | _ => none
def sI1 (f : Int32 → Value) (pc : Nat) (L : LV) (st : List Value) : Option (Nat × LV × List Value) := match st with
  | .int x :: r => some (pc + 1, L, f x :: r)
  | _ => none
def sL1 (f : Int64 → Value) (pc : Nat) (L : LV) (st : List Value) : Option (Nat × LV × List Value) := match st with
  | .long x :: r => some (pc + 1, L, f x :: r)
  | _ => none
def isLng (v : Value) : Bool := match v with
  | .long _ => true
  | .double _ => true
  | _ => false
def sDup (pc : Nat) (L : LV) (st : List Value) : Option (Nat × LV × List Value) := match st with
  | v :: r => if isLng v = false then some (pc + 1, L, v :: v :: r) else none
  | [] => none
def sPop (pc : Nat) (L : LV) (st : List Value) : Option (Nat × LV × List Value) := match st with
  | v :: r => if isLng v = false then some (pc + 1, L, r) else none
  | [] => none
def sDup2 (pc : Nat) (L : LV) (st : List Value) : Option (Nat × LV × List Value) := match st with
  | v :: w :: r => if isLng v = false ∧ isLng w = false then some (pc + 1, L, v :: w :: v :: w :: r) else none
  | _ => none
def sInc (nL i : Nat) (n : Int) (pc : Nat) (L : LV) (st : List Value) : Option (Nat × LV × List Value) := match lkp i L with
  | some (.int x) => if i < nL then some (pc + 3, put1 L i (.int (x + Int32.ofInt n)), st) else none
  | _ => none
def aux0 (aux : List Nat) : Nat := aux.headD 0
def aux1 (aux : List Nat) : Nat := (aux.drop 1).headD 0
def aux2 (aux : List Nat) : Nat := (aux.drop 2).headD 0
def aux3 (aux : List Nat) : Nat := (aux.drop 3).headD 0
/-- instructions that touch neither memory nor a condition -/
def sem1 (nL : Nat) (ins : Instr) (aux : List Nat) (pc : Nat) (L : LV) (st : List Value) : Option (Nat × LV × List Value) := match ins with
  | .iconst n => some (pc + 1, L, .int (Int32.ofInt n) :: st)
  | .bipush n => some (pc + 2, L, .int (Int8.ofInt n).toInt32 :: st)
  | .sipush n => some (pc + 3, L, .int (Int16.ofInt n).toInt32 :: st)
  | .lconst n => some (pc + 1, L, .long (Int64.ofNat (n : Nat)) :: st)
  | .iload_n k => sLoad 0 k (pc + 1) L st
  | .iload i => sLoad 0 i (pc + 2) L st
  | .lload_n k => sLoad 1 k (pc + 1) L st
  | .lload i => sLoad 1 i (pc + 2) L st
  | .aload_n k => sLoad 2 k (pc + 1) L st
  | .aload i => sLoad 2 i (pc + 2) L st
  | .istore_n k => sStore 0 nL k (pc + 1) L st
  | .istore i => sStore 0 nL i (pc + 2) L st
  | .lstore_n k => sStore 1 nL k (pc + 1) L st
  | .lstore i => sStore 1 nL i (pc + 2) L st
  | .astore_n k => sStore 2 nL k (pc + 1) L st
  | .astore i => sStore 2 nL i (pc + 2) L st
  | .iinc i n => sInc nL i n pc L st
  | .iadd => sI2 (fun x y => x + y) pc L st
  | .isub => sI2 (fun x y => x - y) pc L st
  | .imul => sI2 (fun x y => x * y) pc L st
  | .iand => sI2 (fun x y => x &&& y) pc L st
  | .ior => sI2 (fun x y => x ||| y) pc L st
  | .ixor => sI2 (fun x y => x ^^^ y) pc L st
  | .ishl => sI2 (fun x y => x <<< (y &&& 31)) pc L st
  | .ishr => sI2 (fun x y => x >>> (y &&& 31)) pc L st
  | .iushr => sI2 (fun x y => (x.toUInt32 >>> (y.toUInt32 &&& Int32.toUInt32 31)).toInt32) pc L st
  | .ineg => sI1 (fun x => .int (-x)) pc L st
  | .ladd => sL2 (fun x y => x + y) pc L st
  | .lmul => sL2 (fun x y => x * y) pc L st
  | .land => sL2 (fun x y => x &&& y) pc L st
  | .lor => sL2 (fun x y => x ||| y) pc L st
  | .lshl => sLS (fun x y => x <<< (y.toInt64 &&& 63)) pc L st
  | .lshr => sLS (fun x y => x >>> (y.toInt64 &&& 63)) pc L st
  | .i2l => sI1 (fun x => .long x.toInt64) pc L st
  | .l2i => sL1 (fun x => .int x.toInt32) pc L st
  | .i2b => sI1 (fun x => .int x.toInt8.toInt32) pc L st
  | .i2s => sI1 (fun x => .int x.toInt16.toInt32) pc L st
  | .i2c => sI1 (fun x => .int (x.toUInt32 % 65536).toInt32) pc L st
  | .dup => sDup pc L st
  | .dup2 => sDup2 pc L st
  | .pop => sPop pc L st
  | .goto _ => some (aux0 aux, L, st)
  | .aconst_null => some (pc + 1, L, .null :: st)
  | _ => none
def sIf {α : Type} (c : Jvm.ClassFile.Cond) (x y : Int32) (t f : α) : α := match c with
  | .eq => if x = y then t else f
  | .ne => if x = y then f else t
  | .lt => if x < y then t else f
  | .ge => if y ≤ x then t else f
  | .gt => if y < x then t else f
  | .le => if x ≤ y then t else f
def sSw {α : Type} (x : Int32) (d : α) (go : Nat → α) : List (Int × Nat) → α
  | [] => d
  | q :: r => if x = Int32.ofInt q.1 then go q.2 else sSw x d go r
def catS (st : List Value) : Nat := (st.map fun v => v.category).sum
abbrev Cal : Type := Nat → List Value → SM → (Option Value → SM → OR) → OR
abbrev Go : Type := Nat → LV → List Value → SM → OR
/-- calls: aux is number of the method, how many arguments, tag of the receiver's class (static: 99) -/
def sCall (cal : Cal) (go : Go) (aux : List Nat) (pc : Nat) (L : LV) (st : List Value) (t : SM) : OR :=
  if aux2 aux = 99 then
    (if (st.take (aux1 aux)).length = aux1 aux ∧ catS (st.drop (aux1 aux)) ≤ 8 then cal (aux0 aux) (st.take (aux1 aux)).reverse t (fun v u => go (pc + 3) L (v.toList ++ st.drop (aux1 aux)) u) else none)
  else match st.drop (aux1 aux) with
    | .ref b :: r => if (st.take (aux1 aux)).length = aux1 aux ∧ catS r ≤ 8 then hRecv t (aux2 aux) b (cal (aux0 aux) (.ref b :: (st.take (aux1 aux)).reverse) t (fun v u => go (pc + 3) L (v.toList ++ r) u)) else none
    | .float b :: r => if (st.take (aux1 aux)).length = aux1 aux ∧ catS r ≤ 8 ∧ b.toNat < 50 then cal (aux0 aux) (.float b :: (st.take (aux1 aux)).reverse) t (fun v u => go (pc + 3) L (v.toList ++ r) u) else none
    | _ => none
/-- getfield: aux is tag, place, kind (0 an int, 1 a reference, 2 + r the reference r); of a text: 40, what -/
def sGet (go : Go) (aux : List Nat) (pc : Nat) (L : LV) (st : List Value) (t : SM) : OR := match st with
  | .ref k :: r =>
    (match aux2 aux with
    | 0 => hGetI t (aux0 aux) k (aux1 aux) (fun x => go (pc + 3) L (.int x :: r) t)
    | 1 => hGetR t (aux0 aux) k (aux1 aux) (go (pc + 3) L (.null :: r) t) (fun q => go (pc + 3) L (.ref q :: r) t)
    | q + 2 => hGetC t (aux0 aux) k (aux1 aux) q (go (pc + 3) L (.ref q :: r) t))
  | .float k :: r => if aux0 aux = 40 ∧ k.toNat < 50 then (match aux1 aux with
    | 0 => go (pc + 3) L (.int 0 :: r) t
    | _ => go (pc + 3) L (.float (k + 50) :: r) t) else none
  | _ => none
/-- putfield: aux is tag, place, kind (0 an int, 1 a boolean, 2 a reference) -/
def sPut (go : Go) (aux : List Nat) (pc : Nat) (L : LV) (st : List Value) (t : SM) : OR := match st with
  | .int v :: .ref k :: r => (match aux2 aux with
    | 0 => hPutI t (aux0 aux) k (aux1 aux) v (fun u => go (pc + 3) L r u)
    | 1 => hZ v (hPutI t (aux0 aux) k (aux1 aux) v (fun u => go (pc + 3) L r u))
    | _ => none)
  | .ref q :: .ref k :: r => (match aux2 aux with
    | 2 => hPutR t (aux0 aux) k (aux1 aux) (some q) (fun u => go (pc + 3) L r u)
    | _ => none)
  | _ => none
/-- the script: its length, its ints -/
abbrev Scr : Type := Option (Nat × (Nat → Int32))
/-- the texts' bytes -/
abbrev Byt : Type := List (List Int32)
def sLd (scr : Scr) (go : Go) (pc : Nat) (L : LV) (st : List Value) (t : SM) : OR := match st with
  | .int i :: .ref a :: r => hALd t a i (fun x => go (pc + 1) L (.int x :: r) t)
  | .int i :: .float k :: r => if k.toNat = 200 then (match scr with
    | some q => if inB i q.1 then go (pc + 1) L (.int (q.2 i.toNatClampNeg) :: r) t else none
    | none => none) else none
  | _ => none
def sSt (go : Go) (pc : Nat) (L : LV) (st : List Value) (t : SM) : OR := match st with
  | .int v :: .int i :: .ref a :: r => hASt t a i v (fun u => go (pc + 1) L r u)
  | _ => none
def sBLd (byt : Byt) (go : Go) (pc : Nat) (L : LV) (st : List Value) (t : SM) : OR := match st with
  | .int i :: .ref a :: r => hBLd t a i (fun x => go (pc + 1) L (.int x :: r) t)
  | .int i :: .float k :: r => if 50 ≤ k.toNat ∧ k.toNat < 50 + byt.length ∧ inB i (byt.getD (k.toNat - 50) []).length then go (pc + 1) L (.int ((byt.getD (k.toNat - 50) []).getD i.toNatClampNeg 0) :: r) t else none
  | _ => none
def sBSt (go : Go) (pc : Nat) (L : LV) (st : List Value) (t : SM) : OR := match st with
  | .int v :: .int i :: .ref a :: r => hBSt t a i v (fun u => go (pc + 1) L r u)
  | _ => none
def sQLd (go : Go) (aux : List Nat) (pc : Nat) (L : LV) (st : List Value) (t : SM) : OR := match st with
  | .int i :: .ref a :: r => hQLd t (aux0 aux) a i (go (pc + 1) L (.null :: r) t) (fun q => go (pc + 1) L (.ref q :: r) t)
  | _ => none
def sQSt (go : Go) (aux : List Nat) (pc : Nat) (L : LV) (st : List Value) (t : SM) : OR := match st with
  | .ref q :: .int i :: .ref a :: r => hQSt t (aux0 aux) a i q (fun u => go (pc + 1) L r u)
  | _ => none
def sLen (scr : Scr) (byt : Byt) (go : Go) (pc : Nat) (L : LV) (st : List Value) (t : SM) : OR := match st with
  | .ref a :: r => hALen t a (fun x => go (pc + 1) L (.int x :: r) t)
  | .float k :: r => if k.toNat = 200 then (match scr with
      | some q => go (pc + 1) L (.int (Int32.ofNat q.1) :: r) t
      | none => none)
    else (if 50 ≤ k.toNat ∧ k.toNat < 50 + byt.length then go (pc + 1) L (.int (Int32.ofNat (byt.getD (k.toNat - 50) []).length) :: r) t else none)
  | _ => none
def sDiv (go : Go) (pc : Nat) (L : LV) (st : List Value) (t : SM) : OR := match st with
  | .int y :: .int x :: r => hNZ y (go (pc + 1) L (.int (x / y) :: r) t)
  | _ => none
def sRem (go : Go) (pc : Nat) (L : LV) (st : List Value) (t : SM) : OR := match st with
  | .int y :: .int x :: r => hNZ y (go (pc + 1) L (.int (x - x / y * y) :: r) t)
  | _ => none
def sLRem (go : Go) (pc : Nat) (L : LV) (st : List Value) (t : SM) : OR := match st with
  | .long y :: .long x :: r => hNZL y (go (pc + 1) L (.long (x - x / y * y) :: r) t)
  | _ => none
def sNull (go : Go) (a b : Nat) (L : LV) (st : List Value) (t : SM) : OR := match st with
  | .null :: r => go a L r t
  | .ref _ :: r => go b L r t
  | _ => none
/-- new arrays: the tag -/
def sNewA (go : Go) (g pc' : Nat) (L : LV) (st : List Value) (t : SM) : OR := match st with
  | .int n :: r => hNewA t g n (fun q u => go pc' L (.ref q :: r) u)
  | _ => none
/-- the answer: kind 0 nothing, 1 an int, 2 a boolean, 3 a char, 4 a byte, 5 a reference -/
def sRet (rk : Nat) (ref : Bool) (st : List Value) (t : SM) : OR := match st with
  | [.int v] => if ref = true then none else (match rk with
    | 1 => some (some (.int v), t)
    | 2 => hZ v (some (some (.int v), t))
    | 3 => hC16 v (some (some (.int v), t))
    | 4 => hZ v (some (some (.int v), t))
    | _ => none)
  | [.ref q] => if ref = true ∧ rk = 5 then some (some (.ref q), t) else none
  | [.null] => if ref = true ∧ rk = 5 then some (some .null, t) else none
  | [.float q] => if ref = true ∧ rk = 5 ∧ q.toNat < 50 then some (some (.float q), t) else none
  | _ => none
def sSpec (cal : Cal) (go : Go) (aux : List Nat) (pc : Nat) (L : LV) (st : List Value) (t : SM) : OR := match aux0 aux with
  | 1000 => (match st with
    | .ref _ :: r => if catS r ≤ 8 then go (pc + 3) L r t else none
    | _ => none)
  | 1001 => (match st with
    | .int n :: .int dp :: .ref b :: .int sp :: .ref a :: r => if catS r ≤ 8 then hCpy t a sp b dp n (fun u => go (pc + 3) L r u) else none
    | _ => none)
  | 1002 => (match st with
    | .ref a :: r => if catS r ≤ 8 then hClone t a (fun q u => go (pc + 3) L (.ref q :: r) u) else none
    | _ => none)
  | _ => sCall cal go aux pc L st t
def sem2 (rk : Nat) (scr : Scr) (byt : Byt) (clN : Nat → Nat) (cal : Cal) (go : Go) (ins : Instr) (aux : List Nat) (sw : List (Int × Nat)) (pc : Nat) (L : LV) (st : List Value) (t : SM) : OR := match ins with
  | .ifCond c _ => (match st with
    | .int x :: r => sIf c x 0 (go (aux0 aux) L r t) (go (pc + 3) L r t)
    | _ => none)
  | .if_icmp c _ => (match st with
    | .int y :: .int x :: r => sIf c x y (go (aux0 aux) L r t) (go (pc + 3) L r t)
    | _ => none)
  | .ifnull _ => sNull go (aux0 aux) (pc + 3) L st t
  | .ifnonnull _ => sNull go (pc + 3) (aux0 aux) L st t
  | .tableswitch _ _ _ _ => (match st with
    | .int x :: r => sSw x (go (aux0 aux) L r t) (fun q => go q L r t) sw
    | _ => none)
  | .lookupswitch _ _ => (match st with
    | .int x :: r => sSw x (go (aux0 aux) L r t) (fun q => go q L r t) sw
    | _ => none)
  | .idiv => sDiv go pc L st t
  | .irem => sRem go pc L st t
  | .lrem => sLRem go pc L st t
  | .getfield _ => sGet go aux pc L st t
  | .putfield _ => sPut go aux pc L st t
  | .iaload => sLd scr go pc L st t
  | .iastore => sSt go pc L st t
  | .baload => sBLd byt go pc L st t
  | .bastore => sBSt go pc L st t
  | .aaload => sQLd go aux pc L st t
  | .aastore => sQSt go aux pc L st t
  | .arraylength => sLen scr byt go pc L st t
  | .new _ => go (pc + 3) L (.ref (mN t) :: st) (mPush t (aux0 aux) 0 (clN (aux0 aux)))
  | .newarray _ => sNewA go (aux0 aux) (pc + 2) L st t
  | .anewarray _ => sNewA go (30 + aux0 aux) (pc + 3) L st t
  | .invokevirtual _ => sSpec cal go aux pc L st t
  | .invokespecial _ => sSpec cal go aux pc L st t
  | .invokestatic _ => sSpec cal go aux pc L st t
  | .ireturn => sRet rk false st t
  | .areturn => sRet rk true st t
  | .return_ => if rk = 0 ∧ st.isEmpty = true then some (none, t) else none
  | .ldc _ => (match aux0 aux with
    | 0 => go (pc + 2) L (.int (Int32.ofInt (sw.headD (0, 0)).1) :: st) t
    | _ => go (pc + 2) L (.float (UInt32.ofNat (aux1 aux)) :: st) t)
  | .ldc_w _ => go (pc + 3) L (.int (Int32.ofInt (sw.headD (0, 0)).1) :: st) t
  | .ldc2_w _ => go (pc + 3) L (.long (Int64.ofInt (sw.headD (0, 0)).1) :: st) t
  | .getstatic _ => (match aux0 aux with
    | 0 => go (pc + 3) L (.int 1 :: st) t
    | _ => go (pc + 3) L (.float 201 :: st) t)
  | .checkcast _ => (match st with
    | .ref a :: r => hALen t a (fun _ => if (mT t a).1 = 20 then go (pc + 3) L (.ref a :: r) t else none)
    | _ => none)
  | _ => none
/-- a row of a method's code: place, instruction, length, aux, cases -/
abbrev SI : Type := Nat × Instr × Nat × List Nat × List (Int × Nat)
def atP (pc : Nat) : List SI → Option SI
  | [] => none
  | q :: r => if q.1 = pc then some q else atP pc r
/-- a method's code, its number of locals, kind of answer -/
abbrev SCode : Type := List SI × Nat × Nat
def ex (clN : Nat → Nat) (P : SCode) (scr : Scr) (byt : Byt) (cal : Cal) (cut : List Nat) (kc : Go) : Nat → Go
  | 0, _, _, _, _ => none
  | f + 1, pc, L, st, t => match atP pc P.1 with
    | none => none
    | some q =>
      (match sem1 P.2.1 q.2.1 q.2.2.2.1 pc L st with
      | some n => if cut.contains n.1 = true then kc n.1 n.2.1 n.2.2 t else ex clN P scr byt cal cut kc f n.1 n.2.1 n.2.2 t
      | none => sem2 P.2.2 scr byt clN cal (fun pc' L' st' t' => if cut.contains pc' = true then kc pc' L' st' t' else ex clN P scr byt cal cut kc f pc' L' st' t') q.2.1 q.2.2.2.1 q.2.2.2.2 pc L st t)
end
