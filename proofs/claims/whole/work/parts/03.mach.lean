section
/-! THE SMALL MACHINE: memory by numbers, one method body at a time; calls by an oracle -/
/-- memory: ints (fields, elements), references (likewise), tags with lengths, how many cells, how many slots -/
abbrev SM : Type := (Nat → Nat → Int32) × (Nat → Nat → Option Nat) × (Nat → Nat × Nat) × Nat × Nat
def mI (t : SM) : Nat → Nat → Int32 := t.1
def mR (t : SM) : Nat → Nat → Option Nat := t.2.1
def mT (t : SM) : Nat → Nat × Nat := t.2.2.1
def mN (t : SM) : Nat := t.2.2.2.1
def mZ (t : SM) : Nat := t.2.2.2.2
def setA (t : SM) (k : Nat) (f : Nat → Int32) : SM := (fun q => if q = k then f else t.1 q, t.2)
def setI (t : SM) (k j : Nat) (v : Int32) : SM := setA t k (upd (t.1 k) j v)
def setR (t : SM) (k j : Nat) (o : Option Nat) : SM := (t.1, (fun q => if q = k then va_up (t.2.1 q) j o else t.2.1 q), t.2.2)
/-- a new cell: tag g, length n, z slots -/
def mPush (t : SM) (g n z : Nat) : SM := ((fun q => if q = t.2.2.2.1 then (fun _ => 0) else t.1 q), (fun q => if q = t.2.2.2.1 then (fun _ => none) else t.2.1 q), (fun q => if q = t.2.2.2.1 then (g, n) else t.2.2.1 q), t.2.2.2.1 + 1, t.2.2.2.2 + z)
abbrev LV : Type := List (Nat × Value)
abbrev RR : Type := Option Value × SM
abbrev OR : Type := Option RR
/-- an index within -/
abbrev inB (i : Int32) (n : Nat) : Prop := ¬ (i < 0 ∨ n ≤ i.toNatClampNeg)
/-! tags: 0 .. 11 objects of vwCl; 20 int[], 21 boolean[]; 30 + c: arrays of class c; 999 none -/
section
variable {α : Type}
def hGetI (t : SM) (ci k j : Nat) (c : Int32 → Option α) : Option α := if (mT t k).1 = ci then c (mI t k j) else none
def hGetR (t : SM) (ci k j : Nat) (cn : Option α) (cs : Nat → Option α) : Option α := if (mT t k).1 = ci then (match mR t k j with | none => cn | some r => cs r) else none
def hGetC (t : SM) (ci k j r : Nat) (c : Option α) : Option α := if (mT t k).1 = ci ∧ mR t k j = some r then c else none
def hPutI (t : SM) (ci k j : Nat) (v : Int32) (c : SM → Option α) : Option α := if (mT t k).1 = ci then c (setI t k j v) else none
def hPutR (t : SM) (ci k j : Nat) (o : Option Nat) (c : SM → Option α) : Option α := if (mT t k).1 = ci then c (setR t k j o) else none
def hALd (t : SM) (a : Nat) (i : Int32) (c : Int32 → Option α) : Option α := if (mT t a).1 = 20 ∧ inB i (mT t a).2 then c (mI t a i.toNatClampNeg) else none
def hASt (t : SM) (a : Nat) (i v : Int32) (c : SM → Option α) : Option α := if (mT t a).1 = 20 ∧ inB i (mT t a).2 then c (setI t a i.toNatClampNeg v) else none
def hBLd (t : SM) (a : Nat) (i : Int32) (c : Int32 → Option α) : Option α := if (mT t a).1 = 21 ∧ inB i (mT t a).2 then c (mI t a i.toNatClampNeg) else none
def hBSt (t : SM) (a : Nat) (i v : Int32) (c : SM → Option α) : Option α := if (mT t a).1 = 21 ∧ inB i (mT t a).2 then (if v = 0 ∨ v = 1 then c (setI t a i.toNatClampNeg v) else none) else none
def hQLd (t : SM) (ci a : Nat) (i : Int32) (cn : Option α) (cs : Nat → Option α) : Option α := if (mT t a).1 = 30 + ci ∧ inB i (mT t a).2 then (match mR t a i.toNatClampNeg with | none => cn | some r => cs r) else none
def hQSt (t : SM) (ci a : Nat) (i : Int32) (r : Nat) (c : SM → Option α) : Option α := if (mT t a).1 = 30 + ci ∧ inB i (mT t a).2 ∧ (mT t r).1 = ci then c (setR t a i.toNatClampNeg (some r)) else none
def hALen (t : SM) (a : Nat) (c : Int32 → Option α) : Option α := if 20 ≤ (mT t a).1 ∧ (mT t a).1 < 50 then c (Int32.ofNat (mT t a).2) else none
def hNewA (t : SM) (g : Nat) (n : Int32) (c : Nat → SM → Option α) : Option α := if ¬ n < 0 ∧ n.toNatClampNeg ≤ 100000 then c (mN t) (mPush t g n.toNatClampNeg n.toNatClampNeg) else none
def hRecv (t : SM) (ci b : Nat) (c : Option α) : Option α := if (mT t b).1 = ci then c else none
def hNZ (y : Int32) (c : Option α) : Option α := if y = 0 then none else c
def hNZL (y : Int64) (c : Option α) : Option α := if y = 0 then none else c
def hZ (v : Int32) (c : Option α) : Option α := if v = 0 ∨ v = 1 then c else none
def hC16 (v : Int32) (c : Option α) : Option α := if 0 ≤ v ∧ v ≤ 65535 then c else none
def hCpy (t : SM) (a : Nat) (sp : Int32) (b : Nat) (dp n : Int32) (c : SM → Option α) : Option α :=
  if ((mT t a).1 = 20 ∧ (mT t b).1 = 20) ∧ (¬ sp < 0 ∧ ¬ dp < 0 ∧ ¬ n < 0) ∧ sp.toNatClampNeg + n.toNatClampNeg ≤ (mT t a).2 ∧ dp.toNatClampNeg + n.toNatClampNeg ≤ (mT t b).2
  then c (setA t b (va_cpy (mI t a) (mI t b) sp.toNatClampNeg dp.toNatClampNeg n.toNatClampNeg)) else none
def hClone (t : SM) (a : Nat) (c : Nat → SM → Option α) : Option α := if (mT t a).1 = 20 then c (mN t) (setA (mPush t 20 (mT t a).2 (mT t a).2) (mN t) (mI t a)) else none
end
def lkp (i : Nat) : LV → Option Value
  | [] => none
  | q :: r => if q.1 = i then some q.2 else lkp i r
abbrev Go : Type := Nat → LV → List Value → SM → OR
/-- a list's rows that stay, laid out at once -/
def filtC (f : Nat × Value → Bool) (k : LV → OR) : LV → OR
  | [] => k []
  | q :: r => match f q with
    | true => filtC f (fun r' => k (q :: r')) r
    | false => filtC f k r
def keep1 (i : Nat) (q : Nat × Value) : Bool := !(q.1 == i) && !(q.1 + 1 == i && q.2.category == 2)
def keep2 (i : Nat) (q : Nat × Value) : Bool := !(q.1 == i) && (!(q.1 == i + 1) && !(q.1 + 1 == i && q.2.category == 2))
/-- loads, by kind: 0 int, 1 long, 2 reference -/
def okK (kd : Nat) (v : Value) : Bool := match v with
  | .int _ => kd == 0
  | .long _ => kd == 1
  | .ref _ => kd == 2
  | .null => kd == 2
  | .float _ => kd == 2
  | _ => false
def bG (b : Bool) (c : OR) : OR := match b with
  | true => c
  | false => none
def sLoad (go : Go) (kd i nx : Nat) (L : LV) (st : List Value) (t : SM) : OR := match lkp i L with
  | some v => bG (okK kd v) (go nx L (v :: st) t)
  | none => none
def sStore (go : Go) (kd nL i nx : Nat) (L : LV) (st : List Value) (t : SM) : OR := match st with
  | v :: r => bG (okK kd v && Nat.blt i nL) (filtC (keep1 i) (fun L' => go nx ((i, v) :: L') r t) L)
  | [] => none
def sStore2 (go : Go) (nL i nx : Nat) (L : LV) (st : List Value) (t : SM) : OR := match st with
  | v :: r => bG (okK 1 v && Nat.blt (i + 1) nL) (filtC (keep2 i) (fun L' => go nx ((i, v) :: L') r t) L)
  | [] => none
def sI2 (go : Go) (f : Int32 → Int32 → Int32) (nx : Nat) (L : LV) (st : List Value) (t : SM) : OR := match st with
  | .int y :: .int x :: r => go nx L (.int (f x y) :: r) t
  | _ => none
def sL2 (go : Go) (f : Int64 → Int64 → Int64) (nx : Nat) (L : LV) (st : List Value) (t : SM) : OR := match st with
  | .long y :: .long x :: r => go nx L (.long (f x y) :: r) t
  | _ => none
def sLS (go : Go) (f : Int64 → Int32 → Int64) (nx : Nat) (L : LV) (st : List Value) (t : SM) : OR := match st with
  | .int y :: .long x :: r => go nx L (.long (f x y) :: r) t
  | _ => none
def sI1 (go : Go) (f : Int32 → Value) (nx : Nat) (L : LV) (st : List Value) (t : SM) : OR := match st with
  | .int x :: r => go nx L (f x :: r) t
  | _ => none
def sL1 (go : Go) (f : Int64 → Value) (nx : Nat) (L : LV) (st : List Value) (t : SM) : OR := match st with
  | .long x :: r => go nx L (f x :: r) t
  | _ => none
def isLng (v : Value) : Bool := match v with
  | .long _ => true
  | .double _ => true
  | _ => false
def sDup (go : Go) (nx : Nat) (L : LV) (st : List Value) (t : SM) : OR := match st with
  | v :: r => bG (!isLng v) (go nx L (v :: v :: r) t)
  | [] => none
def sPop (go : Go) (nx : Nat) (L : LV) (st : List Value) (t : SM) : OR := match st with
  | v :: r => bG (!isLng v) (go nx L r t)
  | [] => none
def sDup2 (go : Go) (nx : Nat) (L : LV) (st : List Value) (t : SM) : OR := match st with
  | v :: w :: r => bG (!isLng v && !isLng w) (go nx L (v :: w :: v :: w :: r) t)
  | _ => none
def sInc (go : Go) (nL i : Nat) (n : Int) (nx : Nat) (L : LV) (st : List Value) (t : SM) : OR := match lkp i L with
  | some (.int x) => bG (Nat.blt i nL) (filtC (keep1 i) (fun L' => go nx ((i, .int (x + Int32.ofInt n)) :: L') st t) L)
  | _ => none
def aux0 (aux : List Nat) : Nat := aux.headD 0
def aux1 (aux : List Nat) : Nat := (aux.drop 1).headD 0
def aux2 (aux : List Nat) : Nat := (aux.drop 2).headD 0
def aux3 (aux : List Nat) : Nat := (aux.drop 3).headD 0
/-- instructions that touch neither memory nor a condition; the rest is for 'rest' -/
def sem1 (nL : Nat) (go : Go) (ins : Instr) (nx : Nat) (aux : List Nat) (L : LV) (st : List Value) (t : SM) (rest : OR) : OR := match ins with
  | .iconst n => go nx L (.int (Int32.ofInt n) :: st) t
  | .bipush n => go nx L (.int (Int8.ofInt n).toInt32 :: st) t
  | .sipush n => go nx L (.int (Int16.ofInt n).toInt32 :: st) t
  | .lconst n => go nx L (.long (Int64.ofNat (n : Nat)) :: st) t
  | .iload_n k => sLoad go 0 k nx L st t
  | .iload i => sLoad go 0 i nx L st t
  | .lload_n k => sLoad go 1 k nx L st t
  | .lload i => sLoad go 1 i nx L st t
  | .aload_n k => sLoad go 2 k nx L st t
  | .aload i => sLoad go 2 i nx L st t
  | .istore_n k => sStore go 0 nL k nx L st t
  | .istore i => sStore go 0 nL i nx L st t
  | .lstore_n k => sStore2 go nL k nx L st t
  | .lstore i => sStore2 go nL i nx L st t
  | .astore_n k => sStore go 2 nL k nx L st t
  | .astore i => sStore go 2 nL i nx L st t
  | .iinc i n => sInc go nL i n nx L st t
  | .iadd => sI2 go (fun x y => x + y) nx L st t
  | .isub => sI2 go (fun x y => x - y) nx L st t
  | .imul => sI2 go (fun x y => x * y) nx L st t
  | .iand => sI2 go (fun x y => x &&& y) nx L st t
  | .ior => sI2 go (fun x y => x ||| y) nx L st t
  | .ixor => sI2 go (fun x y => x ^^^ y) nx L st t
  | .ishl => sI2 go (fun x y => x <<< (y &&& 31)) nx L st t
  | .ishr => sI2 go (fun x y => x >>> (y &&& 31)) nx L st t
  | .iushr => sI2 go (fun x y => (x.toUInt32 >>> (y.toUInt32 &&& Int32.toUInt32 31)).toInt32) nx L st t
  | .ineg => sI1 go (fun x => .int (-x)) nx L st t
  | .ladd => sL2 go (fun x y => x + y) nx L st t
  | .lmul => sL2 go (fun x y => x * y) nx L st t
  | .land => sL2 go (fun x y => x &&& y) nx L st t
  | .lor => sL2 go (fun x y => x ||| y) nx L st t
  | .lshl => sLS go (fun x y => x <<< (y.toInt64 &&& 63)) nx L st t
  | .lshr => sLS go (fun x y => x >>> (y.toInt64 &&& 63)) nx L st t
  | .i2l => sI1 go (fun x => .long x.toInt64) nx L st t
  | .l2i => sL1 go (fun x => .int x.toInt32) nx L st t
  | .i2b => sI1 go (fun x => .int x.toInt8.toInt32) nx L st t
  | .i2s => sI1 go (fun x => .int x.toInt16.toInt32) nx L st t
  | .i2c => sI1 go (fun x => .int (x.toUInt32 % 65536).toInt32) nx L st t
  | .dup => sDup go nx L st t
  | .dup2 => sDup2 go nx L st t
  | .pop => sPop go nx L st t
  | .goto _ => go (aux0 aux) L st t
  | .aconst_null => go nx L (.null :: st) t
  | _ => rest
def sIf {α : Type} (c : Jvm.ClassFile.Cond) (x y : Int32) (t f : α) : α := match c with
  | .eq => if x = y then t else f
  | .ne => if x = y then f else t
  | .lt => if x < y then t else f
  | .ge => if y ≤ x then t else f
  | .gt => if y < x then t else f
  | .le => if x ≤ y then t else f
def sSw {α : Type} (x : Int32) (d : α) (go : Nat → α) : List (Int × Nat) → α
  | [] => d
  | q :: r => if x = Int32.ofInt q.1 then go q.2 else sSw x d go r
def catS (st : List Value) : Nat := (st.map fun v => v.category).sum
abbrev Cal : Type := Nat → List Value → SM → (Option Value → SM → OR) → OR
/-- calls: aux is number of the method, how many arguments, tag of the receiver's class (static: 99) -/
def sCall (cal : Cal) (go : Go) (aux : List Nat) (nx : Nat) (L : LV) (st : List Value) (t : SM) : OR :=
  if aux2 aux = 99 then
    (if (st.take (aux1 aux)).length = aux1 aux ∧ catS (st.drop (aux1 aux)) ≤ 8 then cal (aux0 aux) (st.take (aux1 aux)).reverse t (fun v u => go nx L (v.toList ++ st.drop (aux1 aux)) u) else none)
  else match st.drop (aux1 aux) with
    | .ref b :: r => if (st.take (aux1 aux)).length = aux1 aux ∧ catS r ≤ 8 then hRecv t (aux2 aux) b (cal (aux0 aux) (.ref b :: (st.take (aux1 aux)).reverse) t (fun v u => go nx L (v.toList ++ r) u)) else none
    | .float b :: r => if aux2 aux = 60 then (if (st.take (aux1 aux)).length = aux1 aux ∧ catS r ≤ 8 ∧ b.toNat < 14 then cal (aux0 aux) (.float b :: (st.take (aux1 aux)).reverse) t (fun v u => go nx L (v.toList ++ r) u) else none) else none
    | _ => none
/-- getfield: aux is tag, place, kind (0 an int, 1 a reference, 2 + r the reference r); of a text: 60, what -/
def sGet (go : Go) (aux : List Nat) (nx : Nat) (L : LV) (st : List Value) (t : SM) : OR := match st with
  | .ref k :: r =>
    (match aux2 aux with
    | 0 => hGetI t (aux0 aux) k (aux1 aux) (fun x => go nx L (.int x :: r) t)
    | 1 => hGetR t (aux0 aux) k (aux1 aux) (go nx L (.null :: r) t) (fun q => go nx L (.ref q :: r) t)
    | q + 2 => hGetC t (aux0 aux) k (aux1 aux) q (go nx L (.ref q :: r) t))
  | .float k :: r => if aux0 aux = 60 ∧ k.toNat < 14 then (match aux1 aux with
    | 0 => go nx L (.int 0 :: r) t
    | _ => go nx L (.float (k + 50) :: r) t) else none
  | _ => none
/-- putfield: aux is tag, place, kind (0 an int, 1 a boolean, 2 a reference) -/
def sPut (go : Go) (aux : List Nat) (nx : Nat) (L : LV) (st : List Value) (t : SM) : OR := match st with
  | .int v :: .ref k :: r => (match aux2 aux with
    | 0 => hPutI t (aux0 aux) k (aux1 aux) v (fun u => go nx L r u)
    | 1 => hZ v (hPutI t (aux0 aux) k (aux1 aux) v (fun u => go nx L r u))
    | _ => none)
  | .ref q :: .ref k :: r => (match aux2 aux with
    | 2 => hPutR t (aux0 aux) k (aux1 aux) (some q) (fun u => go nx L r u)
    | _ => none)
  | _ => none
/-- the script: its length, its ints -/
abbrev Scr : Type := Option (Nat × (Nat → Int32))
/-- the texts' bytes -/
abbrev Byt : Type := List (List Int32)
def sLd (scr : Scr) (go : Go) (nx : Nat) (L : LV) (st : List Value) (t : SM) : OR := match st with
  | .int i :: .ref a :: r => hALd t a i (fun x => go nx L (.int x :: r) t)
  | .int i :: .float k :: r => if k.toNat = 200 then (match scr with
    | some q => if inB i q.1 then go nx L (.int (q.2 i.toNatClampNeg) :: r) t else none
    | none => none) else none
  | _ => none
def sSt (go : Go) (nx : Nat) (L : LV) (st : List Value) (t : SM) : OR := match st with
  | .int v :: .int i :: .ref a :: r => hASt t a i v (fun u => go nx L r u)
  | _ => none
def sBLd (byt : Byt) (go : Go) (nx : Nat) (L : LV) (st : List Value) (t : SM) : OR := match st with
  | .int i :: .ref a :: r => hBLd t a i (fun x => go nx L (.int x :: r) t)
  | .int i :: .float k :: r => if 50 ≤ k.toNat ∧ k.toNat < 50 + byt.length ∧ inB i (byt.getD (k.toNat - 50) []).length then go nx L (.int ((byt.getD (k.toNat - 50) []).getD i.toNatClampNeg 0) :: r) t else none
  | _ => none
def sBSt (go : Go) (nx : Nat) (L : LV) (st : List Value) (t : SM) : OR := match st with
  | .int v :: .int i :: .ref a :: r => hBSt t a i v (fun u => go nx L r u)
  | _ => none
def sQLd (go : Go) (aux : List Nat) (nx : Nat) (L : LV) (st : List Value) (t : SM) : OR := match st with
  | .int i :: .ref a :: r => hQLd t (aux0 aux) a i (go nx L (.null :: r) t) (fun q => go nx L (.ref q :: r) t)
  | _ => none
def sQSt (go : Go) (aux : List Nat) (nx : Nat) (L : LV) (st : List Value) (t : SM) : OR := match st with
  | .ref q :: .int i :: .ref a :: r => hQSt t (aux0 aux) a i q (fun u => go nx L r u)
  | _ => none
def sLen (scr : Scr) (byt : Byt) (go : Go) (nx : Nat) (L : LV) (st : List Value) (t : SM) : OR := match st with
  | .ref a :: r => hALen t a (fun x => go nx L (.int x :: r) t)
  | .float k :: r => if k.toNat = 200 then (match scr with
      | some q => go nx L (.int (Int32.ofNat q.1) :: r) t
      | none => none)
    else (if 50 ≤ k.toNat ∧ k.toNat < 50 + byt.length then go nx L (.int (Int32.ofNat (byt.getD (k.toNat - 50) []).length) :: r) t else none)
  | _ => none
def sDiv (go : Go) (nx : Nat) (L : LV) (st : List Value) (t : SM) : OR := match st with
  | .int y :: .int x :: r => hNZ y (go nx L (.int (x / y) :: r) t)
  | _ => none
def sRem (go : Go) (nx : Nat) (L : LV) (st : List Value) (t : SM) : OR := match st with
  | .int y :: .int x :: r => hNZ y (go nx L (.int (x - x / y * y) :: r) t)
  | _ => none
def sLRem (go : Go) (nx : Nat) (L : LV) (st : List Value) (t : SM) : OR := match st with
  | .long y :: .long x :: r => hNZL y (go nx L (.long (x - x / y * y) :: r) t)
  | _ => none
def sNull (go : Go) (a b : Nat) (L : LV) (st : List Value) (t : SM) : OR := match st with
  | .null :: r => go a L r t
  | .ref _ :: r => go b L r t
  | _ => none
/-- new arrays: the tag -/
def sNewA (go : Go) (g nx : Nat) (L : LV) (st : List Value) (t : SM) : OR := match st with
  | .int n :: r => hNewA t g n (fun q u => go nx L (.ref q :: r) u)
  | _ => none
/-- the answer: kind 0 nothing, 1 an int, 2 a boolean, 3 a char, 4 a byte, 5 a reference -/
def sRet (rk : Nat) (ref : Bool) (st : List Value) (t : SM) : OR := match st with
  | [.int v] => if ref = true then none else (match rk with
    | 1 => some (some (.int v), t)
    | 2 => hZ v (some (some (.int v), t))
    | 3 => hC16 v (some (some (.int v), t))
    | 4 => hZ v (some (some (.int v), t))
    | _ => none)
  | [.ref q] => if ref = true ∧ rk = 5 then some (some (.ref q), t) else none
  | [.null] => if ref = true ∧ rk = 5 then some (some .null, t) else none
  | [.float q] => if ref = true ∧ rk = 5 ∧ q.toNat < 50 then some (some (.float q), t) else none
  | _ => none
def sSpec (cal : Cal) (go : Go) (aux : List Nat) (nx : Nat) (L : LV) (st : List Value) (t : SM) : OR := match aux0 aux with
  | 1000 => (match st with
    | .ref _ :: r => if catS r ≤ 8 then go nx L r t else none
    | _ => none)
  | 1001 => (match st with
    | .int n :: .int dp :: .ref b :: .int sp :: .ref a :: r => if catS r ≤ 8 then hCpy t a sp b dp n (fun u => go nx L r u) else none
    | _ => none)
  | 1002 => (match st with
    | .ref a :: r => if catS r ≤ 8 then hClone t a (fun q u => go nx L (.ref q :: r) u) else none
    | _ => none)
  | _ => sCall cal go aux nx L st t
def sem2 (rk : Nat) (scr : Scr) (byt : Byt) (clN : Nat → Nat) (cal : Cal) (go : Go) (ins : Instr) (nx : Nat) (aux : List Nat) (sw : List (Int × Nat)) (L : LV) (st : List Value) (t : SM) : OR := match ins with
  | .ifCond c _ => (match st with
    | .int x :: r => sIf c x 0 (go (aux0 aux) L r t) (go nx L r t)
    | _ => none)
  | .if_icmp c _ => (match st with
    | .int y :: .int x :: r => sIf c x y (go (aux0 aux) L r t) (go nx L r t)
    | _ => none)
  | .ifnull _ => sNull go (aux0 aux) nx L st t
  | .ifnonnull _ => sNull go nx (aux0 aux) L st t
  | .tableswitch _ _ _ _ => (match st with
    | .int x :: r => sSw x (go (aux0 aux) L r t) (fun q => go q L r t) sw
    | _ => none)
  | .lookupswitch _ _ => (match st with
    | .int x :: r => sSw x (go (aux0 aux) L r t) (fun q => go q L r t) sw
    | _ => none)
  | .idiv => sDiv go nx L st t
  | .irem => sRem go nx L st t
  | .lrem => sLRem go nx L st t
  | .getfield _ => sGet go aux nx L st t
  | .putfield _ => sPut go aux nx L st t
  | .iaload => sLd scr go nx L st t
  | .iastore => sSt go nx L st t
  | .baload => sBLd byt go nx L st t
  | .bastore => sBSt go nx L st t
  | .aaload => sQLd go aux nx L st t
  | .aastore => sQSt go aux nx L st t
  | .arraylength => sLen scr byt go nx L st t
  | .new _ => go nx L (.ref (mN t) :: st) (mPush t (aux0 aux) 0 (clN (aux0 aux)))
  | .newarray _ => sNewA go (aux0 aux) nx L st t
  | .anewarray _ => sNewA go (30 + aux0 aux) nx L st t
  | .invokevirtual _ => sSpec cal go aux nx L st t
  | .invokespecial _ => sSpec cal go aux nx L st t
  | .invokestatic _ => sSpec cal go aux nx L st t
  | .ireturn => sRet rk false st t
  | .areturn => sRet rk true st t
  | .return_ => if rk = 0 ∧ st.isEmpty = true then some (none, t) else none
  | .ldc _ => (match aux0 aux with
    | 0 => go nx L (.int (Int32.ofInt (sw.headD (0, 0)).1) :: st) t
    | _ => go nx L (.float (UInt32.ofNat (aux1 aux)) :: st) t)
  | .ldc_w _ => go nx L (.int (Int32.ofInt (sw.headD (0, 0)).1) :: st) t
  | .ldc2_w _ => go nx L (.long (Int64.ofInt (sw.headD (0, 0)).1) :: st) t
  | .getstatic _ => (match aux0 aux with
    | 0 => go nx L (.int 1 :: st) t
    | _ => go nx L (.float 201 :: st) t)
  | .checkcast _ => (match st with
    | .ref a :: r => hALen t a (fun _ => if (mT t a).1 = 20 then go nx L (.ref a :: r) t else none)
    | _ => none)
  | _ => none
/-- a row of a method's code: place, instruction, next place, aux, cases -/
abbrev SI : Type := Nat × Instr × Nat × List Nat × List (Int × Nat)
def atP (pc : Nat) : List SI → Option SI
  | [] => none
  | q :: r => match Nat.beq q.1 pc with
    | true => some q
    | false => atP pc r
/-- a method's code, its number of locals, kind of answer -/
abbrev SCode : Type := List SI × Nat × Nat
def inN (x : Nat) : List Nat → Bool
  | [] => false
  | a :: r => match Nat.beq a x with
    | true => true
    | false => inN x r
def ex (clN : Nat → Nat) (P : SCode) (scr : Scr) (byt : Byt) (cal : Cal) (cut : List Nat) (kc : Go) : Nat → Go
  | 0, _, _, _, _ => none
  | f + 1, pc, L, st, t => match atP pc P.1 with
    | none => none
    | some q => sem1 P.2.1 (fun pc' L' st' t' => match inN pc' cut with
        | true => kc pc' L' st' t'
        | false => ex clN P scr byt cal cut kc f pc' L' st' t') q.2.1 q.2.2.1 q.2.2.2.1 L st t
      (sem2 P.2.2 scr byt clN cal (fun pc' L' st' t' => match inN pc' cut with
        | true => kc pc' L' st' t'
        | false => ex clN P scr byt cal cut kc f pc' L' st' t') q.2.1 q.2.2.1 q.2.2.2.1 q.2.2.2.2 L st t)
end
