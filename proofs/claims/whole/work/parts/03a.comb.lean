section
/-! answers, calls, cuts -/
def rI (v : Int32) (t : SM) : OR := some (some (.int v), t)
def rV (t : SM) : OR := some (none, t)
def rQ (o : Option Nat) (t : SM) : OR := some (some (va_rf o), t)
def rN (t : SM) : OR := some (some .null, t)
def rR (q : Nat) (t : SM) : OR := some (some (.ref q), t)
def rT (q : UInt32) (t : SM) : OR := some (some (.float q), t)
def bI (m : OR) (k : Int32 → SM → OR) : OR := match m with
  | some (some (.int v), t) => k v t
  | _ => none
def bV (m : OR) (k : SM → OR) : OR := match m with
  | some (none, t) => k t
  | _ => none
def bQ (m : OR) (kn : SM → OR) (ks : Nat → SM → OR) : OR := match m with
  | some (some .null, t) => kn t
  | some (some (.ref q), t) => ks q t
  | _ => none
def bT (m : OR) (k : UInt32 → SM → OR) : OR := match m with
  | some (some (.float q), t) => k q t
  | _ => none
/-- methods by number: what each answers -/
abbrev FT : Type := List (Nat × (List Value → SM → OR))
def atF (mi : Nat) (as : List Value) (t : SM) : FT → OR
  | [] => none
  | q :: r => match Nat.beq q.1 mi with
    | true => q.2 as t
    | false => atF mi as t r
def bytJ : Byt := [[109, 97, 121, 32, 49, 32, 59, 32, 104, 97, 114, 109, 32, 102, 97, 114, 32, 59, 32, 112, 114, 105, 99, 101, 32, 51, 32, 43, 32, 119, 111, 114, 108, 100, 115, 32, 59], [109, 97, 121], [104, 97, 114, 109], [112, 114, 105, 99, 101], [111, 114], [97, 110, 100], [110, 111, 116], [97], [98], [99], [100], [102, 97, 114], [119, 111, 114, 108, 100, 115], [40, 41, 59, 43, 45, 42, 60, 61]]
/-! words of the decompiled functions -/
def hNew (t : SM) (ci z : Nat) (c : Nat → SM → OR) : OR := c (mN t) (mPush t ci 0 z)
def hTx (k : UInt32) (c : OR) : OR := if (60 : Nat) = 60 ∧ k.toNat < 14 then c else none
def hTc (n cat : Nat) (k : UInt32) (c : OR) : OR := if n = n ∧ cat ≤ 8 ∧ k.toNat < 14 then c else none
def hTLd (k : UInt32) (i : Int32) (c : Int32 → OR) : OR := if 50 ≤ k.toNat ∧ k.toNat < 50 + bytJ.length ∧ inB i (bytJ.getD (k.toNat - 50) []).length then c ((bytJ.getD (k.toNat - 50) []).getD i.toNatClampNeg 0) else none
def hTLen (k : UInt32) (c : Int32 → OR) : OR := if k.toNat = 200 then none else (if 50 ≤ k.toNat ∧ k.toNat < 50 + bytJ.length then c (Int32.ofNat (bytJ.getD (k.toNat - 50) []).length) else none)
def hScr (xn : Nat) (xs : Nat → Int32) (i : Int32) (c : Int32 → OR) : OR := if inB i xn then c (xs i.toNatClampNeg) else none
end
