section
/-! words of the decompiled functions -/
def hNew (t : SM) (ci z : Nat) (c : Nat → SM → OR) : OR := c (mN t) (mPush t ci 0 z)
def hTx (k : UInt32) (c : OR) : OR := if (60 : Nat) = 60 ∧ k.toNat < 14 then c else none
def hTc (n cat : Nat) (k : UInt32) (c : OR) : OR := if n = n ∧ cat ≤ 8 ∧ k.toNat < 14 then c else none
def hTLd (k : UInt32) (i : Int32) (c : Int32 → OR) : OR := if 50 ≤ k.toNat ∧ k.toNat < 50 + bytJ.length ∧ inB i (bytJ.getD (k.toNat - 50) []).length then c ((bytJ.getD (k.toNat - 50) []).getD i.toNatClampNeg 0) else none
def hTLen (k : UInt32) (c : Int32 → OR) : OR := if k.toNat = 200 then none else (if 50 ≤ k.toNat ∧ k.toNat < 50 + bytJ.length then c (Int32.ofNat (bytJ.getD (k.toNat - 50) []).length) else none)
def hScr (xn : Nat) (xs : Nat → Int32) (i : Int32) (c : Int32 → OR) : OR := if inB i xn then c (xs i.toNatClampNeg) else none
end
