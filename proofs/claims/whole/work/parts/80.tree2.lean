section
variable {n m s g x p : Nat} {t u : SM}
/-! the class's scan -/
def DD (G : GG) (i j : Nat) : Nat := cn9 (G 41 i ^^^ G 41 j)
def bsO (o : Option (Nat × Nat)) : Int32 := match o with
  | none => 0
  | some q => nI q.1
def lsO (L : Int32) (D : Nat → Nat → Nat) (o : Option (Nat × Nat)) : Int32 := match o with
  | none => L
  | some q => nI (D q.1 q.2)
theorem scJ_no {D : Nat → Nat → Nat} {dr : Nat → Bool} {i : Nat} {o : Option (Nat × Nat)} (hi : dr i = true) : ∀ m, scJ D dr i o m = o := by
  intro m
  induction m with
  | zero => rfl
  | succ m ih =>
    show tk D dr i m (scJ D dr i o m) = o
    rw [ih]; unfold tk; rw [if_neg (fun z => by rw [hi] at z; exact Bool.noConfusion z.1)]
theorem lsO_le {L : Int32} {G : GG} {o : Option (Nat × Nat)} {i j : Nat} (hL : L = 10 ∨ L = 99) : (lsO L (DD G) o ≤ nI (DD G i j)) ↔ ¬ ∀ q, o = some q → DD G i j < DD G q.1 q.2 := by
  have h9 : DD G i j ≤ 9 := cn9_le _
  cases o with
  | none =>
    constructor
    · intro h
      exfalso
      have h1 := Int32.le_iff_toInt_le.mp h
      rw [nI_toInt (by omega)] at h1
      rcases hL with rfl | rfl
      · have : (lsO 10 (DD G) none).toInt = 10 := rfl
        omega
      · have : (lsO 99 (DD G) none).toInt = 99 := rfl
        omega
    · intro h; exact absurd (fun q hq => by cases hq) h
  | some q =>
    have h92 : DD G q.1 q.2 ≤ 9 := cn9_le _
    show nI (DD G q.1 q.2) ≤ nI (DD G i j) ↔ _
    rw [Int32.le_iff_toInt_le, nI_toInt (by omega), nI_toInt (by omega)]
    constructor
    · intro h1 h2
      have := h2 q rfl; omega
    · intro h1
      by_cases c : DD G i j < DD G q.1 q.2
      · exact absurd (fun q' hq' => by obtain rfl := Option.some.inj hq'; exact c) h1
      · omega
end
