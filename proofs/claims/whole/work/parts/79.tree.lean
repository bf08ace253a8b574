section
/-! a round of drawing: the nearest that is left -/
def tk (D : Nat → Nat → Nat) (dr : Nat → Bool) (i j : Nat) (o : Option (Nat × Nat)) : Option (Nat × Nat) := if dr i = false ∧ dr j = true ∧ (∀ q, o = some q → D i j < D q.1 q.2) then some (i, j) else o
def scJ (D : Nat → Nat → Nat) (dr : Nat → Bool) (i : Nat) (o : Option (Nat × Nat)) (m : Nat) : Option (Nat × Nat) := fo (fun j o => tk D dr i j o) o m
def scI (D : Nat → Nat → Nat) (dr : Nat → Bool) (M m : Nat) : Option (Nat × Nat) := fo (fun i o => scJ D dr i o M) none m
theorem tk_some {D : Nat → Nat → Nat} {dr : Nat → Bool} {i j : Nat} {o : Option (Nat × Nat)} (h : o ≠ none) : tk D dr i j o ≠ none := by
  unfold tk; split
  · exact fun z => by cases z
  · exact h
theorem scJ_some {D : Nat → Nat → Nat} {dr : Nat → Bool} {i : Nat} {o : Option (Nat × Nat)} (h : o ≠ none) : ∀ m, scJ D dr i o m ≠ none := by
  intro m
  induction m with
  | zero => exact h
  | succ m ih => exact tk_some ih
theorem scJ_get {D : Nat → Nat → Nat} {dr : Nat → Bool} {i j : Nat} {o : Option (Nat × Nat)} (hi : dr i = false) (hj : dr j = true) : ∀ m, j < m → scJ D dr i o m ≠ none := by
  intro m
  induction m with
  | zero => intro h; omega
  | succ m ih =>
    intro h
    by_cases e : j < m
    · exact tk_some (ih e)
    · obtain rfl : j = m := by omega
      show tk D dr i j (scJ D dr i o j) ≠ none
      by_cases z : scJ D dr i o j = none
      · rw [z]; unfold tk; rw [if_pos ⟨hi, hj, fun q hq => by cases hq⟩]; exact fun z => by cases z
      · exact tk_some z
theorem scI_get {D : Nat → Nat → Nat} {dr : Nat → Bool} {M i j : Nat} (hi : dr i = false) (hj : dr j = true) (hm : j < M) : ∀ m, i < m → scI D dr M m ≠ none := by
  intro m
  induction m with
  | zero => intro h; omega
  | succ m ih =>
    intro h
    show scJ D dr m (scI D dr M m) M ≠ none
    by_cases e : i < m
    · exact scJ_some (ih e) M
    · obtain rfl : i = m := by omega
      exact scJ_get hi hj M hm
/-- what is found is left, and its origin is drawn -/
def tkP (dr : Nat → Bool) (M : Nat) (o : Option (Nat × Nat)) : Prop := ∀ q, o = some q → (q.1 < M ∧ q.2 < M) ∧ dr q.1 = false ∧ dr q.2 = true
theorem tk_P {D : Nat → Nat → Nat} {dr : Nat → Bool} {M i j : Nat} {o : Option (Nat × Nat)} (h : tkP dr M o) (hi : i < M) (hj : j < M) : tkP dr M (tk D dr i j o) := by
  intro q hq
  unfold tk at hq
  split at hq
  · rename_i c
    obtain rfl := Option.some.inj hq
    exact ⟨⟨hi, hj⟩, c.1, c.2.1⟩
  · exact h q hq
theorem scJ_P {D : Nat → Nat → Nat} {dr : Nat → Bool} {M i : Nat} {o : Option (Nat × Nat)} (h : tkP dr M o) (hi : i < M) : ∀ m, m ≤ M → tkP dr M (scJ D dr i o m) := by
  intro m
  induction m with
  | zero => intro _; exact h
  | succ m ih => intro hm; exact tk_P (ih (by omega)) hi (by omega)
theorem scI_P {D : Nat → Nat → Nat} {dr : Nat → Bool} {M : Nat} : ∀ m, m ≤ M → tkP dr M (scI D dr M m) := by
  intro m
  induction m with
  | zero => intro _ q hq; cases hq
  | succ m ih => intro hm; exact scJ_P (ih (by omega)) (by omega) M (Nat.le_refl M)
end
