section
/-! at worst: sets of worlds that look alike at a place -/
variable {E : Nat → Nat → Nat → Bool} {K S w p e : Nat}
def LK (E : Nat → Nat → Nat → Bool) (K S w p : Nat) : Nat := cN (orf (fun v => S.testBit v && E p v w) K)
def EQV (E : Nat → Nat → Nat → Bool) : Prop := (∀ p v, E p v v = true) ∧ (∀ p v w, E p v w = true → E p w v = true) ∧ ∀ p u v w, E p u v = true → E p v w = true → E p u w = true
theorem LK_eq (hK : K ≤ 7) : orf (fun v => S.testBit v && E p v w) K = nI (LK E K S w p) ∧ LK E K S w p < 2 ^ K := by
  obtain ⟨r, hr, he⟩ := orf_nI (fun v => S.testBit v && E p v w) K
  have e := he (by omega)
  have : 2 ^ K ≤ 2 ^ 7 := Nat.pow_le_pow_right (by decide) hK
  unfold LK
  rw [e, cN_i (by omega)]
  exact ⟨rfl, hr⟩
theorem tb_ltK {S K k : Nat} (h : S < 2 ^ K) (hk : S.testBit k = true) : k < K := by
  by_cases c : k < K
  · exact c
  · rw [Nat.testBit_lt_two_pow (Nat.lt_of_lt_of_le h (Nat.pow_le_pow_right (by decide) (by omega)))] at hk
    exact absurd hk (by decide)
theorem LK_bit (hK : K ≤ 7) (k : Nat) : (LK E K S w p).testBit k = (decide (k < K) && (S.testBit k && E p k w)) := by
  obtain ⟨h1, h2⟩ := LK_eq (E := E) (S := S) (w := w) (p := p) hK
  have h7 : 2 ^ K ≤ 2 ^ 7 := Nat.pow_le_pow_right (by decide) hK
  by_cases c : k < 32
  · rw [← b_ni (LK E K S w p) k (by omega), ← h1, bt_orf _ _ (by omega) k c]
  · rw [decide_eq_false (show ¬ k < K by omega), Bool.false_and]
    exact Nat.testBit_lt_two_pow (Nat.lt_of_lt_of_le h2 (Nat.pow_le_pow_right (by decide) (by omega)))
theorem LK_in (hK : K ≤ 7) {k : Nat} (h : (LK E K S w p).testBit k = true) : k < K ∧ S.testBit k = true ∧ E p k w = true := by
  rw [LK_bit hK] at h
  simp only [Bool.and_eq_true, decide_eq_true_eq] at h
  exact h
theorem LK_mk (hK : K ≤ 7) {k : Nat} (h1 : k < K) (h2 : S.testBit k = true) (h3 : E p k w = true) : (LK E K S w p).testBit k = true := by
  rw [LK_bit hK, h2, h3, decide_eq_true h1]; rfl
theorem LK_and (hK : K ≤ 7) : LK E K S w p &&& S = LK E K S w p := by
  apply Nat.eq_of_testBit_eq
  intro i
  rw [Nat.testBit_and]
  cases c : (LK E K S w p).testBit i
  · rfl
  · rw [(LK_in hK c).2.1]; rfl
theorem LK_le (hK : K ≤ 7) : LK E K S w p ≤ S := by
  have := Nat.and_le_right (n := LK E K S w p) (m := S)
  rw [LK_and hK] at this; exact this
theorem tb_pos {S k : Nat} (h : S.testBit k = true) : 1 ≤ S := by
  by_cases c : S = 0
  · subst c; rw [Nat.zero_testBit] at h; exact absurd h (by decide)
  · omega
theorem LK_idem (hE : EQV E) (hK : K ≤ 7) {v : Nat} (h : (LK E K S w p).testBit v = true) : LK E K (LK E K S w p) v p = LK E K S w p := by
  obtain ⟨h1, h2, h3⟩ := LK_in hK h
  apply Nat.eq_of_testBit_eq
  intro i
  rw [Bool.eq_iff_iff]
  constructor
  · intro c; exact (LK_in hK c).2.1
  · intro c
    obtain ⟨a1, a2, a3⟩ := LK_in hK c
    exact LK_mk hK a1 c (hE.2.2 p i w v a3 (hE.2.1 p v w h3))
theorem LK_all (hE : EQV E) (hK : K ≤ 7) (hS : S < 2 ^ K) {f : Nat} (hf : S.testBit f = true) (h : LK E K S f p = S) (hw : S.testBit w = true) : LK E K S w p = S := by
  apply Nat.eq_of_testBit_eq
  intro i
  rw [Bool.eq_iff_iff]
  constructor
  · intro c; exact (LK_in hK c).2.1
  · intro c
    have c1 := c; have c2 := hw
    rw [← h] at c1 c2
    exact LK_mk hK (tb_ltK hS c) c (hE.2.2 p i f w (LK_in hK c1).2.2 (hE.2.1 p w f (LK_in hK c2).2.2))
def fsN (S : Nat) : Nat := if S.testBit 0 = true then 0 else if S.testBit 1 = true then 1 else if S.testBit 2 = true then 2 else if S.testBit 3 = true then 3 else if S.testBit 4 = true then 4 else if S.testBit 5 = true then 5 else 6
theorem fsN_f : ∀ S, S < 128 → 1 ≤ S → fst (bt (nI S)) 31 0 = nI (fsN S) ∧ S.testBit (fsN S) = true ∧ fsN S < 7 ∧ ∀ k, k < fsN S → S.testBit k = false := by decide +kernel
def pcB (A S : Nat) : Bool := !(A &&& S == A) || A == S || decide (pc A + 1 ≤ pc S)
theorem pcB_t : ∀ A, A < 128 → ∀ S, S < 128 → pcB A S = true := by decide +kernel
theorem pc_sub (A : Nat) (hA : A < 128) (S : Nat) (hS : S < 128) (h1 : A &&& S = A) (h2 : A ≠ S) : pc A + 1 ≤ pc S := by
  have h := pcB_t A hA S hS
  unfold pcB at h
  simp only [h1, beq_self_eq_true, Bool.not_true, Bool.false_or, Bool.or_eq_true, beq_iff_eq, decide_eq_true_eq] at h
  rcases h with h | h
  · exact absurd h h2
  · exact h
theorem pw7 {K S : Nat} (hK : K ≤ 7) (hS : S < 2 ^ K) : S < 128 := by
  have : 2 ^ K ≤ 2 ^ 7 := Nat.pow_le_pow_right (by decide) hK
  omega
theorem fsN_t (hK : K ≤ 7) (hS : S < 2 ^ K) (h1 : 1 ≤ S) : S.testBit (fsN S) = true := (fsN_f S (pw7 hK hS) h1).2.1
/-! the most of some numbers -/
def wmax (f : Nat → Nat) (S K : Nat) : Nat := fo (fun w a => if S.testBit w = true then mx2 a (f w) else a) 0 K
theorem wmax_s (f : Nat → Nat) (S K : Nat) : wmax f S (K + 1) = if S.testBit K = true then mx2 (wmax f S K) (f K) else wmax f S K := rfl
theorem wmax_le {f : Nat → Nat} {S B : Nat} : ∀ K, (∀ w, w < K → S.testBit w = true → f w ≤ B) → wmax f S K ≤ B := by
  intro K
  induction K with
  | zero => intro _; exact Nat.zero_le _
  | succ K ih =>
    intro h
    have h1 := ih (fun w hw => h w (by omega))
    rw [wmax_s]
    split
    · rename_i c
      have := h K (by omega) c
      unfold mx2; split <;> omega
    · exact h1
theorem le_wmax {f : Nat → Nat} {S w : Nat} : ∀ K, w < K → S.testBit w = true → f w ≤ wmax f S K := by
  intro K
  induction K with
  | zero => intro h; omega
  | succ K ih =>
    intro h hw
    rw [wmax_s]
    by_cases c : w < K
    · have := ih c hw
      split
      · unfold mx2; split <;> omega
      · exact this
    · obtain rfl : w = K := by omega
      rw [if_pos hw]
      unfold mx2; split <;> omega
theorem wmax_mono {f g : Nat → Nat} {S : Nat} (K : Nat) (h : ∀ w, w < K → S.testBit w = true → f w ≤ g w) : wmax f S K ≤ wmax g S K := wmax_le K (fun w hw hs => Nat.le_trans (h w hw hs) (le_wmax K hw hs))
theorem wmax_cg {f g : Nat → Nat} {S : Nat} (K : Nat) (h : ∀ w, w < K → S.testBit w = true → f w = g w) : wmax f S K = wmax g S K :=
  Nat.le_antisymm (wmax_mono K (fun w hw hs => Nat.le_of_eq (h w hw hs))) (wmax_mono K (fun w hw hs => Nat.le_of_eq (h w hw hs).symm))
theorem wmax_co {f : Nat → Nat} {S B w : Nat} (K : Nat) (h : ∀ w, w < K → S.testBit w = true → f w = B) (hw : w < K) (hs : S.testBit w = true) : wmax f S K = B :=
  Nat.le_antisymm (wmax_le K (fun w hw hs => Nat.le_of_eq (h w hw hs))) (by have := le_wmax (f := f) K hw hs; rw [h w hw hs] at this; exact this)
theorem wmax_or {f : Nat → Nat} {S B : Nat} : ∀ K, (∀ w, w < K → S.testBit w = true → f w = 1000000 ∨ f w ≤ B) → wmax f S K = 1000000 ∨ wmax f S K ≤ B := by
  intro K
  induction K with
  | zero => intro _; exact Or.inr (Nat.zero_le _)
  | succ K ih =>
    intro h
    have h1 := ih (fun w hw => h w (by omega))
    rw [wmax_s]
    split
    · rename_i c
      have := h K (by omega) c
      unfold mx2; split <;> omega
    · exact h1
end
