section
/-! shortening till nothing changes: six places -/
abbrev NN : Type := Nat → Nat
def itr (sw : NN → NN) (d0 : NN) (k : Nat) : NN := fo (fun _ d => sw d) d0 k
theorem itr_s (sw : NN → NN) (d0 : NN) (k : Nat) : itr sw d0 (k + 1) = sw (itr sw d0 k) := rfl
def sum6 (d : NN) : Nat := d 0 + d 1 + d 2 + d 3 + d 4 + d 5
variable {sw : NN → NN} {R : Nat → Nat → Nat → Prop} {d0 : NN}
theorem sum6_lt {d e : NN} (h : ∀ p, e p ≤ d p) (h6 : ∀ p, 6 ≤ p → e p = d p) (hne : e ≠ d) : sum6 e < sum6 d := by
  have : ∃ p, p < 6 ∧ e p ≠ d p := by
    refine Classical.byContradiction fun hn => hne (funext fun p => ?_)
    by_cases c : p < 6
    · exact Classical.byContradiction fun hp => hn ⟨p, c, hp⟩
    · exact h6 p (by omega)
  obtain ⟨p, hp, hpe⟩ := this
  have h0 := h 0; have h1 := h 1; have h2 := h 2; have h3 := h 3; have h4 := h 4; have h5 := h 5
  have hpl := h p
  unfold sum6
  have : p = 0 ∨ p = 1 ∨ p = 2 ∨ p = 3 ∨ p = 4 ∨ p = 5 := by omega
  rcases this with rfl | rfl | rfl | rfl | rfl | rfl <;> omega
theorem itr_fix (h1 : ∀ d p, sw d p ≤ d p) (h6 : ∀ d p, 6 ≤ p → sw d p = d p) : ∀ (N : Nat) (k : Nat), sum6 (itr sw d0 k) ≤ N → ∃ K, k ≤ K ∧ sw (itr sw d0 K) = itr sw d0 K := by
  intro N
  induction N with
  | zero =>
    intro k hk
    refine ⟨k, Nat.le_refl k, Classical.byContradiction fun hne => ?_⟩
    have := sum6_lt (h1 _) (h6 _) hne
    omega
  | succ N ih =>
    intro k hk
    by_cases c : sw (itr sw d0 k) = itr sw d0 k
    · exact ⟨k, Nat.le_refl k, c⟩
    · have := sum6_lt (h1 _) (h6 _) c
      obtain ⟨K, hK, e⟩ := ih (k + 1) (by rw [itr_s]; omega)
      exact ⟨K, by omega, e⟩
theorem itr_dec (h1 : ∀ d p, sw d p ≤ d p) (k : Nat) : ∀ j p, itr sw d0 (k + j) p ≤ itr sw d0 k p := by
  intro j
  induction j with
  | zero => intro p; exact Nat.le_refl _
  | succ j ih => intro p; exact Nat.le_trans (h1 _ p) (ih p)
theorem itr_stay {k : Nat} (h : sw (itr sw d0 k) = itr sw d0 k) : ∀ j, itr sw d0 (k + j) = itr sw d0 k := by
  intro j
  induction j with
  | zero => rfl
  | succ j ih => rw [← Nat.add_assoc, itr_s, ih, h]
theorem cnt_lt {p q : Nat → Bool} {N : Nat} (h : ∀ j, j < N → p j = true → q j = true) {i : Nat} (hi : i < N) (hq : q i = true) (hp : p i = false) : cnt p N < cnt q N := by
  have h1 := cnt_mono N h
  have h2 : cnt p N = cnt (fun j => q j && p j) N := cnt_cg N (fun j hj => by
    cases c : p j
    · simp
    · rw [h j hj c]; rfl)
  have h3 : ¬ cnt (fun j => q j && p j) N = cnt q N := fun e => by
    have := (cnt_all N).mp e i hi hq
    rw [hp] at this; exact absurd this (by decide)
  omega
theorem bf_six (h1 : ∀ d p, sw d p ≤ d p) (h6 : ∀ d p, 6 ≤ p → sw d p = d p)
    (h3 : ∀ d p q w, R p q w → sw d p ≤ d q + w) (hR : ∀ p q w, R p q w → 1 ≤ w ∧ q < 6)
    (hT : ∀ k p, p < 6 → itr sw d0 k p < d0 p → ∃ q w, R p q w ∧ itr sw d0 k q + w ≤ itr sw d0 k p) : sw (itr sw d0 6) = itr sw d0 6 := by
  obtain ⟨K, _, hK⟩ := itr_fix (d0 := d0) h1 h6 (sum6 (itr sw d0 0)) 0 (Nat.le_refl _)
  have low : ∀ k p, itr sw d0 K p ≤ itr sw d0 k p := by
    intro k p
    by_cases c : k ≤ K
    · have := itr_dec (d0 := d0) h1 k (K - k) p
      rw [show k + (K - k) = K by omega] at this; exact this
    · have := itr_stay hK (k - K)
      rw [show K + (k - K) = k by omega] at this
      rw [this]; exact Nat.le_refl _
  have top : ∀ k p, itr sw d0 k p ≤ d0 p := fun k p => by have := itr_dec (d0 := d0) h1 0 k p; rw [Nat.zero_add] at this; exact this
  -- one more settled
  have step : ∀ k, (∃ p, p < 6 ∧ itr sw d0 k p ≠ itr sw d0 K p) → ∃ p q, (p < 6 ∧ itr sw d0 k p ≠ itr sw d0 K p) ∧ (q < 6 ∧ itr sw d0 k q = itr sw d0 K q) ∧ itr sw d0 (k + 1) p = itr sw d0 K p := by
    intro k hex
    obtain ⟨p0, hp0, hn0⟩ := hex
    -- the least value among the unsettled
    have : ∃ p, (p < 6 ∧ itr sw d0 k p ≠ itr sw d0 K p) ∧ ∀ q, (q < 6 ∧ itr sw d0 k q ≠ itr sw d0 K q) → itr sw d0 K p ≤ itr sw d0 K q := by
      obtain ⟨v, ⟨p, hp, hv⟩, hmin⟩ := pk_least (fun v => ∃ p, (p < 6 ∧ itr sw d0 k p ≠ itr sw d0 K p) ∧ itr sw d0 K p = v) ⟨_, p0, ⟨hp0, hn0⟩, rfl⟩
      refine ⟨p, hp, fun q hq => ?_⟩
      rw [hv]
      exact Nat.le_of_not_lt fun hlt => hmin _ hlt ⟨q, hq, rfl⟩
    obtain ⟨p, hp, hmin⟩ := this
    have hlt : itr sw d0 K p < itr sw d0 k p := Nat.lt_of_le_of_ne (low k p) (Ne.symm hp.2)
    obtain ⟨q, w, hr, hle⟩ := hT K p hp.1 (Nat.lt_of_lt_of_le hlt (top k p))
    have hw := hR p q w hr
    have hq : itr sw d0 k q = itr sw d0 K q := by
      refine Classical.byContradiction fun hne => ?_
      have := hmin q ⟨hw.2, hne⟩
      omega
    refine ⟨p, q, hp, ⟨hw.2, hq⟩, ?_⟩
    have a := h3 (itr sw d0 k) p q w hr
    have b := low (k + 1) p
    rw [itr_s] at b ⊢
    omega
  have cntk : ∀ k, k ≤ 5 → cnt (fun p => decide (itr sw d0 k p ≠ itr sw d0 K p)) 6 ≤ 5 - k := by
    intro k
    induction k with
    | zero =>
      intro _
      by_cases hex : ∃ p, p < 6 ∧ itr sw d0 0 p ≠ itr sw d0 K p
      · obtain ⟨p, q, hp, hq, _⟩ := step 0 hex
        have := cnt_lt (p := fun p => decide (itr sw d0 0 p ≠ itr sw d0 K p)) (q := fun _ => true) (N := 6) (fun _ _ _ => rfl) hq.1 rfl (by simp [hq.2])
        have e6 : cnt (fun _ => true) 6 = 6 := by decide
        omega
      · have : cnt (fun p => decide (itr sw d0 0 p ≠ itr sw d0 K p)) 6 = 0 := (cnt_no 6).mpr fun p hp => by
          rw [decide_eq_false_iff_not]; exact fun hne => hex ⟨p, hp, hne⟩
        omega
    | succ k ih =>
      intro hk
      have ihk := ih (by omega)
      have sub : ∀ p, p < 6 → decide (itr sw d0 (k + 1) p ≠ itr sw d0 K p) = true → decide (itr sw d0 k p ≠ itr sw d0 K p) = true := by
        intro p _ hp
        rw [decide_eq_true_eq] at hp ⊢
        intro e
        have a := low (k + 1) p
        have b : itr sw d0 (k + 1) p ≤ itr sw d0 k p := h1 (itr sw d0 k) p
        exact hp (by omega)
      by_cases hex : ∃ p, p < 6 ∧ itr sw d0 k p ≠ itr sw d0 K p
      · obtain ⟨p, q, hp, hq, he⟩ := step k hex
        have := cnt_lt (p := fun p => decide (itr sw d0 (k + 1) p ≠ itr sw d0 K p)) (q := fun p => decide (itr sw d0 k p ≠ itr sw d0 K p)) (N := 6) sub hp.1 (by simp [hp.2]) (by simp [he])
        omega
      · have : cnt (fun p => decide (itr sw d0 (k + 1) p ≠ itr sw d0 K p)) 6 = 0 := (cnt_no 6).mpr fun p hp => by
          cases c : decide (itr sw d0 (k + 1) p ≠ itr sw d0 K p) with
          | false => rfl
          | true =>
            have := sub p hp c
            rw [decide_eq_true_eq] at this
            exact absurd ⟨p, hp, this⟩ hex
        omega
  have h5 : itr sw d0 5 = itr sw d0 K := by
    funext p
    by_cases c : p < 6
    · have h0 : cnt (fun p => decide (itr sw d0 5 p ≠ itr sw d0 K p)) 6 = 0 := by have := cntk 5 (Nat.le_refl 5); omega
      have := (cnt_no 6).mp h0 p c
      rw [decide_eq_false_iff_not] at this
      exact Classical.byContradiction fun hne => this hne
    · have e : ∀ k, itr sw d0 k p = d0 p := by
        intro k
        induction k with
        | zero => rfl
        | succ k ih => rw [itr_s, h6 _ p (by omega), ih]
      rw [e, e]
  rw [itr_s, h5, hK, hK]
end
