section
/-! the rounds of drawing -/
def trS (D : Nat → Nat → Nat) (m : Nat) : Nat → (Nat → Bool) × (Nat → Int32) × Nat
  | 0 => ((fun k => k == 0), (fun _ => -1), 0)
  | r + 1 => match scI D (trS D m r).1 m m with
    | none => trS D m r
    | some q => ((fun k => (trS D m r).1 k || k == q.1), (fun k => if k = q.1 then nI q.2 else (trS D m r).2.1 k), (trS D m r).2.2 + D q.1 q.2)
theorem cnt_add {p : Nat → Bool} {a : Nat} (ha : p a = false) : ∀ N, cnt (fun k => p k || k == a) N = if a < N then cnt p N + 1 else cnt p N := by
  intro N
  induction N with
  | zero => rfl
  | succ N ih =>
    rw [cnt_s, cnt_s, ih]
    by_cases e : N = a
    · subst e
      have : (p N || N == N) = true := by simp
      rw [this, if_pos rfl, if_neg (Nat.lt_irrefl N), if_pos (by omega), ha]; rfl
    · have : (N == a) = false := by simp [e]
      rw [this, Bool.or_false]
      by_cases c : p N = true
      · rw [if_pos c, if_pos c]
        by_cases l : a < N
        · rw [if_pos l, if_pos (by omega)]
        · rw [if_neg l, if_neg (by omega)]
      · rw [if_neg c, if_neg c]
        by_cases l : a < N
        · rw [if_pos l, if_pos (by omega)]
        · rw [if_neg l, if_neg (by omega)]
theorem cnt_one : ∀ N, cnt (fun k => k == 0) (N + 1) = 1 := by
  intro N
  induction N with
  | zero => rfl
  | succ N ih => rw [cnt_s, ih]; rfl
theorem cnt_full {p : Nat → Bool} : ∀ N, (∀ i, i < N → p i = true) → cnt p N = N := by
  intro N
  induction N with
  | zero => intro _; rfl
  | succ N ih => intro h; rw [cnt_s, if_pos (h N (by omega)), ih (fun i hi => h i (by omega))]
theorem cnt_some {p : Nat → Bool} {N : Nat} (h : cnt p N < N) : ∃ i, i < N ∧ p i = false := by
  by_cases c : ∀ i, i < N → p i = true
  · rw [cnt_full N c] at h; omega
  · obtain ⟨i, hi⟩ := Classical.not_forall.mp c
    obtain ⟨h1, h2⟩ := Classical.not_imp.mp hi
    exact ⟨i, h1, by cases e : p i with | false => rfl | true => exact absurd e h2⟩
theorem trS_in {D : Nat → Nat → Nat} {m : Nat} (hm : 0 < m) : ∀ r, r < m → cnt (trS D m r).1 m = r + 1 ∧ (trS D m r).1 0 = true := by
  intro r
  induction r with
  | zero =>
    intro _
    obtain ⟨k, rfl⟩ : ∃ k, m = k + 1 := ⟨m - 1, by omega⟩
    exact ⟨cnt_one k, rfl⟩
  | succ r ih =>
    intro hr
    obtain ⟨h1, h2⟩ := ih (by omega)
    obtain ⟨i, hi, hd⟩ := cnt_some (p := (trS D m r).1) (N := m) (by omega)
    have hs := scI_get (D := D) (M := m) hd h2 hm m hi
    have hP := scI_P (D := D) (dr := (trS D m r).1) (M := m) m (Nat.le_refl m)
    cases e : scI D (trS D m r).1 m m with
    | none => exact absurd e hs
    | some q =>
      obtain ⟨⟨a1, a2⟩, b1, b2⟩ := hP q e
      have e2 : trS D m (r + 1) = ((fun k => (trS D m r).1 k || k == q.1), (fun k => if k = q.1 then nI q.2 else (trS D m r).2.1 k), (trS D m r).2.2 + D q.1 q.2) := by
        show (match scI D (trS D m r).1 m m with | none => _ | some q => _) = _
        rw [e]
      rw [e2]
      refine ⟨?_, by show ((trS D m r).1 0 || _) = true; rw [h2]; rfl⟩
      show cnt (fun k => (trS D m r).1 k || k == q.1) m = _
      rw [cnt_add b1, if_pos a1, h1]
end
