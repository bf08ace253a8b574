section
/-! shortening where one sees nothing new -/
variable {G : GG} {o dc : Nat → Bool} {s : Nat}
def rxd (dc : Nat → Bool) (a b w : Nat) (d : NN) : NN := if dc a = true then d else rx a b w d
def swd (G : GG) (o dc : Nat → Bool) (s : Nat) (d : NN) : NN := fo (fun i d => if o i = true then rxd dc (sv G i) (su G i) (sk G i) (rxd dc (su G i) (sv G i) (sk G i) d) else d) d s
theorem swd_s (d : NN) (s : Nat) : swd G o dc (s + 1) d = if o s = true then rxd dc (sv G s) (su G s) (sk G s) (rxd dc (su G s) (sv G s) (sk G s) (swd G o dc s d)) else swd G o dc s d := rfl
theorem rxd_le (dc : Nat → Bool) (a b w : Nat) (d : NN) (p : Nat) : rxd dc a b w d p ≤ d p := by
  unfold rxd
  split
  · exact Nat.le_refl _
  · exact rx_le _ _ _ _ _
theorem rxd_ne {a b w : Nat} {d : NN} {p : Nat} (h : p ≠ a ∨ dc p = true) : rxd dc a b w d p = d p := by
  unfold rxd
  split
  · rfl
  · rename_i c
    rcases h with h | h
    · unfold rx; rw [if_neg h]
    · by_cases e : p = a
      · rw [e] at h; exact absurd h c
      · unfold rx; rw [if_neg e]
theorem rxd_at {a b w : Nat} {d : NN} (h : dc a = false) : rxd dc a b w d a ≤ d b + w := by
  unfold rxd
  rw [if_neg (by rw [h]; decide)]
  exact rx_at _ _ _ _
theorem swd_le (d : NN) : ∀ s p, swd G o dc s d p ≤ d p := by
  intro s
  induction s with
  | zero => intro p; exact Nat.le_refl _
  | succ s ih =>
    intro p
    rw [swd_s]
    split
    · exact Nat.le_trans (Nat.le_trans (rxd_le _ _ _ _ _ _) (rxd_le _ _ _ _ _ _)) (ih p)
    · exact ih p
theorem swd_dec {p : Nat} (h : dc p = true) (d : NN) : ∀ s, swd G o dc s d p = d p := by
  intro s
  induction s with
  | zero => rfl
  | succ s ih =>
    rw [swd_s]
    split
    · rw [rxd_ne (Or.inr h), rxd_ne (Or.inr h)]; exact ih
    · exact ih
theorem swd_out {p : Nat} (hp : 6 ≤ p) (d : NN) : ∀ s, SV G s → swd G o dc s d p = d p := by
  intro s
  induction s with
  | zero => intro _; rfl
  | succ s ih =>
    intro hv
    have h2 := hv s (by omega)
    rw [swd_s]
    split
    · rw [rxd_ne (Or.inl (by omega)), rxd_ne (Or.inl (by omega))]; exact ih (fun i hi => hv i (by omega))
    · exact ih (fun i hi => hv i (by omega))
theorem swd_at : ∀ s, SV G s → ∀ (d : NN) (i : Nat), i < s → o i = true → (dc (su G i) = false → swd G o dc s d (su G i) ≤ d (sv G i) + sk G i) ∧ (dc (sv G i) = false → swd G o dc s d (sv G i) ≤ d (su G i) + sk G i) := by
  intro s
  induction s with
  | zero => intro _ _ i hi; omega
  | succ s ih =>
    intro hv d i hi ho
    have hv' : SV G s := fun i hi => hv i (by omega)
    rw [swd_s]
    by_cases e : i < s
    · have h1 := ih hv' d i e ho
      refine ⟨fun hc => Nat.le_trans ?_ (h1.1 hc), fun hc => Nat.le_trans ?_ (h1.2 hc)⟩
      · split
        · exact Nat.le_trans (rxd_le _ _ _ _ _ _) (rxd_le _ _ _ _ _ _)
        · exact Nat.le_refl _
      · split
        · exact Nat.le_trans (rxd_le _ _ _ _ _ _) (rxd_le _ _ _ _ _ _)
        · exact Nat.le_refl _
    · obtain rfl : i = s := by omega
      rw [if_pos ho]
      have l1 := swd_le (G := G) (o := o) (dc := dc) d i (sv G i)
      have l2 := swd_le (G := G) (o := o) (dc := dc) d i (su G i)
      refine ⟨fun hc => ?_, fun hc => ?_⟩
      · refine Nat.le_trans (rxd_le _ _ _ _ _ _) (Nat.le_trans (rxd_at hc) ?_)
        omega
      · refine Nat.le_trans (rxd_at hc) ?_
        have := rxd_le dc (su G i) (sv G i) (sk G i) (swd G o dc i d) (su G i)
        omega
def RD (G : GG) (o dc : Nat → Bool) (s : Nat) (a b w : Nat) : Prop := RE G o s a b w ∧ dc a = false
theorem TT_rxd {R : Nat → Nat → Nat → Prop} {d0 d : NN} {a b w : Nat} (h : TT R d0 d) (hr : dc a = false → R a b w) (hab : a ≠ b) : TT R d0 (rxd dc a b w d) := by
  unfold rxd
  split
  · exact h
  · rename_i c
    exact TT_rx h (hr (by simpa using c)) hab
theorem TT_swd {d0 : NN} {N : Nat} (hv : SV G N) : ∀ s, s ≤ N → ∀ d, TT (RD G o dc N) d0 d → TT (RD G o dc N) d0 (swd G o dc s d) := by
  intro s
  induction s with
  | zero => intro _ d h; exact h
  | succ s ih =>
    intro hs d h
    have h1 := ih (by omega) d h
    have h2 := hv s (by omega)
    rw [swd_s]
    split
    · rename_i ho
      exact TT_rxd (TT_rxd h1 (fun c => ⟨⟨s, by omega, ho, Or.inl ⟨rfl, rfl⟩, rfl⟩, c⟩) h2.2.2.1) (fun c => ⟨⟨s, by omega, ho, Or.inr ⟨rfl, rfl⟩, rfl⟩, c⟩) (Ne.symm h2.2.2.1)
    · exact h1
theorem TT_itd {d0 : NN} (hv : SV G s) : ∀ k, TT (RD G o dc s) d0 (itr (swd G o dc s) d0 k) := by
  intro k
  induction k with
  | zero => intro p _ hlt; exact absurd hlt (Nat.lt_irrefl _)
  | succ k ih => exact TT_swd hv s (Nat.le_refl s) _ ih
theorem itd_six {d0 : NN} (hv : SV G s) : swd G o dc s (itr (swd G o dc s) d0 6) = itr (swd G o dc s) d0 6 :=
  bf_six (R := RD G o dc s) (fun d p => swd_le d s p) (fun d p hp => swd_out hp d s hv)
    (fun d a b w ⟨⟨i, hi, ho, hab, hw⟩, hc⟩ => by
      have := swd_at (dc := dc) s hv d i hi ho
      rcases hab with ⟨e1, e2⟩ | ⟨e1, e2⟩
      · rw [e1] at hc; rw [e1, e2, hw]; exact this.1 hc
      · rw [e1] at hc; rw [e1, e2, hw]; exact this.2 hc)
    (fun a b w ⟨⟨i, hi, ho, hab, hw⟩, _⟩ => by
      have := hv i hi
      rcases hab with ⟨e1, e2⟩ | ⟨e1, e2⟩ <;> omega)
    (fun k p hp hlt => TT_itd hv k p hp hlt)
theorem BB_rxd {k a b w : Nat} {d : NN} (h : BB k d) (hw : w ≤ 99) : BB (k + 1) (rxd dc a b w d) := by
  unfold rxd
  split
  · exact BB_up h (by omega)
  · exact BB_rx h hw
theorem BB_swd {N : Nat} (hv : SV G N) : ∀ s, s ≤ N → ∀ k d, BB k d → BB (k + 2 * s) (swd G o dc s d) := by
  intro s
  induction s with
  | zero => intro _ k d h; exact h
  | succ s ih =>
    intro hs k d h
    have h1 := ih (by omega) k d h
    have h2 := hv s (by omega)
    rw [swd_s]
    split
    · exact BB_up (BB_rxd (BB_rxd h1 h2.2.2.2.2) h2.2.2.2.2) (by omega)
    · exact BB_up h1 (by omega)
theorem BB_itd {d0 : NN} {j : Nat} (hv : SV G s) (h0 : BB j d0) : ∀ k, BB (j + k * (2 * s)) (itr (swd G o dc s) d0 k) := by
  intro k
  induction k with
  | zero => exact BB_up h0 (by omega)
  | succ k ih => rw [itr_s, Nat.succ_mul]; exact BB_up (BB_swd hv s (Nat.le_refl s) _ _ ih) (by omega)
theorem itd_dec {d0 : NN} {p : Nat} (h : dc p = true) : ∀ k, itr (swd G o dc s) d0 k p = d0 p := by
  intro k
  induction k with
  | zero => rfl
  | succ k ih => rw [itr_s, swd_dec h]; exact ih
/-- what six sweeps give -/
theorem six_le {d0 : NN} (hv : SV G s) {i c : Nat} (hi : i < s) (ho : o i = true) (ht : tch G i c = true) (hc : dc c = false) : itr (swd G o dc s) d0 6 c ≤ sk G i + itr (swd G o dc s) d0 6 (ote G i c) := by
  have h := swd_at (dc := dc) s hv (itr (swd G o dc s) d0 6) i hi ho
  rw [itd_six hv] at h
  unfold tch at ht
  unfold ote
  by_cases e : su G i = c
  · rw [if_pos e]
    rw [e] at h
    have := h.1 hc
    omega
  · rw [if_neg e]
    have e2 : sv G i = c := by
      simp only [Bool.or_eq_true, decide_eq_true_eq] at ht
      rcases ht with ht | ht
      · exact absurd ht e
      · exact ht
    rw [e2] at h
    have := h.2 hc
    omega
theorem six_eq {d0 : NN} (hv : SV G s) {c : Nat} (hc : c < 6) (hf : itr (swd G o dc s) d0 6 c < d0 c) : ∃ i, i < s ∧ o i = true ∧ tch G i c = true ∧ sk G i + itr (swd G o dc s) d0 6 (ote G i c) = itr (swd G o dc s) d0 6 c := by
  obtain ⟨q, w, ⟨⟨i, hi, ho, hab, hw⟩, hd⟩, hle⟩ := TT_itd (o := o) (dc := dc) (d0 := d0) hv 6 c hc hf
  have h2 := hv i hi
  have ht : tch G i c = true := by
    unfold tch
    rcases hab with ⟨e1, e2⟩ | ⟨e1, e2⟩
    · rw [e1]; simp
    · rw [e1]; simp
  have hq : ote G i c = q := by
    unfold ote
    rcases hab with ⟨e1, e2⟩ | ⟨e1, e2⟩
    · rw [if_pos e1.symm, e2]
    · rw [if_neg (by rw [e1]; exact h2.2.2.1), e2]
  refine ⟨i, hi, ho, ht, ?_⟩
  have h3 := six_le (d0 := d0) hv hi ho ht hd
  rw [hq] at h3 ⊢
  omega
end
