section
variable {n m s g x p : Nat} {t0 t u : SM}
/-! what holds of the shortest ways -/
def SV (G : GG) (s : Nat) : Prop := ∀ i, i < s → su G i < 6 ∧ sv G i < 6 ∧ su G i ≠ sv G i ∧ 1 ≤ sk G i ∧ sk G i ≤ 99
theorem SV.of (h : Inv n m s g x p t) : SV (pm t) s := fun i hi => (st_v h hi).1
def RE (G : GG) (op : Nat → Bool) (s : Nat) (a b w : Nat) : Prop := ∃ i, i < s ∧ op i = true ∧ ((a = su G i ∧ b = sv G i) ∨ (a = sv G i ∧ b = su G i)) ∧ w = sk G i
theorem swp_s (G : GG) (op : Nat → Bool) (d : NN) (s : Nat) : swp G op (s + 1) d = if op s = true then rx (sv G s) (su G s) (sk G s) (rx (su G s) (sv G s) (sk G s) (swp G op s d)) else swp G op s d := rfl
theorem swp_out {G : GG} {op : Nat → Bool} : ∀ s, SV G s → ∀ (d : NN) (p : Nat), 6 ≤ p → swp G op s d p = d p := by
  intro s
  induction s with
  | zero => intro _ d p _; rfl
  | succ s ih =>
    intro h d p hp
    have h1 := ih (fun i hi => h i (by omega)) d p hp
    have h2 := h s (by omega)
    rw [swp_s]
    split
    · unfold rx; rw [if_neg (by omega), if_neg (by omega)]; exact h1
    · exact h1
theorem swp_at {G : GG} {op : Nat → Bool} : ∀ s, SV G s → ∀ (d : NN) (i : Nat), i < s → op i = true → swp G op s d (su G i) ≤ d (sv G i) + sk G i ∧ swp G op s d (sv G i) ≤ d (su G i) + sk G i := by
  intro s
  induction s with
  | zero => intro _ d i hi; omega
  | succ s ih =>
    intro h d i hi ho
    rw [swp_s]
    by_cases c : i = s
    · subst c
      rw [if_pos ho]
      have l1 := swp_le G op d i (su G i)
      have l2 := swp_le G op d i (sv G i)
      have a1 := rx_at (su G i) (sv G i) (sk G i) (swp G op i d)
      have a2 := rx_at (sv G i) (su G i) (sk G i) (rx (su G i) (sv G i) (sk G i) (swp G op i d))
      have a3 := rx_le (sv G i) (su G i) (sk G i) (rx (su G i) (sv G i) (sk G i) (swp G op i d)) (su G i)
      have a4 := rx_le (su G i) (sv G i) (sk G i) (swp G op i d) (su G i)
      exact ⟨by omega, by omega⟩
    · have := ih (fun i hi => h i (by omega)) d i (by omega) ho
      split
      · have b1 := rx_le (sv G s) (su G s) (sk G s) (rx (su G s) (sv G s) (sk G s) (swp G op s d)) (su G i)
        have b2 := rx_le (su G s) (sv G s) (sk G s) (swp G op s d) (su G i)
        have b3 := rx_le (sv G s) (su G s) (sk G s) (rx (su G s) (sv G s) (sk G s) (swp G op s d)) (sv G i)
        have b4 := rx_le (su G s) (sv G s) (sk G s) (swp G op s d) (sv G i)
        exact ⟨by omega, by omega⟩
      · exact this
/-- what is nearer than at first was reached by a way -/
def TT (R : Nat → Nat → Nat → Prop) (d0 d : NN) : Prop := ∀ p, p < 6 → d p < d0 p → ∃ q w, R p q w ∧ d q + w ≤ d p
theorem TT_rx {R : Nat → Nat → Nat → Prop} {d0 d : NN} {a b w : Nat} (h : TT R d0 d) (hr : R a b w) (hab : a ≠ b) : TT R d0 (rx a b w d) := by
  intro p hp hlt
  by_cases c : d b + w < d a
  · by_cases e : p = a
    · subst e
      refine ⟨b, w, hr, ?_⟩
      unfold rx
      rw [if_neg (Ne.symm hab), if_pos rfl, if_pos c]; exact Nat.le_refl _
    · have e2 : rx a b w d p = d p := by unfold rx; rw [if_neg e]
      rw [e2] at hlt ⊢
      obtain ⟨q, v, h1, h2⟩ := h p hp hlt
      have := rx_le a b w d q
      exact ⟨q, v, h1, by omega⟩
  · rw [rx_no c] at hlt ⊢
    exact h p hp hlt
theorem TT_swp {G : GG} {op : Nat → Bool} {d0 : NN} {N : Nat} (hv : SV G N) : ∀ s, s ≤ N → ∀ d, TT (RE G op N) d0 d → TT (RE G op N) d0 (swp G op s d) := by
  intro s
  induction s with
  | zero => intro _ d h; exact h
  | succ s ih =>
    intro hs d h
    have h1 := ih (by omega) d h
    have h2 := hv s (by omega)
    rw [swp_s]
    split
    · rename_i ho
      exact TT_rx (TT_rx h1 ⟨s, by omega, ho, Or.inl ⟨rfl, rfl⟩, rfl⟩ h2.2.2.1) ⟨s, by omega, ho, Or.inr ⟨rfl, rfl⟩, rfl⟩ (Ne.symm h2.2.2.1)
    · exact h1
theorem TT_itr {G : GG} {op : Nat → Bool} {d0 : NN} {s : Nat} (hv : SV G s) : ∀ k, TT (RE G op s) d0 (itr (swp G op s) d0 k) := by
  intro k
  induction k with
  | zero => intro p _ hlt; exact absurd hlt (Nat.lt_irrefl _)
  | succ k ih => exact TT_swp hv s (Nat.le_refl s) _ ih
theorem itr_six {G : GG} {op : Nat → Bool} {d0 : NN} {s : Nat} (hv : SV G s) : swp G op s (itr (swp G op s) d0 6) = itr (swp G op s) d0 6 :=
  bf_six (R := RE G op s) (fun d p => swp_le G op d s p) (fun d p hp => swp_out s hv d p hp)
    (fun d a b w ⟨i, hi, ho, hab, hw⟩ => by
      have := swp_at s hv d i hi ho
      rcases hab with ⟨e1, e2⟩ | ⟨e1, e2⟩
      · rw [e1, e2, hw]; exact this.1
      · rw [e1, e2, hw]; exact this.2)
    (fun a b w ⟨i, hi, ho, hab, hw⟩ => by
      have := hv i hi
      rcases hab with ⟨e1, e2⟩ | ⟨e1, e2⟩ <;> omega)
    (fun k p hp hlt => TT_itr hv k p hp hlt)
def BB (k : Nat) (d : NN) : Prop := ∀ p, d p = 1000000 ∨ d p ≤ 99 * k
theorem BB_rx {k a b w : Nat} {d : NN} (h : BB k d) (hw : w ≤ 99) : BB (k + 1) (rx a b w d) := by
  intro p
  unfold rx
  have h1 := h p; have h2 := h a; have h3 := h b
  split
  · split
    · rename_i c
      rcases h3 with h3 | h3
      · rcases h2 with h2 | h2 <;> omega
      · omega
    · omega
  · omega
theorem BB_up {k j : Nat} {d : NN} (h : BB k d) (hk : k ≤ j) : BB j d := fun p => by have := h p; omega
theorem BB_swp {G : GG} {op : Nat → Bool} {N : Nat} (hv : SV G N) : ∀ s, s ≤ N → ∀ k d, BB k d → BB (k + 2 * s) (swp G op s d) := by
  intro s
  induction s with
  | zero => intro _ k d h; exact h
  | succ s ih =>
    intro hs k d h
    have h1 := ih (by omega) k d h
    have h2 := hv s (by omega)
    rw [swp_s]
    split
    · exact BB_up (BB_rx (BB_rx h1 h2.2.2.2.2) h2.2.2.2.2) (by omega)
    · exact BB_up h1 (by omega)
theorem BB_itr {G : GG} {op : Nat → Bool} {d0 : NN} {s : Nat} (hv : SV G s) (h0 : BB 0 d0) : ∀ k, BB (k * (2 * s)) (itr (swp G op s) d0 k) := by
  intro k
  induction k with
  | zero => exact BB_up h0 (Nat.zero_le _)
  | succ k ih => rw [itr_s, Nat.succ_mul]; exact BB_swp hv s (Nat.le_refl s) _ _ ih
theorem D_small {G : GG} {op : Nat → Bool} {s e : Nat} (hv : SV G s) (hs : s ≤ 12) (p : Nat) : Dst G op s e p = 1000000 ∨ Dst G op s e p ≤ 14256 := by
  have := BB_itr (op := op) (d0 := d00 e) hv (fun p => by unfold d00; split <;> omega) 6 p
  unfold Dst
  rcases this with h | h
  · exact Or.inl h
  · right; omega
theorem D_goal (G : GG) (op : Nat → Bool) (s e : Nat) : Dst G op s e e = 0 := by
  have := itr_dec (sw := swp G op s) (d0 := d00 e) (fun d p => swp_le G op d s p) 0 6 e
  rw [Nat.zero_add] at this
  have h0 : itr (swp G op s) (d00 e) 0 e = 0 := by show d00 e e = 0; unfold d00; rw [if_pos rfl]
  unfold Dst; omega
theorem D_le (G : GG) (op : Nat → Bool) (s e p : Nat) : Dst G op s e p ≤ 1000000 := itr_le _ _ _ _ _ _
def ote (G : GG) (i c : Nat) : Nat := if su G i = c then sv G i else su G i
def tch (G : GG) (i c : Nat) : Bool := decide (su G i = c) || decide (sv G i = c)
theorem D_edge {G : GG} {op : Nat → Bool} {s e : Nat} (hv : SV G s) {i c : Nat} (hi : i < s) (ho : op i = true) (ht : tch G i c = true) : Dst G op s e c ≤ sk G i + Dst G op s e (ote G i c) := by
  have h1 := swp_at s hv (Dst G op s e) i hi ho
  have h2 : swp G op s (Dst G op s e) = Dst G op s e := itr_six hv
  rw [h2] at h1
  have h3 := hv i hi
  unfold tch at ht
  unfold ote
  rw [Bool.or_eq_true, decide_eq_true_eq, decide_eq_true_eq] at ht
  by_cases c1 : su G i = c
  · rw [if_pos c1, ← c1]; omega
  · rw [if_neg c1]
    rcases ht with ht | ht
    · exact absurd ht c1
    · rw [← ht]; omega
theorem D_tight {G : GG} {op : Nat → Bool} {s e c : Nat} (hv : SV G s) (hc : c < 6) (hne : c ≠ e) (hf : Dst G op s e c < 1000000) : ∃ i, i < s ∧ op i = true ∧ tch G i c = true ∧ sk G i + Dst G op s e (ote G i c) = Dst G op s e c := by
  have ht := TT_itr (op := op) (d0 := d00 e) hv 6 c hc (by show Dst G op s e c < _; unfold d00; rw [if_neg hne]; exact hf)
  obtain ⟨q, w, ⟨i, hi, ho, hab, hw⟩, hle⟩ := ht
  have h3 := hv i hi
  have hle' : Dst G op s e q + w ≤ Dst G op s e c := hle
  have key : tch G i c = true ∧ ote G i c = q := by
    unfold tch ote
    rcases hab with ⟨e1, e2⟩ | ⟨e1, e2⟩
    · rw [if_pos e1.symm, decide_eq_true e1.symm, e2]; exact ⟨rfl, rfl⟩
    · rw [if_neg (by omega), decide_eq_true e1.symm, e2, Bool.or_true]; exact ⟨rfl, rfl⟩
  have := D_edge (e := e) hv hi ho key.1
  exact ⟨i, hi, ho, key.1, by rw [key.2] at this ⊢; omega⟩
/-! the walk -/
def nxq (G : GG) (op : Nat → Bool) (D : NN) (c i : Nat) : Bool := op i && (tch G i c && decide (sk G i + D (ote G i c) = D c))
/-- the first street of a shortest way -/
def nxs1 (G : GG) (op : Nat → Bool) (s : Nat) (D : NN) (c : Nat) : Int32 := fst (nxq G op D c) s 0
theorem fst_is (q : Nat → Bool) : ∀ d i, (∃ k, i ≤ k ∧ k < i + d ∧ q k = true) → ∃ k, (i ≤ k ∧ k < i + d ∧ q k = true) ∧ fst q d i = nI k := by
  intro d
  induction d with
  | zero => rintro i ⟨k, a, b, _⟩; omega
  | succ d ih =>
    rintro i ⟨k, a, b, c⟩
    cases hq : q i
    · have : k ≠ i := fun e => by rw [e, hq] at c; exact absurd c (by decide)
      obtain ⟨j, ⟨a1, b1, c1⟩, e1⟩ := ih (i + 1) ⟨k, by omega, by omega, c⟩
      refine ⟨j, ⟨by omega, by omega, c1⟩, ?_⟩
      show (if q i = true then nI i else fst q d (i + 1)) = nI j
      rw [hq]; exact e1
    · refine ⟨i, ⟨Nat.le_refl i, by omega, hq⟩, ?_⟩
      show (if q i = true then nI i else fst q d (i + 1)) = nI i
      rw [hq]; rfl
theorem fst_or (q : Nat → Bool) (d i : Nat) : fst q d i = -1 ∨ ∃ k, (i ≤ k ∧ k < i + d ∧ q k = true) ∧ fst q d i = nI k := by
  by_cases h : ∃ k, i ≤ k ∧ k < i + d ∧ q k = true
  · exact Or.inr (fst_is q d i h)
  · refine Or.inl (fst_no d i fun k a b => ?_)
    cases hq : q k
    · rfl
    · exact absurd ⟨k, a, b, hq⟩ h
def trp (G : GG) (s e : Nat) (says town : Int32) : Nat → Nat → (Nat → Bool) → Nat → Int32
  | 0, c, _, tm => if c = e then nI tm else -1
  | f + 1, c, sh, tm => if c = e then nI tm else
    if Dst G (fun i => opn G says i && !sh i) s e c < 1000000 then
      (if opn G town (cN (nxs1 G (fun i => opn G says i && !sh i) s (Dst G (fun i => opn G says i && !sh i) s e) c)) = true then
        trp G s e says town f (ote G (cN (nxs1 G (fun i => opn G says i && !sh i) s (Dst G (fun i => opn G says i && !sh i) s e) c)) c) sh (tm + sk G (cN (nxs1 G (fun i => opn G says i && !sh i) s (Dst G (fun i => opn G says i && !sh i) s e) c)))
      else trp G s e says town f c (fun i => sh i || decide (i = cN (nxs1 G (fun i => opn G says i && !sh i) s (Dst G (fun i => opn G says i && !sh i) s e) c))) tm)
    else -1
theorem trp_eq (G : GG) (s e : Nat) (says town : Int32) (f : Nat) (sh : Nat → Bool) (tm : Nat) : trp G s e says town f e sh tm = nI tm := by
  cases f with
  | zero => show (if e = e then _ else _) = _; rw [if_pos rfl]
  | succ f => show (if e = e then _ else _) = _; rw [if_pos rfl]
theorem ote_lt {G : GG} {s i : Nat} (hv : SV G s) (hi : i < s) (c : Nat) : ote G i c < 6 := by
  have := hv i hi
  unfold ote; split <;> omega
theorem nx_is {G : GG} {op : Nat → Bool} {s e c : Nat} (hv : SV G s) (hc : c < 6) (hne : c ≠ e) (hf : Dst G op s e c < 1000000) :
    ∃ i, i < s ∧ nxq G op (Dst G op s e) c i = true ∧ nxs1 G op s (Dst G op s e) c = nI i := by
  obtain ⟨i, hi, ho, ht, he⟩ := D_tight hv hc hne hf
  obtain ⟨k, ⟨_, b, q⟩, ek⟩ := fst_is (nxq G op (Dst G op s e) c) s 0 ⟨i, Nat.zero_le i, by omega, by unfold nxq; rw [ho, ht, decide_eq_true he]; rfl⟩
  exact ⟨k, by omega, q, ek⟩
theorem nx_none {G : GG} {op : Nat → Bool} {s e c : Nat} (hv : SV G s) (hs : s ≤ 12) (hf : ¬ Dst G op s e c < 1000000) : nxs1 G op s (Dst G op s e) c = -1 := by
  refine fst_no s 0 fun k _ hk => ?_
  have h1 := D_small (op := op) (e := e) hv hs c
  have h2 := D_small (op := op) (e := e) hv hs (ote G k c)
  have h3 := hv k (by omega)
  have : ¬ sk G k + Dst G op s e (ote G k c) = Dst G op s e c := by omega
  unfold nxq
  rw [decide_eq_false this, Bool.and_false, Bool.and_false]
theorem trp_is {G : GG} {s e : Nat} {says town : Int32} (hv : SV G s) (hs : s ≤ 12) : ∀ f c sh tm, c < 6 → tm + 99 * f < 2 ^ 31 → trp G s e says town f c sh tm = -1 ∨ ∃ v, v < 2 ^ 31 ∧ trp G s e says town f c sh tm = nI v := by
  intro f
  induction f with
  | zero =>
    intro c sh tm _ ht
    show (if c = e then nI tm else -1) = -1 ∨ ∃ v, v < 2 ^ 31 ∧ (if c = e then nI tm else -1) = nI v
    by_cases h : c = e
    · rw [if_pos h]; exact Or.inr ⟨tm, by omega, rfl⟩
    · rw [if_neg h]; exact Or.inl rfl
  | succ f ih =>
    intro c sh tm hc ht
    unfold trp
    by_cases h : c = e
    · rw [if_pos h]; exact Or.inr ⟨tm, by omega, rfl⟩
    · rw [if_neg h]
      by_cases h2 : Dst G (fun i => opn G says i && !sh i) s e c < 1000000
      · rw [if_pos h2]
        obtain ⟨i, hi, _, e1⟩ := nx_is hv hc h h2
        have := hv i hi
        rw [e1, cN_i (by omega)]
        split
        · exact ih _ _ _ (ote_lt hv hi c) (by omega)
        · exact ih _ _ _ hc (by omega)
      · rw [if_neg h2]; exact Or.inl rfl
end
