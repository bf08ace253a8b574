section
/-! the fixed cells: tags, lengths, references -/
def layL : List (Nat × Nat) := [(10, 0), (1, 0), (32, 8), (20, 512), (20, 8), (7, 0), (36, 12), (20, 6), (20, 6), (38, 6), (4, 0), (20, 160), (20, 160), (3, 0), (20, 8), (35, 4), (9, 0), (20, 512), (20, 128), (20, 256), (20, 256), (21, 256), (0, 0), (20, 768), (20, 7), (20, 6), (20, 1), (20, 1), (20, 3), (8, 0), (20, 160), (5, 0), (20, 40), (5, 0), (20, 40), (5, 0), (20, 40), (5, 0), (20, 40), (11, 0), (20, 8), (20, 8), (20, 8), (20, 8), (20, 8), (20, 12), (20, 12), (20, 12), (20, 12), (20, 6), (20, 160), (20, 1200), (20, 24), (20, 8), (20, 4), (20, 4), (20, 160), (20, 37), (20, 96), (20, 200), (20, 200), (20, 6), (20, 512), (20, 512), (20, 6), (20, 768), (20, 128), (20, 8)]
def refL : List (Nat × Nat × Nat) := [(0, 3, 1), (0, 4, 5), (0, 5, 8), (0, 7, 9), (0, 10, 10), (0, 11, 13), (0, 12, 15), (0, 13, 16), (0, 14, 19), (0, 15, 20), (0, 16, 21), (0, 17, 22), (1, 0, 2), (1, 2, 3), (1, 3, 4), (5, 0, 6), (5, 2, 7), (10, 0, 11), (10, 7, 12), (13, 5, 14), (15, 0, 31), (15, 1, 33), (15, 2, 35), (15, 3, 37), (16, 0, 17), (16, 2, 18), (22, 0, 23), (22, 1, 24), (22, 2, 25), (22, 3, 5), (29, 0, 26), (29, 1, 27), (29, 2, 28), (29, 3, 30), (31, 2, 32), (33, 2, 34), (35, 2, 36), (37, 2, 38), (39, 4, 40), (39, 5, 41), (39, 6, 42), (39, 7, 43), (39, 8, 44), (39, 10, 45), (39, 11, 46), (39, 12, 47), (39, 13, 48), (39, 15, 49), (39, 16, 50), (39, 18, 51), (39, 19, 52), (39, 27, 53), (39, 28, 54), (39, 29, 55), (39, 30, 56), (39, 31, 57), (39, 36, 58), (39, 37, 59), (39, 41, 60), (39, 42, 61), (39, 43, 62), (39, 44, 63), (39, 46, 64), (39, 47, 65), (39, 48, 66), (39, 49, 67)]
def layF (k : Nat) : Nat × Nat := layL.getD k (0, 0)
def refB (k j r : Nat) : Bool := refL.contains (k, j, r)
/-- the fixed cells stand -/
def Lay (t : SM) : Prop := 68 ≤ mN t ∧ (∀ k, k < 68 → mT t k = layF k) ∧ ∀ z ∈ refL, mR t z.1 z.2.1 = some z.2.2
theorem layF_le (k : Nat) : (layF k).2 ≤ 1200 := by
  have h : ∀ z ∈ layL, z.2 ≤ 1200 := by decide +kernel
  unfold layF
  rw [List.getD_eq_getElem?_getD]
  cases hq : layL[k]? with
  | none => exact Nat.zero_le _
  | some z => exact h z (List.mem_of_getElem? hq)
variable {α : Type} {t : SM} {ci k j r a b n : Nat} {v w : Int32}
theorem setI_T : mT (setI t k j v) = mT t := rfl
theorem setI_R : mR (setI t k j v) = mR t := rfl
theorem setI_N : mN (setI t k j v) = mN t := rfl
theorem setI_Z : mZ (setI t k j v) = mZ t := rfl
theorem setA_T {f : Nat → Int32} : mT (setA t k f) = mT t := rfl
theorem setA_R {f : Nat → Int32} : mR (setA t k f) = mR t := rfl
theorem setA_N {f : Nat → Int32} : mN (setA t k f) = mN t := rfl
theorem setA_Z {f : Nat → Int32} : mZ (setA t k f) = mZ t := rfl
theorem setA_I {f : Nat → Int32} {q : Nat} : mI (setA t k f) q = if q = k then f else mI t q := rfl
theorem setI_I {q i : Nat} : mI (setI t k j v) q i = if q = k ∧ i = j then v else mI t q i := by
  show (if q = k then upd (t.1 k) j v else t.1 q) i = _
  by_cases hq : q = k
  · subst hq
    rw [if_pos rfl]
    by_cases hi : i = j
    · subst hi; simp [upd]
    · simp [upd, hi, mI]
  · rw [if_neg hq, if_neg (fun h => hq h.1)]; rfl
theorem setI_ne {q : Nat} (h : q ≠ k) : mI (setI t k j v) q = mI t q := if_neg h
theorem Lay.setI (h : Lay t) : Lay (setI t k j v) := h
theorem Lay.setA {f : Nat → Int32} (h : Lay t) : Lay (setA t k f) := h
theorem Lay.tag (h : Lay t) (hk : k < 68) (ht : (layF k).1 = ci) : (mT t k).1 = ci := by rw [h.2.1 k hk]; exact ht
theorem Lay.ref (h : Lay t) (hr : refB k j r = true) : mR t k j = some r := by
  have := h.2.2 (k, j, r) (List.elem_iff.mp hr)
  exact this
theorem L_gI {c : Int32 → Option α} (h : Lay t) (hk : k < 68) (ht : (layF k).1 = ci) : hGetI t ci k j c = c (mI t k j) := if_pos (h.tag hk ht)
theorem L_gC {c : Option α} (h : Lay t) (hk : k < 68) (ht : (layF k).1 = ci) (hr : refB k j r = true) : hGetC t ci k j r c = c := if_pos ⟨h.tag hk ht, h.ref hr⟩
theorem L_pI {c : SM → Option α} (h : Lay t) (hk : k < 68) (ht : (layF k).1 = ci) : hPutI t ci k j v c = c (setI t k j v) := if_pos (h.tag hk ht)
theorem L_rc {c : Option α} (h : Lay t) (hk : k < 68) (ht : (layF k).1 = ci) : hRecv t ci k c = c := if_pos (h.tag hk ht)
theorem L_al {c : Int32 → Option α} (h : Lay t) (hk : k < 68) (ht : (layF k).1 = 20) (hn : n < (layF k).2) : hALd t k (nI n) c = c (mI t k n) := by
  have h1 := layF_le k
  unfold hALd
  rw [if_pos ⟨h.tag hk ht, by rw [h.2.1 k hk]; exact nI_in hn (by omega)⟩, nI_clamp (by omega)]
theorem L_as {c : SM → Option α} (h : Lay t) (hk : k < 68) (ht : (layF k).1 = 20) (hn : n < (layF k).2) : hASt t k (nI n) v c = c (setI t k n v) := by
  have h1 := layF_le k
  unfold hASt
  rw [if_pos ⟨h.tag hk ht, by rw [h.2.1 k hk]; exact nI_in hn (by omega)⟩, nI_clamp (by omega)]
theorem L_bl {c : Int32 → Option α} (h : Lay t) (hk : k < 68) (ht : (layF k).1 = 21) (hn : n < (layF k).2) : hBLd t k (nI n) c = c (mI t k n) := by
  have h1 := layF_le k
  unfold hBLd
  rw [if_pos ⟨h.tag hk ht, by rw [h.2.1 k hk]; exact nI_in hn (by omega)⟩, nI_clamp (by omega)]
theorem L_bs {c : SM → Option α} (h : Lay t) (hk : k < 68) (ht : (layF k).1 = 21) (hn : n < (layF k).2) (hv : v = 0 ∨ v = 1) : hBSt t k (nI n) v c = c (setI t k n v) := by
  have h1 := layF_le k
  unfold hBSt
  rw [if_pos ⟨h.tag hk ht, by rw [h.2.1 k hk]; exact nI_in hn (by omega)⟩, if_pos hv, nI_clamp (by omega)]
theorem L_ln {c : Int32 → Option α} (h : Lay t) (hk : k < 68) (ht : 20 ≤ (layF k).1 ∧ (layF k).1 < 50) : hALen t k c = c (nI (layF k).2) := by
  unfold hALen
  rw [h.2.1 k hk, if_pos ht]; rfl
theorem bI_rI {f : Int32 → SM → OR} : bI (rI v t) f = f v t := rfl
theorem bV_rV {f : SM → OR} : bV (rV t) f = f t := rfl
theorem bQ_rN {f : SM → OR} {g : Nat → SM → OR} : bQ (rN t) f g = f t := rfl
theorem bQ_rR {f : SM → OR} {g : Nat → SM → OR} : bQ (rR r t) f g = g r t := rfl
theorem bI_ite {p : Prop} [Decidable p] {x y : OR} {f : Int32 → SM → OR} : bI (if p then x else y) f = if p then bI x f else bI y f := by split <;> rfl
end
