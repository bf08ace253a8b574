section
/-! the fixed cells: tags, lengths, references -/
def layL : List (Nat × Nat) := [(10, 0), (1, 0), (32, 8), (20, 512), (20, 8), (7, 0), (36, 12), (20, 6), (20, 6), (38, 6), (4, 0), (20, 160), (20, 160), (3, 0), (20, 8), (35, 4), (9, 0), (20, 512), (20, 128), (20, 256), (20, 256), (21, 256), (0, 0), (20, 768), (20, 7), (20, 6), (20, 1), (20, 1), (20, 3), (8, 0), (20, 160), (5, 0), (20, 40), (5, 0), (20, 40), (5, 0), (20, 40), (5, 0), (20, 40), (11, 0), (20, 8), (20, 8), (20, 8), (20, 8), (20, 8), (20, 12), (20, 12), (20, 12), (20, 12), (20, 6), (20, 160), (20, 1200), (20, 24), (20, 8), (20, 4), (20, 4), (20, 160), (20, 37), (20, 96), (20, 200), (20, 200), (20, 6), (20, 512), (20, 512), (20, 6), (20, 768), (20, 128), (20, 8)]
def refL : List (Nat × Nat × Nat) := [(0, 3, 1), (0, 4, 5), (0, 5, 8), (0, 7, 9), (0, 10, 10), (0, 11, 13), (0, 12, 15), (0, 13, 16), (0, 14, 19), (0, 15, 20), (0, 16, 21), (0, 17, 22), (1, 0, 2), (1, 2, 3), (1, 3, 4), (5, 0, 6), (5, 2, 7), (10, 0, 11), (10, 7, 12), (13, 5, 14), (15, 0, 31), (15, 1, 33), (15, 2, 35), (15, 3, 37), (16, 0, 17), (16, 2, 18), (22, 0, 23), (22, 1, 24), (22, 2, 25), (22, 3, 5), (29, 0, 26), (29, 1, 27), (29, 2, 28), (29, 3, 30), (31, 2, 32), (33, 2, 34), (35, 2, 36), (37, 2, 38), (39, 4, 40), (39, 5, 41), (39, 6, 42), (39, 7, 43), (39, 8, 44), (39, 10, 45), (39, 11, 46), (39, 12, 47), (39, 13, 48), (39, 15, 49), (39, 16, 50), (39, 18, 51), (39, 19, 52), (39, 27, 53), (39, 28, 54), (39, 29, 55), (39, 30, 56), (39, 31, 57), (39, 36, 58), (39, 37, 59), (39, 41, 60), (39, 42, 61), (39, 43, 62), (39, 44, 63), (39, 46, 64), (39, 47, 65), (39, 48, 66), (39, 49, 67)]
def layF (k : Nat) : Nat × Nat := layL.getD k (0, 0)
def refB (k j r : Nat) : Bool := refL.contains (k, j, r)
/-- the fixed cells stand -/
def Lay (t : SM) : Prop := 68 ≤ mN t ∧ (∀ k, k < 68 → mT t k = layF k) ∧ ∀ z ∈ refL, mR t z.1 z.2.1 = some z.2.2
theorem layF_le (k : Nat) : (layF k).2 ≤ 1200 := by
  have h : ∀ z ∈ layL, z.2 ≤ 1200 := by decide +kernel
  unfold layF
  rw [List.getD_eq_getElem?_getD]
  cases hq : layL[k]? with
  | none => exact Nat.zero_le _
  | some z => exact h z (List.mem_of_getElem? hq)
variable {α : Type} {t : SM} {ci k j r a b n : Nat} {v w : Int32}
theorem setI_T : mT (setI t k j v) = mT t := rfl
theorem setI_R : mR (setI t k j v) = mR t := rfl
theorem setI_N : mN (setI t k j v) = mN t := rfl
theorem setI_Z : mZ (setI t k j v) = mZ t := rfl
theorem setA_T {f : Nat → Int32} : mT (setA t k f) = mT t := rfl
theorem setA_R {f : Nat → Int32} : mR (setA t k f) = mR t := rfl
theorem setA_N {f : Nat → Int32} : mN (setA t k f) = mN t := rfl
theorem setA_Z {f : Nat → Int32} : mZ (setA t k f) = mZ t := rfl
theorem setA_I {f : Nat → Int32} {q : Nat} : mI (setA t k f) q = if q = k then f else mI t q := rfl
theorem setI_I {q i : Nat} : mI (setI t k j v) q i = if q = k ∧ i = j then v else mI t q i := by
  show (if q = k then upd (t.1 k) j v else t.1 q) i = _
  by_cases hq : q = k
  · subst hq
    rw [if_pos rfl]
    by_cases hi : i = j
    · subst hi; simp [upd]
    · simp [upd, hi, mI]
  · rw [if_neg hq, if_neg (fun h => hq h.1)]; rfl
theorem setI_ne {q : Nat} (h : q ≠ k) : mI (setI t k j v) q = mI t q := if_neg h
theorem setI_eq {q i : Nat} (h1 : q = k) (h2 : i = j) : mI (setI t k j v) q i = v := by rw [setI_I, if_pos ⟨h1, h2⟩]
theorem Lay_setI : Lay (setI t k j v) ↔ Lay t := ⟨fun h => h, fun h => h⟩
theorem Lay_setA {f : Nat → Int32} : Lay (setA t k f) ↔ Lay t := ⟨fun h => h, fun h => h⟩
theorem Lay.tag (h : Lay t) (hk : k < 68) (ht : (layF k).1 = ci) : (mT t k).1 = ci := by rw [h.2.1 k hk]; exact ht
theorem Lay.ref (h : Lay t) (hr : refB k j r = true) : mR t k j = some r := by
  have := h.2.2 (k, j, r) (List.elem_iff.mp hr)
  exact this
theorem L_gI {c : Int32 → Option α} (h : Lay t) (hk : k < 68) (ht : (layF k).1 = ci) : hGetI t ci k j c = c (mI t k j) := if_pos (h.tag hk ht)
theorem L_gC {c : Option α} (h : Lay t) (hk : k < 68) (ht : (layF k).1 = ci) (hr : refB k j r = true) : hGetC t ci k j r c = c := if_pos ⟨h.tag hk ht, h.ref hr⟩
theorem L_pI {c : SM → Option α} (h : Lay t) (hk : k < 68) (ht : (layF k).1 = ci) : hPutI t ci k j v c = c (setI t k j v) := if_pos (h.tag hk ht)
theorem L_rc {c : Option α} (h : Lay t) (hk : k < 68) (ht : (layF k).1 = ci) : hRecv t ci k c = c := if_pos (h.tag hk ht)
theorem L_al {N : Nat} {c : Int32 → Option α} (h : Lay t) (hk : k < 68) (ht : layF k = (20, N)) (hn : n < N) : hALd t k (nI n) c = c (mI t k n) := by
  have h1 := layF_le k
  have h2 : mT t k = (20, N) := by rw [h.2.1 k hk]; exact ht
  rw [ht] at h1
  unfold hALd
  rw [h2, if_pos ⟨rfl, nI_in hn (by omega)⟩, nI_clamp (by omega)]
theorem L_as {N : Nat} {c : SM → Option α} (h : Lay t) (hk : k < 68) (ht : layF k = (20, N)) (hn : n < N) : hASt t k (nI n) v c = c (setI t k n v) := by
  have h1 := layF_le k
  have h2 : mT t k = (20, N) := by rw [h.2.1 k hk]; exact ht
  rw [ht] at h1
  unfold hASt
  rw [h2, if_pos ⟨rfl, nI_in hn (by omega)⟩, nI_clamp (by omega)]
theorem L_bl {N : Nat} {c : Int32 → Option α} (h : Lay t) (hk : k < 68) (ht : layF k = (21, N)) (hn : n < N) : hBLd t k (nI n) c = c (mI t k n) := by
  have h1 := layF_le k
  have h2 : mT t k = (21, N) := by rw [h.2.1 k hk]; exact ht
  rw [ht] at h1
  unfold hBLd
  rw [h2, if_pos ⟨rfl, nI_in hn (by omega)⟩, nI_clamp (by omega)]
theorem L_bs {N : Nat} {c : SM → Option α} (h : Lay t) (hk : k < 68) (ht : layF k = (21, N)) (hn : n < N) (hv : v = 0 ∨ v = 1) : hBSt t k (nI n) v c = c (setI t k n v) := by
  have h1 := layF_le k
  have h2 : mT t k = (21, N) := by rw [h.2.1 k hk]; exact ht
  rw [ht] at h1
  unfold hBSt
  rw [h2, if_pos ⟨rfl, nI_in hn (by omega)⟩, if_pos hv, nI_clamp (by omega)]
theorem L_ql {N : Nat} {cn : Option α} {cs : Nat → Option α} (h : Lay t) (hk : k < 68) (ht : layF k = (30 + ci, N)) (hn : n < N) (hr : mR t k n = some r) : hQLd t ci k (nI n) cn cs = cs r := by
  have h1 := layF_le k
  have h2 : mT t k = (30 + ci, N) := by rw [h.2.1 k hk]; exact ht
  rw [ht] at h1
  unfold hQLd
  rw [h2, if_pos ⟨rfl, nI_in hn (by omega)⟩, nI_clamp (by omega), hr]
theorem L_ln {N g : Nat} {c : Int32 → Option α} (h : Lay t) (hk : k < 68) (ht : layF k = (g, N) ∧ 20 ≤ g ∧ g < 50) : hALen t k c = c (nI N) := by
  unfold hALen
  rw [h.2.1 k hk, ht.1, if_pos ht.2]; rfl
theorem bI_rI {f : Int32 → SM → OR} : bI (rI v t) f = f v t := id rfl
theorem bV_rV {f : SM → OR} : bV (rV t) f = f t := id rfl
theorem bQ_rN {f : SM → OR} {g : Nat → SM → OR} : bQ (rN t) f g = f t := id rfl
theorem bQ_rR {f : SM → OR} {g : Nat → SM → OR} : bQ (rR r t) f g = g r t := id rfl
theorem bI_ite {p : Prop} [Decidable p] {x y : OR} {f : Int32 → SM → OR} : bI (if p then x else y) f = if p then bI x f else bI y f := by split <;> rfl
theorem hZ0 {c : Option α} : hZ 0 c = c := id rfl
theorem hZ1 {c : Option α} : hZ 1 c = c := id rfl
end
section
variable {α : Type} {t : SM} {k j r n : Nat} {v : Int32}
theorem gI_0 (h : Lay t) {c : Int32 → Option α} : hGetI t 10 0 j c = c (mI t 0 j) := L_gI h (by decide) rfl
theorem pI_0 (h : Lay t) {c : SM → Option α} : hPutI t 10 0 j v c = c (setI t 0 j v) := L_pI h (by decide) rfl
theorem rc_0 (h : Lay t) {c : Option α} : hRecv t 10 0 c = c := L_rc h (by decide) rfl
theorem gI_1 (h : Lay t) {c : Int32 → Option α} : hGetI t 1 1 j c = c (mI t 1 j) := L_gI h (by decide) rfl
theorem pI_1 (h : Lay t) {c : SM → Option α} : hPutI t 1 1 j v c = c (setI t 1 j v) := L_pI h (by decide) rfl
theorem rc_1 (h : Lay t) {c : Option α} : hRecv t 1 1 c = c := L_rc h (by decide) rfl
theorem ln_2 (h : Lay t) {c : Int32 → Option α} : hALen t 2 c = c (nI 8) := L_ln h (by decide) ⟨rfl, by decide, by decide⟩
theorem ql_2 (h : Lay t) (hn : n < 8) (hr : mR t 2 n = some r) {cn : Option α} {cs : Nat → Option α} : hQLd t 2 2 (nI n) cn cs = cs r := L_ql h (by decide) rfl hn hr
theorem al_3 (h : Lay t) (hn : n < 512) {c : Int32 → Option α} : hALd t 3 (nI n) c = c (mI t 3 n) := L_al h (by decide) rfl hn
theorem as_3 (h : Lay t) (hn : n < 512) {c : SM → Option α} : hASt t 3 (nI n) v c = c (setI t 3 n v) := L_as h (by decide) rfl hn
theorem ln_3 (h : Lay t) {c : Int32 → Option α} : hALen t 3 c = c (nI 512) := L_ln h (by decide) ⟨rfl, by decide, by decide⟩
theorem al_4 (h : Lay t) (hn : n < 8) {c : Int32 → Option α} : hALd t 4 (nI n) c = c (mI t 4 n) := L_al h (by decide) rfl hn
theorem as_4 (h : Lay t) (hn : n < 8) {c : SM → Option α} : hASt t 4 (nI n) v c = c (setI t 4 n v) := L_as h (by decide) rfl hn
theorem ln_4 (h : Lay t) {c : Int32 → Option α} : hALen t 4 c = c (nI 8) := L_ln h (by decide) ⟨rfl, by decide, by decide⟩
theorem gI_5 (h : Lay t) {c : Int32 → Option α} : hGetI t 7 5 j c = c (mI t 5 j) := L_gI h (by decide) rfl
theorem pI_5 (h : Lay t) {c : SM → Option α} : hPutI t 7 5 j v c = c (setI t 5 j v) := L_pI h (by decide) rfl
theorem rc_5 (h : Lay t) {c : Option α} : hRecv t 7 5 c = c := L_rc h (by decide) rfl
theorem ln_6 (h : Lay t) {c : Int32 → Option α} : hALen t 6 c = c (nI 12) := L_ln h (by decide) ⟨rfl, by decide, by decide⟩
theorem ql_6 (h : Lay t) (hn : n < 12) (hr : mR t 6 n = some r) {cn : Option α} {cs : Nat → Option α} : hQLd t 6 6 (nI n) cn cs = cs r := L_ql h (by decide) rfl hn hr
theorem al_7 (h : Lay t) (hn : n < 6) {c : Int32 → Option α} : hALd t 7 (nI n) c = c (mI t 7 n) := L_al h (by decide) rfl hn
theorem as_7 (h : Lay t) (hn : n < 6) {c : SM → Option α} : hASt t 7 (nI n) v c = c (setI t 7 n v) := L_as h (by decide) rfl hn
theorem ln_7 (h : Lay t) {c : Int32 → Option α} : hALen t 7 c = c (nI 6) := L_ln h (by decide) ⟨rfl, by decide, by decide⟩
theorem al_8 (h : Lay t) (hn : n < 6) {c : Int32 → Option α} : hALd t 8 (nI n) c = c (mI t 8 n) := L_al h (by decide) rfl hn
theorem as_8 (h : Lay t) (hn : n < 6) {c : SM → Option α} : hASt t 8 (nI n) v c = c (setI t 8 n v) := L_as h (by decide) rfl hn
theorem ln_8 (h : Lay t) {c : Int32 → Option α} : hALen t 8 c = c (nI 6) := L_ln h (by decide) ⟨rfl, by decide, by decide⟩
theorem ln_9 (h : Lay t) {c : Int32 → Option α} : hALen t 9 c = c (nI 6) := L_ln h (by decide) ⟨rfl, by decide, by decide⟩
theorem ql_9 (h : Lay t) (hn : n < 6) (hr : mR t 9 n = some r) {cn : Option α} {cs : Nat → Option α} : hQLd t 8 9 (nI n) cn cs = cs r := L_ql h (by decide) rfl hn hr
theorem gI_10 (h : Lay t) {c : Int32 → Option α} : hGetI t 4 10 j c = c (mI t 10 j) := L_gI h (by decide) rfl
theorem pI_10 (h : Lay t) {c : SM → Option α} : hPutI t 4 10 j v c = c (setI t 10 j v) := L_pI h (by decide) rfl
theorem rc_10 (h : Lay t) {c : Option α} : hRecv t 4 10 c = c := L_rc h (by decide) rfl
theorem al_11 (h : Lay t) (hn : n < 160) {c : Int32 → Option α} : hALd t 11 (nI n) c = c (mI t 11 n) := L_al h (by decide) rfl hn
theorem as_11 (h : Lay t) (hn : n < 160) {c : SM → Option α} : hASt t 11 (nI n) v c = c (setI t 11 n v) := L_as h (by decide) rfl hn
theorem ln_11 (h : Lay t) {c : Int32 → Option α} : hALen t 11 c = c (nI 160) := L_ln h (by decide) ⟨rfl, by decide, by decide⟩
theorem al_12 (h : Lay t) (hn : n < 160) {c : Int32 → Option α} : hALd t 12 (nI n) c = c (mI t 12 n) := L_al h (by decide) rfl hn
theorem as_12 (h : Lay t) (hn : n < 160) {c : SM → Option α} : hASt t 12 (nI n) v c = c (setI t 12 n v) := L_as h (by decide) rfl hn
theorem ln_12 (h : Lay t) {c : Int32 → Option α} : hALen t 12 c = c (nI 160) := L_ln h (by decide) ⟨rfl, by decide, by decide⟩
theorem gI_13 (h : Lay t) {c : Int32 → Option α} : hGetI t 3 13 j c = c (mI t 13 j) := L_gI h (by decide) rfl
theorem pI_13 (h : Lay t) {c : SM → Option α} : hPutI t 3 13 j v c = c (setI t 13 j v) := L_pI h (by decide) rfl
theorem rc_13 (h : Lay t) {c : Option α} : hRecv t 3 13 c = c := L_rc h (by decide) rfl
theorem al_14 (h : Lay t) (hn : n < 8) {c : Int32 → Option α} : hALd t 14 (nI n) c = c (mI t 14 n) := L_al h (by decide) rfl hn
theorem as_14 (h : Lay t) (hn : n < 8) {c : SM → Option α} : hASt t 14 (nI n) v c = c (setI t 14 n v) := L_as h (by decide) rfl hn
theorem ln_14 (h : Lay t) {c : Int32 → Option α} : hALen t 14 c = c (nI 8) := L_ln h (by decide) ⟨rfl, by decide, by decide⟩
theorem ln_15 (h : Lay t) {c : Int32 → Option α} : hALen t 15 c = c (nI 4) := L_ln h (by decide) ⟨rfl, by decide, by decide⟩
theorem ql_15 (h : Lay t) (hn : n < 4) (hr : mR t 15 n = some r) {cn : Option α} {cs : Nat → Option α} : hQLd t 5 15 (nI n) cn cs = cs r := L_ql h (by decide) rfl hn hr
theorem gI_16 (h : Lay t) {c : Int32 → Option α} : hGetI t 9 16 j c = c (mI t 16 j) := L_gI h (by decide) rfl
theorem pI_16 (h : Lay t) {c : SM → Option α} : hPutI t 9 16 j v c = c (setI t 16 j v) := L_pI h (by decide) rfl
theorem rc_16 (h : Lay t) {c : Option α} : hRecv t 9 16 c = c := L_rc h (by decide) rfl
theorem al_17 (h : Lay t) (hn : n < 512) {c : Int32 → Option α} : hALd t 17 (nI n) c = c (mI t 17 n) := L_al h (by decide) rfl hn
theorem as_17 (h : Lay t) (hn : n < 512) {c : SM → Option α} : hASt t 17 (nI n) v c = c (setI t 17 n v) := L_as h (by decide) rfl hn
theorem ln_17 (h : Lay t) {c : Int32 → Option α} : hALen t 17 c = c (nI 512) := L_ln h (by decide) ⟨rfl, by decide, by decide⟩
theorem al_18 (h : Lay t) (hn : n < 128) {c : Int32 → Option α} : hALd t 18 (nI n) c = c (mI t 18 n) := L_al h (by decide) rfl hn
theorem as_18 (h : Lay t) (hn : n < 128) {c : SM → Option α} : hASt t 18 (nI n) v c = c (setI t 18 n v) := L_as h (by decide) rfl hn
theorem ln_18 (h : Lay t) {c : Int32 → Option α} : hALen t 18 c = c (nI 128) := L_ln h (by decide) ⟨rfl, by decide, by decide⟩
theorem al_19 (h : Lay t) (hn : n < 256) {c : Int32 → Option α} : hALd t 19 (nI n) c = c (mI t 19 n) := L_al h (by decide) rfl hn
theorem as_19 (h : Lay t) (hn : n < 256) {c : SM → Option α} : hASt t 19 (nI n) v c = c (setI t 19 n v) := L_as h (by decide) rfl hn
theorem ln_19 (h : Lay t) {c : Int32 → Option α} : hALen t 19 c = c (nI 256) := L_ln h (by decide) ⟨rfl, by decide, by decide⟩
theorem al_20 (h : Lay t) (hn : n < 256) {c : Int32 → Option α} : hALd t 20 (nI n) c = c (mI t 20 n) := L_al h (by decide) rfl hn
theorem as_20 (h : Lay t) (hn : n < 256) {c : SM → Option α} : hASt t 20 (nI n) v c = c (setI t 20 n v) := L_as h (by decide) rfl hn
theorem ln_20 (h : Lay t) {c : Int32 → Option α} : hALen t 20 c = c (nI 256) := L_ln h (by decide) ⟨rfl, by decide, by decide⟩
theorem bl_21 (h : Lay t) (hn : n < 256) {c : Int32 → Option α} : hBLd t 21 (nI n) c = c (mI t 21 n) := L_bl h (by decide) rfl hn
theorem bs_21 (h : Lay t) (hn : n < 256) (hv : v = 0 ∨ v = 1) {c : SM → Option α} : hBSt t 21 (nI n) v c = c (setI t 21 n v) := L_bs h (by decide) rfl hn hv
theorem ln_21 (h : Lay t) {c : Int32 → Option α} : hALen t 21 c = c (nI 256) := L_ln h (by decide) ⟨rfl, by decide, by decide⟩
theorem gI_22 (h : Lay t) {c : Int32 → Option α} : hGetI t 0 22 j c = c (mI t 22 j) := L_gI h (by decide) rfl
theorem pI_22 (h : Lay t) {c : SM → Option α} : hPutI t 0 22 j v c = c (setI t 22 j v) := L_pI h (by decide) rfl
theorem rc_22 (h : Lay t) {c : Option α} : hRecv t 0 22 c = c := L_rc h (by decide) rfl
theorem al_23 (h : Lay t) (hn : n < 768) {c : Int32 → Option α} : hALd t 23 (nI n) c = c (mI t 23 n) := L_al h (by decide) rfl hn
theorem as_23 (h : Lay t) (hn : n < 768) {c : SM → Option α} : hASt t 23 (nI n) v c = c (setI t 23 n v) := L_as h (by decide) rfl hn
theorem ln_23 (h : Lay t) {c : Int32 → Option α} : hALen t 23 c = c (nI 768) := L_ln h (by decide) ⟨rfl, by decide, by decide⟩
theorem al_24 (h : Lay t) (hn : n < 7) {c : Int32 → Option α} : hALd t 24 (nI n) c = c (mI t 24 n) := L_al h (by decide) rfl hn
theorem as_24 (h : Lay t) (hn : n < 7) {c : SM → Option α} : hASt t 24 (nI n) v c = c (setI t 24 n v) := L_as h (by decide) rfl hn
theorem ln_24 (h : Lay t) {c : Int32 → Option α} : hALen t 24 c = c (nI 7) := L_ln h (by decide) ⟨rfl, by decide, by decide⟩
theorem al_25 (h : Lay t) (hn : n < 6) {c : Int32 → Option α} : hALd t 25 (nI n) c = c (mI t 25 n) := L_al h (by decide) rfl hn
theorem as_25 (h : Lay t) (hn : n < 6) {c : SM → Option α} : hASt t 25 (nI n) v c = c (setI t 25 n v) := L_as h (by decide) rfl hn
theorem ln_25 (h : Lay t) {c : Int32 → Option α} : hALen t 25 c = c (nI 6) := L_ln h (by decide) ⟨rfl, by decide, by decide⟩
theorem gI_31 (h : Lay t) {c : Int32 → Option α} : hGetI t 5 31 j c = c (mI t 31 j) := L_gI h (by decide) rfl
theorem pI_31 (h : Lay t) {c : SM → Option α} : hPutI t 5 31 j v c = c (setI t 31 j v) := L_pI h (by decide) rfl
theorem rc_31 (h : Lay t) {c : Option α} : hRecv t 5 31 c = c := L_rc h (by decide) rfl
theorem al_32 (h : Lay t) (hn : n < 40) {c : Int32 → Option α} : hALd t 32 (nI n) c = c (mI t 32 n) := L_al h (by decide) rfl hn
theorem as_32 (h : Lay t) (hn : n < 40) {c : SM → Option α} : hASt t 32 (nI n) v c = c (setI t 32 n v) := L_as h (by decide) rfl hn
theorem ln_32 (h : Lay t) {c : Int32 → Option α} : hALen t 32 c = c (nI 40) := L_ln h (by decide) ⟨rfl, by decide, by decide⟩
theorem gI_33 (h : Lay t) {c : Int32 → Option α} : hGetI t 5 33 j c = c (mI t 33 j) := L_gI h (by decide) rfl
theorem pI_33 (h : Lay t) {c : SM → Option α} : hPutI t 5 33 j v c = c (setI t 33 j v) := L_pI h (by decide) rfl
theorem rc_33 (h : Lay t) {c : Option α} : hRecv t 5 33 c = c := L_rc h (by decide) rfl
theorem al_34 (h : Lay t) (hn : n < 40) {c : Int32 → Option α} : hALd t 34 (nI n) c = c (mI t 34 n) := L_al h (by decide) rfl hn
theorem as_34 (h : Lay t) (hn : n < 40) {c : SM → Option α} : hASt t 34 (nI n) v c = c (setI t 34 n v) := L_as h (by decide) rfl hn
theorem ln_34 (h : Lay t) {c : Int32 → Option α} : hALen t 34 c = c (nI 40) := L_ln h (by decide) ⟨rfl, by decide, by decide⟩
theorem gI_35 (h : Lay t) {c : Int32 → Option α} : hGetI t 5 35 j c = c (mI t 35 j) := L_gI h (by decide) rfl
theorem pI_35 (h : Lay t) {c : SM → Option α} : hPutI t 5 35 j v c = c (setI t 35 j v) := L_pI h (by decide) rfl
theorem rc_35 (h : Lay t) {c : Option α} : hRecv t 5 35 c = c := L_rc h (by decide) rfl
theorem al_36 (h : Lay t) (hn : n < 40) {c : Int32 → Option α} : hALd t 36 (nI n) c = c (mI t 36 n) := L_al h (by decide) rfl hn
theorem as_36 (h : Lay t) (hn : n < 40) {c : SM → Option α} : hASt t 36 (nI n) v c = c (setI t 36 n v) := L_as h (by decide) rfl hn
theorem ln_36 (h : Lay t) {c : Int32 → Option α} : hALen t 36 c = c (nI 40) := L_ln h (by decide) ⟨rfl, by decide, by decide⟩
theorem gI_37 (h : Lay t) {c : Int32 → Option α} : hGetI t 5 37 j c = c (mI t 37 j) := L_gI h (by decide) rfl
theorem pI_37 (h : Lay t) {c : SM → Option α} : hPutI t 5 37 j v c = c (setI t 37 j v) := L_pI h (by decide) rfl
theorem rc_37 (h : Lay t) {c : Option α} : hRecv t 5 37 c = c := L_rc h (by decide) rfl
theorem al_38 (h : Lay t) (hn : n < 40) {c : Int32 → Option α} : hALd t 38 (nI n) c = c (mI t 38 n) := L_al h (by decide) rfl hn
theorem as_38 (h : Lay t) (hn : n < 40) {c : SM → Option α} : hASt t 38 (nI n) v c = c (setI t 38 n v) := L_as h (by decide) rfl hn
theorem ln_38 (h : Lay t) {c : Int32 → Option α} : hALen t 38 c = c (nI 40) := L_ln h (by decide) ⟨rfl, by decide, by decide⟩
theorem gI_39 (h : Lay t) {c : Int32 → Option α} : hGetI t 11 39 j c = c (mI t 39 j) := L_gI h (by decide) rfl
theorem pI_39 (h : Lay t) {c : SM → Option α} : hPutI t 11 39 j v c = c (setI t 39 j v) := L_pI h (by decide) rfl
theorem rc_39 (h : Lay t) {c : Option α} : hRecv t 11 39 c = c := L_rc h (by decide) rfl
theorem al_40 (h : Lay t) (hn : n < 8) {c : Int32 → Option α} : hALd t 40 (nI n) c = c (mI t 40 n) := L_al h (by decide) rfl hn
theorem as_40 (h : Lay t) (hn : n < 8) {c : SM → Option α} : hASt t 40 (nI n) v c = c (setI t 40 n v) := L_as h (by decide) rfl hn
theorem ln_40 (h : Lay t) {c : Int32 → Option α} : hALen t 40 c = c (nI 8) := L_ln h (by decide) ⟨rfl, by decide, by decide⟩
theorem al_41 (h : Lay t) (hn : n < 8) {c : Int32 → Option α} : hALd t 41 (nI n) c = c (mI t 41 n) := L_al h (by decide) rfl hn
theorem as_41 (h : Lay t) (hn : n < 8) {c : SM → Option α} : hASt t 41 (nI n) v c = c (setI t 41 n v) := L_as h (by decide) rfl hn
theorem ln_41 (h : Lay t) {c : Int32 → Option α} : hALen t 41 c = c (nI 8) := L_ln h (by decide) ⟨rfl, by decide, by decide⟩
theorem al_42 (h : Lay t) (hn : n < 8) {c : Int32 → Option α} : hALd t 42 (nI n) c = c (mI t 42 n) := L_al h (by decide) rfl hn
theorem as_42 (h : Lay t) (hn : n < 8) {c : SM → Option α} : hASt t 42 (nI n) v c = c (setI t 42 n v) := L_as h (by decide) rfl hn
theorem ln_42 (h : Lay t) {c : Int32 → Option α} : hALen t 42 c = c (nI 8) := L_ln h (by decide) ⟨rfl, by decide, by decide⟩
theorem al_43 (h : Lay t) (hn : n < 8) {c : Int32 → Option α} : hALd t 43 (nI n) c = c (mI t 43 n) := L_al h (by decide) rfl hn
theorem as_43 (h : Lay t) (hn : n < 8) {c : SM → Option α} : hASt t 43 (nI n) v c = c (setI t 43 n v) := L_as h (by decide) rfl hn
theorem ln_43 (h : Lay t) {c : Int32 → Option α} : hALen t 43 c = c (nI 8) := L_ln h (by decide) ⟨rfl, by decide, by decide⟩
theorem al_44 (h : Lay t) (hn : n < 8) {c : Int32 → Option α} : hALd t 44 (nI n) c = c (mI t 44 n) := L_al h (by decide) rfl hn
theorem as_44 (h : Lay t) (hn : n < 8) {c : SM → Option α} : hASt t 44 (nI n) v c = c (setI t 44 n v) := L_as h (by decide) rfl hn
theorem ln_44 (h : Lay t) {c : Int32 → Option α} : hALen t 44 c = c (nI 8) := L_ln h (by decide) ⟨rfl, by decide, by decide⟩
theorem al_45 (h : Lay t) (hn : n < 12) {c : Int32 → Option α} : hALd t 45 (nI n) c = c (mI t 45 n) := L_al h (by decide) rfl hn
theorem as_45 (h : Lay t) (hn : n < 12) {c : SM → Option α} : hASt t 45 (nI n) v c = c (setI t 45 n v) := L_as h (by decide) rfl hn
theorem ln_45 (h : Lay t) {c : Int32 → Option α} : hALen t 45 c = c (nI 12) := L_ln h (by decide) ⟨rfl, by decide, by decide⟩
theorem al_46 (h : Lay t) (hn : n < 12) {c : Int32 → Option α} : hALd t 46 (nI n) c = c (mI t 46 n) := L_al h (by decide) rfl hn
theorem as_46 (h : Lay t) (hn : n < 12) {c : SM → Option α} : hASt t 46 (nI n) v c = c (setI t 46 n v) := L_as h (by decide) rfl hn
theorem ln_46 (h : Lay t) {c : Int32 → Option α} : hALen t 46 c = c (nI 12) := L_ln h (by decide) ⟨rfl, by decide, by decide⟩
theorem al_47 (h : Lay t) (hn : n < 12) {c : Int32 → Option α} : hALd t 47 (nI n) c = c (mI t 47 n) := L_al h (by decide) rfl hn
theorem as_47 (h : Lay t) (hn : n < 12) {c : SM → Option α} : hASt t 47 (nI n) v c = c (setI t 47 n v) := L_as h (by decide) rfl hn
theorem ln_47 (h : Lay t) {c : Int32 → Option α} : hALen t 47 c = c (nI 12) := L_ln h (by decide) ⟨rfl, by decide, by decide⟩
theorem al_48 (h : Lay t) (hn : n < 12) {c : Int32 → Option α} : hALd t 48 (nI n) c = c (mI t 48 n) := L_al h (by decide) rfl hn
theorem as_48 (h : Lay t) (hn : n < 12) {c : SM → Option α} : hASt t 48 (nI n) v c = c (setI t 48 n v) := L_as h (by decide) rfl hn
theorem ln_48 (h : Lay t) {c : Int32 → Option α} : hALen t 48 c = c (nI 12) := L_ln h (by decide) ⟨rfl, by decide, by decide⟩
theorem al_49 (h : Lay t) (hn : n < 6) {c : Int32 → Option α} : hALd t 49 (nI n) c = c (mI t 49 n) := L_al h (by decide) rfl hn
theorem as_49 (h : Lay t) (hn : n < 6) {c : SM → Option α} : hASt t 49 (nI n) v c = c (setI t 49 n v) := L_as h (by decide) rfl hn
theorem ln_49 (h : Lay t) {c : Int32 → Option α} : hALen t 49 c = c (nI 6) := L_ln h (by decide) ⟨rfl, by decide, by decide⟩
theorem al_50 (h : Lay t) (hn : n < 160) {c : Int32 → Option α} : hALd t 50 (nI n) c = c (mI t 50 n) := L_al h (by decide) rfl hn
theorem as_50 (h : Lay t) (hn : n < 160) {c : SM → Option α} : hASt t 50 (nI n) v c = c (setI t 50 n v) := L_as h (by decide) rfl hn
theorem ln_50 (h : Lay t) {c : Int32 → Option α} : hALen t 50 c = c (nI 160) := L_ln h (by decide) ⟨rfl, by decide, by decide⟩
theorem al_51 (h : Lay t) (hn : n < 1200) {c : Int32 → Option α} : hALd t 51 (nI n) c = c (mI t 51 n) := L_al h (by decide) rfl hn
theorem as_51 (h : Lay t) (hn : n < 1200) {c : SM → Option α} : hASt t 51 (nI n) v c = c (setI t 51 n v) := L_as h (by decide) rfl hn
theorem ln_51 (h : Lay t) {c : Int32 → Option α} : hALen t 51 c = c (nI 1200) := L_ln h (by decide) ⟨rfl, by decide, by decide⟩
theorem al_52 (h : Lay t) (hn : n < 24) {c : Int32 → Option α} : hALd t 52 (nI n) c = c (mI t 52 n) := L_al h (by decide) rfl hn
theorem as_52 (h : Lay t) (hn : n < 24) {c : SM → Option α} : hASt t 52 (nI n) v c = c (setI t 52 n v) := L_as h (by decide) rfl hn
theorem ln_52 (h : Lay t) {c : Int32 → Option α} : hALen t 52 c = c (nI 24) := L_ln h (by decide) ⟨rfl, by decide, by decide⟩
theorem al_53 (h : Lay t) (hn : n < 8) {c : Int32 → Option α} : hALd t 53 (nI n) c = c (mI t 53 n) := L_al h (by decide) rfl hn
theorem as_53 (h : Lay t) (hn : n < 8) {c : SM → Option α} : hASt t 53 (nI n) v c = c (setI t 53 n v) := L_as h (by decide) rfl hn
theorem ln_53 (h : Lay t) {c : Int32 → Option α} : hALen t 53 c = c (nI 8) := L_ln h (by decide) ⟨rfl, by decide, by decide⟩
theorem al_54 (h : Lay t) (hn : n < 4) {c : Int32 → Option α} : hALd t 54 (nI n) c = c (mI t 54 n) := L_al h (by decide) rfl hn
theorem as_54 (h : Lay t) (hn : n < 4) {c : SM → Option α} : hASt t 54 (nI n) v c = c (setI t 54 n v) := L_as h (by decide) rfl hn
theorem ln_54 (h : Lay t) {c : Int32 → Option α} : hALen t 54 c = c (nI 4) := L_ln h (by decide) ⟨rfl, by decide, by decide⟩
theorem al_55 (h : Lay t) (hn : n < 4) {c : Int32 → Option α} : hALd t 55 (nI n) c = c (mI t 55 n) := L_al h (by decide) rfl hn
theorem as_55 (h : Lay t) (hn : n < 4) {c : SM → Option α} : hASt t 55 (nI n) v c = c (setI t 55 n v) := L_as h (by decide) rfl hn
theorem ln_55 (h : Lay t) {c : Int32 → Option α} : hALen t 55 c = c (nI 4) := L_ln h (by decide) ⟨rfl, by decide, by decide⟩
theorem al_56 (h : Lay t) (hn : n < 160) {c : Int32 → Option α} : hALd t 56 (nI n) c = c (mI t 56 n) := L_al h (by decide) rfl hn
theorem as_56 (h : Lay t) (hn : n < 160) {c : SM → Option α} : hASt t 56 (nI n) v c = c (setI t 56 n v) := L_as h (by decide) rfl hn
theorem ln_56 (h : Lay t) {c : Int32 → Option α} : hALen t 56 c = c (nI 160) := L_ln h (by decide) ⟨rfl, by decide, by decide⟩
theorem al_57 (h : Lay t) (hn : n < 37) {c : Int32 → Option α} : hALd t 57 (nI n) c = c (mI t 57 n) := L_al h (by decide) rfl hn
theorem as_57 (h : Lay t) (hn : n < 37) {c : SM → Option α} : hASt t 57 (nI n) v c = c (setI t 57 n v) := L_as h (by decide) rfl hn
theorem ln_57 (h : Lay t) {c : Int32 → Option α} : hALen t 57 c = c (nI 37) := L_ln h (by decide) ⟨rfl, by decide, by decide⟩
theorem al_58 (h : Lay t) (hn : n < 96) {c : Int32 → Option α} : hALd t 58 (nI n) c = c (mI t 58 n) := L_al h (by decide) rfl hn
theorem as_58 (h : Lay t) (hn : n < 96) {c : SM → Option α} : hASt t 58 (nI n) v c = c (setI t 58 n v) := L_as h (by decide) rfl hn
theorem ln_58 (h : Lay t) {c : Int32 → Option α} : hALen t 58 c = c (nI 96) := L_ln h (by decide) ⟨rfl, by decide, by decide⟩
theorem al_59 (h : Lay t) (hn : n < 200) {c : Int32 → Option α} : hALd t 59 (nI n) c = c (mI t 59 n) := L_al h (by decide) rfl hn
theorem as_59 (h : Lay t) (hn : n < 200) {c : SM → Option α} : hASt t 59 (nI n) v c = c (setI t 59 n v) := L_as h (by decide) rfl hn
theorem ln_59 (h : Lay t) {c : Int32 → Option α} : hALen t 59 c = c (nI 200) := L_ln h (by decide) ⟨rfl, by decide, by decide⟩
theorem al_60 (h : Lay t) (hn : n < 200) {c : Int32 → Option α} : hALd t 60 (nI n) c = c (mI t 60 n) := L_al h (by decide) rfl hn
theorem as_60 (h : Lay t) (hn : n < 200) {c : SM → Option α} : hASt t 60 (nI n) v c = c (setI t 60 n v) := L_as h (by decide) rfl hn
theorem ln_60 (h : Lay t) {c : Int32 → Option α} : hALen t 60 c = c (nI 200) := L_ln h (by decide) ⟨rfl, by decide, by decide⟩
theorem al_61 (h : Lay t) (hn : n < 6) {c : Int32 → Option α} : hALd t 61 (nI n) c = c (mI t 61 n) := L_al h (by decide) rfl hn
theorem as_61 (h : Lay t) (hn : n < 6) {c : SM → Option α} : hASt t 61 (nI n) v c = c (setI t 61 n v) := L_as h (by decide) rfl hn
theorem ln_61 (h : Lay t) {c : Int32 → Option α} : hALen t 61 c = c (nI 6) := L_ln h (by decide) ⟨rfl, by decide, by decide⟩
theorem al_62 (h : Lay t) (hn : n < 512) {c : Int32 → Option α} : hALd t 62 (nI n) c = c (mI t 62 n) := L_al h (by decide) rfl hn
theorem as_62 (h : Lay t) (hn : n < 512) {c : SM → Option α} : hASt t 62 (nI n) v c = c (setI t 62 n v) := L_as h (by decide) rfl hn
theorem ln_62 (h : Lay t) {c : Int32 → Option α} : hALen t 62 c = c (nI 512) := L_ln h (by decide) ⟨rfl, by decide, by decide⟩
theorem al_63 (h : Lay t) (hn : n < 512) {c : Int32 → Option α} : hALd t 63 (nI n) c = c (mI t 63 n) := L_al h (by decide) rfl hn
theorem as_63 (h : Lay t) (hn : n < 512) {c : SM → Option α} : hASt t 63 (nI n) v c = c (setI t 63 n v) := L_as h (by decide) rfl hn
theorem ln_63 (h : Lay t) {c : Int32 → Option α} : hALen t 63 c = c (nI 512) := L_ln h (by decide) ⟨rfl, by decide, by decide⟩
theorem al_64 (h : Lay t) (hn : n < 6) {c : Int32 → Option α} : hALd t 64 (nI n) c = c (mI t 64 n) := L_al h (by decide) rfl hn
theorem as_64 (h : Lay t) (hn : n < 6) {c : SM → Option α} : hASt t 64 (nI n) v c = c (setI t 64 n v) := L_as h (by decide) rfl hn
theorem ln_64 (h : Lay t) {c : Int32 → Option α} : hALen t 64 c = c (nI 6) := L_ln h (by decide) ⟨rfl, by decide, by decide⟩
theorem al_65 (h : Lay t) (hn : n < 768) {c : Int32 → Option α} : hALd t 65 (nI n) c = c (mI t 65 n) := L_al h (by decide) rfl hn
theorem as_65 (h : Lay t) (hn : n < 768) {c : SM → Option α} : hASt t 65 (nI n) v c = c (setI t 65 n v) := L_as h (by decide) rfl hn
theorem ln_65 (h : Lay t) {c : Int32 → Option α} : hALen t 65 c = c (nI 768) := L_ln h (by decide) ⟨rfl, by decide, by decide⟩
theorem al_66 (h : Lay t) (hn : n < 128) {c : Int32 → Option α} : hALd t 66 (nI n) c = c (mI t 66 n) := L_al h (by decide) rfl hn
theorem as_66 (h : Lay t) (hn : n < 128) {c : SM → Option α} : hASt t 66 (nI n) v c = c (setI t 66 n v) := L_as h (by decide) rfl hn
theorem ln_66 (h : Lay t) {c : Int32 → Option α} : hALen t 66 c = c (nI 128) := L_ln h (by decide) ⟨rfl, by decide, by decide⟩
theorem al_67 (h : Lay t) (hn : n < 8) {c : Int32 → Option α} : hALd t 67 (nI n) c = c (mI t 67 n) := L_al h (by decide) rfl hn
theorem as_67 (h : Lay t) (hn : n < 8) {c : SM → Option α} : hASt t 67 (nI n) v c = c (setI t 67 n v) := L_as h (by decide) rfl hn
theorem ln_67 (h : Lay t) {c : Int32 → Option α} : hALen t 67 c = c (nI 8) := L_ln h (by decide) ⟨rfl, by decide, by decide⟩
theorem gC_0_3 (h : Lay t) {c : Option α} : hGetC t 10 0 3 1 c = c := L_gC h (by decide) rfl (by decide +kernel)
theorem gC_0_4 (h : Lay t) {c : Option α} : hGetC t 10 0 4 5 c = c := L_gC h (by decide) rfl (by decide +kernel)
theorem gC_0_5 (h : Lay t) {c : Option α} : hGetC t 10 0 5 8 c = c := L_gC h (by decide) rfl (by decide +kernel)
theorem gC_0_7 (h : Lay t) {c : Option α} : hGetC t 10 0 7 9 c = c := L_gC h (by decide) rfl (by decide +kernel)
theorem gC_0_10 (h : Lay t) {c : Option α} : hGetC t 10 0 10 10 c = c := L_gC h (by decide) rfl (by decide +kernel)
theorem gC_0_11 (h : Lay t) {c : Option α} : hGetC t 10 0 11 13 c = c := L_gC h (by decide) rfl (by decide +kernel)
theorem gC_0_12 (h : Lay t) {c : Option α} : hGetC t 10 0 12 15 c = c := L_gC h (by decide) rfl (by decide +kernel)
theorem gC_0_13 (h : Lay t) {c : Option α} : hGetC t 10 0 13 16 c = c := L_gC h (by decide) rfl (by decide +kernel)
theorem gC_0_14 (h : Lay t) {c : Option α} : hGetC t 10 0 14 19 c = c := L_gC h (by decide) rfl (by decide +kernel)
theorem gC_0_15 (h : Lay t) {c : Option α} : hGetC t 10 0 15 20 c = c := L_gC h (by decide) rfl (by decide +kernel)
theorem gC_0_16 (h : Lay t) {c : Option α} : hGetC t 10 0 16 21 c = c := L_gC h (by decide) rfl (by decide +kernel)
theorem gC_0_17 (h : Lay t) {c : Option α} : hGetC t 10 0 17 22 c = c := L_gC h (by decide) rfl (by decide +kernel)
theorem gC_1_0 (h : Lay t) {c : Option α} : hGetC t 1 1 0 2 c = c := L_gC h (by decide) rfl (by decide +kernel)
theorem gC_1_2 (h : Lay t) {c : Option α} : hGetC t 1 1 2 3 c = c := L_gC h (by decide) rfl (by decide +kernel)
theorem gC_1_3 (h : Lay t) {c : Option α} : hGetC t 1 1 3 4 c = c := L_gC h (by decide) rfl (by decide +kernel)
theorem gC_5_0 (h : Lay t) {c : Option α} : hGetC t 7 5 0 6 c = c := L_gC h (by decide) rfl (by decide +kernel)
theorem gC_5_2 (h : Lay t) {c : Option α} : hGetC t 7 5 2 7 c = c := L_gC h (by decide) rfl (by decide +kernel)
theorem gC_10_0 (h : Lay t) {c : Option α} : hGetC t 4 10 0 11 c = c := L_gC h (by decide) rfl (by decide +kernel)
theorem gC_10_7 (h : Lay t) {c : Option α} : hGetC t 4 10 7 12 c = c := L_gC h (by decide) rfl (by decide +kernel)
theorem gC_13_5 (h : Lay t) {c : Option α} : hGetC t 3 13 5 14 c = c := L_gC h (by decide) rfl (by decide +kernel)
theorem gC_16_0 (h : Lay t) {c : Option α} : hGetC t 9 16 0 17 c = c := L_gC h (by decide) rfl (by decide +kernel)
theorem gC_16_2 (h : Lay t) {c : Option α} : hGetC t 9 16 2 18 c = c := L_gC h (by decide) rfl (by decide +kernel)
theorem gC_22_0 (h : Lay t) {c : Option α} : hGetC t 0 22 0 23 c = c := L_gC h (by decide) rfl (by decide +kernel)
theorem gC_22_1 (h : Lay t) {c : Option α} : hGetC t 0 22 1 24 c = c := L_gC h (by decide) rfl (by decide +kernel)
theorem gC_22_2 (h : Lay t) {c : Option α} : hGetC t 0 22 2 25 c = c := L_gC h (by decide) rfl (by decide +kernel)
theorem gC_22_3 (h : Lay t) {c : Option α} : hGetC t 0 22 3 5 c = c := L_gC h (by decide) rfl (by decide +kernel)
theorem gC_31_2 (h : Lay t) {c : Option α} : hGetC t 5 31 2 32 c = c := L_gC h (by decide) rfl (by decide +kernel)
theorem gC_33_2 (h : Lay t) {c : Option α} : hGetC t 5 33 2 34 c = c := L_gC h (by decide) rfl (by decide +kernel)
theorem gC_35_2 (h : Lay t) {c : Option α} : hGetC t 5 35 2 36 c = c := L_gC h (by decide) rfl (by decide +kernel)
theorem gC_37_2 (h : Lay t) {c : Option α} : hGetC t 5 37 2 38 c = c := L_gC h (by decide) rfl (by decide +kernel)
theorem gC_39_4 (h : Lay t) {c : Option α} : hGetC t 11 39 4 40 c = c := L_gC h (by decide) rfl (by decide +kernel)
theorem gC_39_5 (h : Lay t) {c : Option α} : hGetC t 11 39 5 41 c = c := L_gC h (by decide) rfl (by decide +kernel)
theorem gC_39_6 (h : Lay t) {c : Option α} : hGetC t 11 39 6 42 c = c := L_gC h (by decide) rfl (by decide +kernel)
theorem gC_39_7 (h : Lay t) {c : Option α} : hGetC t 11 39 7 43 c = c := L_gC h (by decide) rfl (by decide +kernel)
theorem gC_39_8 (h : Lay t) {c : Option α} : hGetC t 11 39 8 44 c = c := L_gC h (by decide) rfl (by decide +kernel)
theorem gC_39_10 (h : Lay t) {c : Option α} : hGetC t 11 39 10 45 c = c := L_gC h (by decide) rfl (by decide +kernel)
theorem gC_39_11 (h : Lay t) {c : Option α} : hGetC t 11 39 11 46 c = c := L_gC h (by decide) rfl (by decide +kernel)
theorem gC_39_12 (h : Lay t) {c : Option α} : hGetC t 11 39 12 47 c = c := L_gC h (by decide) rfl (by decide +kernel)
theorem gC_39_13 (h : Lay t) {c : Option α} : hGetC t 11 39 13 48 c = c := L_gC h (by decide) rfl (by decide +kernel)
theorem gC_39_15 (h : Lay t) {c : Option α} : hGetC t 11 39 15 49 c = c := L_gC h (by decide) rfl (by decide +kernel)
theorem gC_39_16 (h : Lay t) {c : Option α} : hGetC t 11 39 16 50 c = c := L_gC h (by decide) rfl (by decide +kernel)
theorem gC_39_18 (h : Lay t) {c : Option α} : hGetC t 11 39 18 51 c = c := L_gC h (by decide) rfl (by decide +kernel)
theorem gC_39_19 (h : Lay t) {c : Option α} : hGetC t 11 39 19 52 c = c := L_gC h (by decide) rfl (by decide +kernel)
theorem gC_39_27 (h : Lay t) {c : Option α} : hGetC t 11 39 27 53 c = c := L_gC h (by decide) rfl (by decide +kernel)
theorem gC_39_28 (h : Lay t) {c : Option α} : hGetC t 11 39 28 54 c = c := L_gC h (by decide) rfl (by decide +kernel)
theorem gC_39_29 (h : Lay t) {c : Option α} : hGetC t 11 39 29 55 c = c := L_gC h (by decide) rfl (by decide +kernel)
theorem gC_39_30 (h : Lay t) {c : Option α} : hGetC t 11 39 30 56 c = c := L_gC h (by decide) rfl (by decide +kernel)
theorem gC_39_31 (h : Lay t) {c : Option α} : hGetC t 11 39 31 57 c = c := L_gC h (by decide) rfl (by decide +kernel)
theorem gC_39_36 (h : Lay t) {c : Option α} : hGetC t 11 39 36 58 c = c := L_gC h (by decide) rfl (by decide +kernel)
theorem gC_39_37 (h : Lay t) {c : Option α} : hGetC t 11 39 37 59 c = c := L_gC h (by decide) rfl (by decide +kernel)
theorem gC_39_41 (h : Lay t) {c : Option α} : hGetC t 11 39 41 60 c = c := L_gC h (by decide) rfl (by decide +kernel)
theorem gC_39_42 (h : Lay t) {c : Option α} : hGetC t 11 39 42 61 c = c := L_gC h (by decide) rfl (by decide +kernel)
theorem gC_39_43 (h : Lay t) {c : Option α} : hGetC t 11 39 43 62 c = c := L_gC h (by decide) rfl (by decide +kernel)
theorem gC_39_44 (h : Lay t) {c : Option α} : hGetC t 11 39 44 63 c = c := L_gC h (by decide) rfl (by decide +kernel)
theorem gC_39_46 (h : Lay t) {c : Option α} : hGetC t 11 39 46 64 c = c := L_gC h (by decide) rfl (by decide +kernel)
theorem gC_39_47 (h : Lay t) {c : Option α} : hGetC t 11 39 47 65 c = c := L_gC h (by decide) rfl (by decide +kernel)
theorem gC_39_48 (h : Lay t) {c : Option α} : hGetC t 11 39 48 66 c = c := L_gC h (by decide) rfl (by decide +kernel)
theorem gC_39_49 (h : Lay t) {c : Option α} : hGetC t 11 39 49 67 c = c := L_gC h (by decide) rfl (by decide +kernel)
end
section
/-! truth values -/
def bz (b : Bool) : Int32 := if b = true then 1 else 0
theorem bz_0 {b : Bool} : (bz b = 0) = (b = false) := by cases b <;> simp [bz]
theorem bz_1 {b : Bool} : (bz b = 1) = (b = true) := by cases b <;> simp [bz]
theorem bz_Z {α : Type} {b : Bool} {c : Option α} : hZ (bz b) c = c := by cases b <;> rfl
theorem bz_eq {a b : Bool} : (bz a = bz b) = (a = b) := by cases a <;> cases b <;> simp [bz]
theorem bz_t : bz true = 1 := rfl
theorem bz_f : bz false = 0 := rfl
theorem bz_ite {p : Prop} [Decidable p] {t : SM} : (if p then rI 0 t else rI 1 t) = rI (bz (decide (¬ p))) t := by by_cases h : p <;> simp [h, bz]
theorem bz_itf {p : Prop} [Decidable p] {t : SM} : (if p then rI 1 t else rI 0 t) = rI (bz (decide p)) t := by by_cases h : p <;> simp [h, bz]
theorem bz_b0 {b : Bool} {t : SM} : (if b = false then rI 0 t else rI 1 t) = rI (bz b) t := by cases b <;> rfl
theorem bz_b1 {b : Bool} {t : SM} : (if b = true then rI 1 t else rI 0 t) = rI (bz b) t := by cases b <;> rfl
end
section
/-! bits -/
def bt (x : Int32) (i : Nat) : Bool := x.toBitVec.getLsbD i
theorem b_ext {x y : Int32} (h : ∀ i, i < 32 → bt x i = bt y i) : x = y := Int32.toBitVec_inj.mp (BitVec.eq_of_getLsbD_eq (fun i hi => h i hi))
theorem b_or (x y : Int32) (i : Nat) : bt (x ||| y) i = (bt x i || bt y i) := by unfold bt; rw [Int32.toBitVec_or, BitVec.getLsbD_or]
theorem b_and (x y : Int32) (i : Nat) : bt (x &&& y) i = (bt x i && bt y i) := by unfold bt; rw [Int32.toBitVec_and, BitVec.getLsbD_and]
theorem b_xor (x y : Int32) (i : Nat) : bt (x ^^^ y) i = (bt x i ^^ bt y i) := by unfold bt; rw [Int32.toBitVec_xor, BitVec.getLsbD_xor]
theorem b_m1 : ∀ i, i < 32 → bt (-1) i = true := by decide +kernel
theorem b_0 (i : Nat) : bt 0 i = false := BitVec.getLsbD_zero
theorem b_1 : ∀ i, i < 32 → bt 1 i = decide (i = 0) := by decide +kernel
theorem s_l : ∀ n, n < 32 → ((nI n &&& 31).toBitVec.smod 32).toNat = n := by decide +kernel
theorem b_big {x : Int32} {i : Nat} (h : 32 ≤ i) : bt x i = false := BitVec.getLsbD_of_ge _ _ h
theorem b_shl (n : Nat) (hn : n < 32) (x : Int32) {i : Nat} (hi : i < 32) : bt (x <<< (nI n &&& 31)) i = (decide (n ≤ i) && bt x (i - n)) := by
  unfold bt
  rw [Int32.toBitVec_shiftLeft]
  show (x.toBitVec <<< ((nI n &&& 31).toBitVec.smod 32)).getLsbD i = _
  rw [BitVec.shiftLeft_eq', s_l n hn, BitVec.getLsbD_shiftLeft]
  by_cases h : n ≤ i
  · simp [h, hi, Nat.not_lt.mpr h]
  · simp [h, hi, Nat.lt_of_not_le h]
theorem b_sshr (n : Nat) (hn : n < 32) (x : Int32) {i : Nat} (hi : i < 32) : bt (x >>> (nI n &&& 31)) i = if n + i < 32 then bt x (n + i) else bt x 31 := by
  unfold bt
  rw [Int32.toBitVec_shiftRight]
  show (x.toBitVec.sshiftRight ((nI n &&& 31).toBitVec.smod 32).toNat).getLsbD i = _
  rw [s_l n hn, BitVec.getLsbD_sshiftRight, BitVec.msb_eq_getLsbD_last]
  simp [hi]
theorem b_ni (a i : Nat) (h : a < 2 ^ 32) : bt (nI a) i = a.testBit i := by
  unfold bt
  show (BitVec.ofNat 32 a).getLsbD i = _
  rw [BitVec.getLsbD_ofNat]
  by_cases hi : i < 32
  · simp [hi]
  · simp only [hi, decide_false, Bool.false_and]
    exact (Nat.testBit_lt_two_pow (Nat.lt_of_lt_of_le h (Nat.pow_le_pow_right (by decide) (by omega)))).symm
/-- one bit, as a program reads it -/
theorem b_bit (x : Int32) {i : Nat} (hi : i < 32) : ((x >>> (nI i &&& 31)) &&& 1) = bz (bt x i) := by
  apply b_ext
  intro j hj
  rw [b_and, b_1 j hj]
  by_cases h0 : j = 0
  · subst h0
    rw [b_sshr i hi x (by decide)]
    simp [hi]
    cases hb : bt x i
    · exact (b_0 0).symm
    · exact (show bt 1 0 = true by decide +kernel).symm
  · simp [h0]
    cases bt x i
    · exact b_0 j
    · show bt 1 j = false
      rw [b_1 j hj]; simp [h0]
theorem b_pow : ∀ i, i < 31 → ((1 : Int32) <<< (nI i &&& 31)) = nI (2 ^ i) := by decide +kernel
theorem b_one {i : Nat} (hi : i < 31) {j : Nat} (hj : j < 32) : bt ((1 : Int32) <<< (nI i &&& 31)) j = decide (j = i) := by
  rw [b_shl i (by omega) 1 hj]
  by_cases h : i ≤ j
  · rw [b_1 _ (by omega)]; simp [h]; omega
  · simp [h]; omega
theorem b_mask : ∀ i, i < 31 → ((1 : Int32) <<< (nI i &&& 31)) - 1 = nI (2 ^ i - 1) := by decide +kernel
theorem bt_mask {n : Nat} (hn : n < 31) (i : Nat) : bt (nI (2 ^ n - 1)) i = decide (i < n) := by
  rw [b_ni _ _ (by have := Nat.pow_le_pow_right (n := 2) (by decide) (show n ≤ 31 by omega); omega), Nat.testBit_two_pow_sub_one]
theorem nI_and (a b : Nat) : nI a &&& nI b = nI (a &&& b) := by
  apply Int32.toBitVec_inj.mp
  rw [Int32.toBitVec_and]
  show BitVec.ofNat 32 a &&& BitVec.ofNat 32 b = BitVec.ofNat 32 (a &&& b)
  exact (BitVec.ofNat_and ..).symm
theorem nI_or (a b : Nat) : nI a ||| nI b = nI (a ||| b) := by
  apply Int32.toBitVec_inj.mp
  rw [Int32.toBitVec_or]
  show BitVec.ofNat 32 a ||| BitVec.ofNat 32 b = BitVec.ofNat 32 (a ||| b)
  exact (BitVec.ofNat_or ..).symm
theorem nI_xor (a b : Nat) : nI a ^^^ nI b = nI (a ^^^ b) := by
  apply Int32.toBitVec_inj.mp
  rw [Int32.toBitVec_xor]
  show BitVec.ofNat 32 a ^^^ BitVec.ofNat 32 b = BitVec.ofNat 32 (a ^^^ b)
  exact (BitVec.ofNat_xor ..).symm
theorem b_not (x : Int32) {i : Nat} (hi : i < 32) : bt (x ^^^ (-1)) i = !bt x i := by rw [b_xor, b_m1 i hi]; simp
/-- a set holds another -/
theorem b_sub (x y : Int32) : (x &&& y) = y ↔ ∀ i, i < 32 → bt y i = true → bt x i = true := by
  constructor
  · intro h i hi hy
    have := congrArg (fun z => bt z i) h
    simp only [b_and, hy, Bool.and_true] at this
    exact this
  · intro h
    apply b_ext
    intro i hi
    rw [b_and]
    cases hy : bt y i
    · simp
    · simp [h i hi hy]
end
section
/-! loops -/
variable {β : Type}
theorem for_up (F : Nat → SM → Nat → β → OR) (Q : OR → Prop) (n : Nat) (P : Nat → SM → β → Prop)
    (hend : ∀ f t b, P n t b → Q (F (f + 1) t n b))
    (hstep : ∀ f t i b, i < n → P i t b → (∀ t' b', P (i + 1) t' b' → Q (F f t' (i + 1) b')) → Q (F (f + 1) t i b)) :
    ∀ d i t b f, i + d = n → P i t b → d < f → Q (F f t i b) := by
  intro d
  induction d with
  | zero =>
    intro i t b f hi hp hf
    obtain ⟨f, rfl⟩ : ∃ f', f = f' + 1 := ⟨f - 1, by omega⟩
    obtain rfl : i = n := by omega
    exact hend f t b hp
  | succ d ih =>
    intro i t b f hi hp hf
    obtain ⟨f, rfl⟩ : ∃ f', f = f' + 1 := ⟨f - 1, by omega⟩
    exact hstep f t i b (by omega) hp (fun t' b' h => ih (i + 1) t' b' f (by omega) h (by omega))
/-- values made one after the other -/
def fo (st : Nat → β → β) (b : β) : Nat → β
  | 0 => b
  | k + 1 => st k (fo st b k)
theorem for_fo (F : Nat → Nat → β → OR) (n : Nat) (st : Nat → β → β) (fin : β → OR)
    (hend : ∀ f b, F (f + 1) n b = fin b) (hstep : ∀ f i b, i < n → F (f + 1) i b = F f (i + 1) (st i b)) (b : β) :
    ∀ d i f, i + d = n → d < f → F f i (fo st b i) = fin (fo st b n) := by
  intro d
  induction d with
  | zero =>
    intro i f hi hf
    obtain ⟨f, rfl⟩ : ∃ f', f = f' + 1 := ⟨f - 1, by omega⟩
    obtain rfl : i = n := by omega
    exact hend f _
  | succ d ih =>
    intro i f hi hf
    obtain ⟨f, rfl⟩ : ∃ f', f = f' + 1 := ⟨f - 1, by omega⟩
    rw [hstep f i _ (by omega)]
    exact ih (i + 1) f (by omega) (by omega)
theorem fo_congr {st st' : Nat → β → β} {b : β} : ∀ n, (∀ i x, i < n → st i x = st' i x) → fo st b n = fo st' b n := by
  intro n
  induction n with
  | zero => intro _; rfl
  | succ n ih =>
    intro h
    show st n (fo st b n) = st' n (fo st' b n)
    rw [ih (fun i x hi => h i x (by omega)), h n _ (by omega)]
/-- or-ing bits of a property -/
def orf (p : Nat → Bool) (n : Nat) : Int32 := fo (fun i a => if p i = true then a ||| ((1 : Int32) <<< (nI i &&& 31)) else a) 0 n
theorem bt_orf (p : Nat → Bool) : ∀ n, n ≤ 31 → ∀ j, j < 32 → bt (orf p n) j = (decide (j < n) && p j) := by
  intro n
  induction n with
  | zero => intro _ j _; simp only [orf, fo]; rw [b_0]; simp
  | succ n ih =>
    intro hn j hj
    show bt (if p n = true then orf p n ||| ((1 : Int32) <<< (nI n &&& 31)) else orf p n) j = _
    by_cases hp : p n = true
    · rw [if_pos hp, b_or, ih (by omega) j hj, b_one (by omega) hj]
      by_cases e : j = n
      · subst e; simp [hp]
      · by_cases h2 : j < n
        · simp [h2, e, show j < n + 1 by omega]
        · simp [h2, e, show ¬ j < n + 1 by omega]
    · rw [if_neg hp, ih (by omega) j hj]
      have hp' : p n = false := by cases h : p n <;> simp_all
      by_cases e : j = n
      · subst e; simp [hp']
      · by_cases h2 : j < n
        · simp [h2, show j < n + 1 by omega]
        · simp [h2, show ¬ j < n + 1 by omega]
theorem orf_congr {p q : Nat → Bool} (n : Nat) (h : ∀ i, i < n → p i = q i) : orf p n = orf q n := by
  unfold orf; exact fo_congr n (fun i x hi => by rw [h i hi])
end
section
/-! frames: what calls use again and again -/
def scrA : List Nat := [4, 7, 12, 17, 18, 19, 20, 21, 23, 24, 25, 59, 60, 61, 62, 63, 64, 65, 66, 67]
def scrP : List (Nat × Nat) := [(10, 2), (10, 3), (10, 4), (10, 5), (10, 6), (10, 8), (16, 1), (22, 4), (22, 5), (39, 32), (39, 33), (39, 34), (39, 35), (39, 38), (39, 39), (39, 40), (39, 45), (39, 50)]
def scrF (k j : Nat) : Bool := scrA.contains k || scrP.contains (k, j)
def scr (T : Nat → Nat × Nat) (k j : Nat) : Bool := scrF k j || (((T k).1 == 8 && j == 4) || (T (k - 1)).1 == 8)
/-- what stays -/
def pm (t : SM) : Nat → Nat → Int32 := fun k j => if scr (mT t) k j = true then 0 else mI t k j
def Fr (t u : SM) : Prop := u.2 = t.2 ∧ pm u = pm t
theorem Fr.refl (t : SM) : Fr t t := ⟨rfl, rfl⟩
theorem Fr.trans {t u w : SM} (h : Fr t u) (h2 : Fr u w) : Fr t w := ⟨h2.1.trans h.1, h2.2.trans h.2⟩
theorem Fr.T {t u : SM} (h : Fr t u) : mT u = mT t := by unfold mT; rw [h.1]
theorem Fr.R {t u : SM} (h : Fr t u) : mR u = mR t := by unfold mR; rw [h.1]
theorem Fr.N {t u : SM} (h : Fr t u) : mN u = mN t := by unfold mN; rw [h.1]
theorem Fr.Z {t u : SM} (h : Fr t u) : mZ u = mZ t := by unfold mZ; rw [h.1]
theorem Fr.lay {t u : SM} (h : Fr t u) (hl : Lay t) : Lay u := by
  unfold Lay
  rw [h.T, h.R, h.N]
  exact hl
theorem Fr.sA {t : SM} {k : Nat} {f : Nat → Int32} (h : ∀ j, mI t k j ≠ f j → scr (mT t) k j = true) : Fr t (setA t k f) := by
  refine ⟨rfl, funext fun q => funext fun j => ?_⟩
  show (if scr (mT t) q j = true then 0 else mI (setA t k f) q j) = (if scr (mT t) q j = true then 0 else mI t q j)
  by_cases hs : scr (mT t) q j = true
  · rw [if_pos hs, if_pos hs]
  · rw [if_neg hs, if_neg hs, setA_I]
    by_cases hq : q = k
    · subst hq
      rw [if_pos rfl]
      by_cases e : mI t q j = f j
      · exact e.symm
      · exact absurd (h j e) hs
    · rw [if_neg hq]
theorem Fr.set {t : SM} {k j : Nat} {v : Int32} (h : scr (mT t) k j = true) : Fr t (setI t k j v) := by
  refine Fr.sA fun i hi => ?_
  by_cases e : i = j
  · subst e; exact h
  · exact absurd (by simp [upd, e, mI]) hi
theorem Fr.setF {t : SM} {k j : Nat} {v : Int32} (h : scrF k j = true) : Fr t (setI t k j v) := Fr.set (by unfold scr; rw [h]; rfl)
def fxB (k : Nat) : Bool := decide (k < 68) && (k != 29 && k != 30)
theorem fx_tag : ∀ k, k < 68 → k ≠ 29 → (layF k).1 ≠ 8 := by decide +kernel
theorem scr_fx {t : SM} {k j : Nat} (h : Lay t) (hk : fxB k = true) (hs : scrF k j = false) : scr (mT t) k j = false := by
  unfold fxB at hk
  simp only [Bool.and_eq_true, decide_eq_true_eq, bne_iff_ne] at hk
  unfold scr
  rw [hs, h.2.1 k hk.1, h.2.1 (k - 1) (by omega)]
  have h1 := fx_tag k hk.1 hk.2.1
  have h2 := fx_tag (k - 1) (by omega) (by omega)
  simp [h1, h2]
/-- a fixed cell's number that stays -/
theorem pm_fx {t : SM} {k j : Nat} (h : Lay t) (hk : fxB k = true) (hs : scrF k j = false) : mI t k j = pm t k j := by
  unfold pm
  rw [if_neg (by rw [scr_fx h hk hs]; decide)]
theorem pm_hp {t : SM} {k j : Nat} (h1 : scrF k j = false) (h2 : (mT t k).1 = 8 → j ≠ 4) (h3 : (mT t (k - 1)).1 ≠ 8) : mI t k j = pm t k j := by
  unfold pm
  rw [if_neg]
  unfold scr
  rw [h1]
  simp [h3]
  exact h2
theorem pm_set {t : SM} {k j : Nat} {v : Int32} (h : scr (mT t) k j = false) : pm (setI t k j v) = fun q i => if q = k ∧ i = j then v else pm t q i := by
  funext q i
  show (if scr (mT t) q i = true then 0 else mI (setI t k j v) q i) = _
  rw [setI_I]
  by_cases e : q = k ∧ i = j
  · rw [if_pos e, if_pos e, e.1, e.2, if_neg (by rw [h]; decide)]
  · rw [if_neg e, if_neg e]; rfl
theorem pm_setF {t : SM} {k j : Nat} {v : Int32} (hl : Lay t) (hk : fxB k = true) (hs : scrF k j = false) : pm (setI t k j v) = fun q i => if q = k ∧ i = j then v else pm t q i := pm_set (scr_fx hl hk hs)
def RI (t : SM) (r : OR) (v : Int32) (P : SM → Prop) : Prop := ∃ u, r = rI v u ∧ Fr t u ∧ P u
def RV (t : SM) (r : OR) (P : SM → Prop) : Prop := ∃ u, r = rV u ∧ Fr t u ∧ P u
end
