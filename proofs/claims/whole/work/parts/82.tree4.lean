section
variable {n m s g x p : Nat} {t u : SM}
theorem trS_s {D : Nat → Nat → Nat} {m r : Nat} (hr : r + 1 < m) : ∃ q, scI D (trS D m r).1 m m = some q ∧ ((q.1 < m ∧ q.2 < m) ∧ (trS D m r).1 q.1 = false ∧ (trS D m r).1 q.2 = true) ∧ trS D m (r + 1) = ((fun k => (trS D m r).1 k || k == q.1), (fun k => if k = q.1 then nI q.2 else (trS D m r).2.1 k), (trS D m r).2.2 + D q.1 q.2) := by
  obtain ⟨h1, h2⟩ := trS_in (D := D) (m := m) (by omega) r (by omega)
  obtain ⟨i, hi, hd⟩ := cnt_some (p := (trS D m r).1) (N := m) (by omega)
  have hs := scI_get (D := D) (M := m) hd h2 (show 0 < m by omega) m hi
  have hP := scI_P (D := D) (dr := (trS D m r).1) (M := m) m (Nat.le_refl m)
  cases e : scI D (trS D m r).1 m m with
  | none => exact absurd e hs
  | some q =>
    refine ⟨q, rfl, hP q e, ?_⟩
    show (match scI D (trS D m r).1 m m with | none => _ | some q => _) = _
    rw [e]
theorem dr14 (h : Inv n m s g x p t) : ∀ k r f u (v2 : Int32), r + 1 + k = m → k < f → FS [4] t u → (∀ k, k < 8 → bt v2 k = (trS (DD (pm t)) m r).1 k) → (∀ q, q < m → (trS (DD (pm t)) m r).1 q = true → mI u 4 q = (trS (DD (pm t)) m r).2.1 q) →
    ∃ u', fAt_drawFromOneAnother_l14 f u (nI (trS (DD (pm t)) m r).2.2) v2 (nI (r + 1)) = rI (nI (trS (DD (pm t)) m (m - 1)).2.2) u' ∧ FS [4] t u' ∧ ∀ q, q < m → (trS (DD (pm t)) m (m - 1)).1 q = true → mI u' 4 q = (trS (DD (pm t)) m (m - 1)).2.1 q := by
  have hr := h.rng
  intro k
  induction k with
  | zero =>
    intro r f u v2 hj hf hu hb hro
    obtain ⟨f, rfl⟩ : ∃ f', f = f' + 1 := ⟨f - 1, by omega⟩
    obtain rfl : r = m - 1 := by omega
    have hI := h.fr hu.1
    have e9 : nI m ≤ nI (m - 1 + 1) := by rw [show m - 1 + 1 = m by omega]; exact Int32.le_refl _
    refine ⟨u, ?_, hu, hro⟩
    show fAt_drawFromOneAnother_14 _ u _ _ _ = _
    simp only [fAt_drawFromOneAnother_14, gI_0, pI_0, rc_0, gI_1, pI_1, rc_1, ln_2, ql_2, al_3, as_3, ln_3, al_4, as_4, ln_4, gI_5, pI_5, rc_5, ln_6, ql_6, al_7, as_7, ln_7, al_8, as_8, ln_8, ln_9, ql_9, gI_10, pI_10, rc_10, al_11, as_11, ln_11, al_12, as_12, ln_12, gI_13, pI_13, rc_13, al_14, as_14, ln_14, ln_15, ql_15, gI_16, pI_16, rc_16, al_17, as_17, ln_17, al_18, as_18, ln_18, al_19, as_19, ln_19, al_20, as_20, ln_20, bl_21, bs_21, ln_21, gI_22, pI_22, rc_22, al_23, as_23, ln_23, al_24, as_24, ln_24, al_25, as_25, ln_25, gI_31, pI_31, rc_31, al_32, as_32, ln_32, gI_33, pI_33, rc_33, al_34, as_34, ln_34, gI_35, pI_35, rc_35, al_36, as_36, ln_36, gI_37, pI_37, rc_37, al_38, as_38, ln_38, gC_0_3, gC_0_4, gC_0_5, gC_0_7, gC_0_10, gC_0_11, gC_0_12, gC_0_13, gC_0_14, gC_0_15, gC_0_16, gC_0_17, gC_1_0, gC_1_2, gC_1_3, gC_5_0, gC_5_2, gC_10_0, gC_10_7, gC_13_5, gC_16_0, gC_16_2, gC_22_0, gC_22_1, gC_22_2, gC_22_3, gC_31_2, gC_33_2, gC_35_2, gC_37_2, bI_rI, bV_rV, bQ_rN, bQ_rR, bz_0, bz_1, bz_Z, hZ0, hZ1, Lay_setI, Lay_setA, hI.lay, hI.mp', e9, if_true]
  | succ k ih =>
    intro r f u v2 hj hf hu hb hro
    obtain ⟨f, rfl⟩ : ∃ f', f = f' + 1 := ⟨f - 1, by omega⟩
    have hI := h.fr hu.1
    have e9 : ¬ nI m ≤ nI (r + 1) := nI_ge (by omega) (by omega)
    obtain ⟨q, s1, ⟨⟨a1, a2⟩, b1, b2⟩, s2⟩ := trS_s (D := DD (pm t)) (m := m) (r := r) (by omega)
    obtain ⟨u1, g1, g2, g3, g4⟩ := nl8 h hb m 0 1000000 u (by omega) (by omega) hu (fun q hq => by cases hq)
    rw [s1] at g1
    have nl : fAt_nearestLeft u v2 = rI (nI q.1) u1 := g1
    have hI1 := h.fr g2.1
    have org : fAt_originOf u1 (nI q.1) = rI (nI q.2) u1 := by
      have := L_nai (t := u1) (k := 4) (N := 8) (i := q.1) hI1.lay (by decide) rfl (by omega)
      rw [g3 q s1] at this
      simp only [fAt_originOf, gI_0, pI_0, rc_0, gI_1, pI_1, rc_1, ln_2, ql_2, al_3, as_3, ln_3, al_4, as_4, ln_4, gI_5, pI_5, rc_5, ln_6, ql_6, al_7, as_7, ln_7, al_8, as_8, ln_8, ln_9, ql_9, gI_10, pI_10, rc_10, al_11, as_11, ln_11, al_12, as_12, ln_12, gI_13, pI_13, rc_13, al_14, as_14, ln_14, ln_15, ql_15, gI_16, pI_16, rc_16, al_17, as_17, ln_17, al_18, as_18, ln_18, al_19, as_19, ln_19, al_20, as_20, ln_20, bl_21, bs_21, ln_21, gI_22, pI_22, rc_22, al_23, as_23, ln_23, al_24, as_24, ln_24, al_25, as_25, ln_25, gI_31, pI_31, rc_31, al_32, as_32, ln_32, gI_33, pI_33, rc_33, al_34, as_34, ln_34, gI_35, pI_35, rc_35, al_36, as_36, ln_36, gI_37, pI_37, rc_37, al_38, as_38, ln_38, gC_0_3, gC_0_4, gC_0_5, gC_0_7, gC_0_10, gC_0_11, gC_0_12, gC_0_13, gC_0_14, gC_0_15, gC_0_16, gC_0_17, gC_1_0, gC_1_2, gC_1_3, gC_5_0, gC_5_2, gC_10_0, gC_10_7, gC_13_5, gC_16_0, gC_16_2, gC_22_0, gC_22_1, gC_22_2, gC_22_3, gC_31_2, gC_33_2, gC_35_2, gC_37_2, bI_rI, bV_rV, bQ_rN, bQ_rR, bz_0, bz_1, bz_Z, hZ0, hZ1, Lay_setI, Lay_setA, hI1.lay, this]
    have un := fAt_unlike_v hI1 a1 a2
    rw [g2.1.2, onc_nI] at un
    have un : fAt_unlike u1 (nI q.1) (nI q.2) = rI (nI (DD (pm t) q.1 q.2)) u1 := un
    obtain ⟨u', f1, f2, f3⟩ := ih (r + 1) f u1 (v2 ||| ((1 : Int32) <<< (nI q.1 &&& 31))) (by omega) (by omega) g2 (fun k hk => by
      rw [b_or, b_one (by omega) (by omega), hb k hk, s2]
      show _ = ((trS (DD (pm t)) m r).1 k || k == q.1)
      congr 1) (fun k hk hd => by
      rw [s2] at hd ⊢
      show _ = if k = q.1 then nI q.2 else (trS (DD (pm t)) m r).2.1 k
      by_cases e : k = q.1
      · rw [if_pos e, e]; exact g3 q s1
      · rw [if_neg e]
        have hd : ((trS (DD (pm t)) m r).1 k || k == q.1) = true := hd
        have : (k == q.1) = false := by simp [e]
        rw [this, Bool.or_false] at hd
        rw [g4 k hd]; exact hro k hk hd)
    refine ⟨u', ?_, f2, f3⟩
    rw [← f1, s2]
    show fAt_drawFromOneAnother_14 _ u _ _ _ = _
    simp only [fAt_drawFromOneAnother_14, gI_0, pI_0, rc_0, gI_1, pI_1, rc_1, ln_2, ql_2, al_3, as_3, ln_3, al_4, as_4, ln_4, gI_5, pI_5, rc_5, ln_6, ql_6, al_7, as_7, ln_7, al_8, as_8, ln_8, ln_9, ql_9, gI_10, pI_10, rc_10, al_11, as_11, ln_11, al_12, as_12, ln_12, gI_13, pI_13, rc_13, al_14, as_14, ln_14, ln_15, ql_15, gI_16, pI_16, rc_16, al_17, as_17, ln_17, al_18, as_18, ln_18, al_19, as_19, ln_19, al_20, as_20, ln_20, bl_21, bs_21, ln_21, gI_22, pI_22, rc_22, al_23, as_23, ln_23, al_24, as_24, ln_24, al_25, as_25, ln_25, gI_31, pI_31, rc_31, al_32, as_32, ln_32, gI_33, pI_33, rc_33, al_34, as_34, ln_34, gI_35, pI_35, rc_35, al_36, as_36, ln_36, gI_37, pI_37, rc_37, al_38, as_38, ln_38, gC_0_3, gC_0_4, gC_0_5, gC_0_7, gC_0_10, gC_0_11, gC_0_12, gC_0_13, gC_0_14, gC_0_15, gC_0_16, gC_0_17, gC_1_0, gC_1_2, gC_1_3, gC_5_0, gC_5_2, gC_10_0, gC_10_7, gC_13_5, gC_16_0, gC_16_2, gC_22_0, gC_22_1, gC_22_2, gC_22_3, gC_31_2, gC_33_2, gC_35_2, gC_37_2, bI_rI, bV_rV, bQ_rN, bQ_rR, bz_0, bz_1, bz_Z, hZ0, hZ1, Lay_setI, Lay_setA, hI.lay, hI.mp', e9, if_false, nl, hI1.lay, org, un, nI_add, nI_1]
end
