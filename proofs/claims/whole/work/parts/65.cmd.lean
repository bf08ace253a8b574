section
variable {n m s g x p : Nat} {t u : SM}
theorem chart_in {i q : Nat} (hl : Lay u) (h1 : mI u 1 1 = nI m) (hm : m ≤ 8) (hi : i < m) (hq : mR u 2 i = some q) : fAt_chartAt u (nI i) = rR q u := by
  have e1 : ¬ nI m ≤ nI i := nI_ge hi (by omega)
  have e2 : ¬ nI 8 ≤ nI i := nI_ge (by omega) (by omega)
  have e3 : ¬ nI i < 0 := nI_pos (by omega)
  simp only [fAt_chartAt, gI_0, pI_0, rc_0, gI_1, pI_1, rc_1, ln_2, ql_2, al_3, as_3, ln_3, al_4, as_4, ln_4, gI_5, pI_5, rc_5, ln_6, ql_6, al_7, as_7, ln_7, al_8, as_8, ln_8, ln_9, ql_9, gI_10, pI_10, rc_10, al_11, as_11, ln_11, al_12, as_12, ln_12, gI_13, pI_13, rc_13, al_14, as_14, ln_14, ln_15, ql_15, gI_16, pI_16, rc_16, al_17, as_17, ln_17, al_18, as_18, ln_18, al_19, as_19, ln_19, al_20, as_20, ln_20, bl_21, bs_21, ln_21, gI_22, pI_22, rc_22, al_23, as_23, ln_23, al_24, as_24, ln_24, al_25, as_25, ln_25, gI_31, pI_31, rc_31, al_32, as_32, ln_32, gI_33, pI_33, rc_33, al_34, as_34, ln_34, gI_35, pI_35, rc_35, al_36, as_36, ln_36, gI_37, pI_37, rc_37, al_38, as_38, ln_38, gC_0_3, gC_0_4, gC_0_5, gC_0_7, gC_0_10, gC_0_11, gC_0_12, gC_0_13, gC_0_14, gC_0_15, gC_0_16, gC_0_17, gC_1_0, gC_1_2, gC_1_3, gC_5_0, gC_5_2, gC_10_0, gC_10_7, gC_13_5, gC_16_0, gC_16_2, gC_22_0, gC_22_1, gC_22_2, gC_22_3, gC_31_2, gC_33_2, gC_35_2, gC_37_2, bI_rI, bV_rV, bQ_rN, bQ_rR, bz_0, bz_1, bz_Z, hZ0, hZ1, Lay_setI, Lay_setA, hl, h1, e1, e2, e3, if_false]
  exact ql_2 hl (by omega) hq
theorem chart_no {v : Int32} (hl : Lay u) (h1 : mI u 1 1 = nI m) (hv : inr v m = false) : fAt_chartAt u v = rN u := by
  unfold fAt_chartAt
  by_cases e3 : v < 0
  · rw [if_pos e3]
  · rw [if_neg e3, gI_1 hl, h1, if_pos]
    unfold inr at hv
    rw [decide_eq_true (Int32.not_lt.mp e3), Bool.true_and, decide_eq_false_iff_not] at hv
    exact Int32.not_lt.mp hv
theorem inr_no {i N : Nat} (h : N ≤ i) (hi : i < 2 ^ 31) : inr (nI i) N = false := by
  unfold inr; rw [decide_eq_false (nI_nlt h hi), Bool.and_false]
/-! image -/
theorem image_x (h : Inv n m s g x p t) : ∃ u, fx_image t = rI (nI m) u ∧ u.2 = t.2 ∧ (∀ q, q ≠ 13 → q ≠ 14 → mI u q = mI t q) ∧ (mI u 13 0 = 1 ∧ mI u 13 1 = pm t 39 1 ∧ mI u 13 2 = pm t 39 2 ∧ mI u 13 3 = pm t 39 21 ∧ mI u 13 4 = nI m) ∧ ∀ j, j < m → mI u 14 j = pm t 44 j := by
  have hr := h.rng
  have hl := h.lay
  have q1 : ∀ (j : Nat) (v : Int32), mI (setI t 13 j v) 0 = mI t 0 := fun j v => setI_ne (by decide)
  have q2 : ∀ (u : SM) (j : Nat) (v : Int32), mI (setI u 13 j v) 0 = mI u 0 := fun u j v => setI_ne (by decide)
  have q3 : ∀ (u : SM) (j : Nat) (v : Int32), mI (setI u 13 j v) 1 = mI u 1 := fun u j v => setI_ne (by decide)
  simp only [fx_image, gI_0, pI_0, rc_0, gI_1, pI_1, rc_1, ln_2, ql_2, al_3, as_3, ln_3, al_4, as_4, ln_4, gI_5, pI_5, rc_5, ln_6, ql_6, al_7, as_7, ln_7, al_8, as_8, ln_8, ln_9, ql_9, gI_10, pI_10, rc_10, al_11, as_11, ln_11, al_12, as_12, ln_12, gI_13, pI_13, rc_13, al_14, as_14, ln_14, ln_15, ql_15, gI_16, pI_16, rc_16, al_17, as_17, ln_17, al_18, as_18, ln_18, al_19, as_19, ln_19, al_20, as_20, ln_20, bl_21, bs_21, ln_21, gI_22, pI_22, rc_22, al_23, as_23, ln_23, al_24, as_24, ln_24, al_25, as_25, ln_25, gI_31, pI_31, rc_31, al_32, as_32, ln_32, gI_33, pI_33, rc_33, al_34, as_34, ln_34, gI_35, pI_35, rc_35, al_36, as_36, ln_36, gI_37, pI_37, rc_37, al_38, as_38, ln_38, gC_0_3, gC_0_4, gC_0_5, gC_0_7, gC_0_10, gC_0_11, gC_0_12, gC_0_13, gC_0_14, gC_0_15, gC_0_16, gC_0_17, gC_1_0, gC_1_2, gC_1_3, gC_5_0, gC_5_2, gC_10_0, gC_10_7, gC_13_5, gC_16_0, gC_16_2, gC_22_0, gC_22_1, gC_22_2, gC_22_3, gC_31_2, gC_33_2, gC_35_2, gC_37_2, bI_rI, bV_rV, bQ_rN, bQ_rR, bz_0, bz_1, bz_Z, hZ0, hZ1, Lay_setI, Lay_setA, hl, q2, q3, h.sn', h.so', h.lw', h.mp']
  have f0 : (setI (setI (setI (setI (setI t 13 0 1) 13 1 (pm t 39 1)) 13 2 (pm t 39 2)) 13 3 (pm t 39 21)) 13 4 (nI m)).2 = t.2 := rfl
  have f1 : ∀ q, q ≠ 13 → mI (setI (setI (setI (setI (setI t 13 0 1) 13 1 (pm t 39 1)) 13 2 (pm t 39 2)) 13 3 (pm t 39 21)) 13 4 (nI m)) q = mI t q := fun q hq => by
    rw [setI_ne hq, setI_ne hq, setI_ne hq, setI_ne hq, setI_ne hq]
  have f2 : mI (setI (setI (setI (setI (setI t 13 0 1) 13 1 (pm t 39 1)) 13 2 (pm t 39 2)) 13 3 (pm t 39 21)) 13 4 (nI m)) 13 0 = 1 ∧ mI (setI (setI (setI (setI (setI t 13 0 1) 13 1 (pm t 39 1)) 13 2 (pm t 39 2)) 13 3 (pm t 39 21)) 13 4 (nI m)) 13 1 = pm t 39 1 ∧ mI (setI (setI (setI (setI (setI t 13 0 1) 13 1 (pm t 39 1)) 13 2 (pm t 39 2)) 13 3 (pm t 39 21)) 13 4 (nI m)) 13 2 = pm t 39 2 ∧ mI (setI (setI (setI (setI (setI t 13 0 1) 13 1 (pm t 39 1)) 13 2 (pm t 39 2)) 13 3 (pm t 39 21)) 13 4 (nI m)) 13 3 = pm t 39 21 ∧ mI (setI (setI (setI (setI (setI t 13 0 1) 13 1 (pm t 39 1)) 13 2 (pm t 39 2)) 13 3 (pm t 39 21)) 13 4 (nI m)) 13 4 = nI m := by
    simp [setI_I]
  generalize setI (setI (setI (setI (setI t 13 0 1) 13 1 (pm t 39 1)) 13 2 (pm t 39 2)) 13 3 (pm t 39 21)) 13 4 (nI m) = t1 at *
  refine for_up (β := Unit) (fun f t i _ => fx_image_l57 (fun t => fx_image_99 t) f t (nI i)) (fun r => ∃ u, r = rI (nI m) u ∧ u.2 = t.2 ∧ (∀ q, q ≠ 13 → q ≠ 14 → mI u q = mI t q) ∧ (mI u 13 0 = 1 ∧ mI u 13 1 = pm t 39 1 ∧ mI u 13 2 = pm t 39 2 ∧ mI u 13 3 = pm t 39 21 ∧ mI u 13 4 = nI m) ∧ ∀ j, j < m → mI u 14 j = pm t 44 j) 8
    (fun i u _ => u.2 = t.2 ∧ (∀ q, q ≠ 13 → q ≠ 14 → mI u q = mI t q) ∧ mI u 13 = mI t1 13 ∧ ∀ j, j < i → j < m → mI u 14 j = pm t 44 j) ?_ ?_ 8 0 t1 () 1000000 (by omega) ⟨f0, fun q a b => f1 q a, rfl, fun j hj => absurd hj (by omega)⟩ (by omega)
  · intro f u _ ⟨e, a, b, c⟩
    have lu := hl.of e
    have u1 : mI u 1 1 = nI m := by rw [a 1 (by decide) (by decide)]; exact h.mp'
    show ∃ z, fx_image_57 _ _ u (nI 8) = _ ∧ _
    refine ⟨u, ?_, e, a, by rw [b]; exact f2, fun j hj => c j (by omega) hj⟩
    unfold fx_image_57
    rw [if_pos (show (8 : Int32) ≤ nI 8 from Int32.le_refl _)]
    simp only [fx_image_99, gI_0, pI_0, rc_0, gI_1, pI_1, rc_1, ln_2, ql_2, al_3, as_3, ln_3, al_4, as_4, ln_4, gI_5, pI_5, rc_5, ln_6, ql_6, al_7, as_7, ln_7, al_8, as_8, ln_8, ln_9, ql_9, gI_10, pI_10, rc_10, al_11, as_11, ln_11, al_12, as_12, ln_12, gI_13, pI_13, rc_13, al_14, as_14, ln_14, ln_15, ql_15, gI_16, pI_16, rc_16, al_17, as_17, ln_17, al_18, as_18, ln_18, al_19, as_19, ln_19, al_20, as_20, ln_20, bl_21, bs_21, ln_21, gI_22, pI_22, rc_22, al_23, as_23, ln_23, al_24, as_24, ln_24, al_25, as_25, ln_25, gI_31, pI_31, rc_31, al_32, as_32, ln_32, gI_33, pI_33, rc_33, al_34, as_34, ln_34, gI_35, pI_35, rc_35, al_36, as_36, ln_36, gI_37, pI_37, rc_37, al_38, as_38, ln_38, gC_0_3, gC_0_4, gC_0_5, gC_0_7, gC_0_10, gC_0_11, gC_0_12, gC_0_13, gC_0_14, gC_0_15, gC_0_16, gC_0_17, gC_1_0, gC_1_2, gC_1_3, gC_5_0, gC_5_2, gC_10_0, gC_10_7, gC_13_5, gC_16_0, gC_16_2, gC_22_0, gC_22_1, gC_22_2, gC_22_3, gC_31_2, gC_33_2, gC_35_2, gC_37_2, bI_rI, bV_rV, bQ_rN, bQ_rR, bz_0, bz_1, bz_Z, hZ0, hZ1, Lay_setI, Lay_setA, lu, u1]
  · intro f u i _ hi ⟨e, a, b, c⟩ ih
    have lu := hl.of e
    have u1 : mI u 1 1 = nI m := by rw [a 1 (by decide) (by decide)]; exact h.mp'
    have e8 : ¬ (8 : Int32) ≤ nI i := nI_ge (b := 8) hi (by decide)
    have st : ∀ v, (i < m → v = pm t 44 i) → ∃ z, fx_image_l57 (fun t => fx_image_99 t) f (setI u 14 i v) (nI (i + 1)) = rI (nI m) z ∧ z.2 = t.2 ∧ (∀ q, q ≠ 13 → q ≠ 14 → mI z q = mI t q) ∧ (mI z 13 0 = 1 ∧ mI z 13 1 = pm t 39 1 ∧ mI z 13 2 = pm t 39 2 ∧ mI z 13 3 = pm t 39 21 ∧ mI z 13 4 = nI m) ∧ ∀ j, j < m → mI z 14 j = pm t 44 j := by
      intro v hv
      refine ih _ () ⟨e, fun q a1 a2 => by rw [setI_ne a2]; exact a q a1 a2, by rw [setI_ne (by decide)]; exact b, fun j hj hm => ?_⟩
      by_cases c1 : j = i
      · rw [setI_eq rfl c1, c1]; exact hv (by omega)
      · rw [setI_I, if_neg (fun z => c1 z.2)]; exact c j (by omega) hm
    show ∃ z, fx_image_57 _ _ u (nI i) = _ ∧ _
    unfold fx_image_57
    rw [if_neg e8, gC_0_3 lu, rc_1 lu]
    by_cases cm : i < m
    · obtain ⟨q, _, hq, hc⟩ := chartAt_in h cm
      have q68 := hc.1.1
      have cost : ∀ c : Int32 → OR, hGetI u 2 q 5 c = c (pm t 44 i) := fun c => by
        have : (mT u q).1 = 2 := by unfold mT; rw [e]; exact hc.2.1
        unfold hGetI
        rw [if_pos this, a q (by omega) (by omega), pm_cl hc.1.1 (by rw [hc.2.1]; decide) hc.2.2.1, hc.2.2.2.2.2.2.2.2]
      rw [chart_in lu u1 (by omega) cm (by unfold mR; rw [e]; exact hq), bQ_rR, gC_0_11 lu, gC_13_5 lu, cost, as_14 lu hi, nI_1]
      exact st _ (fun _ => rfl)
    · rw [chart_no lu u1 (inr_no (by omega) (by omega)), bQ_rN, gC_0_11 lu, gC_13_5 lu, as_14 lu hi, nI_1]
      exact st _ (fun hm => absurd hm cm)
theorem image_m {G1 : Nat → Int32} (hl : Lay t) (h3 : mI t 39 3 = nI m) (hm : m ≤ 8) (h44 : ∀ j, j < 8 → mI t 44 j = G1 j) : ∃ u, fm_image t = rI (nI m) u ∧ u.2 = t.2 ∧ (∀ q, q ≠ 39 → q ≠ 53 → mI u q = mI t q) ∧ (∀ j, mI u 39 j = if j = 26 then mI t 39 21 else if j = 25 then nI m else if j = 24 then mI t 39 2 else if j = 23 then mI t 39 1 else if j = 22 then 1 else mI t 39 j) ∧ ∀ j, j < 8 → mI u 53 j = G1 j := by
  have f2 : ∀ j, mI (setI (setI (setI (setI (setI t 39 22 1) 39 23 (mI t 39 1)) 39 24 (mI t 39 2)) 39 25 (nI m)) 39 26 (mI t 39 21)) 39 j = if j = 26 then mI t 39 21 else if j = 25 then nI m else if j = 24 then mI t 39 2 else if j = 23 then mI t 39 1 else if j = 22 then 1 else mI t 39 j := by
    intro j; simp [setI_I]
  have r1 : mI (setI t 39 22 1) 39 1 = mI t 39 1 := by simp [setI_I]
  have r2 : mI (setI (setI t 39 22 1) 39 23 (mI t 39 1)) 39 2 = mI t 39 2 := by simp [setI_I]
  have r3 : mI (setI (setI (setI t 39 22 1) 39 23 (mI t 39 1)) 39 24 (mI t 39 2)) 39 3 = nI m := by simp [setI_I, h3]
  have r4 : mI (setI (setI (setI (setI t 39 22 1) 39 23 (mI t 39 1)) 39 24 (mI t 39 2)) 39 25 (nI m)) 39 21 = mI t 39 21 := by simp [setI_I]
  simp only [fm_image, gI_39, pI_39, rc_39, al_40, as_40, ln_40, al_41, as_41, ln_41, al_42, as_42, ln_42, al_43, as_43, ln_43, al_44, as_44, ln_44, al_45, as_45, ln_45, al_46, as_46, ln_46, al_47, as_47, ln_47, al_48, as_48, ln_48, al_49, as_49, ln_49, al_50, as_50, ln_50, al_51, as_51, ln_51, al_52, as_52, ln_52, al_53, as_53, ln_53, al_54, as_54, ln_54, al_55, as_55, ln_55, al_56, as_56, ln_56, al_57, as_57, ln_57, al_58, as_58, ln_58, al_59, as_59, ln_59, al_60, as_60, ln_60, al_61, as_61, ln_61, al_62, as_62, ln_62, al_63, as_63, ln_63, al_64, as_64, ln_64, al_65, as_65, ln_65, al_66, as_66, ln_66, al_67, as_67, ln_67, gC_39_4, gC_39_5, gC_39_6, gC_39_7, gC_39_8, gC_39_10, gC_39_11, gC_39_12, gC_39_13, gC_39_15, gC_39_16, gC_39_18, gC_39_19, gC_39_27, gC_39_28, gC_39_29, gC_39_30, gC_39_31, gC_39_36, gC_39_37, gC_39_41, gC_39_42, gC_39_43, gC_39_44, gC_39_46, gC_39_47, gC_39_48, gC_39_49, bI_rI, bV_rV, bQ_rN, bQ_rR, bz_0, bz_1, bz_Z, hZ0, hZ1, Lay_setI, Lay_setA, hl, r1, r2, r3, r4]
  have f0 : (setI (setI (setI (setI (setI t 39 22 1) 39 23 (mI t 39 1)) 39 24 (mI t 39 2)) 39 25 (nI m)) 39 26 (mI t 39 21)).2 = t.2 := rfl
  have f1 : ∀ q, q ≠ 39 → mI (setI (setI (setI (setI (setI t 39 22 1) 39 23 (mI t 39 1)) 39 24 (mI t 39 2)) 39 25 (nI m)) 39 26 (mI t 39 21)) q = mI t q := fun q hq => by
    rw [setI_ne hq, setI_ne hq, setI_ne hq, setI_ne hq, setI_ne hq]
  generalize setI (setI (setI (setI (setI t 39 22 1) 39 23 (mI t 39 1)) 39 24 (mI t 39 2)) 39 25 (nI m)) 39 26 (mI t 39 21) = t1 at *
  refine for_up (β := Unit) (fun f t i _ => fm_image_l39 (fun t => fm_image_63 t) f t (nI i)) (fun r => ∃ u, r = rI (nI m) u ∧ u.2 = t.2 ∧ (∀ q, q ≠ 39 → q ≠ 53 → mI u q = mI t q) ∧ (∀ j, mI u 39 j = if j = 26 then mI t 39 21 else if j = 25 then nI m else if j = 24 then mI t 39 2 else if j = 23 then mI t 39 1 else if j = 22 then 1 else mI t 39 j) ∧ ∀ j, j < 8 → mI u 53 j = G1 j) 8
    (fun i u _ => u.2 = t.2 ∧ (∀ q, q ≠ 39 → q ≠ 53 → mI u q = mI t q) ∧ mI u 39 = mI t1 39 ∧ ∀ j, j < i → mI u 53 j = G1 j) ?_ ?_ 8 0 t1 () 1000000 (by omega) ⟨f0, fun q a b => f1 q a, rfl, fun j hj => absurd hj (by omega)⟩ (by omega)
  · intro f u _ ⟨e, a, b, c⟩
    have lu := hl.of e
    have u1 : mI u 39 3 = nI m := by rw [b, f2]; simp [h3]
    show ∃ z, fm_image_39 _ _ u (nI 8) = _ ∧ _
    refine ⟨u, ?_, e, a, by rw [b]; exact f2, c⟩
    unfold fm_image_39
    rw [if_pos (show (8 : Int32) ≤ nI 8 from Int32.le_refl _)]
    simp only [fm_image_63, gI_39, pI_39, rc_39, al_40, as_40, ln_40, al_41, as_41, ln_41, al_42, as_42, ln_42, al_43, as_43, ln_43, al_44, as_44, ln_44, al_45, as_45, ln_45, al_46, as_46, ln_46, al_47, as_47, ln_47, al_48, as_48, ln_48, al_49, as_49, ln_49, al_50, as_50, ln_50, al_51, as_51, ln_51, al_52, as_52, ln_52, al_53, as_53, ln_53, al_54, as_54, ln_54, al_55, as_55, ln_55, al_56, as_56, ln_56, al_57, as_57, ln_57, al_58, as_58, ln_58, al_59, as_59, ln_59, al_60, as_60, ln_60, al_61, as_61, ln_61, al_62, as_62, ln_62, al_63, as_63, ln_63, al_64, as_64, ln_64, al_65, as_65, ln_65, al_66, as_66, ln_66, al_67, as_67, ln_67, gC_39_4, gC_39_5, gC_39_6, gC_39_7, gC_39_8, gC_39_10, gC_39_11, gC_39_12, gC_39_13, gC_39_15, gC_39_16, gC_39_18, gC_39_19, gC_39_27, gC_39_28, gC_39_29, gC_39_30, gC_39_31, gC_39_36, gC_39_37, gC_39_41, gC_39_42, gC_39_43, gC_39_44, gC_39_46, gC_39_47, gC_39_48, gC_39_49, bI_rI, bV_rV, bQ_rN, bQ_rR, bz_0, bz_1, bz_Z, hZ0, hZ1, Lay_setI, Lay_setA, lu, u1]
  · intro f u i _ hi ⟨e, a, b, c⟩ ih
    have lu := hl.of e
    have e8 : ¬ (8 : Int32) ≤ nI i := nI_ge (b := 8) hi (by decide)
    show ∃ z, fm_image_39 _ _ u (nI i) = _ ∧ _
    unfold fm_image_39
    rw [if_neg e8, gC_39_27 lu, gC_39_8 lu, al_44 lu hi, as_53 lu hi, nI_1]
    refine ih _ () ⟨e, fun q a1 a2 => by rw [setI_ne a2]; exact a q a1 a2, by rw [setI_ne (by decide)]; exact b, fun j hj => ?_⟩
    by_cases c1 : j = i
    · rw [setI_eq rfl c1, a 44 (by decide) (by decide), h44 i hi, c1]
    · rw [setI_I, if_neg (fun z => c1 z.2)]; exact c j (by omega)
theorem ok_image (h : Inv n m s g x p t) : Okk t (fun t => fx_image t) (fun t => fm_image t) := by
  have hr := h.rng
  have hl := h.lay
  obtain ⟨t1, f1, e1, a1, b1, c1⟩ := image_x h
  have l1 := hl.of e1
  have k39 : mI t1 39 = mI t 39 := a1 39 (by decide) (by decide)
  obtain ⟨t2, f2, e2, a2, b2, c2⟩ := image_m (G1 := fun j => pm t 44 j) l1 (by rw [k39]; exact h.mp) hr.2.1 (fun j hj => by rw [a1 44 (by decide) (by decide)]; exact rp_44 hl)
  have ee : t2.2 = t.2 := e2.trans e1
  have l2 := hl.of ee
  have rows : ∀ q, q ∉ [13, 14, 39, 53] → mI t2 q = mI t q := fun q hq => by
    simp at hq
    rw [a2 q (by omega) (by omega), a1 q (by omega) (by omega)]
  have r1 : SR [0, 1, 5, 10, 13, 14, 39, 53] (pm t) (pm t2) := fun q hq => pm_rw ee (rows q (fun hm => hq (by simp at hm ⊢; omega)))
  have q0 : pm t2 0 = pm t 0 := pm_rw ee (rows 0 (by decide))
  have q1 : pm t2 1 = pm t 1 := pm_rw ee (rows 1 (by decide))
  have q5 : pm t2 5 = pm t 5 := pm_rw ee (rows 5 (by decide))
  have q10 : pm t2 10 = pm t 10 := pm_rw ee (rows 10 (by decide))
  have w39 : ∀ j, j ≠ 22 → j ≠ 23 → j ≠ 24 → j ≠ 25 → j ≠ 26 → pm t2 39 j = pm t 39 j := fun j a b c d e => pm_of ee (by rw [b2, if_neg e, if_neg d, if_neg c, if_neg b, if_neg a, k39])
  have p22 : pm t2 39 22 = 1 := by rw [← pm_fx l2 rfl rfl, b2]; simp
  have p23 : pm t2 39 23 = pm t 39 1 := by rw [← pm_fx l2 rfl rfl, b2, k39]; simp [h.sn]
  have p24 : pm t2 39 24 = pm t 39 2 := by rw [← pm_fx l2 rfl rfl, b2, k39]; simp [h.so]
  have p25 : pm t2 39 25 = nI m := by rw [← pm_fx l2 rfl rfl, b2]; simp
  have p26 : pm t2 39 26 = pm t 39 21 := by rw [← pm_fx l2 rfl rfl, b2, k39]; simp [h.lw]
  have m13 : ∀ j, mI t2 13 j = mI t1 13 j := fun j => by rw [a2 13 (by decide) (by decide)]
  obtain ⟨_, ⟨a3, a4⟩, ⟨b3, b4⟩, ⟨c3, c4⟩, ⟨d3, d4⟩, ⟨e3, e4⟩, ⟨g1, g2⟩, g3, g4, g5, gl1, gl2, gl3⟩ := h.num
  refine okc f1 f2 l1 (n' := n) (m' := m) (s' := s) (g' := g) (x' := x) (p' := p) ?_ (by unfold mN; rw [ee]) (by unfold mZ; rw [ee])
  refine h.num1 ee r1 (IvN.mk hr ?_ ?_ ?_ ?_ ?_ ?_ ?_ ?_ ?_ ?_ ?_ ?_ ?_ ?_ ?_ ⟨gl1, gl2, by rw [w39 21 (by decide) (by decide) (by decide) (by decide) (by decide)]; exact gl3⟩) ?_ rfl rfl (Or.inl ⟨rfl, Nat.le_refl m⟩) (Or.inl ⟨rfl, rfl⟩) rfl
  · rw [w39 0 (by decide) (by decide) (by decide) (by decide) (by decide)]; exact a3
  · rw [q0]; exact a4
  · rw [w39 3 (by decide) (by decide) (by decide) (by decide) (by decide)]; exact b3
  · rw [q1]; exact b4
  · rw [w39 9 (by decide) (by decide) (by decide) (by decide) (by decide)]; exact c3
  · rw [q5]; exact c4
  · rw [w39 14 (by decide) (by decide) (by decide) (by decide) (by decide)]; exact d3
  · rw [q0]; exact d4
  · rw [w39 20 (by decide) (by decide) (by decide) (by decide) (by decide)]; exact e3
  · rw [q0]; exact e4
  · rw [w39 17 (by decide) (by decide) (by decide) (by decide) (by decide)]; exact g1
  · rw [q10]; exact g2
  · rw [w39 1 (by decide) (by decide) (by decide) (by decide) (by decide), q0]; exact g3
  · rw [w39 2 (by decide) (by decide) (by decide) (by decide) (by decide), q0]; exact g4
  · rw [w39 21 (by decide) (by decide) (by decide) (by decide) (by decide), q0]; exact g5
  · refine ⟨?_, Or.inr p22, ?_, ?_, ?_, ?_, m, gl1, hr.2.1, gl2, p25, by rw [p26]; exact gl3, fun _ => Nat.le_refl m, fun i hi => ?_⟩
    · rw [p22, ← pm_fx l2 rfl rfl, m13]; exact b1.1
    · rw [p23, ← pm_fx l2 rfl rfl, m13]; exact b1.2.1
    · rw [p24, ← pm_fx l2 rfl rfl, m13]; exact b1.2.2.1
    · rw [p26, ← pm_fx l2 rfl rfl, m13]; exact b1.2.2.2.1
    · rw [p25, ← pm_fx l2 rfl rfl, m13]; exact b1.2.2.2.2
    · rw [← rp_14 l2, ← rp_53 l2, a2 14 (by decide) (by decide), c1 i hi, c2 i (by omega)]
end
