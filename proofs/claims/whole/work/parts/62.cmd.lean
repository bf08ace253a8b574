section
variable {n m s g x p : Nat} {t u : SM}
theorem ge1 {a : Int32} (h : ¬ a < 1) : ¬ a < 0 := by
  intro l
  refine h ?_
  rw [Int32.lt_iff_toInt_lt] at l ⊢
  have z : (0 : Int32).toInt = 0 := rfl
  have z1 : (1 : Int32).toInt = 1 := rfl
  omega
theorem pmx {k j q i : Nat} {v : Int32} (h : q ≠ k) : pm (setI t k j v) q i = pm t q i := by rw [pm_ne h]
theorem ok_town (h : Inv n m s g x p t) (a : Int32) : Okk t (fun t => fx_town t a) (fun t => fm_town t a) := by
  have hr := h.rng
  have hl := h.lay
  by_cases e1 : a < 1
  · refine okr h (v := -2) ?_ ?_
    · simp only [fx_town, e1, if_true]
    · simp only [fm_town, fm_in_v, decide_eq_false (Int32.not_le.mpr e1), Bool.false_and, bI_rI, bz_0, if_true]
  · by_cases e2 : a ≤ 9
    · obtain ⟨k, hk, rfl⟩ := nI_of (ge1 e1)
      have k9 : k ≤ 9 := (nI_leI (b := 9) hk (by decide)).mp e2
      have k1 : 1 ≤ k := Nat.le_of_not_lt fun l => e1 (nI_lt (b := 1) l (by decide))
      have ein : (decide ((1 : Int32) ≤ nI k) && decide (nI k ≤ 9)) = true := by rw [decide_eq_true (Int32.not_lt.mp e1), decide_eq_true e2]; rfl
      have z1 : ((0 : Int32) < nI m) = (0 < m) := propext (nI_ltI (a := 0) (by decide) (by omega))
      have z2 : (nI s ≤ (0 : Int32)) = (s ≤ 0) := propext (nI_leI (b := 0) (by omega) (by decide))
      have z3 : ((0 : Int32) < nI s) = (0 < s) := propext (nI_ltI (a := 0) (by decide) (by omega))
      by_cases cm : 0 < m
      · refine okr h (v := -3) ?_ ?_
        · simp only [fx_town, e1, e2, if_true, if_false, gI_0, pI_0, rc_0, gI_1, pI_1, rc_1, ln_2, ql_2, al_3, as_3, ln_3, al_4, as_4, ln_4, gI_5, pI_5, rc_5, ln_6, ql_6, al_7, as_7, ln_7, al_8, as_8, ln_8, ln_9, ql_9, gI_10, pI_10, rc_10, al_11, as_11, ln_11, al_12, as_12, ln_12, gI_13, pI_13, rc_13, al_14, as_14, ln_14, ln_15, ql_15, gI_16, pI_16, rc_16, al_17, as_17, ln_17, al_18, as_18, ln_18, al_19, as_19, ln_19, al_20, as_20, ln_20, bl_21, bs_21, ln_21, gI_22, pI_22, rc_22, al_23, as_23, ln_23, al_24, as_24, ln_24, al_25, as_25, ln_25, gI_31, pI_31, rc_31, al_32, as_32, ln_32, gI_33, pI_33, rc_33, al_34, as_34, ln_34, gI_35, pI_35, rc_35, al_36, as_36, ln_36, gI_37, pI_37, rc_37, al_38, as_38, ln_38, gC_0_3, gC_0_4, gC_0_5, gC_0_7, gC_0_10, gC_0_11, gC_0_12, gC_0_13, gC_0_14, gC_0_15, gC_0_16, gC_0_17, gC_1_0, gC_1_2, gC_1_3, gC_5_0, gC_5_2, gC_10_0, gC_10_7, gC_13_5, gC_16_0, gC_16_2, gC_22_0, gC_22_1, gC_22_2, gC_22_3, gC_31_2, gC_33_2, gC_35_2, gC_37_2, bI_rI, bV_rV, bQ_rN, bQ_rR, bz_0, bz_1, bz_Z, hZ0, hZ1, Lay_setI, Lay_setA, hl, h.mp', z1, cm]
        · simp only [fm_town, fm_in_v, ein, if_false, if_true, gI_39, pI_39, rc_39, al_40, as_40, ln_40, al_41, as_41, ln_41, al_42, as_42, ln_42, al_43, as_43, ln_43, al_44, as_44, ln_44, al_45, as_45, ln_45, al_46, as_46, ln_46, al_47, as_47, ln_47, al_48, as_48, ln_48, al_49, as_49, ln_49, al_50, as_50, ln_50, al_51, as_51, ln_51, al_52, as_52, ln_52, al_53, as_53, ln_53, al_54, as_54, ln_54, al_55, as_55, ln_55, al_56, as_56, ln_56, al_57, as_57, ln_57, al_58, as_58, ln_58, al_59, as_59, ln_59, al_60, as_60, ln_60, al_61, as_61, ln_61, al_62, as_62, ln_62, al_63, as_63, ln_63, al_64, as_64, ln_64, al_65, as_65, ln_65, al_66, as_66, ln_66, al_67, as_67, ln_67, gC_39_4, gC_39_5, gC_39_6, gC_39_7, gC_39_8, gC_39_10, gC_39_11, gC_39_12, gC_39_13, gC_39_15, gC_39_16, gC_39_18, gC_39_19, gC_39_27, gC_39_28, gC_39_29, gC_39_30, gC_39_31, gC_39_36, gC_39_37, gC_39_41, gC_39_42, gC_39_43, gC_39_44, gC_39_46, gC_39_47, gC_39_48, gC_39_49, bI_rI, bV_rV, bQ_rN, bQ_rR, bz_0, bz_1, bz_Z, hZ0, hZ1, Lay_setI, Lay_setA, hl, h.mp, z1, cm, Bool.true_eq_false]
      · by_cases cs : s ≤ 0
        · have f1 : fx_town t (nI k) = rI (nI n) (setI (setI (setI (setI t 0 0 (nI k)) 0 1 0) 0 2 0) 13 0 0) := by
            simp only [fx_town, e1, e2, if_true, if_false, gI_0, pI_0, rc_0, gI_1, pI_1, rc_1, ln_2, ql_2, al_3, as_3, ln_3, al_4, as_4, ln_4, gI_5, pI_5, rc_5, ln_6, ql_6, al_7, as_7, ln_7, al_8, as_8, ln_8, ln_9, ql_9, gI_10, pI_10, rc_10, al_11, as_11, ln_11, al_12, as_12, ln_12, gI_13, pI_13, rc_13, al_14, as_14, ln_14, ln_15, ql_15, gI_16, pI_16, rc_16, al_17, as_17, ln_17, al_18, as_18, ln_18, al_19, as_19, ln_19, al_20, as_20, ln_20, bl_21, bs_21, ln_21, gI_22, pI_22, rc_22, al_23, as_23, ln_23, al_24, as_24, ln_24, al_25, as_25, ln_25, gI_31, pI_31, rc_31, al_32, as_32, ln_32, gI_33, pI_33, rc_33, al_34, as_34, ln_34, gI_35, pI_35, rc_35, al_36, as_36, ln_36, gI_37, pI_37, rc_37, al_38, as_38, ln_38, gC_0_3, gC_0_4, gC_0_5, gC_0_7, gC_0_10, gC_0_11, gC_0_12, gC_0_13, gC_0_14, gC_0_15, gC_0_16, gC_0_17, gC_1_0, gC_1_2, gC_1_3, gC_5_0, gC_5_2, gC_10_0, gC_10_7, gC_13_5, gC_16_0, gC_16_2, gC_22_0, gC_22_1, gC_22_2, gC_22_3, gC_31_2, gC_33_2, gC_35_2, gC_37_2, bI_rI, bV_rV, bQ_rN, bQ_rR, bz_0, bz_1, bz_Z, hZ0, hZ1, Lay_setI, Lay_setA, hl, h.mp', h.st', h.ch', z1, z2, cm, cs]
          have c39 : mI (setI (setI (setI (setI t 0 0 (nI k)) 0 1 0) 0 2 0) 13 0 0) 39 = mI t 39 := by
            rw [setI_ne (by decide), setI_ne (by decide), setI_ne (by decide), setI_ne (by decide)]
          have e0 : (setI (setI (setI (setI t 0 0 (nI k)) 0 1 0) 0 2 0) 13 0 0).2 = t.2 := rfl
          have r0 : SR [0, 1, 5, 10, 13, 14, 39, 53] (pm t) (pm (setI (setI (setI (setI t 0 0 (nI k)) 0 1 0) 0 2 0) 13 0 0)) := ((((SR.refl _ _).st (by decide)).st (by decide)).st (by decide)).st (by decide)
          have l1 : Lay (setI (setI (setI (setI t 0 0 (nI k)) 0 1 0) 0 2 0) 13 0 0) := hl
          have w : ∀ q i, pm (setI (setI (setI (setI t 0 0 (nI k)) 0 1 0) 0 2 0) 13 0 0) q i = if q = 13 ∧ i = 0 then 0 else if q = 0 ∧ i = 2 then 0 else if q = 0 ∧ i = 1 then 0 else if q = 0 ∧ i = 0 then nI k else pm t q i := by
            intro q i
            have l2 : Lay (setI (setI (setI t 0 0 (nI k)) 0 1 0) 0 2 0) := hl
            have l3 : Lay (setI (setI t 0 0 (nI k)) 0 1 0) := hl
            have l4 : Lay (setI t 0 0 (nI k)) := hl
            rw [pmI_13_0 l2, pmI_0_2 l3, pmI_0_1 l4, pmI_0_0 hl]
          generalize setI (setI (setI (setI t 0 0 (nI k)) 0 1 0) 0 2 0) 13 0 0 = t1 at *
          have f2 : fm_town t1 (nI k) = rI (nI n) (setI (setI (setI (setI t1 39 0 (nI k)) 39 1 0) 39 2 0) 39 22 0) := by
            simp only [fm_town, fm_in_v, ein, if_false, if_true, gI_39, pI_39, rc_39, al_40, as_40, ln_40, al_41, as_41, ln_41, al_42, as_42, ln_42, al_43, as_43, ln_43, al_44, as_44, ln_44, al_45, as_45, ln_45, al_46, as_46, ln_46, al_47, as_47, ln_47, al_48, as_48, ln_48, al_49, as_49, ln_49, al_50, as_50, ln_50, al_51, as_51, ln_51, al_52, as_52, ln_52, al_53, as_53, ln_53, al_54, as_54, ln_54, al_55, as_55, ln_55, al_56, as_56, ln_56, al_57, as_57, ln_57, al_58, as_58, ln_58, al_59, as_59, ln_59, al_60, as_60, ln_60, al_61, as_61, ln_61, al_62, as_62, ln_62, al_63, as_63, ln_63, al_64, as_64, ln_64, al_65, as_65, ln_65, al_66, as_66, ln_66, al_67, as_67, ln_67, gC_39_4, gC_39_5, gC_39_6, gC_39_7, gC_39_8, gC_39_10, gC_39_11, gC_39_12, gC_39_13, gC_39_15, gC_39_16, gC_39_18, gC_39_19, gC_39_27, gC_39_28, gC_39_29, gC_39_30, gC_39_31, gC_39_36, gC_39_37, gC_39_41, gC_39_42, gC_39_43, gC_39_44, gC_39_46, gC_39_47, gC_39_48, gC_39_49, bI_rI, bV_rV, bQ_rN, bQ_rR, bz_0, bz_1, bz_Z, hZ0, hZ1, Lay_setI, Lay_setA, l1, c39, h.mp, h.st, h.ch, z1, z2, cm, cs, Bool.true_eq_false]
          have r1 : SR [0, 1, 5, 10, 13, 14, 39, 53] (pm t) (pm (setI (setI (setI (setI t1 39 0 (nI k)) 39 1 0) 39 2 0) 39 22 0)) := (((r0.st (by decide)).st (by decide)).st (by decide)).st (by decide)
          have w2 : ∀ q i, pm (setI (setI (setI (setI t1 39 0 (nI k)) 39 1 0) 39 2 0) 39 22 0) q i = if q = 39 ∧ i = 22 then 0 else if q = 39 ∧ i = 2 then 0 else if q = 39 ∧ i = 1 then 0 else if q = 39 ∧ i = 0 then nI k else if q = 13 ∧ i = 0 then 0 else if q = 0 ∧ i = 2 then 0 else if q = 0 ∧ i = 1 then 0 else if q = 0 ∧ i = 0 then nI k else pm t q i := by
            intro q i
            have l2 : Lay (setI (setI (setI t1 39 0 (nI k)) 39 1 0) 39 2 0) := l1
            have l3 : Lay (setI (setI t1 39 0 (nI k)) 39 1 0) := l1
            have l4 : Lay (setI t1 39 0 (nI k)) := l1
            rw [pmI_39_22 l2, pmI_39_2 l3, pmI_39_1 l4, pmI_39_0 l1, ← w]
          obtain ⟨_, ⟨a1, a2⟩, ⟨b1, b2⟩, ⟨c1, c2⟩, ⟨d1, d2⟩, ⟨e3, e4⟩, ⟨g1, g2⟩, g3, g4, g5, gl⟩ := h.num
          obtain ⟨i1, i2, i3, i4, i5, i6, ik, il, j1, j2, j3, j4, j5, j6⟩ := h.img
          refine okc f1 f2 l1 (n' := k) (m' := m) (s' := s) (g' := g) (x' := x) (p' := p) ?_ (by show mN t1 = _; unfold mN; rw [e0]) (by show mZ t1 = _; unfold mZ; rw [e0])
          refine h.num1 (by show t1.2 = _; exact e0) r1 (IvN.mk ⟨⟨k1, k9⟩, hr.2⟩ ?_ ?_ ?_ ?_ ?_ ?_ ?_ ?_ ?_ ?_ ?_ ?_ ?_ ?_ ?_ ?_) ?_ rfl rfl (Or.inr (by omega)) (Or.inr (by omega)) rfl
          any_goals (simp [w2, a1, a2, b1, b2, c1, c2, d1, d2, e3, e4, g1, g2, g3, g4, g5, gl])
          unfold IvI
          refine ⟨by simp [w2], Or.inl (by simp [w2]), by simp [w2, i3], by simp [w2, i4], by simp [w2, i5], by simp [w2, i6], ik, il, j1, j2, by simp [w2, j3], by simp [w2, j4], fun e => ?_, fun i hi => by simp [w2, j6 i hi]⟩
          simp [w2] at e
        · refine okr h (v := -3) ?_ ?_
          · simp only [fx_town, e1, e2, if_true, if_false, gI_0, pI_0, rc_0, gI_1, pI_1, rc_1, ln_2, ql_2, al_3, as_3, ln_3, al_4, as_4, ln_4, gI_5, pI_5, rc_5, ln_6, ql_6, al_7, as_7, ln_7, al_8, as_8, ln_8, ln_9, ql_9, gI_10, pI_10, rc_10, al_11, as_11, ln_11, al_12, as_12, ln_12, gI_13, pI_13, rc_13, al_14, as_14, ln_14, ln_15, ql_15, gI_16, pI_16, rc_16, al_17, as_17, ln_17, al_18, as_18, ln_18, al_19, as_19, ln_19, al_20, as_20, ln_20, bl_21, bs_21, ln_21, gI_22, pI_22, rc_22, al_23, as_23, ln_23, al_24, as_24, ln_24, al_25, as_25, ln_25, gI_31, pI_31, rc_31, al_32, as_32, ln_32, gI_33, pI_33, rc_33, al_34, as_34, ln_34, gI_35, pI_35, rc_35, al_36, as_36, ln_36, gI_37, pI_37, rc_37, al_38, as_38, ln_38, gC_0_3, gC_0_4, gC_0_5, gC_0_7, gC_0_10, gC_0_11, gC_0_12, gC_0_13, gC_0_14, gC_0_15, gC_0_16, gC_0_17, gC_1_0, gC_1_2, gC_1_3, gC_5_0, gC_5_2, gC_10_0, gC_10_7, gC_13_5, gC_16_0, gC_16_2, gC_22_0, gC_22_1, gC_22_2, gC_22_3, gC_31_2, gC_33_2, gC_35_2, gC_37_2, bI_rI, bV_rV, bQ_rN, bQ_rR, bz_0, bz_1, bz_Z, hZ0, hZ1, Lay_setI, Lay_setA, hl, h.mp', h.st', z1, z2, cm, cs]
          · simp only [fm_town, fm_in_v, ein, if_false, if_true, gI_39, pI_39, rc_39, al_40, as_40, ln_40, al_41, as_41, ln_41, al_42, as_42, ln_42, al_43, as_43, ln_43, al_44, as_44, ln_44, al_45, as_45, ln_45, al_46, as_46, ln_46, al_47, as_47, ln_47, al_48, as_48, ln_48, al_49, as_49, ln_49, al_50, as_50, ln_50, al_51, as_51, ln_51, al_52, as_52, ln_52, al_53, as_53, ln_53, al_54, as_54, ln_54, al_55, as_55, ln_55, al_56, as_56, ln_56, al_57, as_57, ln_57, al_58, as_58, ln_58, al_59, as_59, ln_59, al_60, as_60, ln_60, al_61, as_61, ln_61, al_62, as_62, ln_62, al_63, as_63, ln_63, al_64, as_64, ln_64, al_65, as_65, ln_65, al_66, as_66, ln_66, al_67, as_67, ln_67, gC_39_4, gC_39_5, gC_39_6, gC_39_7, gC_39_8, gC_39_10, gC_39_11, gC_39_12, gC_39_13, gC_39_15, gC_39_16, gC_39_18, gC_39_19, gC_39_27, gC_39_28, gC_39_29, gC_39_30, gC_39_31, gC_39_36, gC_39_37, gC_39_41, gC_39_42, gC_39_43, gC_39_44, gC_39_46, gC_39_47, gC_39_48, gC_39_49, bI_rI, bV_rV, bQ_rN, bQ_rR, bz_0, bz_1, bz_Z, hZ0, hZ1, Lay_setI, Lay_setA, hl, h.mp, h.st, z1, z2, cm, cs, Bool.true_eq_false]
    · refine okr h (v := -2) ?_ ?_
      · simp only [fx_town, e1, if_false, e2]
      · simp only [fm_town, fm_in_v, decide_eq_false e2, Bool.and_false, bI_rI, bz_0, if_true]
end
