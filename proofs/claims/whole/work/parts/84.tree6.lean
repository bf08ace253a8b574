section
variable {n m s g x p : Nat} {t u : SM}
/-! the model's scan -/
def bmO (o : Option (Nat × Nat)) : Int32 := match o with
  | none => -1
  | some q => nI q.1
def byO (o : Option (Nat × Nat)) : Int32 := match o with
  | none => -1
  | some q => nI q.2
theorem ml48 (h : Inv n m s g x p u) {v1 v2 : Int32} {dr : Nat → Bool} (hb : ∀ k, k < 8 → bt v1 k = dr k) {i : Nat} (hi : i < m) {o0 : Option (Nat × Nat)} {k144 : SM → Int32 → Int32 → Int32 → Int32 → Int32 → Int32 → OR} : ∀ k j f, j + k = m → k < f →
    fm_drawsAll_l48 k144 f u v1 v2 (bmO (scJ (DD (pm u)) dr i o0 j)) (byO (scJ (DD (pm u)) dr i o0 j)) (lsO 99 (DD (pm u)) (scJ (DD (pm u)) dr i o0 j)) (nI i) (nI j) = k144 u v1 v2 (bmO (scJ (DD (pm u)) dr i o0 m)) (byO (scJ (DD (pm u)) dr i o0 m)) (lsO 99 (DD (pm u)) (scJ (DD (pm u)) dr i o0 m)) (nI i) := by
  have hr := h.rng
  have hl := h.lay
  intro k
  induction k with
  | zero =>
    intro j f hj hf
    obtain ⟨f, rfl⟩ : ∃ f', f = f' + 1 := ⟨f - 1, by omega⟩
    obtain rfl : j = m := by omega
    have e9 : nI j ≤ nI j := Int32.le_refl _
    show fm_drawsAll_48 _ _ u _ _ _ _ _ _ _ = _
    simp only [fm_drawsAll_48, gI_39, pI_39, rc_39, al_40, as_40, ln_40, al_41, as_41, ln_41, al_42, as_42, ln_42, al_43, as_43, ln_43, al_44, as_44, ln_44, al_45, as_45, ln_45, al_46, as_46, ln_46, al_47, as_47, ln_47, al_48, as_48, ln_48, al_49, as_49, ln_49, al_50, as_50, ln_50, al_51, as_51, ln_51, al_52, as_52, ln_52, al_53, as_53, ln_53, al_54, as_54, ln_54, al_55, as_55, ln_55, al_56, as_56, ln_56, al_57, as_57, ln_57, al_58, as_58, ln_58, al_59, as_59, ln_59, al_60, as_60, ln_60, al_61, as_61, ln_61, al_62, as_62, ln_62, al_63, as_63, ln_63, al_64, as_64, ln_64, al_65, as_65, ln_65, al_66, as_66, ln_66, al_67, as_67, ln_67, gC_39_4, gC_39_5, gC_39_6, gC_39_7, gC_39_8, gC_39_10, gC_39_11, gC_39_12, gC_39_13, gC_39_15, gC_39_16, gC_39_18, gC_39_19, gC_39_27, gC_39_28, gC_39_29, gC_39_30, gC_39_31, gC_39_36, gC_39_37, gC_39_41, gC_39_42, gC_39_43, gC_39_44, gC_39_46, gC_39_47, gC_39_48, gC_39_49, bI_rI, bV_rV, bQ_rN, bQ_rR, bz_0, bz_1, bz_Z, hZ0, hZ1, Lay_setI, Lay_setA, hl, h.mp, e9, if_true]
  | succ k ih =>
    intro j f hj hf
    obtain ⟨f, rfl⟩ : ∃ f', f = f' + 1 := ⟨f - 1, by omega⟩
    have hjm : j < m := by omega
    have e9 : ¬ nI m ≤ nI j := nI_ge hjm (by omega)
    have i8 : i < 8 := by omega
    have j8 : j < 8 := by omega
    have bi := b_bit v1 (show i < 32 by omega)
    have bj := b_bit v1 (show j < 32 by omega)
    rw [hb i (by omega)] at bi
    rw [hb j (by omega)] at bj
    have es : scJ (DD (pm u)) dr i o0 (j + 1) = tk (DD (pm u)) dr i j (scJ (DD (pm u)) dr i o0 j) := rfl
    have on : fm_ones u (mI u 41 i ^^^ mI u 41 j) = rI (nI (DD (pm u) i j)) u := by
      rw [fm_ones_v, onc_nI, rp_41 hl, rp_41 hl]; rfl
    have le := lsO_le (L := 99) (G := pm u) (o := scJ (DD (pm u)) dr i o0 j) (i := i) (j := j) (Or.inr rfl)
    have nx := ih (j + 1) f (by omega) (by omega)
    rw [← nx]
    show fm_drawsAll_48 _ _ u _ _ _ _ _ _ _ = _
    have z01 : ¬ (0 : Int32) = 1 := by decide
    have z10 : ¬ (1 : Int32) = 0 := by decide
    rcases Bool.eq_false_or_eq_true (dr i) with ci | ci
    · have e1 : scJ (DD (pm u)) dr i o0 (j + 1) = scJ (DD (pm u)) dr i o0 j := by rw [es]; unfold tk; rw [if_neg (fun z => by rw [ci] at z; exact Bool.noConfusion z.1)]
      rw [e1]
      rw [ci] at bi
      simp only [fm_drawsAll_48, fm_drawsAll_80, gI_39, pI_39, rc_39, al_40, as_40, ln_40, al_41, as_41, ln_41, al_42, as_42, ln_42, al_43, as_43, ln_43, al_44, as_44, ln_44, al_45, as_45, ln_45, al_46, as_46, ln_46, al_47, as_47, ln_47, al_48, as_48, ln_48, al_49, as_49, ln_49, al_50, as_50, ln_50, al_51, as_51, ln_51, al_52, as_52, ln_52, al_53, as_53, ln_53, al_54, as_54, ln_54, al_55, as_55, ln_55, al_56, as_56, ln_56, al_57, as_57, ln_57, al_58, as_58, ln_58, al_59, as_59, ln_59, al_60, as_60, ln_60, al_61, as_61, ln_61, al_62, as_62, ln_62, al_63, as_63, ln_63, al_64, as_64, ln_64, al_65, as_65, ln_65, al_66, as_66, ln_66, al_67, as_67, ln_67, gC_39_4, gC_39_5, gC_39_6, gC_39_7, gC_39_8, gC_39_10, gC_39_11, gC_39_12, gC_39_13, gC_39_15, gC_39_16, gC_39_18, gC_39_19, gC_39_27, gC_39_28, gC_39_29, gC_39_30, gC_39_31, gC_39_36, gC_39_37, gC_39_41, gC_39_42, gC_39_43, gC_39_44, gC_39_46, gC_39_47, gC_39_48, gC_39_49, bI_rI, bV_rV, bQ_rN, bQ_rR, bz_0, bz_1, bz_Z, hZ0, hZ1, Lay_setI, Lay_setA, hl, h.mp, e9, if_false, bi, bz, if_true, z10, nI_1]
    · rw [ci] at bi
      rcases Bool.eq_false_or_eq_true (dr j) with cj | cj
      · rw [cj] at bj
        by_cases c : ∀ q, scJ (DD (pm u)) dr i o0 j = some q → DD (pm u) i j < DD (pm u) q.1 q.2
        · have e1 : scJ (DD (pm u)) dr i o0 (j + 1) = some (i, j) := by rw [es]; unfold tk; rw [if_pos ⟨ci, cj, c⟩]
          have nle : ¬ lsO 99 (DD (pm u)) (scJ (DD (pm u)) dr i o0 j) ≤ nI (DD (pm u) i j) := fun z => le.mp z c
          rw [e1]
          simp only [fm_drawsAll_48, fm_drawsAll_80, gI_39, pI_39, rc_39, al_40, as_40, ln_40, al_41, as_41, ln_41, al_42, as_42, ln_42, al_43, as_43, ln_43, al_44, as_44, ln_44, al_45, as_45, ln_45, al_46, as_46, ln_46, al_47, as_47, ln_47, al_48, as_48, ln_48, al_49, as_49, ln_49, al_50, as_50, ln_50, al_51, as_51, ln_51, al_52, as_52, ln_52, al_53, as_53, ln_53, al_54, as_54, ln_54, al_55, as_55, ln_55, al_56, as_56, ln_56, al_57, as_57, ln_57, al_58, as_58, ln_58, al_59, as_59, ln_59, al_60, as_60, ln_60, al_61, as_61, ln_61, al_62, as_62, ln_62, al_63, as_63, ln_63, al_64, as_64, ln_64, al_65, as_65, ln_65, al_66, as_66, ln_66, al_67, as_67, ln_67, gC_39_4, gC_39_5, gC_39_6, gC_39_7, gC_39_8, gC_39_10, gC_39_11, gC_39_12, gC_39_13, gC_39_15, gC_39_16, gC_39_18, gC_39_19, gC_39_27, gC_39_28, gC_39_29, gC_39_30, gC_39_31, gC_39_36, gC_39_37, gC_39_41, gC_39_42, gC_39_43, gC_39_44, gC_39_46, gC_39_47, gC_39_48, gC_39_49, bI_rI, bV_rV, bQ_rN, bQ_rR, bz_0, bz_1, bz_Z, hZ0, hZ1, Lay_setI, Lay_setA, hl, h.mp, e9, if_false, bi, bj, bz, Bool.false_eq_true, if_true, i8, j8, on, nle, nI_1]
          rfl
        · have e1 : scJ (DD (pm u)) dr i o0 (j + 1) = scJ (DD (pm u)) dr i o0 j := by rw [es]; unfold tk; rw [if_neg (fun z => c z.2.2)]
          have nle : lsO 99 (DD (pm u)) (scJ (DD (pm u)) dr i o0 j) ≤ nI (DD (pm u) i j) := le.mpr c
          rw [e1]
          simp only [fm_drawsAll_48, fm_drawsAll_80, gI_39, pI_39, rc_39, al_40, as_40, ln_40, al_41, as_41, ln_41, al_42, as_42, ln_42, al_43, as_43, ln_43, al_44, as_44, ln_44, al_45, as_45, ln_45, al_46, as_46, ln_46, al_47, as_47, ln_47, al_48, as_48, ln_48, al_49, as_49, ln_49, al_50, as_50, ln_50, al_51, as_51, ln_51, al_52, as_52, ln_52, al_53, as_53, ln_53, al_54, as_54, ln_54, al_55, as_55, ln_55, al_56, as_56, ln_56, al_57, as_57, ln_57, al_58, as_58, ln_58, al_59, as_59, ln_59, al_60, as_60, ln_60, al_61, as_61, ln_61, al_62, as_62, ln_62, al_63, as_63, ln_63, al_64, as_64, ln_64, al_65, as_65, ln_65, al_66, as_66, ln_66, al_67, as_67, ln_67, gC_39_4, gC_39_5, gC_39_6, gC_39_7, gC_39_8, gC_39_10, gC_39_11, gC_39_12, gC_39_13, gC_39_15, gC_39_16, gC_39_18, gC_39_19, gC_39_27, gC_39_28, gC_39_29, gC_39_30, gC_39_31, gC_39_36, gC_39_37, gC_39_41, gC_39_42, gC_39_43, gC_39_44, gC_39_46, gC_39_47, gC_39_48, gC_39_49, bI_rI, bV_rV, bQ_rN, bQ_rR, bz_0, bz_1, bz_Z, hZ0, hZ1, Lay_setI, Lay_setA, hl, h.mp, e9, if_false, bi, bj, bz, Bool.false_eq_true, if_true, i8, j8, on, nle, nI_1]
      · rw [cj] at bj
        have e1 : scJ (DD (pm u)) dr i o0 (j + 1) = scJ (DD (pm u)) dr i o0 j := by rw [es]; unfold tk; rw [if_neg (fun z => by rw [cj] at z; exact Bool.noConfusion z.2.1)]
        rw [e1]
        simp only [fm_drawsAll_48, fm_drawsAll_80, gI_39, pI_39, rc_39, al_40, as_40, ln_40, al_41, as_41, ln_41, al_42, as_42, ln_42, al_43, as_43, ln_43, al_44, as_44, ln_44, al_45, as_45, ln_45, al_46, as_46, ln_46, al_47, as_47, ln_47, al_48, as_48, ln_48, al_49, as_49, ln_49, al_50, as_50, ln_50, al_51, as_51, ln_51, al_52, as_52, ln_52, al_53, as_53, ln_53, al_54, as_54, ln_54, al_55, as_55, ln_55, al_56, as_56, ln_56, al_57, as_57, ln_57, al_58, as_58, ln_58, al_59, as_59, ln_59, al_60, as_60, ln_60, al_61, as_61, ln_61, al_62, as_62, ln_62, al_63, as_63, ln_63, al_64, as_64, ln_64, al_65, as_65, ln_65, al_66, as_66, ln_66, al_67, as_67, ln_67, gC_39_4, gC_39_5, gC_39_6, gC_39_7, gC_39_8, gC_39_10, gC_39_11, gC_39_12, gC_39_13, gC_39_15, gC_39_16, gC_39_18, gC_39_19, gC_39_27, gC_39_28, gC_39_29, gC_39_30, gC_39_31, gC_39_36, gC_39_37, gC_39_41, gC_39_42, gC_39_43, gC_39_44, gC_39_46, gC_39_47, gC_39_48, gC_39_49, bI_rI, bV_rV, bQ_rN, bQ_rR, bz_0, bz_1, bz_Z, hZ0, hZ1, Lay_setI, Lay_setA, hl, h.mp, e9, if_false, bi, bj, bz, Bool.false_eq_true, if_true, z01, nI_1]
theorem ml36 (h : Inv n m s g x p u) {v1 v2 : Int32} {dr : Nat → Bool} (hb : ∀ k, k < 8 → bt v1 k = dr k) {k150 : SM → Int32 → Int32 → Int32 → Int32 → Int32 → OR} : ∀ k i f, i + k = m → k < f →
    fm_drawsAll_l36 k150 f u v1 v2 (bmO (scI (DD (pm u)) dr m i)) (byO (scI (DD (pm u)) dr m i)) (lsO 99 (DD (pm u)) (scI (DD (pm u)) dr m i)) (nI i) = k150 u v1 v2 (bmO (scI (DD (pm u)) dr m m)) (byO (scI (DD (pm u)) dr m m)) (lsO 99 (DD (pm u)) (scI (DD (pm u)) dr m m)) := by
  have hr := h.rng
  have hl := h.lay
  intro k
  induction k with
  | zero =>
    intro i f hj hf
    obtain ⟨f, rfl⟩ : ∃ f', f = f' + 1 := ⟨f - 1, by omega⟩
    obtain rfl : i = m := by omega
    have e9 : nI i ≤ nI i := Int32.le_refl _
    show fm_drawsAll_36 _ _ u _ _ _ _ _ _ = _
    simp only [fm_drawsAll_36, gI_39, pI_39, rc_39, al_40, as_40, ln_40, al_41, as_41, ln_41, al_42, as_42, ln_42, al_43, as_43, ln_43, al_44, as_44, ln_44, al_45, as_45, ln_45, al_46, as_46, ln_46, al_47, as_47, ln_47, al_48, as_48, ln_48, al_49, as_49, ln_49, al_50, as_50, ln_50, al_51, as_51, ln_51, al_52, as_52, ln_52, al_53, as_53, ln_53, al_54, as_54, ln_54, al_55, as_55, ln_55, al_56, as_56, ln_56, al_57, as_57, ln_57, al_58, as_58, ln_58, al_59, as_59, ln_59, al_60, as_60, ln_60, al_61, as_61, ln_61, al_62, as_62, ln_62, al_63, as_63, ln_63, al_64, as_64, ln_64, al_65, as_65, ln_65, al_66, as_66, ln_66, al_67, as_67, ln_67, gC_39_4, gC_39_5, gC_39_6, gC_39_7, gC_39_8, gC_39_10, gC_39_11, gC_39_12, gC_39_13, gC_39_15, gC_39_16, gC_39_18, gC_39_19, gC_39_27, gC_39_28, gC_39_29, gC_39_30, gC_39_31, gC_39_36, gC_39_37, gC_39_41, gC_39_42, gC_39_43, gC_39_44, gC_39_46, gC_39_47, gC_39_48, gC_39_49, bI_rI, bV_rV, bQ_rN, bQ_rR, bz_0, bz_1, bz_Z, hZ0, hZ1, Lay_setI, Lay_setA, hl, h.mp, e9, if_true]
  | succ k ih =>
    intro i f hj hf
    obtain ⟨f, rfl⟩ : ∃ f', f = f' + 1 := ⟨f - 1, by omega⟩
    have him : i < m := by omega
    have e9 : ¬ nI m ≤ nI i := nI_ge him (by omega)
    have es : scI (DD (pm u)) dr m (i + 1) = scJ (DD (pm u)) dr i (scI (DD (pm u)) dr m i) m := rfl
    have nx := ih (i + 1) f (by omega) (by omega)
    rw [← nx, es]
    have inn := ml48 h (v1 := v1) (v2 := v2) hb him (o0 := scI (DD (pm u)) dr m i) (k144 := fun t u1 u2 u3 u4 u5 u6 => fm_drawsAll_144 (fm_drawsAll_l36 k150 f) t u1 u2 u3 u4 u5 u6) m 0 1000000 (by omega) (by omega)
    show fm_drawsAll_36 _ _ u _ _ _ _ _ _ = _
    simp only [fm_drawsAll_36, gI_39, pI_39, rc_39, al_40, as_40, ln_40, al_41, as_41, ln_41, al_42, as_42, ln_42, al_43, as_43, ln_43, al_44, as_44, ln_44, al_45, as_45, ln_45, al_46, as_46, ln_46, al_47, as_47, ln_47, al_48, as_48, ln_48, al_49, as_49, ln_49, al_50, as_50, ln_50, al_51, as_51, ln_51, al_52, as_52, ln_52, al_53, as_53, ln_53, al_54, as_54, ln_54, al_55, as_55, ln_55, al_56, as_56, ln_56, al_57, as_57, ln_57, al_58, as_58, ln_58, al_59, as_59, ln_59, al_60, as_60, ln_60, al_61, as_61, ln_61, al_62, as_62, ln_62, al_63, as_63, ln_63, al_64, as_64, ln_64, al_65, as_65, ln_65, al_66, as_66, ln_66, al_67, as_67, ln_67, gC_39_4, gC_39_5, gC_39_6, gC_39_7, gC_39_8, gC_39_10, gC_39_11, gC_39_12, gC_39_13, gC_39_15, gC_39_16, gC_39_18, gC_39_19, gC_39_27, gC_39_28, gC_39_29, gC_39_30, gC_39_31, gC_39_36, gC_39_37, gC_39_41, gC_39_42, gC_39_43, gC_39_44, gC_39_46, gC_39_47, gC_39_48, gC_39_49, bI_rI, bV_rV, bQ_rN, bQ_rR, bz_0, bz_1, bz_Z, hZ0, hZ1, Lay_setI, Lay_setA, hl, h.mp, e9, if_false]
    refine Eq.trans inn ?_
    simp only [fm_drawsAll_144, nI_1]
end
