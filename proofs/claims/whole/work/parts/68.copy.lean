section
variable {n m s g x p : Nat} {t u : SM}
theorem sub_int {x y : Int32} (h1 : -2147483648 ≤ x.toInt - y.toInt) (h2 : x.toInt - y.toInt < 2147483648) : (x - y).toInt = x.toInt - y.toInt := by
  rw [Int32.toInt_sub]
  exact Int.bmod_eq_of_le (by omega) (by omega)
theorem nI_int (a : Nat) (h : a < 2 ^ 31) : (nI a).toInt = a := nI_toInt h
theorem spn {b : Int32} {z k : Nat} (hz : z ≤ 40) (hk : k < 2 ^ 31) : (decide ((0 : Int32) ≤ b) && decide (b ≤ nI z - nI k)) = true ↔ ∃ i, b = nI i ∧ i + k ≤ z := by
  rw [Bool.and_eq_true, decide_eq_true_eq, decide_eq_true_eq]
  constructor
  · rintro ⟨h0, h1⟩
    obtain ⟨i, hi, rfl⟩ := nI_of (Int32.not_lt.mpr h0)
    refine ⟨i, rfl, ?_⟩
    rw [Int32.le_iff_toInt_le, sub_int (by rw [nI_int _ (by omega), nI_int _ hk]; omega) (by rw [nI_int _ (by omega), nI_int _ hk]; omega), nI_int _ hi, nI_int _ (by omega), nI_int _ hk] at h1
    omega
  · rintro ⟨i, rfl, hi⟩
    refine ⟨nI_pos' (by omega), ?_⟩
    rw [Int32.le_iff_toInt_le, sub_int (by rw [nI_int _ (by omega), nI_int _ hk]; omega) (by rw [nI_int _ (by omega), nI_int _ hk]; omega), nI_int _ (by omega), nI_int _ (by omega), nI_int _ hk]
    omega
/-- the model's numbers, moved -/
def mvd (f : Nat → Int32) (A B k : Nat) : Nat → Int32 := fun j => if B ≤ j ∧ j < B + k then f (A + (j - B)) else f j
theorem copy_m {A B k : Nat} (hl : Lay t) (hA : A + k ≤ 160) (hB : B + k ≤ 160) : fm_copy_l147 1000000 t (nI k) (nI A) (nI B) 0 = rI (nI k) (setA t 56 (mvd (mI t 56) A B k)) := by
  have eAB : (nI B ≤ nI A) = (B ≤ A) := propext (nI_leI (by omega) (by omega))
  refine for_up (β := Unit) (fun f t i _ => fm_copy_l147 f t (nI k) (nI A) (nI B) (nI i)) (fun r => r = rI (nI k) (setA t 56 (mvd (mI t 56) A B k))) k
    (fun i u _ => u = setA t 56 (fun j => if (if B ≤ A then B ≤ j ∧ j < B + i else B + (k - i) ≤ j ∧ j < B + k) then mI t 56 (A + (j - B)) else mI t 56 j)) ?_ ?_ k 0 t () 1000000 (by omega) ?_ (by omega)
  · intro f u _ hu
    show fm_copy_147 _ u (nI k) (nI A) (nI B) (nI k) = _
    unfold fm_copy_147
    rw [if_pos (Int32.le_refl _), hu]
    congr 2
    funext j
    unfold mvd
    by_cases c : B ≤ A
    · simp only [c, if_true]
    · simp only [c, if_false, Nat.sub_self, Nat.add_zero]
  · intro f u i _ hi hu ih
    have lu : Lay u := by rw [hu]; exact hl
    have e9 : ¬ nI k ≤ nI i := nI_ge hi (by omega)
    show fm_copy_147 _ u (nI k) (nI A) (nI B) (nI i) = _
    unfold fm_copy_147
    rw [if_neg e9]
    simp only [eAB]
    by_cases c : B ≤ A
    · rw [if_pos c, gC_39_30 lu, gC_39_30 lu, nI_add, al_56 lu (by omega), nI_add, as_56 lu (by omega), nI_1]
      refine ih _ () ?_
      rw [hu, setI_setA, setA_I, if_pos rfl]
      congr 1
      funext j
      simp only [c, if_true]
      rw [if_neg (show ¬ (B ≤ A + i ∧ A + i < B + i) by omega)]
      unfold upd
      by_cases e : j = B + i
      · rw [if_pos e, if_pos (by omega), e, Nat.add_sub_cancel_left]
      · rw [if_neg e]
        show (if B ≤ j ∧ j < B + i then _ else _) = _
        by_cases e2 : B ≤ j ∧ j < B + i
        · rw [if_pos e2, if_pos (by omega)]
        · rw [if_neg e2, if_neg (by omega)]
    · have s1 : nI k - 1 - nI i = nI (k - 1 - i) := by
        rw [show nI k - 1 = nI (k - 1) from pk_sub (b := 1) (by omega)]
        exact pk_sub (by omega)
      rw [if_neg c, gC_39_30 lu, gC_39_30 lu, s1, nI_add, al_56 lu (by omega), nI_add, as_56 lu (by omega), nI_1]
      refine ih _ () ?_
      rw [hu, setI_setA, setA_I, if_pos rfl]
      congr 1
      funext j
      simp only [c, if_false]
      rw [if_neg (show ¬ (B + (k - i) ≤ A + (k - 1 - i) ∧ A + (k - 1 - i) < B + k) by omega)]
      unfold upd
      by_cases e : j = B + (k - 1 - i)
      · rw [if_pos e, if_pos (by omega), e, Nat.add_sub_cancel_left]
      · rw [if_neg e]
        show (if B + (k - i) ≤ j ∧ j < B + k then _ else _) = _
        by_cases e2 : B + (k - i) ≤ j ∧ j < B + k
        · rw [if_pos e2, if_pos (by omega)]
        · rw [if_neg e2, if_neg (by omega)]
  · have : (fun j => if (if B ≤ A then B ≤ j ∧ j < B + 0 else B + (k - 0) ≤ j ∧ j < B + k) then mI t 56 (A + (j - B)) else mI t 56 j) = mI t 56 := by
      funext j
      by_cases c : B ≤ A
      · simp only [c, if_true]; rw [if_neg (by omega)]
      · simp only [c, if_false]; rw [if_neg (by omega)]
    rw [this, setA_mI]
theorem ok_copy (h : Inv n m s g x p t) (a b c d e : Int32) : Okk t (fun t => fx_copy t a b c d e) (fun t => fm_copy t a b c d e) := by
  have hl := h.lay
  have in4 : ∀ a : Int32, (decide ((0 : Int32) ≤ a) && decide (a ≤ 3)) = inr a 4 := fun a => inr_in (N := 4) (by decide)
  cases ca : inr a 4
  · refine okr h (v := -2) ?_ ?_
    · cases cc : inr c 4
      · simp only [fx_copy, gI_0, pI_0, rc_0, gI_1, pI_1, rc_1, ln_2, ql_2, al_3, as_3, ln_3, al_4, as_4, ln_4, gI_5, pI_5, rc_5, ln_6, ql_6, al_7, as_7, ln_7, al_8, as_8, ln_8, ln_9, ql_9, gI_10, pI_10, rc_10, al_11, as_11, ln_11, al_12, as_12, ln_12, gI_13, pI_13, rc_13, al_14, as_14, ln_14, ln_15, ql_15, gI_16, pI_16, rc_16, al_17, as_17, ln_17, al_18, as_18, ln_18, al_19, as_19, ln_19, al_20, as_20, ln_20, bl_21, bs_21, ln_21, gI_22, pI_22, rc_22, al_23, as_23, ln_23, al_24, as_24, ln_24, al_25, as_25, ln_25, gI_31, pI_31, rc_31, al_32, as_32, ln_32, gI_33, pI_33, rc_33, al_34, as_34, ln_34, gI_35, pI_35, rc_35, al_36, as_36, ln_36, gI_37, pI_37, rc_37, al_38, as_38, ln_38, gC_0_3, gC_0_4, gC_0_5, gC_0_7, gC_0_10, gC_0_11, gC_0_12, gC_0_13, gC_0_14, gC_0_15, gC_0_16, gC_0_17, gC_1_0, gC_1_2, gC_1_3, gC_5_0, gC_5_2, gC_10_0, gC_10_7, gC_13_5, gC_16_0, gC_16_2, gC_22_0, gC_22_1, gC_22_2, gC_22_3, gC_31_2, gC_33_2, gC_35_2, gC_37_2, bI_rI, bV_rV, bQ_rN, bQ_rR, bz_0, bz_1, bz_Z, hZ0, hZ1, Lay_setI, Lay_setA, hl, (sheetAt_v hl a).1 ca, (sheetAt_v hl c).1 cc]
      · obtain ⟨i2, hi2, rfl⟩ := inr_t cc (by decide)
        simp only [fx_copy, gI_0, pI_0, rc_0, gI_1, pI_1, rc_1, ln_2, ql_2, al_3, as_3, ln_3, al_4, as_4, ln_4, gI_5, pI_5, rc_5, ln_6, ql_6, al_7, as_7, ln_7, al_8, as_8, ln_8, ln_9, ql_9, gI_10, pI_10, rc_10, al_11, as_11, ln_11, al_12, as_12, ln_12, gI_13, pI_13, rc_13, al_14, as_14, ln_14, ln_15, ql_15, gI_16, pI_16, rc_16, al_17, as_17, ln_17, al_18, as_18, ln_18, al_19, as_19, ln_19, al_20, as_20, ln_20, bl_21, bs_21, ln_21, gI_22, pI_22, rc_22, al_23, as_23, ln_23, al_24, as_24, ln_24, al_25, as_25, ln_25, gI_31, pI_31, rc_31, al_32, as_32, ln_32, gI_33, pI_33, rc_33, al_34, as_34, ln_34, gI_35, pI_35, rc_35, al_36, as_36, ln_36, gI_37, pI_37, rc_37, al_38, as_38, ln_38, gC_0_3, gC_0_4, gC_0_5, gC_0_7, gC_0_10, gC_0_11, gC_0_12, gC_0_13, gC_0_14, gC_0_15, gC_0_16, gC_0_17, gC_1_0, gC_1_2, gC_1_3, gC_5_0, gC_5_2, gC_10_0, gC_10_7, gC_13_5, gC_16_0, gC_16_2, gC_22_0, gC_22_1, gC_22_2, gC_22_3, gC_31_2, gC_33_2, gC_35_2, gC_37_2, bI_rI, bV_rV, bQ_rN, bQ_rR, bz_0, bz_1, bz_Z, hZ0, hZ1, Lay_setI, Lay_setA, hl, (sheetAt_v hl a).1 ca, (sheetAt_v hl (nI i2)).2 i2 hi2 rfl]
    · simp only [fm_copy, fm_in_v, in4, ca, bI_rI, bz_0, if_true]
  · obtain ⟨i, hi, rfl⟩ := inr_t ca (by decide)
    cases cc : inr c 4
    · refine okr h (v := -2) ?_ ?_
      · simp only [fx_copy, gI_0, pI_0, rc_0, gI_1, pI_1, rc_1, ln_2, ql_2, al_3, as_3, ln_3, al_4, as_4, ln_4, gI_5, pI_5, rc_5, ln_6, ql_6, al_7, as_7, ln_7, al_8, as_8, ln_8, ln_9, ql_9, gI_10, pI_10, rc_10, al_11, as_11, ln_11, al_12, as_12, ln_12, gI_13, pI_13, rc_13, al_14, as_14, ln_14, ln_15, ql_15, gI_16, pI_16, rc_16, al_17, as_17, ln_17, al_18, as_18, ln_18, al_19, as_19, ln_19, al_20, as_20, ln_20, bl_21, bs_21, ln_21, gI_22, pI_22, rc_22, al_23, as_23, ln_23, al_24, as_24, ln_24, al_25, as_25, ln_25, gI_31, pI_31, rc_31, al_32, as_32, ln_32, gI_33, pI_33, rc_33, al_34, as_34, ln_34, gI_35, pI_35, rc_35, al_36, as_36, ln_36, gI_37, pI_37, rc_37, al_38, as_38, ln_38, gC_0_3, gC_0_4, gC_0_5, gC_0_7, gC_0_10, gC_0_11, gC_0_12, gC_0_13, gC_0_14, gC_0_15, gC_0_16, gC_0_17, gC_1_0, gC_1_2, gC_1_3, gC_5_0, gC_5_2, gC_10_0, gC_10_7, gC_13_5, gC_16_0, gC_16_2, gC_22_0, gC_22_1, gC_22_2, gC_22_3, gC_31_2, gC_33_2, gC_35_2, gC_37_2, bI_rI, bV_rV, bQ_rN, bQ_rR, bz_0, bz_1, bz_Z, hZ0, hZ1, Lay_setI, Lay_setA, hl, (sheetAt_v hl (nI i)).2 i hi rfl, (sheetAt_v hl c).1 cc]
      · simp only [fm_copy, fm_in_v, in4, ca, cc, bI_rI, bz_0, if_false, if_true, Bool.true_eq_false]
    · obtain ⟨i2, hi2, rfl⟩ := inr_t cc (by decide)
      obtain ⟨s1, s2, z, hz, s3, s4⟩ := shv h hi
      obtain ⟨y1, y2, y, hy, y3, y4⟩ := shv h hi2
      have r1 : mI t 54 i = pm t 54 i := rp_54 hl
      have r2 : mI t 54 i2 = pm t 54 i2 := rp_54 hl
      have r3 : mI t 55 i = nI z := by rw [rp_55 hl]; exact s4
      have r4 : mI t 55 i2 = nI y := by rw [rp_55 hl]; exact y4
      have fxe : fx_copy t (nI i) b (nI i2) d e = if pm t 54 i = -1 then rI (-11) t else if pm t 54 i2 = -1 then rI (-11) t else if pm t 54 i = pm t 54 i2 then if e < 0 then rI (-12) t else
          if (decide ((0 : Int32) ≤ b) && decide (b ≤ nI z - e)) = false then rI (-12) t else if (decide ((0 : Int32) ≤ d) && decide (d ≤ nI y - e)) = false then rI (-12) t else hCpy t (32 + 2 * i) b (32 + 2 * i2) d e (fun w => rI e w) else rI (-13) t := by
        simp only [fx_copy, gI_0, pI_0, rc_0, gI_1, pI_1, rc_1, ln_2, ql_2, al_3, as_3, ln_3, al_4, as_4, ln_4, gI_5, pI_5, rc_5, ln_6, ql_6, al_7, as_7, ln_7, al_8, as_8, ln_8, ln_9, ql_9, gI_10, pI_10, rc_10, al_11, as_11, ln_11, al_12, as_12, ln_12, gI_13, pI_13, rc_13, al_14, as_14, ln_14, ln_15, ql_15, gI_16, pI_16, rc_16, al_17, as_17, ln_17, al_18, as_18, ln_18, al_19, as_19, ln_19, al_20, as_20, ln_20, bl_21, bs_21, ln_21, gI_22, pI_22, rc_22, al_23, as_23, ln_23, al_24, as_24, ln_24, al_25, as_25, ln_25, gI_31, pI_31, rc_31, al_32, as_32, ln_32, gI_33, pI_33, rc_33, al_34, as_34, ln_34, gI_35, pI_35, rc_35, al_36, as_36, ln_36, gI_37, pI_37, rc_37, al_38, as_38, ln_38, gC_0_3, gC_0_4, gC_0_5, gC_0_7, gC_0_10, gC_0_11, gC_0_12, gC_0_13, gC_0_14, gC_0_15, gC_0_16, gC_0_17, gC_1_0, gC_1_2, gC_1_3, gC_5_0, gC_5_2, gC_10_0, gC_10_7, gC_13_5, gC_16_0, gC_16_2, gC_22_0, gC_22_1, gC_22_2, gC_22_3, gC_31_2, gC_33_2, gC_35_2, gC_37_2, bI_rI, bV_rV, bQ_rN, bQ_rR, bz_0, bz_1, bz_Z, hZ0, hZ1, Lay_setI, Lay_setA, hl, (sheetAt_v hl (nI i)).2 i hi rfl, (sheetAt_v hl (nI i2)).2 i2 hi2 rfl, sh_i hl hi, sh_i hl hi2, s1, y1, sh_c hl hi, sh_c hl hi2, spans_v hl hi s3, spans_v hl hi2 y3, sh_r hl hi, sh_r hl hi2]
      have fme : ∀ u, Lay u → mI u 54 = mI t 54 → mI u 55 = mI t 55 → fm_copy u (nI i) b (nI i2) d e = if pm t 54 i = -1 then rI (-11) u else if pm t 54 i2 = -1 then rI (-11) u else if pm t 54 i = pm t 54 i2 then if e < 0 then rI (-12) u else
          if b < 0 then rI (-12) u else if d < 0 then rI (-12) u else if nI z < b then rI (-12) u else if nI y < d then rI (-12) u else if nI z - b < e then rI (-12) u else if e ≤ nI y - d then fm_copy_l147 1000000 u e (40 * nI i + b) (40 * nI i2 + d) 0 else rI (-12) u else rI (-13) u := by
        intro u lu e1 e2
        simp only [fm_copy, fm_in_v, in4, ca, cc, if_false, Bool.true_eq_false, gI_39, pI_39, rc_39, al_40, as_40, ln_40, al_41, as_41, ln_41, al_42, as_42, ln_42, al_43, as_43, ln_43, al_44, as_44, ln_44, al_45, as_45, ln_45, al_46, as_46, ln_46, al_47, as_47, ln_47, al_48, as_48, ln_48, al_49, as_49, ln_49, al_50, as_50, ln_50, al_51, as_51, ln_51, al_52, as_52, ln_52, al_53, as_53, ln_53, al_54, as_54, ln_54, al_55, as_55, ln_55, al_56, as_56, ln_56, al_57, as_57, ln_57, al_58, as_58, ln_58, al_59, as_59, ln_59, al_60, as_60, ln_60, al_61, as_61, ln_61, al_62, as_62, ln_62, al_63, as_63, ln_63, al_64, as_64, ln_64, al_65, as_65, ln_65, al_66, as_66, ln_66, al_67, as_67, ln_67, gC_39_4, gC_39_5, gC_39_6, gC_39_7, gC_39_8, gC_39_10, gC_39_11, gC_39_12, gC_39_13, gC_39_15, gC_39_16, gC_39_18, gC_39_19, gC_39_27, gC_39_28, gC_39_29, gC_39_30, gC_39_31, gC_39_36, gC_39_37, gC_39_41, gC_39_42, gC_39_43, gC_39_44, gC_39_46, gC_39_47, gC_39_48, gC_39_49, bI_rI, bV_rV, bQ_rN, bQ_rR, bz_0, bz_1, bz_Z, hZ0, hZ1, Lay_setI, Lay_setA, lu, hi, hi2, e1, e2, r1, r2, r3, r4]
      by_cases c1 : pm t 54 i = -1
      · exact okr h (by rw [fxe, if_pos c1]) (by rw [fme t hl rfl rfl, if_pos c1])
      · by_cases c2 : pm t 54 i2 = -1
        · exact okr h (by rw [fxe, if_neg c1, if_pos c2]) (by rw [fme t hl rfl rfl, if_neg c1, if_pos c2])
        · by_cases c3 : pm t 54 i = pm t 54 i2
          · by_cases c4 : e < 0
            · exact okr h (by rw [fxe, if_neg c1, if_neg c2, if_pos c3, if_pos c4]) (by rw [fme t hl rfl rfl, if_neg c1, if_neg c2, if_pos c3, if_pos c4])
            · obtain ⟨k, hk, rfl⟩ := nI_of c4
              rw [if_neg c1, if_neg c2, if_pos c3, if_neg c4] at fxe
              by_cases V1 : ∃ i', b = nI i' ∧ i' + k ≤ z
              · by_cases V2 : ∃ i', d = nI i' ∧ i' + k ≤ y
                · rw [(spn hz hk).mpr V1, (spn hy hk).mpr V2, if_neg (by decide), if_neg (by decide)] at fxe
                  obtain ⟨b', rfl, hb⟩ := V1
                  obtain ⟨d', rfl, hd⟩ := V2
                  have t1 : mT t (32 + 2 * i) = (20, 40) := by rw [hl.2.1 _ (by omega)]; exact (sheet_lay hi).2
                  have t2 : mT t (32 + 2 * i2) = (20, 40) := by rw [hl.2.1 _ (by omega)]; exact (sheet_lay hi2).2
                  have cp : hCpy t (32 + 2 * i) (nI b') (32 + 2 * i2) (nI d') (nI k) (fun w => rI (nI k) w) = rI (nI k) (setA t (32 + 2 * i2) (va_cpy (mI t (32 + 2 * i)) (mI t (32 + 2 * i2)) b' d' k)) := by
                    unfold hCpy
                    rw [t1, t2, nI_clamp (show b' < 2 ^ 31 by omega), nI_clamp (show d' < 2 ^ 31 by omega), nI_clamp (show k < 2 ^ 31 by omega), if_pos ⟨⟨rfl, rfl⟩, ⟨nI_pos (by omega), nI_pos (by omega), nI_pos (by omega)⟩, by show b' + k ≤ 40; omega, by show d' + k ≤ 40; omega⟩]
                  rw [cp] at fxe
                  have l1 : Lay (setA t (32 + 2 * i2) (va_cpy (mI t (32 + 2 * i)) (mI t (32 + 2 * i2)) b' d' k)) := hl
                  have a56 : mI (setA t (32 + 2 * i2) (va_cpy (mI t (32 + 2 * i)) (mI t (32 + 2 * i2)) b' d' k)) 56 = mI t 56 := by rw [setA_I, if_neg (by omega)]
                  have fm2 := fme _ l1 (by rw [setA_I, if_neg (by omega)]) (by rw [setA_I, if_neg (by omega)])
                  rw [if_neg c1, if_neg c2, if_pos c3, if_neg c4, if_neg (nI_pos (by omega)), if_neg (nI_pos (by omega)), if_neg (nI_nlt (by omega) (by omega)), if_neg (nI_nlt (by omega) (by omega)), pk_sub (by omega), pk_sub (by omega), if_neg (nI_nlt (by omega) (by omega)), if_pos (nI_le (by omega) (by omega)),
                    l40, l40, nI_add, nI_add, copy_m l1 (by omega) (by omega), a56] at fm2
                  refine okc fxe fm2 l1 (n' := n) (m' := m) (s' := s) (g' := g) (x' := x) (p' := p) ?_ rfl rfl
                  have lu : Lay (setA (setA t (32 + 2 * i2) (va_cpy (mI t (32 + 2 * i)) (mI t (32 + 2 * i2)) b' d' k)) 56 (mvd (mI t 56) (40 * i + b') (40 * i2 + d') k)) := hl
                  have w : ∀ q, mI (setA (setA t (32 + 2 * i2) (va_cpy (mI t (32 + 2 * i)) (mI t (32 + 2 * i2)) b' d' k)) 56 (mvd (mI t 56) (40 * i + b') (40 * i2 + d') k)) q = if q = 56 then mvd (mI t 56) (40 * i + b') (40 * i2 + d') k else if q = 32 + 2 * i2 then va_cpy (mI t (32 + 2 * i)) (mI t (32 + 2 * i2)) b' d' k else mI t q := fun q => by rw [setA_I, setA_I]
                  have rr : SR KS (pm t) (pm (setA (setA t (32 + 2 * i2) (va_cpy (mI t (32 + 2 * i)) (mI t (32 + 2 * i2)) b' d' k)) 56 (mvd (mI t 56) (40 * i + b') (40 * i2 + d') k))) := SR.sA (SR.sA (SR.refl _ _) (inKS (by omega) (by omega))) (by decide)
                  have e0 : (setA (setA t (32 + 2 * i2) (va_cpy (mI t (32 + 2 * i)) (mI t (32 + 2 * i2)) b' d' k)) 56 (mvd (mI t 56) (40 * i + b') (40 * i2 + d') k)).2 = t.2 := rfl
                  generalize setA (setA t (32 + 2 * i2) (va_cpy (mI t (32 + 2 * i)) (mI t (32 + 2 * i2)) b' d' k)) 56 (mvd (mI t 56) (40 * i + b') (40 * i2 + d') k) = u at *
                  refine sheets_ok h e0 rr ?_
                  intro q hq
                  obtain ⟨v1, v2, ⟨z1, x1, x2, x3⟩, v3⟩ := h.shs q hq
                  rw [(pm31 hl hq).1, ← rp_54 hl] at v1
                  rw [← rp_54 hl] at v2
                  rw [(pm31 hl hq).1] at x2
                  rw [← rp_55 hl] at x3
                  rw [(pm31 lu hq).1, (pm31 lu hq).1, ← rp_54 lu, ← rp_55 lu, w (31 + 2 * q), w 54, w 55, if_neg (by omega), if_neg (by omega), if_neg (by omega), if_neg (by omega), if_neg (by omega), if_neg (by omega)]
                  refine ⟨v1, v2, ⟨z1, x1, x2, x3⟩, fun j hj => ?_⟩
                  have vq := v3 j hj
                  rw [(pm31 hl hq).2, ← rp_56 hl] at vq
                  rw [(pm31 lu hq).2, ← rp_56 lu, w, w, if_neg (by omega), if_pos rfl]
                  by_cases eq : q = i2
                  · subst eq
                    rw [if_pos rfl]
                    unfold mvd
                    by_cases cj : d' ≤ j ∧ j < d' + k
                    · rw [pk_cpy_in cj.1 cj.2, if_pos (by omega)]
                      obtain ⟨_, _, _, v4⟩ := h.shs i hi
                      have := v4 (b' + (j - d')) (by omega)
                      rw [(pm31 hl hi).2, ← rp_56 hl] at this
                      rw [this]
                      congr 1; omega
                    · rw [pk_cpy_out (by omega), if_neg (by omega)]; exact vq
                  · rw [if_neg (by omega)]
                    unfold mvd
                    rw [if_neg (by omega)]; exact vq
                · have nv2 : (decide ((0 : Int32) ≤ d) && decide (d ≤ nI y - nI k)) = false := by
                    cases q : (decide ((0 : Int32) ≤ d) && decide (d ≤ nI y - nI k)) with
                    | false => rfl
                    | true => exact absurd ((spn hy hk).mp q) V2
                  rw [(spn hz hk).mpr V1, nv2, if_neg (by decide), if_pos rfl] at fxe
                  refine okr h fxe ?_
                  rw [fme t hl rfl rfl, if_neg c1, if_neg c2, if_pos c3, if_neg c4]
                  by_cases d1 : b < 0
                  · rw [if_pos d1]
                  · by_cases d2 : d < 0
                    · rw [if_neg d1, if_pos d2]
                    · rw [if_neg d1, if_neg d2]
                      by_cases d3 : nI z < b
                      · rw [if_pos d3]
                      · rw [if_neg d3]
                        by_cases d4 : nI y < d
                        · rw [if_pos d4]
                        · rw [if_neg d4]
                          by_cases d5 : nI z - b < nI k
                          · rw [if_pos d5]
                          · rw [if_neg d5]
                            by_cases d6 : nI k ≤ nI y - d
                            · obtain ⟨d', hd', rfl⟩ := nI_of d2
                              have dy : d' ≤ y := Nat.le_of_not_lt fun l => d4 (nI_lt l hd')
                              rw [pk_sub dy] at d6
                              have := (nI_leI hk (by omega)).mp d6
                              exact absurd ⟨d', rfl, by omega⟩ V2
                            · rw [if_neg d6]
              · have nv1 : (decide ((0 : Int32) ≤ b) && decide (b ≤ nI z - nI k)) = false := by
                  cases q : (decide ((0 : Int32) ≤ b) && decide (b ≤ nI z - nI k)) with
                  | false => rfl
                  | true => exact absurd ((spn hz hk).mp q) V1
                rw [nv1, if_pos rfl] at fxe
                refine okr h fxe ?_
                rw [fme t hl rfl rfl, if_neg c1, if_neg c2, if_pos c3, if_neg c4]
                by_cases d1 : b < 0
                · rw [if_pos d1]
                · by_cases d2 : d < 0
                  · rw [if_neg d1, if_pos d2]
                  · rw [if_neg d1, if_neg d2]
                    by_cases d3 : nI z < b
                    · rw [if_pos d3]
                    · rw [if_neg d3]
                      by_cases d4 : nI y < d
                      · rw [if_pos d4]
                      · rw [if_neg d4]
                        by_cases d5 : nI z - b < nI k
                        · rw [if_pos d5]
                        · obtain ⟨b', hb', rfl⟩ := nI_of d1
                          have bz0 : b' ≤ z := Nat.le_of_not_lt fun l => d3 (nI_lt l hb')
                          rw [pk_sub bz0] at d5
                          have : k ≤ z - b' := Nat.le_of_not_lt fun l => d5 (nI_lt l hk)
                          exact absurd ⟨b', rfl, by omega⟩ V1
          · exact okr h (by rw [fxe, if_neg c1, if_neg c2, if_neg c3]) (by rw [fme t hl rfl rfl, if_neg c1, if_neg c2, if_neg c3])
end
