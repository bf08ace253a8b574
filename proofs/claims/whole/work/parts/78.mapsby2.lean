section
variable {n m s g x p : Nat} {t u w : SM} {G G' : GG}
theorem mb_out (hl : Lay t) {i z : Nat} (hi : i < 4) (hz : z ≤ 40) (hz1 : mI t (31 + 2 * i) 1 = nI z) (w55 : mI t 55 i = nI z) {c : Int32} (hc : ¬ ∃ v0, v0 ≤ 40 ∧ c = nI v0) {d : Nat} (hd : d ≤ 8) : ∃ v, fx_mapsBy_l66 1000000 t c (nI d) (31 + 2 * i) 0 0 = rI v t ∧ fm_mapsBy_l64 1000000 t (nI i) c (nI d) 0 0 = rI v t := by
  have m0 : c + 4 * 0 = c := by rw [Int32.mul_zero, Int32.add_zero]
  by_cases e : d = 0
  · subst e
    have z : (nI 0 ≤ 0) = True := by decide
    refine ⟨0, ?_, ?_⟩
    · show fx_mapsBy_66 _ t _ _ _ _ _ = _
      simp only [fx_mapsBy_66, z, if_true]
    · show fm_mapsBy_64 _ t _ _ _ _ _ = _
      simp only [fm_mapsBy_64, z, if_true]
  · have zd : ¬ nI d ≤ 0 := nI_ge (a := 0) (by omega) (by omega)
    have bad : ∀ b : Int32, (b = c) → (decide ((0 : Int32) ≤ b) && decide (b ≤ nI z - 4)) = false := fun b eb => by
      subst eb
      rcases Bool.eq_false_or_eq_true (decide ((0 : Int32) ≤ b) && decide (b ≤ nI z - 4)) with q | q
      · obtain ⟨v0, e1, e2⟩ := (spn (b := b) (z := z) (k := 4) hz (by decide)).mp q
        exact absurd ⟨v0, by omega, e1⟩ hc
      · exact q
    have sp := spans_v hl hi hz1 c 4
    rw [bad c rfl] at sp
    refine ⟨-12, ?_, ?_⟩
    · show fx_mapsBy_66 _ t _ _ _ _ _ = _
      by_cases c4 : c ≤ 40
      · simp only [fx_mapsBy_66, if_neg zd, if_pos c4, sh_c hl hi, m0, sp, bI_rI, bz_0, if_true]
      · simp only [fx_mapsBy_66, if_neg zd, if_neg c4, sh_c hl hi, sp, bI_rI, bz_0, if_true]
    · show fm_mapsBy_64 _ t _ _ _ _ _ = _
      by_cases cn : c < 0
      · simp only [fm_mapsBy_64, if_neg zd, if_pos cn]
      · have b2 := bad c rfl
        rw [decide_eq_true (Int32.not_lt.mp cn), Bool.true_and, decide_eq_false_iff_not] at b2
        have cc : ¬ c < c := Int32.lt_irrefl
        simp only [fm_mapsBy_64, if_neg zd, if_neg cn, m0, if_neg cc, gI_39, pI_39, rc_39, al_40, as_40, ln_40, al_41, as_41, ln_41, al_42, as_42, ln_42, al_43, as_43, ln_43, al_44, as_44, ln_44, al_45, as_45, ln_45, al_46, as_46, ln_46, al_47, as_47, ln_47, al_48, as_48, ln_48, al_49, as_49, ln_49, al_50, as_50, ln_50, al_51, as_51, ln_51, al_52, as_52, ln_52, al_53, as_53, ln_53, al_54, as_54, ln_54, al_55, as_55, ln_55, al_56, as_56, ln_56, al_57, as_57, ln_57, al_58, as_58, ln_58, al_59, as_59, ln_59, al_60, as_60, ln_60, al_61, as_61, ln_61, al_62, as_62, ln_62, al_63, as_63, ln_63, al_64, as_64, ln_64, al_65, as_65, ln_65, al_66, as_66, ln_66, al_67, as_67, ln_67, gC_39_4, gC_39_5, gC_39_6, gC_39_7, gC_39_8, gC_39_10, gC_39_11, gC_39_12, gC_39_13, gC_39_15, gC_39_16, gC_39_18, gC_39_19, gC_39_27, gC_39_28, gC_39_29, gC_39_30, gC_39_31, gC_39_36, gC_39_37, gC_39_41, gC_39_42, gC_39_43, gC_39_44, gC_39_46, gC_39_47, gC_39_48, gC_39_49, bI_rI, bV_rV, bQ_rN, bQ_rR, bz_0, bz_1, bz_Z, hZ0, hZ1, Lay_setI, Lay_setA, hl, hi, w55, if_neg b2]
theorem ok_mapsBy (h : Inv n m s g x p t) (a b c d : Int32) : Okk t (fun t => fx_mapsBy t a b c d) (fun t => fm_mapsBy t a b c d) := by
  have hl := h.lay
  have hr := h.rng
  have h68 := hl.1
  have in4 : ∀ a : Int32, (decide ((0 : Int32) ≤ a) && decide (a ≤ 3)) = inr a 4 := fun a => inr_in (N := 4) (by decide)
  have in3 : ∀ a : Int32, (decide ((0 : Int32) ≤ a) && decide (a ≤ 2)) = inr a 3 := fun a => inr_in (N := 3) (by decide)
  have in9 : ∀ a : Int32, (decide ((0 : Int32) ≤ a) && decide (a ≤ 8)) = inr a 9 := fun a => inr_in (N := 9) (by decide)
  rcases Bool.eq_false_or_eq_true (inr a 4) with ca | ca
  · obtain ⟨i, hi, rfl⟩ := inr_t ca (by decide)
    obtain ⟨s1, s2, z, hz, s3, s4⟩ := shv h hi
    have r1 : mI t 54 i = pm t 54 i := rp_54 hl
    have r3 : mI t 55 i = nI z := by rw [rp_55 hl]; exact s4
    have fxe : fx_mapsBy t (nI i) b c d = if inr b 3 = false then rI (-2) t else if inr d 9 = false then rI (-2) t else if pm t 54 i = -1 then rI (-11) t else if pm t 54 i = b then fx_mapsBy_l66 1000000 t c d (31 + 2 * i) 0 0 else rI (-13) t := by
      simp only [fx_mapsBy, gI_0, pI_0, rc_0, gI_1, pI_1, rc_1, ln_2, ql_2, al_3, as_3, ln_3, al_4, as_4, ln_4, gI_5, pI_5, rc_5, ln_6, ql_6, al_7, as_7, ln_7, al_8, as_8, ln_8, ln_9, ql_9, gI_10, pI_10, rc_10, al_11, as_11, ln_11, al_12, as_12, ln_12, gI_13, pI_13, rc_13, al_14, as_14, ln_14, ln_15, ql_15, gI_16, pI_16, rc_16, al_17, as_17, ln_17, al_18, as_18, ln_18, al_19, as_19, ln_19, al_20, as_20, ln_20, bl_21, bs_21, ln_21, gI_22, pI_22, rc_22, al_23, as_23, ln_23, al_24, as_24, ln_24, al_25, as_25, ln_25, gI_31, pI_31, rc_31, al_32, as_32, ln_32, gI_33, pI_33, rc_33, al_34, as_34, ln_34, gI_35, pI_35, rc_35, al_36, as_36, ln_36, gI_37, pI_37, rc_37, al_38, as_38, ln_38, gC_0_3, gC_0_4, gC_0_5, gC_0_7, gC_0_10, gC_0_11, gC_0_12, gC_0_13, gC_0_14, gC_0_15, gC_0_16, gC_0_17, gC_1_0, gC_1_2, gC_1_3, gC_5_0, gC_5_2, gC_10_0, gC_10_7, gC_13_5, gC_16_0, gC_16_2, gC_22_0, gC_22_1, gC_22_2, gC_22_3, gC_31_2, gC_33_2, gC_35_2, gC_37_2, bI_rI, bV_rV, bQ_rN, bQ_rR, bz_0, bz_1, bz_Z, hZ0, hZ1, Lay_setI, Lay_setA, hl, (sheetAt_v hl (nI i)).2 i hi rfl, sh_i hl hi, s1]
      rw [← in3 b, ← in9 d]
      by_cases b1 : b < 0
      · rw [if_pos b1, decide_eq_false (Int32.not_le.mpr b1), Bool.false_and, if_pos rfl]
      · rw [if_neg b1, decide_eq_true (Int32.not_lt.mp b1), Bool.true_and]
        by_cases b2 : 2 < b
        · rw [if_pos b2, decide_eq_false (Int32.not_le.mpr b2), if_pos rfl]
        · rw [if_neg b2, decide_eq_true (Int32.not_lt.mp b2), if_neg (show ¬ (true = false) by decide)]
          by_cases d1 : d < 0
          · rw [if_pos d1, decide_eq_false (Int32.not_le.mpr d1), Bool.false_and, if_pos rfl]
          · rw [if_neg d1, decide_eq_true (Int32.not_lt.mp d1), Bool.true_and]
            by_cases d2 : d ≤ 8
            · rw [if_pos d2, decide_eq_true d2, if_neg (show ¬ (true = false) by decide)]
            · rw [if_neg d2, decide_eq_false d2, if_pos rfl]
    have fme : ∀ u, Lay u → mI u 54 = mI t 54 → fm_mapsBy u (nI i) b c d = if inr b 3 = false then rI (-2) u else if inr d 9 = false then rI (-2) u else if pm t 54 i = -1 then rI (-11) u else if pm t 54 i = b then fm_mapsBy_l64 1000000 u (nI i) c d 0 0 else rI (-13) u := by
      intro u lu e1
      simp only [fm_mapsBy, fm_in_v, in4, in3, in9, ca, if_false, Bool.true_eq_false, gI_39, pI_39, rc_39, al_40, as_40, ln_40, al_41, as_41, ln_41, al_42, as_42, ln_42, al_43, as_43, ln_43, al_44, as_44, ln_44, al_45, as_45, ln_45, al_46, as_46, ln_46, al_47, as_47, ln_47, al_48, as_48, ln_48, al_49, as_49, ln_49, al_50, as_50, ln_50, al_51, as_51, ln_51, al_52, as_52, ln_52, al_53, as_53, ln_53, al_54, as_54, ln_54, al_55, as_55, ln_55, al_56, as_56, ln_56, al_57, as_57, ln_57, al_58, as_58, ln_58, al_59, as_59, ln_59, al_60, as_60, ln_60, al_61, as_61, ln_61, al_62, as_62, ln_62, al_63, as_63, ln_63, al_64, as_64, ln_64, al_65, as_65, ln_65, al_66, as_66, ln_66, al_67, as_67, ln_67, gC_39_4, gC_39_5, gC_39_6, gC_39_7, gC_39_8, gC_39_10, gC_39_11, gC_39_12, gC_39_13, gC_39_15, gC_39_16, gC_39_18, gC_39_19, gC_39_27, gC_39_28, gC_39_29, gC_39_30, gC_39_31, gC_39_36, gC_39_37, gC_39_41, gC_39_42, gC_39_43, gC_39_44, gC_39_46, gC_39_47, gC_39_48, gC_39_49, bI_rI, bV_rV, bQ_rN, bQ_rR, bz_0, bz_1, bz_Z, hZ0, hZ1, Lay_setI, Lay_setA, lu, hi, e1, r1]
    rcases Bool.eq_false_or_eq_true (inr b 3) with cb | cb
    · rcases Bool.eq_false_or_eq_true (inr d 9) with cd | cd
      · obtain ⟨d', hd, rfl⟩ := inr_t cd (by decide)
        by_cases q1 : pm t 54 i = -1
        · exact okr h (v := -11) (by rw [fxe, cb, cd, if_neg (by decide), if_neg (by decide), if_pos q1]) (by rw [fme t hl rfl, cb, cd, if_neg (by decide), if_neg (by decide), if_pos q1])
        · by_cases q2 : pm t 54 i = b
          · rw [cb, cd, if_neg (by decide), if_neg (by decide), if_neg q1, if_pos q2] at fxe
            have fme' : ∀ u, Lay u → mI u 54 = mI t 54 → fm_mapsBy u (nI i) b c (nI d') = fm_mapsBy_l64 1000000 u (nI i) c (nI d') 0 0 := fun u lu e1 => by
              rw [fme u lu e1, cb, cd, if_neg (by decide), if_neg (by decide), if_neg q1, if_pos q2]
            by_cases q3 : ∃ v0, v0 ≤ 40 ∧ c = nI v0
            · obtain ⟨v0, hv, rfl⟩ := q3
              obtain ⟨v, m', G', u', l, e1, e2, e3, e4, e5, e6⟩ := mb_in (mI t (32 + 2 * i)) hi hz hv (show d' ≤ 8 by omega) d' 0 1000000 1000000 m (pm t) t 0 (by omega) (by omega) (by omega) (CI.of h) s3 (fun _ _ => rfl)
              have row : ∀ k, k < 68 → k ≠ 1 → k ≠ 3 → mI u' k = mI t k := fun k k0 k1 k3 => e3.1 k (by omega) k1 k3
              have mw : MW n m (pm t) u' := ⟨e2.1, by rw [row 39 (by decide) (by decide) (by decide)]; exact h.ch, by rw [row 39 (by decide) (by decide) (by decide)]; exact h.mp, fun k k1 k2 => by rw [row k (by omega) (by omega) (by omega)]; exact pm4 hl k k1 k2⟩
              obtain ⟨w', y1, y2, y3⟩ := e6 u' mw (by rw [row 55 (by decide) (by decide) (by decide)]; exact r3) (fun y hy => by
                rw [row 56 (by decide) (by decide) (by decide)]
                have := (h.shs i hi).2.2.2 y hy
                rw [(pm31 hl hi).2] at this
                rw [this]; exact rp_56 hl)
              refine ⟨v, u', w', ?_, ?_, ⟨n, m', s, g, x, p, map_fin h e2 e3 e5 y3.1 y3.2.1 y3.2.2 y2.2.2.1 y2.2.2.2⟩, ?_, ?_, e2.1⟩
              · exact fxe.trans e1
              · exact (fme' u' e2.1 (row 54 (by decide) (by decide) (by decide))).trans y1
              · have : mN w' = mN u' := by unfold mN; rw [y3.1]
                rw [this, e3.2.2.2.2.1]; omega
              · have : mZ w' = mZ u' := by unfold mZ; rw [y3.1]
                rw [this, e3.2.2.2.2.2]; omega
            · obtain ⟨v, e1, e2⟩ := mb_out hl hi hz s3 r3 q3 (show d' ≤ 8 by omega)
              exact okr h (v := v) (fxe.trans e1) ((fme' t hl rfl).trans e2)
          · exact okr h (v := -13) (by rw [fxe, cb, cd, if_neg (by decide), if_neg (by decide), if_neg q1, if_neg q2]) (by rw [fme t hl rfl, cb, cd, if_neg (by decide), if_neg (by decide), if_neg q1, if_neg q2])
      · exact okr h (v := -2) (by rw [fxe, cb, cd, if_neg (by decide), if_pos rfl]) (by rw [fme t hl rfl, cb, cd, if_neg (by decide), if_pos rfl])
    · exact okr h (v := -2) (by rw [fxe, cb, if_pos rfl]) (by rw [fme t hl rfl, cb, if_pos rfl])
  · refine okr h (v := -2) ?_ ?_
    · simp only [fx_mapsBy, gI_0, pI_0, rc_0, gI_1, pI_1, rc_1, ln_2, ql_2, al_3, as_3, ln_3, al_4, as_4, ln_4, gI_5, pI_5, rc_5, ln_6, ql_6, al_7, as_7, ln_7, al_8, as_8, ln_8, ln_9, ql_9, gI_10, pI_10, rc_10, al_11, as_11, ln_11, al_12, as_12, ln_12, gI_13, pI_13, rc_13, al_14, as_14, ln_14, ln_15, ql_15, gI_16, pI_16, rc_16, al_17, as_17, ln_17, al_18, as_18, ln_18, al_19, as_19, ln_19, al_20, as_20, ln_20, bl_21, bs_21, ln_21, gI_22, pI_22, rc_22, al_23, as_23, ln_23, al_24, as_24, ln_24, al_25, as_25, ln_25, gI_31, pI_31, rc_31, al_32, as_32, ln_32, gI_33, pI_33, rc_33, al_34, as_34, ln_34, gI_35, pI_35, rc_35, al_36, as_36, ln_36, gI_37, pI_37, rc_37, al_38, as_38, ln_38, gC_0_3, gC_0_4, gC_0_5, gC_0_7, gC_0_10, gC_0_11, gC_0_12, gC_0_13, gC_0_14, gC_0_15, gC_0_16, gC_0_17, gC_1_0, gC_1_2, gC_1_3, gC_5_0, gC_5_2, gC_10_0, gC_10_7, gC_13_5, gC_16_0, gC_16_2, gC_22_0, gC_22_1, gC_22_2, gC_22_3, gC_31_2, gC_33_2, gC_35_2, gC_37_2, bI_rI, bV_rV, bQ_rN, bQ_rR, bz_0, bz_1, bz_Z, hZ0, hZ1, Lay_setI, Lay_setA, hl, (sheetAt_v hl a).1 ca]
    · simp only [fm_mapsBy, fm_in_v, in4, ca, bI_rI, bz_0, if_true]
end
