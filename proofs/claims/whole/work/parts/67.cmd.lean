section
variable {n m s g x p : Nat} {t u : SM}
/-! sheets -/
def KS : List Nat := [31, 32, 33, 34, 35, 36, 37, 38, 54, 55, 56]
theorem sheet_ref (hl : Lay t) {i : Nat} (hi : i < 4) : mR t 15 i = some (31 + 2 * i) ∧ mR t (31 + 2 * i) 2 = some (32 + 2 * i) := by
  have : i = 0 ∨ i = 1 ∨ i = 2 ∨ i = 3 := by omega
  rcases this with rfl | rfl | rfl | rfl
  · exact ⟨hl.ref (by decide +kernel), hl.ref (by decide +kernel)⟩
  · exact ⟨hl.ref (by decide +kernel), hl.ref (by decide +kernel)⟩
  · exact ⟨hl.ref (by decide +kernel), hl.ref (by decide +kernel)⟩
  · exact ⟨hl.ref (by decide +kernel), hl.ref (by decide +kernel)⟩
theorem sheet_lay {i : Nat} (hi : i < 4) : layF (31 + 2 * i) = (5, 0) ∧ layF (32 + 2 * i) = (20, 40) := by
  have : i = 0 ∨ i = 1 ∨ i = 2 ∨ i = 3 := by omega
  rcases this with rfl | rfl | rfl | rfl <;> exact ⟨rfl, rfl⟩
theorem sheetAt_v (hl : Lay t) (a : Int32) : (inr a 4 = false → fx_sheetAt t a = rN t) ∧ ∀ i, i < 4 → a = nI i → fx_sheetAt t a = rR (31 + 2 * i) t := by
  constructor
  · intro h
    unfold fx_sheetAt
    by_cases e3 : a < 0
    · rw [if_pos e3]
    · rw [if_neg e3, gC_0_12 hl, ln_15 hl, if_pos]
      unfold inr at h
      rw [decide_eq_true (Int32.not_lt.mp e3), Bool.true_and, decide_eq_false_iff_not] at h
      exact Int32.not_lt.mp h
  · rintro i hi rfl
    unfold fx_sheetAt
    rw [if_neg (nI_pos (by omega)), gC_0_12 hl, ln_15 hl, if_neg (nI_ge hi (by decide)), gC_0_12 hl, ql_15 hl hi (sheet_ref hl hi).1]
/-- fields and rows of one sheet -/
theorem sh_i {i j : Nat} {c : Int32 → OR} (hl : Lay t) (hi : i < 4) : hGetI t 5 (31 + 2 * i) j c = c (mI t (31 + 2 * i) j) := L_gI hl (by omega) (by rw [(sheet_lay hi).1])
theorem sh_p {i j : Nat} {v : Int32} {c : SM → OR} (hl : Lay t) (hi : i < 4) : hPutI t 5 (31 + 2 * i) j v c = c (setI t (31 + 2 * i) j v) := L_pI hl (by omega) (by rw [(sheet_lay hi).1])
theorem sh_c {i : Nat} {c : OR} (hl : Lay t) (hi : i < 4) : hRecv t 5 (31 + 2 * i) c = c := L_rc hl (by omega) (by rw [(sheet_lay hi).1])
theorem sh_r {i : Nat} {cn : OR} {c : Nat → OR} (hl : Lay t) (hi : i < 4) : hGetR t 5 (31 + 2 * i) 2 cn c = c (32 + 2 * i) := by
  unfold hGetR
  rw [if_pos (hl.tag (by omega) (by rw [(sheet_lay hi).1])), (sheet_ref hl hi).2]
theorem become_v {i : Nat} (hl : Lay t) (hi : i < 4) (a b : Int32) : fSh_become t (31 + 2 * i) a b = rV (setA (setI (setI t (31 + 2 * i) 0 a) (31 + 2 * i) 1 b) (32 + 2 * i) (fun j => if j < 40 then 0 else mI t (32 + 2 * i) j)) := by
  have l1 : Lay (setI t (31 + 2 * i) 0 a) := hl
  have l2 : Lay (setI (setI t (31 + 2 * i) 0 a) (31 + 2 * i) 1 b) := hl
  unfold fSh_become
  rw [sh_p hl hi, sh_p l1 hi, sh_r l2 hi, L_fill l2 (by omega) (sheet_lay hi).2, bV_rV, setI_ne (by omega), setI_ne (by omega)]
theorem SR.sA {K : List Nat} {G : GG} {k : Nat} {f : Nat → Int32} (h : SR K G (pm t)) (hk : k ∈ K) : SR K G (pm (setA t k f)) := fun q hq => by
  rw [← h q hq]
  exact pm_rw rfl (by rw [setA_I, if_neg (fun e => hq (by rw [e]; exact hk))])
theorem inKS {k : Nat} (h1 : 31 ≤ k) (h2 : k ≤ 38) : k ∈ KS := by
  unfold KS; simp; omega
theorem IvN.sr {K : List Nat} {G G' : GG} (h : IvN n m s g x p G) (r : SR K G G') (h0 : 0 ∉ K) (h1 : 1 ∉ K) (h5 : 5 ∉ K) (h10 : 10 ∉ K) (h39 : 39 ∉ K) : IvN n m s g x p G' := by
  unfold IvN at *; rw [r 0 h0, r 1 h1, r 5 h5, r 10 h10, r 39 h39]; exact h
theorem IvI.sr {K : List Nat} {G G' : GG} (h : IvI m x G) (r : SR K G G') (h0 : 13 ∉ K) (h1 : 14 ∉ K) (h5 : 53 ∉ K) (h39 : 39 ∉ K) : IvI m x G' := by
  unfold IvI at *; rw [r 13 h0, r 14 h1, r 53 h5, r 39 h39]; exact h
theorem pm31 (hl : Lay t) {i j : Nat} (hi : i < 4) : pm t (31 + 2 * i) j = mI t (31 + 2 * i) j ∧ pm t (32 + 2 * i) j = mI t (32 + 2 * i) j := by
  have : i = 0 ∨ i = 1 ∨ i = 2 ∨ i = 3 := by omega
  rcases this with rfl | rfl | rfl | rfl <;> exact ⟨(pm_fx hl rfl rfl).symm, (pm_fx hl rfl rfl).symm⟩
theorem sheets_ok (h : Inv n m s g x p t) {u : SM} (e : u.2 = t.2) (r : SR KS (pm t) (pm u)) (hs : IvS (pm u)) : Inv n m s g x p u :=
  h.asm e (r.up (by decide)) (h.num.sr r (by decide) (by decide) (by decide) (by decide) (by decide)) (h.gos.c r (by decide) (by decide)) (h.tap.c r (by decide) (by decide)) (h.img.sr r (by decide) (by decide) (by decide) (by decide)) hs
/-- a sheet's numbers: what both hold -/
theorem shv (h : Inv n m s g x p t) {i : Nat} (hi : i < 4) : (mI t (31 + 2 * i) 0 = pm t 54 i) ∧ (pm t 54 i = -1 ∨ ∃ k, k < 3 ∧ pm t 54 i = nI k) ∧ ∃ z, z ≤ 40 ∧ mI t (31 + 2 * i) 1 = nI z ∧ pm t 55 i = nI z := by
  obtain ⟨a, b, ⟨z, hz, c, d⟩, _⟩ := h.shs i hi
  have e : ∀ j, mI t (31 + 2 * i) j = pm t (31 + 2 * i) j := fun j => by
    have : i = 0 ∨ i = 1 ∨ i = 2 ∨ i = 3 := by omega
    rcases this with rfl | rfl | rfl | rfl <;> exact pm_fx h.lay rfl rfl
  exact ⟨by rw [e]; exact a, b, z, hz, by rw [e]; exact c, d⟩
theorem spans_v {i z : Nat} (hl : Lay t) (hi : i < 4) (h1 : mI t (31 + 2 * i) 1 = nI z) (a b : Int32) : fSh_spans t (31 + 2 * i) a b = rI (bz (decide ((0 : Int32) ≤ a) && decide (a ≤ nI z - b))) t := by
  unfold fSh_spans
  by_cases c1 : a < 0
  · rw [if_pos c1, decide_eq_false (Int32.not_le.mpr c1)]; rfl
  · rw [if_neg c1, sh_i hl hi, h1, decide_eq_true (Int32.not_lt.mp c1), Bool.true_and]
    by_cases c2 : nI z - b < a
    · rw [if_pos c2, decide_eq_false (Int32.not_le.mpr c2)]; rfl
    · rw [if_neg c2, decide_eq_true (Int32.not_lt.mp c2)]; rfl
def cnv (k v : Int32) : Int32 := if k = 0 then Int8.toInt32 (Int32.toInt8 v) else if k = 1 then Int16.toInt32 (Int32.toInt16 v) else v
/-! cell -/
theorem ok_cell (h : Inv n m s g x p t) (a b c : Int32) : Okk t (fun t => fx_cell t a b c) (fun t => fm_cell t a b c) := by
  have hr := h.rng
  have hl := h.lay
  have in4 : (decide ((0 : Int32) ≤ a) && decide (a ≤ 3)) = inr a 4 := inr_in (N := 4) (by decide)
  cases ca : inr a 4
  · refine okr h (v := -2) ?_ ?_
    · simp only [fx_cell, gI_0, pI_0, rc_0, gI_1, pI_1, rc_1, ln_2, ql_2, al_3, as_3, ln_3, al_4, as_4, ln_4, gI_5, pI_5, rc_5, ln_6, ql_6, al_7, as_7, ln_7, al_8, as_8, ln_8, ln_9, ql_9, gI_10, pI_10, rc_10, al_11, as_11, ln_11, al_12, as_12, ln_12, gI_13, pI_13, rc_13, al_14, as_14, ln_14, ln_15, ql_15, gI_16, pI_16, rc_16, al_17, as_17, ln_17, al_18, as_18, ln_18, al_19, as_19, ln_19, al_20, as_20, ln_20, bl_21, bs_21, ln_21, gI_22, pI_22, rc_22, al_23, as_23, ln_23, al_24, as_24, ln_24, al_25, as_25, ln_25, gI_31, pI_31, rc_31, al_32, as_32, ln_32, gI_33, pI_33, rc_33, al_34, as_34, ln_34, gI_35, pI_35, rc_35, al_36, as_36, ln_36, gI_37, pI_37, rc_37, al_38, as_38, ln_38, gC_0_3, gC_0_4, gC_0_5, gC_0_7, gC_0_10, gC_0_11, gC_0_12, gC_0_13, gC_0_14, gC_0_15, gC_0_16, gC_0_17, gC_1_0, gC_1_2, gC_1_3, gC_5_0, gC_5_2, gC_10_0, gC_10_7, gC_13_5, gC_16_0, gC_16_2, gC_22_0, gC_22_1, gC_22_2, gC_22_3, gC_31_2, gC_33_2, gC_35_2, gC_37_2, bI_rI, bV_rV, bQ_rN, bQ_rR, bz_0, bz_1, bz_Z, hZ0, hZ1, Lay_setI, Lay_setA, hl, (sheetAt_v hl a).1 ca]
    · simp only [fm_cell, fm_in_v, in4, ca, bI_rI, bz_0, if_true]
  · obtain ⟨i, hi, rfl⟩ := inr_t ca (by decide)
    obtain ⟨s1, s2, z, hz, s3, s4⟩ := shv h hi
    have fm0 : ∀ u, Lay u → mI u 54 = mI t 54 → mI u 55 = mI t 55 → fm_cell u (nI i) b c = if pm t 54 i = -1 then rI (-11) u else if inr b z = true then hASt u 56 (40 * nI i + b) (cnv (pm t 54 i) c) (fun w => rI 1 w) else rI (-12) u := by
      intro u lu e1 e2
      have r54 : mI u 54 i = pm t 54 i := by rw [e1]; exact rp_54 hl
      have r55 : mI u 55 i = nI z := by rw [e2, rp_55 hl]; exact s4
      simp only [fm_cell, fm_in_v, in4, ca, if_false, Bool.true_eq_false, gI_39, pI_39, rc_39, al_40, as_40, ln_40, al_41, as_41, ln_41, al_42, as_42, ln_42, al_43, as_43, ln_43, al_44, as_44, ln_44, al_45, as_45, ln_45, al_46, as_46, ln_46, al_47, as_47, ln_47, al_48, as_48, ln_48, al_49, as_49, ln_49, al_50, as_50, ln_50, al_51, as_51, ln_51, al_52, as_52, ln_52, al_53, as_53, ln_53, al_54, as_54, ln_54, al_55, as_55, ln_55, al_56, as_56, ln_56, al_57, as_57, ln_57, al_58, as_58, ln_58, al_59, as_59, ln_59, al_60, as_60, ln_60, al_61, as_61, ln_61, al_62, as_62, ln_62, al_63, as_63, ln_63, al_64, as_64, ln_64, al_65, as_65, ln_65, al_66, as_66, ln_66, al_67, as_67, ln_67, gC_39_4, gC_39_5, gC_39_6, gC_39_7, gC_39_8, gC_39_10, gC_39_11, gC_39_12, gC_39_13, gC_39_15, gC_39_16, gC_39_18, gC_39_19, gC_39_27, gC_39_28, gC_39_29, gC_39_30, gC_39_31, gC_39_36, gC_39_37, gC_39_41, gC_39_42, gC_39_43, gC_39_44, gC_39_46, gC_39_47, gC_39_48, gC_39_49, bI_rI, bV_rV, bQ_rN, bQ_rR, bz_0, bz_1, bz_Z, hZ0, hZ1, Lay_setI, Lay_setA, lu, hi, r54, r55, inr_in (show z < 2 ^ 30 by omega)]
      by_cases c1 : pm t 54 i = -1
      · rw [if_pos c1, if_pos c1]
      · rw [if_neg c1, if_neg c1]
        cases inr b z
        · simp
        · simp only [Bool.true_eq_false, if_false, if_true]
          unfold cnv
          by_cases c2 : pm t 54 i = 0
          · rw [if_pos c2, if_pos c2]
          · rw [if_neg c2, if_neg c2]
            by_cases c3 : pm t 54 i = 1
            · rw [if_pos c3, if_pos c3]
            · rw [if_neg c3, if_neg c3]
    have sp : (decide ((0 : Int32) ≤ b) && decide (b ≤ nI z - 1)) = inr b z := inr_in (by omega)
    by_cases c1 : pm t 54 i = -1
    · refine okr h (v := -11) ?_ (by rw [fm0 t hl rfl rfl, if_pos c1])
      simp only [fx_cell, gI_0, pI_0, rc_0, gI_1, pI_1, rc_1, ln_2, ql_2, al_3, as_3, ln_3, al_4, as_4, ln_4, gI_5, pI_5, rc_5, ln_6, ql_6, al_7, as_7, ln_7, al_8, as_8, ln_8, ln_9, ql_9, gI_10, pI_10, rc_10, al_11, as_11, ln_11, al_12, as_12, ln_12, gI_13, pI_13, rc_13, al_14, as_14, ln_14, ln_15, ql_15, gI_16, pI_16, rc_16, al_17, as_17, ln_17, al_18, as_18, ln_18, al_19, as_19, ln_19, al_20, as_20, ln_20, bl_21, bs_21, ln_21, gI_22, pI_22, rc_22, al_23, as_23, ln_23, al_24, as_24, ln_24, al_25, as_25, ln_25, gI_31, pI_31, rc_31, al_32, as_32, ln_32, gI_33, pI_33, rc_33, al_34, as_34, ln_34, gI_35, pI_35, rc_35, al_36, as_36, ln_36, gI_37, pI_37, rc_37, al_38, as_38, ln_38, gC_0_3, gC_0_4, gC_0_5, gC_0_7, gC_0_10, gC_0_11, gC_0_12, gC_0_13, gC_0_14, gC_0_15, gC_0_16, gC_0_17, gC_1_0, gC_1_2, gC_1_3, gC_5_0, gC_5_2, gC_10_0, gC_10_7, gC_13_5, gC_16_0, gC_16_2, gC_22_0, gC_22_1, gC_22_2, gC_22_3, gC_31_2, gC_33_2, gC_35_2, gC_37_2, bI_rI, bV_rV, bQ_rN, bQ_rR, bz_0, bz_1, bz_Z, hZ0, hZ1, Lay_setI, Lay_setA, hl, (sheetAt_v hl (nI i)).2 i hi rfl, sh_i hl hi, s1, c1, if_true]
    · cases cb : inr b z
      · refine okr h (v := -12) ?_ (by rw [fm0 t hl rfl rfl, if_neg c1, cb]; rfl)
        simp only [fx_cell, gI_0, pI_0, rc_0, gI_1, pI_1, rc_1, ln_2, ql_2, al_3, as_3, ln_3, al_4, as_4, ln_4, gI_5, pI_5, rc_5, ln_6, ql_6, al_7, as_7, ln_7, al_8, as_8, ln_8, ln_9, ql_9, gI_10, pI_10, rc_10, al_11, as_11, ln_11, al_12, as_12, ln_12, gI_13, pI_13, rc_13, al_14, as_14, ln_14, ln_15, ql_15, gI_16, pI_16, rc_16, al_17, as_17, ln_17, al_18, as_18, ln_18, al_19, as_19, ln_19, al_20, as_20, ln_20, bl_21, bs_21, ln_21, gI_22, pI_22, rc_22, al_23, as_23, ln_23, al_24, as_24, ln_24, al_25, as_25, ln_25, gI_31, pI_31, rc_31, al_32, as_32, ln_32, gI_33, pI_33, rc_33, al_34, as_34, ln_34, gI_35, pI_35, rc_35, al_36, as_36, ln_36, gI_37, pI_37, rc_37, al_38, as_38, ln_38, gC_0_3, gC_0_4, gC_0_5, gC_0_7, gC_0_10, gC_0_11, gC_0_12, gC_0_13, gC_0_14, gC_0_15, gC_0_16, gC_0_17, gC_1_0, gC_1_2, gC_1_3, gC_5_0, gC_5_2, gC_10_0, gC_10_7, gC_13_5, gC_16_0, gC_16_2, gC_22_0, gC_22_1, gC_22_2, gC_22_3, gC_31_2, gC_33_2, gC_35_2, gC_37_2, bI_rI, bV_rV, bQ_rN, bQ_rR, bz_0, bz_1, bz_Z, hZ0, hZ1, Lay_setI, Lay_setA, hl, (sheetAt_v hl (nI i)).2 i hi rfl, sh_i hl hi, s1, c1, if_false, sh_c hl hi, spans_v hl hi s3, sp, cb, if_true]
      · obtain ⟨j, hj, rfl⟩ := inr_t cb (by omega)
        have j40 : j < 40 := by omega
        have f1 : fx_cell t (nI i) (nI j) c = rI 1 (setI t (32 + 2 * i) j (cnv (pm t 54 i) c)) := by
          have sn : ∀ v, fx_setNumber t (32 + 2 * i) (nI j) v = rV (setI t (32 + 2 * i) j v) := fun v => L_sni hl (by omega) (sheet_lay hi).2 j40
          simp only [fx_cell, gI_0, pI_0, rc_0, gI_1, pI_1, rc_1, ln_2, ql_2, al_3, as_3, ln_3, al_4, as_4, ln_4, gI_5, pI_5, rc_5, ln_6, ql_6, al_7, as_7, ln_7, al_8, as_8, ln_8, ln_9, ql_9, gI_10, pI_10, rc_10, al_11, as_11, ln_11, al_12, as_12, ln_12, gI_13, pI_13, rc_13, al_14, as_14, ln_14, ln_15, ql_15, gI_16, pI_16, rc_16, al_17, as_17, ln_17, al_18, as_18, ln_18, al_19, as_19, ln_19, al_20, as_20, ln_20, bl_21, bs_21, ln_21, gI_22, pI_22, rc_22, al_23, as_23, ln_23, al_24, as_24, ln_24, al_25, as_25, ln_25, gI_31, pI_31, rc_31, al_32, as_32, ln_32, gI_33, pI_33, rc_33, al_34, as_34, ln_34, gI_35, pI_35, rc_35, al_36, as_36, ln_36, gI_37, pI_37, rc_37, al_38, as_38, ln_38, gC_0_3, gC_0_4, gC_0_5, gC_0_7, gC_0_10, gC_0_11, gC_0_12, gC_0_13, gC_0_14, gC_0_15, gC_0_16, gC_0_17, gC_1_0, gC_1_2, gC_1_3, gC_5_0, gC_5_2, gC_10_0, gC_10_7, gC_13_5, gC_16_0, gC_16_2, gC_22_0, gC_22_1, gC_22_2, gC_22_3, gC_31_2, gC_33_2, gC_35_2, gC_37_2, bI_rI, bV_rV, bQ_rN, bQ_rR, bz_0, bz_1, bz_Z, hZ0, hZ1, Lay_setI, Lay_setA, hl, (sheetAt_v hl (nI i)).2 i hi rfl, sh_i hl hi, s1, c1, if_false, sh_c hl hi, spans_v hl hi s3, sp, cb, Bool.true_eq_false, fSh_write, sh_r hl hi, sn]
          unfold cnv
          by_cases c2 : pm t 54 i = 0
          · rw [if_pos c2, if_pos c2]; rfl
          · rw [if_neg c2, if_neg c2]
            by_cases c3 : pm t 54 i = 1
            · rw [if_pos c3, if_pos c3]; rfl
            · rw [if_neg c3, if_neg c3]; rfl
        have l1 : Lay (setI t (32 + 2 * i) j (cnv (pm t 54 i) c)) := hl
        have f2 : fm_cell (setI t (32 + 2 * i) j (cnv (pm t 54 i) c)) (nI i) (nI j) c = rI 1 (setI (setI t (32 + 2 * i) j (cnv (pm t 54 i) c)) 56 (40 * i + j) (cnv (pm t 54 i) c)) := by
          rw [fm0 _ l1 (setI_ne (by omega)) (setI_ne (by omega)), if_neg c1, cb, if_pos rfl, l40, nI_add, as_56 l1 (by omega)]
        generalize cnv (pm t 54 i) c = V at f1 f2 l1
        refine okc f1 f2 l1 (n' := n) (m' := m) (s' := s) (g' := g) (x' := x) (p' := p) ?_ rfl rfl
        have sq : scr (mT t) (32 + 2 * i) j = false := by
          have : i = 0 ∨ i = 1 ∨ i = 2 ∨ i = 3 := by omega
          rcases this with rfl | rfl | rfl | rfl <;> exact scr_fx hl rfl rfl
        have w : ∀ q k, pm (setI (setI t (32 + 2 * i) j V) 56 (40 * i + j) V) q k = if q = 56 ∧ k = 40 * i + j then V else if q = 32 + 2 * i ∧ k = j then V else pm t q k := by
          intro q k
          rw [pmI_56_r l1, pm_set sq]
        refine sheets_ok h rfl (((SR.refl _ _).st (inKS (by omega) (by omega))).st (by decide)) ?_
        intro k hk
        obtain ⟨v1, v2, ⟨z1, y1, y2, y3⟩, v3⟩ := h.shs k hk
        refine ⟨?_, ?_, ⟨z1, y1, ?_, ?_⟩, fun y hy => ?_⟩
        · rw [w, w, if_neg (by omega), if_neg (by omega), if_neg (by omega), if_neg (by omega)]; exact v1
        · rw [w, if_neg (by omega), if_neg (by omega)]; exact v2
        · rw [w, if_neg (by omega), if_neg (by omega)]; exact y2
        · rw [w, if_neg (by omega), if_neg (by omega)]; exact y3
        · rw [w, w, if_neg (by omega)]
          by_cases e1 : k = i ∧ y = j
          · rw [if_pos (by omega), if_pos (by omega)]
          · rw [if_neg (by omega), if_neg (by omega), if_neg (by omega)]; exact v3 y hy
/-! sheet -/
theorem zeros_m {i : Nat} (hl : Lay t) (hi : i < 4) : fm_sheet_l70 1000000 t (nI i) 0 = rI 1 (setA t 56 (fun j => if 40 * i ≤ j ∧ j < 40 * i + 40 then 0 else mI t 56 j)) := by
  refine for_up (β := Unit) (fun f t k _ => fm_sheet_l70 f t (nI i) (nI k)) (fun r => r = rI 1 (setA t 56 (fun j => if 40 * i ≤ j ∧ j < 40 * i + 40 then 0 else mI t 56 j))) 40
    (fun k u _ => u = setA t 56 (fun j => if 40 * i ≤ j ∧ j < 40 * i + k then 0 else mI t 56 j)) ?_ ?_ 40 0 t () 1000000 (by omega) ?_ (by omega)
  · intro f u _ hu
    show fm_sheet_70 _ u (nI i) (nI 40) = _
    unfold fm_sheet_70
    rw [if_pos (show (40 : Int32) ≤ nI 40 from Int32.le_refl _), hu]
  · intro f u k _ hk hu ih
    have lu : Lay u := by rw [hu]; exact hl
    show fm_sheet_70 _ u (nI i) (nI k) = _
    unfold fm_sheet_70
    rw [if_neg (show ¬ (40 : Int32) ≤ nI k from nI_ge (b := 40) hk (by decide)), gC_39_30 lu, l40, nI_add, as_56 lu (by omega), nI_1]
    refine ih _ () ?_
    rw [hu, setI_setA]
    congr 1
    funext j
    unfold upd
    by_cases e : j = 40 * i + k
    · rw [if_pos e, if_pos (by omega)]
    · rw [if_neg e]
      show (if 40 * i ≤ j ∧ j < 40 * i + k then (0 : Int32) else mI t 56 j) = _
      by_cases e2 : 40 * i ≤ j ∧ j < 40 * i + k
      · rw [if_pos e2, if_pos (by omega)]
      · rw [if_neg e2, if_neg (by omega)]
  · have : (fun j => if 40 * i ≤ j ∧ j < 40 * i + 0 then 0 else mI t 56 j) = mI t 56 := by
      funext j; rw [if_neg (by omega)]
    rw [this, setA_mI]
theorem sheet_set (h : Inv n m s g x p t) {i z : Nat} (hi : i < 4) (hz : z ≤ 40) {b : Int32} (hb : b = -1 ∨ ∃ k, k < 3 ∧ b = nI k) {fx fm : SM → OR}
    (f1 : fx t = rI 1 (setA (setI (setI t (31 + 2 * i) 0 b) (31 + 2 * i) 1 (nI z)) (32 + 2 * i) (fun j => if j < 40 then 0 else mI t (32 + 2 * i) j)))
    (f2 : ∀ u, Lay u → fm u = rI 1 (setA (setI (setI u 54 i b) 55 i (nI z)) 56 (fun j => if 40 * i ≤ j ∧ j < 40 * i + 40 then 0 else mI u 56 j))) : Okk t fx fm := by
  have hl := h.lay
  have l1 : Lay (setA (setI (setI t (31 + 2 * i) 0 b) (31 + 2 * i) 1 (nI z)) (32 + 2 * i) (fun j => if j < 40 then 0 else mI t (32 + 2 * i) j)) := hl
  refine okc f1 (f2 _ l1) l1 (n' := n) (m' := m) (s' := s) (g' := g) (x' := x) (p' := p) ?_ rfl rfl
  have r1 : SR KS (pm t) (pm (setA (setI (setI (setA (setI (setI t (31 + 2 * i) 0 b) (31 + 2 * i) 1 (nI z)) (32 + 2 * i) (fun j => if j < 40 then 0 else mI t (32 + 2 * i) j)) 54 i b) 55 i (nI z)) 56 (fun j => if 40 * i ≤ j ∧ j < 40 * i + 40 then 0 else mI (setA (setI (setI t (31 + 2 * i) 0 b) (31 + 2 * i) 1 (nI z)) (32 + 2 * i) (fun j => if j < 40 then 0 else mI t (32 + 2 * i) j)) 56 j))) :=
    SR.sA (SR.st (SR.st (SR.sA (SR.st (SR.st (SR.refl _ _) (inKS (by omega) (by omega))) (inKS (by omega) (by omega))) (inKS (by omega) (by omega))) (by decide)) (by decide)) (by decide)
  have w : ∀ q k, mI (setA (setI (setI (setA (setI (setI t (31 + 2 * i) 0 b) (31 + 2 * i) 1 (nI z)) (32 + 2 * i) (fun j => if j < 40 then 0 else mI t (32 + 2 * i) j)) 54 i b) 55 i (nI z)) 56 (fun j => if 40 * i ≤ j ∧ j < 40 * i + 40 then 0 else mI (setA (setI (setI t (31 + 2 * i) 0 b) (31 + 2 * i) 1 (nI z)) (32 + 2 * i) (fun j => if j < 40 then 0 else mI t (32 + 2 * i) j)) 56 j)) q k =
      if q = 56 ∧ 40 * i ≤ k ∧ k < 40 * i + 40 then 0 else if q = 55 ∧ k = i then nI z else if q = 54 ∧ k = i then b else if q = 32 + 2 * i ∧ k < 40 then 0 else if q = 31 + 2 * i ∧ k = 1 then nI z else if q = 31 + 2 * i ∧ k = 0 then b else mI t q k := by
    intro q k
    have a1 : mI (setA (setI (setI t (31 + 2 * i) 0 b) (31 + 2 * i) 1 (nI z)) (32 + 2 * i) (fun j => if j < 40 then 0 else mI t (32 + 2 * i) j)) 56 = mI t 56 := by
      rw [setA_I, if_neg (by omega), setI_ne (by omega), setI_ne (by omega)]
    rw [setA_I]
    by_cases c56 : q = 56
    · subst c56
      rw [if_pos rfl, a1]
      by_cases c : 40 * i ≤ k ∧ k < 40 * i + 40
      · rw [if_pos c, if_pos ⟨rfl, c⟩]
      · rw [if_neg c, if_neg (by omega), if_neg (by omega), if_neg (by omega), if_neg (by omega), if_neg (by omega), if_neg (by omega)]
    · rw [if_neg c56, if_neg (fun e => c56 e.1), setI_I]
      by_cases c55 : q = 55 ∧ k = i
      · rw [if_pos c55, if_pos c55]
      · rw [if_neg c55, if_neg c55, setI_I]
        by_cases c54 : q = 54 ∧ k = i
        · rw [if_pos c54, if_pos c54]
        · rw [if_neg c54, if_neg c54, setA_I]
          by_cases c32 : q = 32 + 2 * i
          · subst c32
            rw [if_pos rfl]
            by_cases ck : k < 40
            · rw [if_pos ck, if_pos ⟨rfl, ck⟩]
            · rw [if_neg ck, if_neg (by omega), if_neg (by omega), if_neg (by omega)]
          · rw [if_neg c32, if_neg (fun e => c32 e.1), setI_I]
            by_cases c31 : q = 31 + 2 * i ∧ k = 1
            · rw [if_pos c31, if_pos c31]
            · rw [if_neg c31, if_neg c31, setI_I]
  have e0 : (setA (setI (setI (setA (setI (setI t (31 + 2 * i) 0 b) (31 + 2 * i) 1 (nI z)) (32 + 2 * i) (fun j => if j < 40 then 0 else mI t (32 + 2 * i) j)) 54 i b) 55 i (nI z)) 56 (fun j => if 40 * i ≤ j ∧ j < 40 * i + 40 then 0 else mI (setA (setI (setI t (31 + 2 * i) 0 b) (31 + 2 * i) 1 (nI z)) (32 + 2 * i) (fun j => if j < 40 then 0 else mI t (32 + 2 * i) j)) 56 j)).2 = t.2 := rfl
  generalize setA (setI (setI (setA (setI (setI t (31 + 2 * i) 0 b) (31 + 2 * i) 1 (nI z)) (32 + 2 * i) (fun j => if j < 40 then 0 else mI t (32 + 2 * i) j)) 54 i b) 55 i (nI z)) 56 (fun j => if 40 * i ≤ j ∧ j < 40 * i + 40 then 0 else mI (setA (setI (setI t (31 + 2 * i) 0 b) (31 + 2 * i) 1 (nI z)) (32 + 2 * i) (fun j => if j < 40 then 0 else mI t (32 + 2 * i) j)) 56 j) = u at *
  have lu := hl.of e0
  refine sheets_ok h e0 r1 ?_
  intro k hk
  obtain ⟨v1, v2, ⟨z1, y1, y2, y3⟩, v3⟩ := h.shs k hk
  rw [(pm31 hl hk).1, ← rp_54 hl] at v1
  rw [← rp_54 hl] at v2
  rw [(pm31 hl hk).1] at y2
  rw [← rp_55 hl] at y3
  rw [(pm31 lu hk).1, (pm31 lu hk).1, ← rp_54 lu, ← rp_55 lu]
  by_cases e : k = i
  · subst e
    refine ⟨?_, ?_, ⟨z, hz, ?_, ?_⟩, fun y hy => ?_⟩
    · rw [w, w, if_neg (by omega), if_neg (by omega), if_neg (by omega), if_neg (by omega), if_neg (by omega), if_pos ⟨rfl, rfl⟩, if_neg (by omega), if_neg (by omega), if_pos ⟨rfl, rfl⟩]
    · rw [w, if_neg (by omega), if_neg (by omega), if_pos ⟨rfl, rfl⟩]; exact hb
    · rw [w, if_neg (by omega), if_neg (by omega), if_neg (by omega), if_neg (by omega), if_pos ⟨rfl, rfl⟩]
    · rw [w, if_neg (by omega), if_pos ⟨rfl, rfl⟩]
    · rw [(pm31 lu hk).2, ← rp_56 lu, w, w, if_neg (by omega), if_neg (by omega), if_neg (by omega), if_pos ⟨rfl, hy⟩, if_pos ⟨rfl, by omega, by omega⟩]
  · refine ⟨?_, ?_, ⟨z1, y1, ?_, ?_⟩, fun y hy => ?_⟩
    · rw [w, w, if_neg (by omega), if_neg (by omega), if_neg (by omega), if_neg (by omega), if_neg (by omega), if_neg (by omega), if_neg (by omega), if_neg (by omega), if_neg (by omega), if_neg (by omega), if_neg (by omega), if_neg (by omega)]; exact v1
    · rw [w, if_neg (by omega), if_neg (by omega), if_neg (by omega), if_neg (by omega), if_neg (by omega), if_neg (by omega)]; exact v2
    · rw [w, if_neg (by omega), if_neg (by omega), if_neg (by omega), if_neg (by omega), if_neg (by omega), if_neg (by omega)]; exact y2
    · rw [w, if_neg (by omega), if_neg (by omega), if_neg (by omega), if_neg (by omega), if_neg (by omega), if_neg (by omega)]; exact y3
    · have := v3 y hy
      rw [(pm31 hl hk).2, ← rp_56 hl] at this
      rw [(pm31 lu hk).2, ← rp_56 lu, w, w, if_neg (by omega), if_neg (by omega), if_neg (by omega), if_neg (by omega), if_neg (by omega), if_neg (by omega), if_neg (by omega), if_neg (by omega), if_neg (by omega), if_neg (by omega), if_neg (by omega), if_neg (by omega)]; exact this
theorem ok_sheet (h : Inv n m s g x p t) (a b c : Int32) : Okk t (fun t => fx_sheet t a b c) (fun t => fm_sheet t a b c) := by
  have hl := h.lay
  have in4 : (decide ((0 : Int32) ≤ a) && decide (a ≤ 3)) = inr a 4 := inr_in (N := 4) (by decide)
  cases ca : inr a 4
  · refine okr h (v := -2) ?_ ?_
    · simp only [fx_sheet, gI_0, pI_0, rc_0, gI_1, pI_1, rc_1, ln_2, ql_2, al_3, as_3, ln_3, al_4, as_4, ln_4, gI_5, pI_5, rc_5, ln_6, ql_6, al_7, as_7, ln_7, al_8, as_8, ln_8, ln_9, ql_9, gI_10, pI_10, rc_10, al_11, as_11, ln_11, al_12, as_12, ln_12, gI_13, pI_13, rc_13, al_14, as_14, ln_14, ln_15, ql_15, gI_16, pI_16, rc_16, al_17, as_17, ln_17, al_18, as_18, ln_18, al_19, as_19, ln_19, al_20, as_20, ln_20, bl_21, bs_21, ln_21, gI_22, pI_22, rc_22, al_23, as_23, ln_23, al_24, as_24, ln_24, al_25, as_25, ln_25, gI_31, pI_31, rc_31, al_32, as_32, ln_32, gI_33, pI_33, rc_33, al_34, as_34, ln_34, gI_35, pI_35, rc_35, al_36, as_36, ln_36, gI_37, pI_37, rc_37, al_38, as_38, ln_38, gC_0_3, gC_0_4, gC_0_5, gC_0_7, gC_0_10, gC_0_11, gC_0_12, gC_0_13, gC_0_14, gC_0_15, gC_0_16, gC_0_17, gC_1_0, gC_1_2, gC_1_3, gC_5_0, gC_5_2, gC_10_0, gC_10_7, gC_13_5, gC_16_0, gC_16_2, gC_22_0, gC_22_1, gC_22_2, gC_22_3, gC_31_2, gC_33_2, gC_35_2, gC_37_2, bI_rI, bV_rV, bQ_rN, bQ_rR, bz_0, bz_1, bz_Z, hZ0, hZ1, Lay_setI, Lay_setA, hl, (sheetAt_v hl a).1 ca]
    · simp only [fm_sheet, fm_in_v, in4, ca, bI_rI, bz_0, if_true]
  · obtain ⟨i, hi, rfl⟩ := inr_t ca (by decide)
    by_cases c1 : b < -1
    · refine okr h (v := -2) ?_ ?_
      · simp only [fx_sheet, gI_0, pI_0, rc_0, gI_1, pI_1, rc_1, ln_2, ql_2, al_3, as_3, ln_3, al_4, as_4, ln_4, gI_5, pI_5, rc_5, ln_6, ql_6, al_7, as_7, ln_7, al_8, as_8, ln_8, ln_9, ql_9, gI_10, pI_10, rc_10, al_11, as_11, ln_11, al_12, as_12, ln_12, gI_13, pI_13, rc_13, al_14, as_14, ln_14, ln_15, ql_15, gI_16, pI_16, rc_16, al_17, as_17, ln_17, al_18, as_18, ln_18, al_19, as_19, ln_19, al_20, as_20, ln_20, bl_21, bs_21, ln_21, gI_22, pI_22, rc_22, al_23, as_23, ln_23, al_24, as_24, ln_24, al_25, as_25, ln_25, gI_31, pI_31, rc_31, al_32, as_32, ln_32, gI_33, pI_33, rc_33, al_34, as_34, ln_34, gI_35, pI_35, rc_35, al_36, as_36, ln_36, gI_37, pI_37, rc_37, al_38, as_38, ln_38, gC_0_3, gC_0_4, gC_0_5, gC_0_7, gC_0_10, gC_0_11, gC_0_12, gC_0_13, gC_0_14, gC_0_15, gC_0_16, gC_0_17, gC_1_0, gC_1_2, gC_1_3, gC_5_0, gC_5_2, gC_10_0, gC_10_7, gC_13_5, gC_16_0, gC_16_2, gC_22_0, gC_22_1, gC_22_2, gC_22_3, gC_31_2, gC_33_2, gC_35_2, gC_37_2, bI_rI, bV_rV, bQ_rN, bQ_rR, bz_0, bz_1, bz_Z, hZ0, hZ1, Lay_setI, Lay_setA, hl, (sheetAt_v hl (nI i)).2 i hi rfl, c1, if_true]
      · simp only [fm_sheet, fm_in_v, in4, ca, bI_rI, bz_0, if_false, Bool.true_eq_false, decide_eq_false (Int32.not_le.mpr c1), Bool.false_and, if_true]
    · by_cases c2 : b ≤ 2
      · have in5 : (decide ((-1 : Int32) ≤ b) && decide (b ≤ 2)) = true := by rw [decide_eq_true (Int32.not_lt.mp c1), decide_eq_true c2]; rfl
        have hz : ∀ (u : SM), Lay u → ∀ (v : Int32) (zz : Nat), v = nI zz → fm_sheet_l70 1000000 (setI (setI u 54 i b) 55 i v) (nI i) 0 = rI 1 (setA (setI (setI u 54 i b) 55 i (nI zz)) 56 (fun j => if 40 * i ≤ j ∧ j < 40 * i + 40 then 0 else mI u 56 j)) := by
          intro u lu v zz hv
          have l2 : Lay (setI (setI u 54 i b) 55 i v) := lu
          rw [zeros_m l2 hi, hv, setI_ne (by decide), setI_ne (by decide)]
        by_cases c3 : b = -1
        · refine sheet_set h hi (z := 0) (Nat.zero_le 40) (Or.inl c3) ?_ ?_
          · simp only [fx_sheet, gI_0, pI_0, rc_0, gI_1, pI_1, rc_1, ln_2, ql_2, al_3, as_3, ln_3, al_4, as_4, ln_4, gI_5, pI_5, rc_5, ln_6, ql_6, al_7, as_7, ln_7, al_8, as_8, ln_8, ln_9, ql_9, gI_10, pI_10, rc_10, al_11, as_11, ln_11, al_12, as_12, ln_12, gI_13, pI_13, rc_13, al_14, as_14, ln_14, ln_15, ql_15, gI_16, pI_16, rc_16, al_17, as_17, ln_17, al_18, as_18, ln_18, al_19, as_19, ln_19, al_20, as_20, ln_20, bl_21, bs_21, ln_21, gI_22, pI_22, rc_22, al_23, as_23, ln_23, al_24, as_24, ln_24, al_25, as_25, ln_25, gI_31, pI_31, rc_31, al_32, as_32, ln_32, gI_33, pI_33, rc_33, al_34, as_34, ln_34, gI_35, pI_35, rc_35, al_36, as_36, ln_36, gI_37, pI_37, rc_37, al_38, as_38, ln_38, gC_0_3, gC_0_4, gC_0_5, gC_0_7, gC_0_10, gC_0_11, gC_0_12, gC_0_13, gC_0_14, gC_0_15, gC_0_16, gC_0_17, gC_1_0, gC_1_2, gC_1_3, gC_5_0, gC_5_2, gC_10_0, gC_10_7, gC_13_5, gC_16_0, gC_16_2, gC_22_0, gC_22_1, gC_22_2, gC_22_3, gC_31_2, gC_33_2, gC_35_2, gC_37_2, bI_rI, bV_rV, bQ_rN, bQ_rR, bz_0, bz_1, bz_Z, hZ0, hZ1, Lay_setI, Lay_setA, hl, (sheetAt_v hl (nI i)).2 i hi rfl]
            rw [if_neg c1, if_pos c2, if_pos c3, sh_c hl hi, become_v hl hi, bV_rV]; rfl
          · intro u lu
            simp only [fm_sheet, fm_in_v, in4, ca, bI_rI, bz_0, if_false, Bool.true_eq_false, in5, fm_sheet_32, fm_sheet_44, gI_39, pI_39, rc_39, al_40, as_40, ln_40, al_41, as_41, ln_41, al_42, as_42, ln_42, al_43, as_43, ln_43, al_44, as_44, ln_44, al_45, as_45, ln_45, al_46, as_46, ln_46, al_47, as_47, ln_47, al_48, as_48, ln_48, al_49, as_49, ln_49, al_50, as_50, ln_50, al_51, as_51, ln_51, al_52, as_52, ln_52, al_53, as_53, ln_53, al_54, as_54, ln_54, al_55, as_55, ln_55, al_56, as_56, ln_56, al_57, as_57, ln_57, al_58, as_58, ln_58, al_59, as_59, ln_59, al_60, as_60, ln_60, al_61, as_61, ln_61, al_62, as_62, ln_62, al_63, as_63, ln_63, al_64, as_64, ln_64, al_65, as_65, ln_65, al_66, as_66, ln_66, al_67, as_67, ln_67, gC_39_4, gC_39_5, gC_39_6, gC_39_7, gC_39_8, gC_39_10, gC_39_11, gC_39_12, gC_39_13, gC_39_15, gC_39_16, gC_39_18, gC_39_19, gC_39_27, gC_39_28, gC_39_29, gC_39_30, gC_39_31, gC_39_36, gC_39_37, gC_39_41, gC_39_42, gC_39_43, gC_39_44, gC_39_46, gC_39_47, gC_39_48, gC_39_49, bI_rI, bV_rV, bQ_rN, bQ_rR, bz_0, bz_1, bz_Z, hZ0, hZ1, Lay_setI, Lay_setA, lu, hi]
            rw [if_pos c3, if_pos c3, if_pos c3]
            exact hz u lu 0 0 rfl
        · have hb3 : ∃ k, k < 3 ∧ b = nI k := by
            have : ¬ b < 0 := by
              intro l
              rw [Int32.not_lt, Int32.le_iff_toInt_le] at c1
              rw [Int32.lt_iff_toInt_lt] at l
              have z1 : (-1 : Int32).toInt = -1 := rfl
              have z0 : (0 : Int32).toInt = 0 := rfl
              exact c3 (Int32.toInt_inj.mp (by omega))
            obtain ⟨k, hk, rfl⟩ := nI_of this
            exact ⟨k, by have := (nI_leI (b := 2) hk (by decide)).mp c2; omega, rfl⟩
          by_cases c4 : c ≤ 40
          · by_cases c5 : 0 ≤ c
            · obtain ⟨z, hz0, rfl⟩ := nI_of (Int32.not_lt.mpr c5)
              have hz4 : z ≤ 40 := (nI_leI (b := 40) hz0 (by decide)).mp c4
              refine sheet_set h hi (z := z) hz4 (Or.inr hb3) ?_ ?_
              · simp only [fx_sheet, gI_0, pI_0, rc_0, gI_1, pI_1, rc_1, ln_2, ql_2, al_3, as_3, ln_3, al_4, as_4, ln_4, gI_5, pI_5, rc_5, ln_6, ql_6, al_7, as_7, ln_7, al_8, as_8, ln_8, ln_9, ql_9, gI_10, pI_10, rc_10, al_11, as_11, ln_11, al_12, as_12, ln_12, gI_13, pI_13, rc_13, al_14, as_14, ln_14, ln_15, ql_15, gI_16, pI_16, rc_16, al_17, as_17, ln_17, al_18, as_18, ln_18, al_19, as_19, ln_19, al_20, as_20, ln_20, bl_21, bs_21, ln_21, gI_22, pI_22, rc_22, al_23, as_23, ln_23, al_24, as_24, ln_24, al_25, as_25, ln_25, gI_31, pI_31, rc_31, al_32, as_32, ln_32, gI_33, pI_33, rc_33, al_34, as_34, ln_34, gI_35, pI_35, rc_35, al_36, as_36, ln_36, gI_37, pI_37, rc_37, al_38, as_38, ln_38, gC_0_3, gC_0_4, gC_0_5, gC_0_7, gC_0_10, gC_0_11, gC_0_12, gC_0_13, gC_0_14, gC_0_15, gC_0_16, gC_0_17, gC_1_0, gC_1_2, gC_1_3, gC_5_0, gC_5_2, gC_10_0, gC_10_7, gC_13_5, gC_16_0, gC_16_2, gC_22_0, gC_22_1, gC_22_2, gC_22_3, gC_31_2, gC_33_2, gC_35_2, gC_37_2, bI_rI, bV_rV, bQ_rN, bQ_rR, bz_0, bz_1, bz_Z, hZ0, hZ1, Lay_setI, Lay_setA, hl, (sheetAt_v hl (nI i)).2 i hi rfl, c1, c2, if_false, if_true, c3, c4, c5, sh_c hl hi, become_v hl hi]
              · intro u lu
                simp only [fm_sheet, fm_in_v, in4, ca, bI_rI, bz_0, if_false, Bool.true_eq_false, in5, fm_sheet_32, fm_sheet_44, gI_39, pI_39, rc_39, al_40, as_40, ln_40, al_41, as_41, ln_41, al_42, as_42, ln_42, al_43, as_43, ln_43, al_44, as_44, ln_44, al_45, as_45, ln_45, al_46, as_46, ln_46, al_47, as_47, ln_47, al_48, as_48, ln_48, al_49, as_49, ln_49, al_50, as_50, ln_50, al_51, as_51, ln_51, al_52, as_52, ln_52, al_53, as_53, ln_53, al_54, as_54, ln_54, al_55, as_55, ln_55, al_56, as_56, ln_56, al_57, as_57, ln_57, al_58, as_58, ln_58, al_59, as_59, ln_59, al_60, as_60, ln_60, al_61, as_61, ln_61, al_62, as_62, ln_62, al_63, as_63, ln_63, al_64, as_64, ln_64, al_65, as_65, ln_65, al_66, as_66, ln_66, al_67, as_67, ln_67, gC_39_4, gC_39_5, gC_39_6, gC_39_7, gC_39_8, gC_39_10, gC_39_11, gC_39_12, gC_39_13, gC_39_15, gC_39_16, gC_39_18, gC_39_19, gC_39_27, gC_39_28, gC_39_29, gC_39_30, gC_39_31, gC_39_36, gC_39_37, gC_39_41, gC_39_42, gC_39_43, gC_39_44, gC_39_46, gC_39_47, gC_39_48, gC_39_49, bI_rI, bV_rV, bQ_rN, bQ_rR, bz_0, bz_1, bz_Z, hZ0, hZ1, Lay_setI, Lay_setA, lu, hi, c3, c4, c5, if_true]
                exact hz u lu (nI z) z rfl
            · refine okr h (v := -14) ?_ ?_
              · simp only [fx_sheet, gI_0, pI_0, rc_0, gI_1, pI_1, rc_1, ln_2, ql_2, al_3, as_3, ln_3, al_4, as_4, ln_4, gI_5, pI_5, rc_5, ln_6, ql_6, al_7, as_7, ln_7, al_8, as_8, ln_8, ln_9, ql_9, gI_10, pI_10, rc_10, al_11, as_11, ln_11, al_12, as_12, ln_12, gI_13, pI_13, rc_13, al_14, as_14, ln_14, ln_15, ql_15, gI_16, pI_16, rc_16, al_17, as_17, ln_17, al_18, as_18, ln_18, al_19, as_19, ln_19, al_20, as_20, ln_20, bl_21, bs_21, ln_21, gI_22, pI_22, rc_22, al_23, as_23, ln_23, al_24, as_24, ln_24, al_25, as_25, ln_25, gI_31, pI_31, rc_31, al_32, as_32, ln_32, gI_33, pI_33, rc_33, al_34, as_34, ln_34, gI_35, pI_35, rc_35, al_36, as_36, ln_36, gI_37, pI_37, rc_37, al_38, as_38, ln_38, gC_0_3, gC_0_4, gC_0_5, gC_0_7, gC_0_10, gC_0_11, gC_0_12, gC_0_13, gC_0_14, gC_0_15, gC_0_16, gC_0_17, gC_1_0, gC_1_2, gC_1_3, gC_5_0, gC_5_2, gC_10_0, gC_10_7, gC_13_5, gC_16_0, gC_16_2, gC_22_0, gC_22_1, gC_22_2, gC_22_3, gC_31_2, gC_33_2, gC_35_2, gC_37_2, bI_rI, bV_rV, bQ_rN, bQ_rR, bz_0, bz_1, bz_Z, hZ0, hZ1, Lay_setI, Lay_setA, hl, (sheetAt_v hl (nI i)).2 i hi rfl, c1, c2, if_false, if_true, c3, c4, c5]
              · simp only [fm_sheet, fm_in_v, in4, ca, bI_rI, bz_0, if_false, Bool.true_eq_false, in5, fm_sheet_32, c3, c4, c5, if_true]
          · refine okr h (v := -2) ?_ ?_
            · simp only [fx_sheet, gI_0, pI_0, rc_0, gI_1, pI_1, rc_1, ln_2, ql_2, al_3, as_3, ln_3, al_4, as_4, ln_4, gI_5, pI_5, rc_5, ln_6, ql_6, al_7, as_7, ln_7, al_8, as_8, ln_8, ln_9, ql_9, gI_10, pI_10, rc_10, al_11, as_11, ln_11, al_12, as_12, ln_12, gI_13, pI_13, rc_13, al_14, as_14, ln_14, ln_15, ql_15, gI_16, pI_16, rc_16, al_17, as_17, ln_17, al_18, as_18, ln_18, al_19, as_19, ln_19, al_20, as_20, ln_20, bl_21, bs_21, ln_21, gI_22, pI_22, rc_22, al_23, as_23, ln_23, al_24, as_24, ln_24, al_25, as_25, ln_25, gI_31, pI_31, rc_31, al_32, as_32, ln_32, gI_33, pI_33, rc_33, al_34, as_34, ln_34, gI_35, pI_35, rc_35, al_36, as_36, ln_36, gI_37, pI_37, rc_37, al_38, as_38, ln_38, gC_0_3, gC_0_4, gC_0_5, gC_0_7, gC_0_10, gC_0_11, gC_0_12, gC_0_13, gC_0_14, gC_0_15, gC_0_16, gC_0_17, gC_1_0, gC_1_2, gC_1_3, gC_5_0, gC_5_2, gC_10_0, gC_10_7, gC_13_5, gC_16_0, gC_16_2, gC_22_0, gC_22_1, gC_22_2, gC_22_3, gC_31_2, gC_33_2, gC_35_2, gC_37_2, bI_rI, bV_rV, bQ_rN, bQ_rR, bz_0, bz_1, bz_Z, hZ0, hZ1, Lay_setI, Lay_setA, hl, (sheetAt_v hl (nI i)).2 i hi rfl, c1, c2, if_false, if_true, c3, c4]
            · simp only [fm_sheet, fm_in_v, in4, ca, bI_rI, bz_0, if_false, Bool.true_eq_false, in5, c3, c4]
      · refine okr h (v := -2) ?_ ?_
        · simp only [fx_sheet, gI_0, pI_0, rc_0, gI_1, pI_1, rc_1, ln_2, ql_2, al_3, as_3, ln_3, al_4, as_4, ln_4, gI_5, pI_5, rc_5, ln_6, ql_6, al_7, as_7, ln_7, al_8, as_8, ln_8, ln_9, ql_9, gI_10, pI_10, rc_10, al_11, as_11, ln_11, al_12, as_12, ln_12, gI_13, pI_13, rc_13, al_14, as_14, ln_14, ln_15, ql_15, gI_16, pI_16, rc_16, al_17, as_17, ln_17, al_18, as_18, ln_18, al_19, as_19, ln_19, al_20, as_20, ln_20, bl_21, bs_21, ln_21, gI_22, pI_22, rc_22, al_23, as_23, ln_23, al_24, as_24, ln_24, al_25, as_25, ln_25, gI_31, pI_31, rc_31, al_32, as_32, ln_32, gI_33, pI_33, rc_33, al_34, as_34, ln_34, gI_35, pI_35, rc_35, al_36, as_36, ln_36, gI_37, pI_37, rc_37, al_38, as_38, ln_38, gC_0_3, gC_0_4, gC_0_5, gC_0_7, gC_0_10, gC_0_11, gC_0_12, gC_0_13, gC_0_14, gC_0_15, gC_0_16, gC_0_17, gC_1_0, gC_1_2, gC_1_3, gC_5_0, gC_5_2, gC_10_0, gC_10_7, gC_13_5, gC_16_0, gC_16_2, gC_22_0, gC_22_1, gC_22_2, gC_22_3, gC_31_2, gC_33_2, gC_35_2, gC_37_2, bI_rI, bV_rV, bQ_rN, bQ_rR, bz_0, bz_1, bz_Z, hZ0, hZ1, Lay_setI, Lay_setA, hl, (sheetAt_v hl (nI i)).2 i hi rfl, c1, c2, if_false]
        · simp only [fm_sheet, fm_in_v, in4, ca, bI_rI, bz_0, if_false, Bool.true_eq_false, decide_eq_false c2, Bool.and_false, if_true]
end
