section
variable {n m s g x p : Nat} {t0 t u : SM}
theorem inr_neg {v : Int32} {N : Nat} (h : v < 0) : inr v N = false := by unfold inr; rw [decide_eq_false (Int32.not_le.mpr h)]; rfl
theorem if_in {α : Type} (v : Int32) (N : Nat) {M : Int32} (h0 : 0 < N) (hN : N < 2 ^ 31) (hM : M = nI (N - 1)) (A B : α) : (if v < 0 then A else if v ≤ M then B else A) = if inr v N = true then B else A := by
  by_cases e1 : v < 0
  · rw [if_pos e1, inr_neg e1]; rfl
  · obtain ⟨i, hi, rfl⟩ := nI_of e1
    rw [if_neg e1, hM]
    by_cases e2 : i < N
    · rw [if_pos (nI_le (by omega) (by omega)), inr_i e2 hN]; rfl
    · rw [if_neg (nI_ge (by omega) hi)]
      have : inr (nI i) N = false := by unfold inr; rw [decide_eq_false (nI_nlt (by omega) hi), Bool.and_false]
      rw [this]; rfl
theorem if_in2 {α : Type} (v : Int32) (N : Nat) {M : Int32} (h0 : 0 < N) (hN : N < 2 ^ 31) (hM : M = nI (N - 1)) (A B : α) : (if v < 0 then A else if M < v then A else B) = if inr v N = true then B else A := by
  rw [← if_in v N h0 hN hM]
  by_cases e1 : v < 0
  · rw [if_pos e1, if_pos e1]
  · rw [if_neg e1, if_neg e1]
    by_cases e2 : M < v
    · rw [if_pos e2, if_neg (Int32.not_le.mpr e2)]
    · rw [if_neg e2, if_pos (Int32.not_lt.mp e2)]
theorem if_in3 {α : Type} (v : Int32) (N : Nat) {M : Int32} (hM : M = nI N) (A B : α) : (if v < 0 then A else if v < M then B else A) = if inr v N = true then B else A := by
  by_cases e1 : v < 0
  · rw [if_pos e1, inr_neg e1]; rfl
  · rw [if_neg e1, hM]; unfold inr; rw [decide_eq_true (Int32.not_lt.mp e1)]; simp
theorem inr_0 {v : Int32} {N : Nat} (hN : N < 2 ^ 31) {d : Int} (h : inr v N = false) : ¬ ∃ i, i < N ∧ v = nI i := by
  rintro ⟨i, hi, rfl⟩
  rw [inr_i hi hN] at h; exact absurd h (by decide)
theorem rI_ite {c : Prop} [Decidable c] {a b : Int32} : rI (if c then a else b) t = if c then rI a t else rI b t := by split <;> rfl
/-! count, told, slips -/
def s_count (n m s g x p : Nat) (G : GG) (a : Int32) : Int32 := if a = 0 then nI n else if a = 1 then nI m else if a = 2 then nI s else if a = 3 then nI g else if a = 4 then nI x else if a = 5 then G 39 21 else if a = 6 then nI p else if a = 7 then G 39 1 else if a = 8 then G 39 2 else -2
theorem ok_count (h : Inv n m s g x p t) (a : Int32) : Okk t (fun t => fx_count t a) (fun t => fm_count t a) := by
  refine okq h (v := s_count n m s g x p (pm t) a) (QQ.pure ?_) (fun u hu e => QQ.pure ?_)
  · simp only [fx_count, gI_0, pI_0, rc_0, gI_1, pI_1, rc_1, ln_2, ql_2, al_3, as_3, ln_3, al_4, as_4, ln_4, gI_5, pI_5, rc_5, ln_6, ql_6, al_7, as_7, ln_7, al_8, as_8, ln_8, ln_9, ql_9, gI_10, pI_10, rc_10, al_11, as_11, ln_11, al_12, as_12, ln_12, gI_13, pI_13, rc_13, al_14, as_14, ln_14, ln_15, ql_15, gI_16, pI_16, rc_16, al_17, as_17, ln_17, al_18, as_18, ln_18, al_19, as_19, ln_19, al_20, as_20, ln_20, bl_21, bs_21, ln_21, gI_22, pI_22, rc_22, al_23, as_23, ln_23, al_24, as_24, ln_24, al_25, as_25, ln_25, gI_31, pI_31, rc_31, al_32, as_32, ln_32, gI_33, pI_33, rc_33, al_34, as_34, ln_34, gI_35, pI_35, rc_35, al_36, as_36, ln_36, gI_37, pI_37, rc_37, al_38, as_38, ln_38, gC_0_3, gC_0_4, gC_0_5, gC_0_7, gC_0_10, gC_0_11, gC_0_12, gC_0_13, gC_0_14, gC_0_15, gC_0_16, gC_0_17, gC_1_0, gC_1_2, gC_1_3, gC_5_0, gC_5_2, gC_10_0, gC_10_7, gC_13_5, gC_16_0, gC_16_2, gC_22_0, gC_22_1, gC_22_2, gC_22_3, gC_31_2, gC_33_2, gC_35_2, gC_37_2, bI_rI, bV_rV, bQ_rN, bQ_rR, bz_0, bz_1, bz_Z, hZ0, hZ1, Lay_setI, Lay_setA, h.lay, h.ch', h.mp', h.st', h.go', h.tx', h.lw', h.tp', h.sn', h.so', s_count, rI_ite]
  · simp only [fm_count, gI_39, pI_39, rc_39, al_40, as_40, ln_40, al_41, as_41, ln_41, al_42, as_42, ln_42, al_43, as_43, ln_43, al_44, as_44, ln_44, al_45, as_45, ln_45, al_46, as_46, ln_46, al_47, as_47, ln_47, al_48, as_48, ln_48, al_49, as_49, ln_49, al_50, as_50, ln_50, al_51, as_51, ln_51, al_52, as_52, ln_52, al_53, as_53, ln_53, al_54, as_54, ln_54, al_55, as_55, ln_55, al_56, as_56, ln_56, al_57, as_57, ln_57, al_58, as_58, ln_58, al_59, as_59, ln_59, al_60, as_60, ln_60, al_61, as_61, ln_61, al_62, as_62, ln_62, al_63, as_63, ln_63, al_64, as_64, ln_64, al_65, as_65, ln_65, al_66, as_66, ln_66, al_67, as_67, ln_67, gC_39_4, gC_39_5, gC_39_6, gC_39_7, gC_39_8, gC_39_10, gC_39_11, gC_39_12, gC_39_13, gC_39_15, gC_39_16, gC_39_18, gC_39_19, gC_39_27, gC_39_28, gC_39_29, gC_39_30, gC_39_31, gC_39_36, gC_39_37, gC_39_41, gC_39_42, gC_39_43, gC_39_44, gC_39_46, gC_39_47, gC_39_48, gC_39_49, bI_rI, bV_rV, bQ_rN, bQ_rR, bz_0, bz_1, bz_Z, hZ0, hZ1, Lay_setI, Lay_setA, hu.lay, hu.ch, hu.mp, hu.st, hu.go, hu.tx, hu.lw, hu.tp, hu.sn, hu.so, s_count, rI_ite, e]
def s_told (m : Nat) (G : GG) (a b : Int32) : Int32 := if inr a m = true then (if b = 0 then G 40 (cN a) else if b = 1 then G 41 (cN a) else if b = 2 then G 42 (cN a) else if b = 3 then G 43 (cN a) else if b = 4 then G 44 (cN a) else -7) else -5
theorem cN_i {i : Nat} (h : i < 2 ^ 31) : cN (nI i) = i := nI_clamp h
theorem ok_told (h : Inv n m s g x p t) (a b : Int32) : Okk t (fun t => fx_told t a b) (fun t => fm_told t a b) := by
  have hr := h.rng
  refine okq h (v := s_told m (pm t) a b) (QQ.pure ?_) (fun u hu e => QQ.pure ?_)
  · unfold s_told
    cases c : inr a m
    · simp only [fx_told, gI_0, pI_0, rc_0, gI_1, pI_1, rc_1, ln_2, ql_2, al_3, as_3, ln_3, al_4, as_4, ln_4, gI_5, pI_5, rc_5, ln_6, ql_6, al_7, as_7, ln_7, al_8, as_8, ln_8, ln_9, ql_9, gI_10, pI_10, rc_10, al_11, as_11, ln_11, al_12, as_12, ln_12, gI_13, pI_13, rc_13, al_14, as_14, ln_14, ln_15, ql_15, gI_16, pI_16, rc_16, al_17, as_17, ln_17, al_18, as_18, ln_18, al_19, as_19, ln_19, al_20, as_20, ln_20, bl_21, bs_21, ln_21, gI_22, pI_22, rc_22, al_23, as_23, ln_23, al_24, as_24, ln_24, al_25, as_25, ln_25, gI_31, pI_31, rc_31, al_32, as_32, ln_32, gI_33, pI_33, rc_33, al_34, as_34, ln_34, gI_35, pI_35, rc_35, al_36, as_36, ln_36, gI_37, pI_37, rc_37, al_38, as_38, ln_38, gC_0_3, gC_0_4, gC_0_5, gC_0_7, gC_0_10, gC_0_11, gC_0_12, gC_0_13, gC_0_14, gC_0_15, gC_0_16, gC_0_17, gC_1_0, gC_1_2, gC_1_3, gC_5_0, gC_5_2, gC_10_0, gC_10_7, gC_13_5, gC_16_0, gC_16_2, gC_22_0, gC_22_1, gC_22_2, gC_22_3, gC_31_2, gC_33_2, gC_35_2, gC_37_2, bI_rI, bV_rV, bQ_rN, bQ_rR, bz_0, bz_1, bz_Z, hZ0, hZ1, Lay_setI, Lay_setA, h.lay, chartAt_no h c]; rfl
    · obtain ⟨i, hi, rfl⟩ := inr_t c (by omega)
      obtain ⟨q, e1, _, hc⟩ := chartAt_in h hi
      simp only [fx_told, gI_0, pI_0, rc_0, gI_1, pI_1, rc_1, ln_2, ql_2, al_3, as_3, ln_3, al_4, as_4, ln_4, gI_5, pI_5, rc_5, ln_6, ql_6, al_7, as_7, ln_7, al_8, as_8, ln_8, ln_9, ql_9, gI_10, pI_10, rc_10, al_11, as_11, ln_11, al_12, as_12, ln_12, gI_13, pI_13, rc_13, al_14, as_14, ln_14, ln_15, ql_15, gI_16, pI_16, rc_16, al_17, as_17, ln_17, al_18, as_18, ln_18, al_19, as_19, ln_19, al_20, as_20, ln_20, bl_21, bs_21, ln_21, gI_22, pI_22, rc_22, al_23, as_23, ln_23, al_24, as_24, ln_24, al_25, as_25, ln_25, gI_31, pI_31, rc_31, al_32, as_32, ln_32, gI_33, pI_33, rc_33, al_34, as_34, ln_34, gI_35, pI_35, rc_35, al_36, as_36, ln_36, gI_37, pI_37, rc_37, al_38, as_38, ln_38, gC_0_3, gC_0_4, gC_0_5, gC_0_7, gC_0_10, gC_0_11, gC_0_12, gC_0_13, gC_0_14, gC_0_15, gC_0_16, gC_0_17, gC_1_0, gC_1_2, gC_1_3, gC_5_0, gC_5_2, gC_10_0, gC_10_7, gC_13_5, gC_16_0, gC_16_2, gC_22_0, gC_22_1, gC_22_2, gC_22_3, gC_31_2, gC_33_2, gC_35_2, gC_37_2, bI_rI, bV_rV, bQ_rN, bQ_rR, bz_0, bz_1, bz_Z, hZ0, hZ1, Lay_setI, Lay_setA, h.lay, e1, hc.i0, hc.i1, hc.i2, hc.i3, hc.i5, rI_ite, if_true, cN_i (show i < 2 ^ 31 by omega)]
  · unfold s_told
    simp only [fm_told, gI_39, pI_39, rc_39, al_40, as_40, ln_40, al_41, as_41, ln_41, al_42, as_42, ln_42, al_43, as_43, ln_43, al_44, as_44, ln_44, al_45, as_45, ln_45, al_46, as_46, ln_46, al_47, as_47, ln_47, al_48, as_48, ln_48, al_49, as_49, ln_49, al_50, as_50, ln_50, al_51, as_51, ln_51, al_52, as_52, ln_52, al_53, as_53, ln_53, al_54, as_54, ln_54, al_55, as_55, ln_55, al_56, as_56, ln_56, al_57, as_57, ln_57, al_58, as_58, ln_58, al_59, as_59, ln_59, al_60, as_60, ln_60, al_61, as_61, ln_61, al_62, as_62, ln_62, al_63, as_63, ln_63, al_64, as_64, ln_64, al_65, as_65, ln_65, al_66, as_66, ln_66, al_67, as_67, ln_67, gC_39_4, gC_39_5, gC_39_6, gC_39_7, gC_39_8, gC_39_10, gC_39_11, gC_39_12, gC_39_13, gC_39_15, gC_39_16, gC_39_18, gC_39_19, gC_39_27, gC_39_28, gC_39_29, gC_39_30, gC_39_31, gC_39_36, gC_39_37, gC_39_41, gC_39_42, gC_39_43, gC_39_44, gC_39_46, gC_39_47, gC_39_48, gC_39_49, bI_rI, bV_rV, bQ_rN, bQ_rR, bz_0, bz_1, bz_Z, hZ0, hZ1, Lay_setI, Lay_setA, hu.lay, fm_isMap_v hu]
    cases c : inr a m
    · simp only [if_true]; rfl
    · obtain ⟨i, hi, rfl⟩ := inr_t c (by omega)
      have h8 : i < 8 := by omega
      simp only [if_false, if_true, Bool.true_eq_false, gI_39, pI_39, rc_39, al_40, as_40, ln_40, al_41, as_41, ln_41, al_42, as_42, ln_42, al_43, as_43, ln_43, al_44, as_44, ln_44, al_45, as_45, ln_45, al_46, as_46, ln_46, al_47, as_47, ln_47, al_48, as_48, ln_48, al_49, as_49, ln_49, al_50, as_50, ln_50, al_51, as_51, ln_51, al_52, as_52, ln_52, al_53, as_53, ln_53, al_54, as_54, ln_54, al_55, as_55, ln_55, al_56, as_56, ln_56, al_57, as_57, ln_57, al_58, as_58, ln_58, al_59, as_59, ln_59, al_60, as_60, ln_60, al_61, as_61, ln_61, al_62, as_62, ln_62, al_63, as_63, ln_63, al_64, as_64, ln_64, al_65, as_65, ln_65, al_66, as_66, ln_66, al_67, as_67, ln_67, gC_39_4, gC_39_5, gC_39_6, gC_39_7, gC_39_8, gC_39_10, gC_39_11, gC_39_12, gC_39_13, gC_39_15, gC_39_16, gC_39_18, gC_39_19, gC_39_27, gC_39_28, gC_39_29, gC_39_30, gC_39_31, gC_39_36, gC_39_37, gC_39_41, gC_39_42, gC_39_43, gC_39_44, gC_39_46, gC_39_47, gC_39_48, gC_39_49, bI_rI, bV_rV, bQ_rN, bQ_rR, bz_0, bz_1, bz_Z, hZ0, hZ1, Lay_setI, Lay_setA, hu.lay, h8, rp_3, rp_8, rp_11, rp_14, rp_32, rp_34, rp_36, rp_38, rp_40, rp_41, rp_42, rp_43, rp_44, rp_45, rp_46, rp_47, rp_48, rp_49, rp_50, rp_51, rp_52, rp_53, rp_54, rp_55, rp_56, rp_57, rp_58, rI_ite, cN_i (show i < 2 ^ 31 by omega), e]
theorem and_m1 (v : Int32) : v &&& (-1) = v := by
  apply b_ext; intro i hi; rw [b_and, b_m1 i hi, Bool.and_true]
theorem fCh_shown_v {i q : Nat} (hc : ChA (pm t) (mT t) (mN t) i q) : fCh_shown t q = rI (if pm t 40 i = 3 then pm t 42 i else -1) t := by
  simp only [fCh_shown, hc.i0, hc.i2, rI_ite]
theorem fCh_slipsIn_v {i q : Nat} (hc : ChA (pm t) (mT t) (mN t) i q) (w : Int32) : fCh_slipsIn t q w = rI (slp (pm t) i w) t := by
  simp only [fCh_slipsIn, hc.i1, hc.rc, fCh_shown_v hc, bI_rI, slp]
  by_cases c : pm t 40 i = 3
  · rw [if_pos c, if_pos c]
  · rw [if_neg c, if_neg c, and_m1]
def s_slips (n m : Nat) (G : GG) (a b c : Int32) : Int32 := if inr a m = true then (if inr b (2 ^ n) = true then (if inr c 2 = true then (if c = 0 then slp G (cN a) b else bz (agr G (cN a) b)) else -7) else -7) else -5
theorem ok_slips (h : Inv n m s g x p t) (a b c : Int32) : Okk t (fun t => fx_slips t a b c) (fun t => fm_slips t a b c) := by
  have hr := h.rng
  have hpw := pw_lt (n := n) (by omega)
  refine okq h (v := s_slips n m (pm t) a b c) (QQ.pure ?_) (fun u hu e => QQ.pure ?_)
  · unfold s_slips
    cases c1 : inr a m
    · simp only [fx_slips, gI_0, pI_0, rc_0, gI_1, pI_1, rc_1, ln_2, ql_2, al_3, as_3, ln_3, al_4, as_4, ln_4, gI_5, pI_5, rc_5, ln_6, ql_6, al_7, as_7, ln_7, al_8, as_8, ln_8, ln_9, ql_9, gI_10, pI_10, rc_10, al_11, as_11, ln_11, al_12, as_12, ln_12, gI_13, pI_13, rc_13, al_14, as_14, ln_14, ln_15, ql_15, gI_16, pI_16, rc_16, al_17, as_17, ln_17, al_18, as_18, ln_18, al_19, as_19, ln_19, al_20, as_20, ln_20, bl_21, bs_21, ln_21, gI_22, pI_22, rc_22, al_23, as_23, ln_23, al_24, as_24, ln_24, al_25, as_25, ln_25, gI_31, pI_31, rc_31, al_32, as_32, ln_32, gI_33, pI_33, rc_33, al_34, as_34, ln_34, gI_35, pI_35, rc_35, al_36, as_36, ln_36, gI_37, pI_37, rc_37, al_38, as_38, ln_38, gC_0_3, gC_0_4, gC_0_5, gC_0_7, gC_0_10, gC_0_11, gC_0_12, gC_0_13, gC_0_14, gC_0_15, gC_0_16, gC_0_17, gC_1_0, gC_1_2, gC_1_3, gC_5_0, gC_5_2, gC_10_0, gC_10_7, gC_13_5, gC_16_0, gC_16_2, gC_22_0, gC_22_1, gC_22_2, gC_22_3, gC_31_2, gC_33_2, gC_35_2, gC_37_2, bI_rI, bV_rV, bQ_rN, bQ_rR, bz_0, bz_1, bz_Z, hZ0, hZ1, Lay_setI, Lay_setA, h.lay, chartAt_no h c1]; rfl
    · obtain ⟨i, hi, rfl⟩ := inr_t c1 (by omega)
      obtain ⟨q, e1, _, hc⟩ := chartAt_in h hi
      simp only [fx_slips, gI_0, pI_0, rc_0, gI_1, pI_1, rc_1, ln_2, ql_2, al_3, as_3, ln_3, al_4, as_4, ln_4, gI_5, pI_5, rc_5, ln_6, ql_6, al_7, as_7, ln_7, al_8, as_8, ln_8, ln_9, ql_9, gI_10, pI_10, rc_10, al_11, as_11, ln_11, al_12, as_12, ln_12, gI_13, pI_13, rc_13, al_14, as_14, ln_14, ln_15, ql_15, gI_16, pI_16, rc_16, al_17, as_17, ln_17, al_18, as_18, ln_18, al_19, as_19, ln_19, al_20, as_20, ln_20, bl_21, bs_21, ln_21, gI_22, pI_22, rc_22, al_23, as_23, ln_23, al_24, as_24, ln_24, al_25, as_25, ln_25, gI_31, pI_31, rc_31, al_32, as_32, ln_32, gI_33, pI_33, rc_33, al_34, as_34, ln_34, gI_35, pI_35, rc_35, al_36, as_36, ln_36, gI_37, pI_37, rc_37, al_38, as_38, ln_38, gC_0_3, gC_0_4, gC_0_5, gC_0_7, gC_0_10, gC_0_11, gC_0_12, gC_0_13, gC_0_14, gC_0_15, gC_0_16, gC_0_17, gC_1_0, gC_1_2, gC_1_3, gC_5_0, gC_5_2, gC_10_0, gC_10_7, gC_13_5, gC_16_0, gC_16_2, gC_22_0, gC_22_1, gC_22_2, gC_22_3, gC_31_2, gC_33_2, gC_35_2, gC_37_2, bI_rI, bV_rV, bQ_rN, bQ_rR, bz_0, bz_1, bz_Z, hZ0, hZ1, Lay_setI, Lay_setA, h.lay, e1, fx_isTown_v h, fx_isZeroOrOne_v, if_true]
      cases c2 : inr b (2 ^ n)
      · simp
      · obtain ⟨j, hj, rfl⟩ := inr_t c2 (by omega)
        cases c3 : inr c 2
        · simp
        · simp only [if_false, if_true, Bool.true_eq_false, hc.rc, fCh_slipsIn_v hc, gI_0, pI_0, rc_0, gI_1, pI_1, rc_1, ln_2, ql_2, al_3, as_3, ln_3, al_4, as_4, ln_4, gI_5, pI_5, rc_5, ln_6, ql_6, al_7, as_7, ln_7, al_8, as_8, ln_8, ln_9, ql_9, gI_10, pI_10, rc_10, al_11, as_11, ln_11, al_12, as_12, ln_12, gI_13, pI_13, rc_13, al_14, as_14, ln_14, ln_15, ql_15, gI_16, pI_16, rc_16, al_17, as_17, ln_17, al_18, as_18, ln_18, al_19, as_19, ln_19, al_20, as_20, ln_20, bl_21, bs_21, ln_21, gI_22, pI_22, rc_22, al_23, as_23, ln_23, al_24, as_24, ln_24, al_25, as_25, ln_25, gI_31, pI_31, rc_31, al_32, as_32, ln_32, gI_33, pI_33, rc_33, al_34, as_34, ln_34, gI_35, pI_35, rc_35, al_36, as_36, ln_36, gI_37, pI_37, rc_37, al_38, as_38, ln_38, gC_0_3, gC_0_4, gC_0_5, gC_0_7, gC_0_10, gC_0_11, gC_0_12, gC_0_13, gC_0_14, gC_0_15, gC_0_16, gC_0_17, gC_1_0, gC_1_2, gC_1_3, gC_5_0, gC_5_2, gC_10_0, gC_10_7, gC_13_5, gC_16_0, gC_16_2, gC_22_0, gC_22_1, gC_22_2, gC_22_3, gC_31_2, gC_33_2, gC_35_2, gC_37_2, bI_rI, bV_rV, bQ_rN, bQ_rR, bz_0, bz_1, bz_Z, hZ0, hZ1, Lay_setI, Lay_setA, h.lay, fAt_agreeingWith_v h (show j < 512 by omega), b_bit _ (show i < 32 by omega), bt_agB (show m ≤ 8 by omega) (show i < 32 by omega), hi, decide_true, Bool.true_and, rI_ite, cN_i (show i < 2 ^ 31 by omega)]
  · unfold s_slips
    simp only [fm_slips, gI_39, pI_39, rc_39, al_40, as_40, ln_40, al_41, as_41, ln_41, al_42, as_42, ln_42, al_43, as_43, ln_43, al_44, as_44, ln_44, al_45, as_45, ln_45, al_46, as_46, ln_46, al_47, as_47, ln_47, al_48, as_48, ln_48, al_49, as_49, ln_49, al_50, as_50, ln_50, al_51, as_51, ln_51, al_52, as_52, ln_52, al_53, as_53, ln_53, al_54, as_54, ln_54, al_55, as_55, ln_55, al_56, as_56, ln_56, al_57, as_57, ln_57, al_58, as_58, ln_58, al_59, as_59, ln_59, al_60, as_60, ln_60, al_61, as_61, ln_61, al_62, as_62, ln_62, al_63, as_63, ln_63, al_64, as_64, ln_64, al_65, as_65, ln_65, al_66, as_66, ln_66, al_67, as_67, ln_67, gC_39_4, gC_39_5, gC_39_6, gC_39_7, gC_39_8, gC_39_10, gC_39_11, gC_39_12, gC_39_13, gC_39_15, gC_39_16, gC_39_18, gC_39_19, gC_39_27, gC_39_28, gC_39_29, gC_39_30, gC_39_31, gC_39_36, gC_39_37, gC_39_41, gC_39_42, gC_39_43, gC_39_44, gC_39_46, gC_39_47, gC_39_48, gC_39_49, bI_rI, bV_rV, bQ_rN, bQ_rR, bz_0, bz_1, bz_Z, hZ0, hZ1, Lay_setI, Lay_setA, hu.lay, fm_isMap_v hu, fm_isTown_v hu, fm_in_v, in_2]
    cases c1 : inr a m
    · simp only [if_true]; rfl
    · obtain ⟨i, hi, rfl⟩ := inr_t c1 (by omega)
      simp only [if_false, if_true, Bool.true_eq_false]
      cases c2 : inr b (2 ^ n)
      · simp
      · cases c3 : inr c 2
        · simp
        · simp only [if_false, if_true, Bool.true_eq_false, gI_39, pI_39, rc_39, al_40, as_40, ln_40, al_41, as_41, ln_41, al_42, as_42, ln_42, al_43, as_43, ln_43, al_44, as_44, ln_44, al_45, as_45, ln_45, al_46, as_46, ln_46, al_47, as_47, ln_47, al_48, as_48, ln_48, al_49, as_49, ln_49, al_50, as_50, ln_50, al_51, as_51, ln_51, al_52, as_52, ln_52, al_53, as_53, ln_53, al_54, as_54, ln_54, al_55, as_55, ln_55, al_56, as_56, ln_56, al_57, as_57, ln_57, al_58, as_58, ln_58, al_59, as_59, ln_59, al_60, as_60, ln_60, al_61, as_61, ln_61, al_62, as_62, ln_62, al_63, as_63, ln_63, al_64, as_64, ln_64, al_65, as_65, ln_65, al_66, as_66, ln_66, al_67, as_67, ln_67, gC_39_4, gC_39_5, gC_39_6, gC_39_7, gC_39_8, gC_39_10, gC_39_11, gC_39_12, gC_39_13, gC_39_15, gC_39_16, gC_39_18, gC_39_19, gC_39_27, gC_39_28, gC_39_29, gC_39_30, gC_39_31, gC_39_36, gC_39_37, gC_39_41, gC_39_42, gC_39_43, gC_39_44, gC_39_46, gC_39_47, gC_39_48, gC_39_49, bI_rI, bV_rV, bQ_rN, bQ_rR, bz_0, bz_1, bz_Z, hZ0, hZ1, Lay_setI, Lay_setA, hu.lay, fm_slipsOf_v hu hi, fm_agrees_v hu _ hi, bz_b0, rI_ite, cN_i (show i < 2 ^ 31 by omega), e]
/-! over -/
def shw (n : Nat) (G : GG) (i : Nat) : Int32 := if G 40 i = 3 then G 42 i else nI (2 ^ n - 1)
def s_over (n m : Nat) (G : GG) (a b c : Int32) : Int32 := if inr a m = true then (if inr b m = true then (if inr c 2 = true then (if c = 0 then (shw n G (cN a) &&& shw n G (cN b)) &&& (G 41 (cN a) ^^^ G 41 (cN b)) else onc ((shw n G (cN a) &&& shw n G (cN b)) &&& (G 41 (cN a) ^^^ G 41 (cN b)))) else -7) else -5) else -5
theorem bt_lt {a n k : Nat} (ha : a < 2 ^ n) (hn : n ≤ 31) (hk : n ≤ k) : bt (nI a) k = false := by
  have := Nat.pow_le_pow_right (n := 2) (by decide) hn
  rw [b_ni _ _ (by omega)]
  exact Nat.testBit_lt_two_pow (Nat.lt_of_lt_of_le ha (Nat.pow_le_pow_right (by decide) hk))
theorem nI_small {v : Int32} {n : Nat} (hn : n ≤ 31) (h : ∀ k, k < 32 → n ≤ k → bt v k = false) : ∃ r, r < 2 ^ n ∧ v = nI r := by
  refine ⟨v.toBitVec.toNat % 2 ^ n, Nat.mod_lt _ (Nat.two_pow_pos n), ?_⟩
  have hp := Nat.pow_le_pow_right (n := 2) (by decide) hn
  have hlt := Nat.mod_lt v.toBitVec.toNat (Nat.two_pow_pos n)
  apply b_ext
  intro k hk
  rw [b_ni _ _ (by omega), Nat.testBit_mod_two_pow]
  by_cases e : k < n
  · simp [e, bt]; rfl
  · simp [e, h k hk (by omega)]
theorem ok_over (h : Inv n m s g x p t) (a b c : Int32) : Okk t (fun t => fx_over t a b c) (fun t => fm_over t a b c) := by
  have hr := h.rng
  have hpw := pw_lt (n := n) (by omega)
  refine okq h (v := s_over n m (pm t) a b c) (QQ.pure ?_) (fun u hu e => QQ.pure ?_)
  · unfold s_over
    cases c1 : inr a m
    · cases c2 : inr b m
      · simp only [fx_over, gI_0, pI_0, rc_0, gI_1, pI_1, rc_1, ln_2, ql_2, al_3, as_3, ln_3, al_4, as_4, ln_4, gI_5, pI_5, rc_5, ln_6, ql_6, al_7, as_7, ln_7, al_8, as_8, ln_8, ln_9, ql_9, gI_10, pI_10, rc_10, al_11, as_11, ln_11, al_12, as_12, ln_12, gI_13, pI_13, rc_13, al_14, as_14, ln_14, ln_15, ql_15, gI_16, pI_16, rc_16, al_17, as_17, ln_17, al_18, as_18, ln_18, al_19, as_19, ln_19, al_20, as_20, ln_20, bl_21, bs_21, ln_21, gI_22, pI_22, rc_22, al_23, as_23, ln_23, al_24, as_24, ln_24, al_25, as_25, ln_25, gI_31, pI_31, rc_31, al_32, as_32, ln_32, gI_33, pI_33, rc_33, al_34, as_34, ln_34, gI_35, pI_35, rc_35, al_36, as_36, ln_36, gI_37, pI_37, rc_37, al_38, as_38, ln_38, gC_0_3, gC_0_4, gC_0_5, gC_0_7, gC_0_10, gC_0_11, gC_0_12, gC_0_13, gC_0_14, gC_0_15, gC_0_16, gC_0_17, gC_1_0, gC_1_2, gC_1_3, gC_5_0, gC_5_2, gC_10_0, gC_10_7, gC_13_5, gC_16_0, gC_16_2, gC_22_0, gC_22_1, gC_22_2, gC_22_3, gC_31_2, gC_33_2, gC_35_2, gC_37_2, bI_rI, bV_rV, bQ_rN, bQ_rR, bz_0, bz_1, bz_Z, hZ0, hZ1, Lay_setI, Lay_setA, h.lay, chartAt_no h c1, chartAt_no h c2]; rfl
      · obtain ⟨j, hj, rfl⟩ := inr_t c2 (by omega)
        obtain ⟨q2, e2, _, hc2⟩ := chartAt_in h hj
        simp only [fx_over, gI_0, pI_0, rc_0, gI_1, pI_1, rc_1, ln_2, ql_2, al_3, as_3, ln_3, al_4, as_4, ln_4, gI_5, pI_5, rc_5, ln_6, ql_6, al_7, as_7, ln_7, al_8, as_8, ln_8, ln_9, ql_9, gI_10, pI_10, rc_10, al_11, as_11, ln_11, al_12, as_12, ln_12, gI_13, pI_13, rc_13, al_14, as_14, ln_14, ln_15, ql_15, gI_16, pI_16, rc_16, al_17, as_17, ln_17, al_18, as_18, ln_18, al_19, as_19, ln_19, al_20, as_20, ln_20, bl_21, bs_21, ln_21, gI_22, pI_22, rc_22, al_23, as_23, ln_23, al_24, as_24, ln_24, al_25, as_25, ln_25, gI_31, pI_31, rc_31, al_32, as_32, ln_32, gI_33, pI_33, rc_33, al_34, as_34, ln_34, gI_35, pI_35, rc_35, al_36, as_36, ln_36, gI_37, pI_37, rc_37, al_38, as_38, ln_38, gC_0_3, gC_0_4, gC_0_5, gC_0_7, gC_0_10, gC_0_11, gC_0_12, gC_0_13, gC_0_14, gC_0_15, gC_0_16, gC_0_17, gC_1_0, gC_1_2, gC_1_3, gC_5_0, gC_5_2, gC_10_0, gC_10_7, gC_13_5, gC_16_0, gC_16_2, gC_22_0, gC_22_1, gC_22_2, gC_22_3, gC_31_2, gC_33_2, gC_35_2, gC_37_2, bI_rI, bV_rV, bQ_rN, bQ_rR, bz_0, bz_1, bz_Z, hZ0, hZ1, Lay_setI, Lay_setA, h.lay, chartAt_no h c1, e2]; rfl
    · obtain ⟨i, hi, rfl⟩ := inr_t c1 (by omega)
      obtain ⟨q, e1, _, hc⟩ := chartAt_in h hi
      cases c2 : inr b m
      · simp only [fx_over, gI_0, pI_0, rc_0, gI_1, pI_1, rc_1, ln_2, ql_2, al_3, as_3, ln_3, al_4, as_4, ln_4, gI_5, pI_5, rc_5, ln_6, ql_6, al_7, as_7, ln_7, al_8, as_8, ln_8, ln_9, ql_9, gI_10, pI_10, rc_10, al_11, as_11, ln_11, al_12, as_12, ln_12, gI_13, pI_13, rc_13, al_14, as_14, ln_14, ln_15, ql_15, gI_16, pI_16, rc_16, al_17, as_17, ln_17, al_18, as_18, ln_18, al_19, as_19, ln_19, al_20, as_20, ln_20, bl_21, bs_21, ln_21, gI_22, pI_22, rc_22, al_23, as_23, ln_23, al_24, as_24, ln_24, al_25, as_25, ln_25, gI_31, pI_31, rc_31, al_32, as_32, ln_32, gI_33, pI_33, rc_33, al_34, as_34, ln_34, gI_35, pI_35, rc_35, al_36, as_36, ln_36, gI_37, pI_37, rc_37, al_38, as_38, ln_38, gC_0_3, gC_0_4, gC_0_5, gC_0_7, gC_0_10, gC_0_11, gC_0_12, gC_0_13, gC_0_14, gC_0_15, gC_0_16, gC_0_17, gC_1_0, gC_1_2, gC_1_3, gC_5_0, gC_5_2, gC_10_0, gC_10_7, gC_13_5, gC_16_0, gC_16_2, gC_22_0, gC_22_1, gC_22_2, gC_22_3, gC_31_2, gC_33_2, gC_35_2, gC_37_2, bI_rI, bV_rV, bQ_rN, bQ_rR, bz_0, bz_1, bz_Z, hZ0, hZ1, Lay_setI, Lay_setA, h.lay, e1, chartAt_no h c2]; rfl
      · obtain ⟨j, hj, rfl⟩ := inr_t c2 (by omega)
        obtain ⟨q2, e2, _, hc2⟩ := chartAt_in h hj
        obtain ⟨_, ⟨a1, ha1, f1⟩, _, _⟩ := h.mps i hi
        obtain ⟨_, ⟨a2, ha2, f2⟩, _, _⟩ := h.mps j hj
        have key : (((pm t 41 i ^^^ pm t 41 j) &&& (if pm t 40 i = 3 then pm t 42 i else -1)) &&& (if pm t 40 j = 3 then pm t 42 j else -1)) &&& nI (2 ^ n - 1) = (shw n (pm t) i &&& shw n (pm t) j) &&& (pm t 41 i ^^^ pm t 41 j) := by
          apply b_ext
          intro k hk
          unfold shw
          rw [b_and, b_and, b_and, b_and, b_and, bt_mask (by omega)]
          by_cases kn : k < n
          · have q1 : bt (if pm t 40 i = 3 then pm t 42 i else -1) k = bt (if pm t 40 i = 3 then pm t 42 i else nI (2 ^ n - 1)) k := by
              split
              · rfl
              · rw [b_m1 k hk, bt_mask (by omega)]; simp [kn]
            have q2 : bt (if pm t 40 j = 3 then pm t 42 j else -1) k = bt (if pm t 40 j = 3 then pm t 42 j else nI (2 ^ n - 1)) k := by
              split
              · rfl
              · rw [b_m1 k hk, bt_mask (by omega)]; simp [kn]
            rw [q1, q2]
            simp only [kn, decide_true, Bool.and_true]
            generalize bt (if pm t 40 i = 3 then pm t 42 i else nI (2 ^ n - 1)) k = z1
            generalize bt (if pm t 40 j = 3 then pm t 42 j else nI (2 ^ n - 1)) k = z2
            generalize bt (pm t 41 i ^^^ pm t 41 j) k = z3
            cases z1 <;> cases z2 <;> cases z3 <;> rfl
          · have q3 : bt (pm t 41 i ^^^ pm t 41 j) k = false := by
              rw [b_xor, f1, f2, bt_lt ha1 (by omega) (by omega), bt_lt ha2 (by omega) (by omega)]; rfl
            rw [q3]; simp
        obtain ⟨r, hr1, hr2⟩ := nI_small (v := (shw n (pm t) i &&& shw n (pm t) j) &&& (pm t 41 i ^^^ pm t 41 j)) (n := n) (by omega) (fun k hk hn => by
          rw [b_and, b_xor, f1, f2, bt_lt ha1 (by omega) hn, bt_lt ha2 (by omega) hn]; simp)
        simp only [fx_over, gI_0, pI_0, rc_0, gI_1, pI_1, rc_1, ln_2, ql_2, al_3, as_3, ln_3, al_4, as_4, ln_4, gI_5, pI_5, rc_5, ln_6, ql_6, al_7, as_7, ln_7, al_8, as_8, ln_8, ln_9, ql_9, gI_10, pI_10, rc_10, al_11, as_11, ln_11, al_12, as_12, ln_12, gI_13, pI_13, rc_13, al_14, as_14, ln_14, ln_15, ql_15, gI_16, pI_16, rc_16, al_17, as_17, ln_17, al_18, as_18, ln_18, al_19, as_19, ln_19, al_20, as_20, ln_20, bl_21, bs_21, ln_21, gI_22, pI_22, rc_22, al_23, as_23, ln_23, al_24, as_24, ln_24, al_25, as_25, ln_25, gI_31, pI_31, rc_31, al_32, as_32, ln_32, gI_33, pI_33, rc_33, al_34, as_34, ln_34, gI_35, pI_35, rc_35, al_36, as_36, ln_36, gI_37, pI_37, rc_37, al_38, as_38, ln_38, gC_0_3, gC_0_4, gC_0_5, gC_0_7, gC_0_10, gC_0_11, gC_0_12, gC_0_13, gC_0_14, gC_0_15, gC_0_16, gC_0_17, gC_1_0, gC_1_2, gC_1_3, gC_5_0, gC_5_2, gC_10_0, gC_10_7, gC_13_5, gC_16_0, gC_16_2, gC_22_0, gC_22_1, gC_22_2, gC_22_3, gC_31_2, gC_33_2, gC_35_2, gC_37_2, bI_rI, bV_rV, bQ_rN, bQ_rR, bz_0, bz_1, bz_Z, hZ0, hZ1, Lay_setI, Lay_setA, h.lay, e1, e2, fx_isZeroOrOne_v, hc.i1, hc2.i1, hc.rc, hc2.rc, fCh_shown_v hc, fCh_shown_v hc2, fx_everyChoice_v h, key, if_true, cN_i (show i < 2 ^ 31 by omega), cN_i (show j < 2 ^ 31 by omega), hr2, bc_on t (show r < 512 by omega)]
        cases c3 : inr c 2
        · simp
        · simp only [if_false, if_true, Bool.true_eq_false, rI_ite]
  · unfold s_over
    simp only [fm_over, gI_39, pI_39, rc_39, al_40, as_40, ln_40, al_41, as_41, ln_41, al_42, as_42, ln_42, al_43, as_43, ln_43, al_44, as_44, ln_44, al_45, as_45, ln_45, al_46, as_46, ln_46, al_47, as_47, ln_47, al_48, as_48, ln_48, al_49, as_49, ln_49, al_50, as_50, ln_50, al_51, as_51, ln_51, al_52, as_52, ln_52, al_53, as_53, ln_53, al_54, as_54, ln_54, al_55, as_55, ln_55, al_56, as_56, ln_56, al_57, as_57, ln_57, al_58, as_58, ln_58, al_59, as_59, ln_59, al_60, as_60, ln_60, al_61, as_61, ln_61, al_62, as_62, ln_62, al_63, as_63, ln_63, al_64, as_64, ln_64, al_65, as_65, ln_65, al_66, as_66, ln_66, al_67, as_67, ln_67, gC_39_4, gC_39_5, gC_39_6, gC_39_7, gC_39_8, gC_39_10, gC_39_11, gC_39_12, gC_39_13, gC_39_15, gC_39_16, gC_39_18, gC_39_19, gC_39_27, gC_39_28, gC_39_29, gC_39_30, gC_39_31, gC_39_36, gC_39_37, gC_39_41, gC_39_42, gC_39_43, gC_39_44, gC_39_46, gC_39_47, gC_39_48, gC_39_49, bI_rI, bV_rV, bQ_rN, bQ_rR, bz_0, bz_1, bz_Z, hZ0, hZ1, Lay_setI, Lay_setA, hu.lay, fm_isMap_v hu, fm_in_v, in_2]
    cases c1 : inr a m
    · simp only [if_true]; rfl
    · obtain ⟨i, hi, rfl⟩ := inr_t c1 (by omega)
      simp only [if_false, if_true, Bool.true_eq_false]
      cases c2 : inr b m
      · simp
      · obtain ⟨j, hj, rfl⟩ := inr_t c2 (by omega)
        simp only [if_false, if_true, Bool.true_eq_false]
        have hs : ∀ k, k < m → fm_shows u (nI k) = rI (shw n (pm u) k) u := by
          intro k hk
          have h8 : k < 8 := by omega
          simp only [fm_shows, gI_39, pI_39, rc_39, al_40, as_40, ln_40, al_41, as_41, ln_41, al_42, as_42, ln_42, al_43, as_43, ln_43, al_44, as_44, ln_44, al_45, as_45, ln_45, al_46, as_46, ln_46, al_47, as_47, ln_47, al_48, as_48, ln_48, al_49, as_49, ln_49, al_50, as_50, ln_50, al_51, as_51, ln_51, al_52, as_52, ln_52, al_53, as_53, ln_53, al_54, as_54, ln_54, al_55, as_55, ln_55, al_56, as_56, ln_56, al_57, as_57, ln_57, al_58, as_58, ln_58, al_59, as_59, ln_59, al_60, as_60, ln_60, al_61, as_61, ln_61, al_62, as_62, ln_62, al_63, as_63, ln_63, al_64, as_64, ln_64, al_65, as_65, ln_65, al_66, as_66, ln_66, al_67, as_67, ln_67, gC_39_4, gC_39_5, gC_39_6, gC_39_7, gC_39_8, gC_39_10, gC_39_11, gC_39_12, gC_39_13, gC_39_15, gC_39_16, gC_39_18, gC_39_19, gC_39_27, gC_39_28, gC_39_29, gC_39_30, gC_39_31, gC_39_36, gC_39_37, gC_39_41, gC_39_42, gC_39_43, gC_39_44, gC_39_46, gC_39_47, gC_39_48, gC_39_49, bI_rI, bV_rV, bQ_rN, bQ_rR, bz_0, bz_1, bz_Z, hZ0, hZ1, Lay_setI, Lay_setA, hu.lay, h8, rp_3, rp_8, rp_11, rp_14, rp_32, rp_34, rp_36, rp_38, rp_40, rp_41, rp_42, rp_43, rp_44, rp_45, rp_46, rp_47, rp_48, rp_49, rp_50, rp_51, rp_52, rp_53, rp_54, rp_55, rp_56, rp_57, rp_58, hu.ch, b_mask n (show n < 31 by omega), shw, rI_ite]
        have i8 : i < 8 := by omega
        have j8 : j < 8 := by omega
        cases c3 : inr c 2
        · simp
        · simp only [if_false, if_true, Bool.true_eq_false, gI_39, pI_39, rc_39, al_40, as_40, ln_40, al_41, as_41, ln_41, al_42, as_42, ln_42, al_43, as_43, ln_43, al_44, as_44, ln_44, al_45, as_45, ln_45, al_46, as_46, ln_46, al_47, as_47, ln_47, al_48, as_48, ln_48, al_49, as_49, ln_49, al_50, as_50, ln_50, al_51, as_51, ln_51, al_52, as_52, ln_52, al_53, as_53, ln_53, al_54, as_54, ln_54, al_55, as_55, ln_55, al_56, as_56, ln_56, al_57, as_57, ln_57, al_58, as_58, ln_58, al_59, as_59, ln_59, al_60, as_60, ln_60, al_61, as_61, ln_61, al_62, as_62, ln_62, al_63, as_63, ln_63, al_64, as_64, ln_64, al_65, as_65, ln_65, al_66, as_66, ln_66, al_67, as_67, ln_67, gC_39_4, gC_39_5, gC_39_6, gC_39_7, gC_39_8, gC_39_10, gC_39_11, gC_39_12, gC_39_13, gC_39_15, gC_39_16, gC_39_18, gC_39_19, gC_39_27, gC_39_28, gC_39_29, gC_39_30, gC_39_31, gC_39_36, gC_39_37, gC_39_41, gC_39_42, gC_39_43, gC_39_44, gC_39_46, gC_39_47, gC_39_48, gC_39_49, bI_rI, bV_rV, bQ_rN, bQ_rR, bz_0, bz_1, bz_Z, hZ0, hZ1, Lay_setI, Lay_setA, hu.lay, hs i hi, hs j hj, i8, j8, rp_3, rp_8, rp_11, rp_14, rp_32, rp_34, rp_36, rp_38, rp_40, rp_41, rp_42, rp_43, rp_44, rp_45, rp_46, rp_47, rp_48, rp_49, rp_50, rp_51, rp_52, rp_53, rp_54, rp_55, rp_56, rp_57, rp_58, fm_ones_v, rI_ite, cN_i (show i < 2 ^ 31 by omega), cN_i (show j < 2 ^ 31 by omega), e]
end
