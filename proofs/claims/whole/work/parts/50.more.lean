section
variable {n m s g x p : Nat} {t0 t u : SM}
theorem says_xor (h : Inv n m s g x p t) {i j : Nat} (hi : i < m) (hj : j < m) : ∃ r, r < 2 ^ n ∧ pm t 41 i ^^^ pm t 41 j = nI r := by
  have hr := h.rng
  obtain ⟨_, ⟨a1, ha1, f1⟩, _, _⟩ := h.mps i hi
  obtain ⟨_, ⟨a2, ha2, f2⟩, _, _⟩ := h.mps j hj
  exact nI_small (by omega) (fun k hk hn => by rw [b_xor, f1, f2, bt_lt ha1 (by omega) hn, bt_lt ha2 (by omega) hn]; rfl)
theorem fAt_unlike_v (h : Inv n m s g x p t) {i j : Nat} (hi : i < m) (hj : j < m) : fAt_unlike t (nI i) (nI j) = rI (onc (pm t 41 i ^^^ pm t 41 j)) t := by
  have hr := h.rng
  have hpw := pw_lt (n := n) (by omega)
  obtain ⟨q, e1, _, hc⟩ := chartAt_in h hi
  obtain ⟨q2, e2, _, hc2⟩ := chartAt_in h hj
  obtain ⟨r, hr1, hr2⟩ := says_xor h hi hj
  simp only [fAt_unlike, gI_0, pI_0, rc_0, gI_1, pI_1, rc_1, ln_2, ql_2, al_3, as_3, ln_3, al_4, as_4, ln_4, gI_5, pI_5, rc_5, ln_6, ql_6, al_7, as_7, ln_7, al_8, as_8, ln_8, ln_9, ql_9, gI_10, pI_10, rc_10, al_11, as_11, ln_11, al_12, as_12, ln_12, gI_13, pI_13, rc_13, al_14, as_14, ln_14, ln_15, ql_15, gI_16, pI_16, rc_16, al_17, as_17, ln_17, al_18, as_18, ln_18, al_19, as_19, ln_19, al_20, as_20, ln_20, bl_21, bs_21, ln_21, gI_22, pI_22, rc_22, al_23, as_23, ln_23, al_24, as_24, ln_24, al_25, as_25, ln_25, gI_31, pI_31, rc_31, al_32, as_32, ln_32, gI_33, pI_33, rc_33, al_34, as_34, ln_34, gI_35, pI_35, rc_35, al_36, as_36, ln_36, gI_37, pI_37, rc_37, al_38, as_38, ln_38, gC_0_3, gC_0_4, gC_0_5, gC_0_7, gC_0_10, gC_0_11, gC_0_12, gC_0_13, gC_0_14, gC_0_15, gC_0_16, gC_0_17, gC_1_0, gC_1_2, gC_1_3, gC_5_0, gC_5_2, gC_10_0, gC_10_7, gC_13_5, gC_16_0, gC_16_2, gC_22_0, gC_22_1, gC_22_2, gC_22_3, gC_31_2, gC_33_2, gC_35_2, gC_37_2, bI_rI, bV_rV, bQ_rN, bQ_rR, bz_0, bz_1, bz_Z, hZ0, hZ1, Lay_setI, Lay_setA, h.lay, e1, e2, hc.i1, hc2.i1, hr2, bc_on t (show r < 512 by omega)]
/-! from -/
def nr1 (G : GG) (i o : Nat) : Bool := decide (onc (G 41 i ^^^ G 41 o) = 1)
def s_from (m : Nat) (G : GG) (a : Int32) : Int32 := if inr a m = true then orf (nr1 G (cN a)) m else -5
theorem ok_from (h : Inv n m s g x p t) (a : Int32) : Okk t (fun t => fx_from t a) (fun t => fm_from t a) := by
  have hr := h.rng
  refine okq h (v := s_from m (pm t) a) (QQ.pure ?_) (fun u hu e => QQ.pure ?_)
  · unfold s_from
    cases c1 : inr a m
    · simp only [fx_from, gI_0, pI_0, rc_0, gI_1, pI_1, rc_1, ln_2, ql_2, al_3, as_3, ln_3, al_4, as_4, ln_4, gI_5, pI_5, rc_5, ln_6, ql_6, al_7, as_7, ln_7, al_8, as_8, ln_8, ln_9, ql_9, gI_10, pI_10, rc_10, al_11, as_11, ln_11, al_12, as_12, ln_12, gI_13, pI_13, rc_13, al_14, as_14, ln_14, ln_15, ql_15, gI_16, pI_16, rc_16, al_17, as_17, ln_17, al_18, as_18, ln_18, al_19, as_19, ln_19, al_20, as_20, ln_20, bl_21, bs_21, ln_21, gI_22, pI_22, rc_22, al_23, as_23, ln_23, al_24, as_24, ln_24, al_25, as_25, ln_25, gI_31, pI_31, rc_31, al_32, as_32, ln_32, gI_33, pI_33, rc_33, al_34, as_34, ln_34, gI_35, pI_35, rc_35, al_36, as_36, ln_36, gI_37, pI_37, rc_37, al_38, as_38, ln_38, gC_0_3, gC_0_4, gC_0_5, gC_0_7, gC_0_10, gC_0_11, gC_0_12, gC_0_13, gC_0_14, gC_0_15, gC_0_16, gC_0_17, gC_1_0, gC_1_2, gC_1_3, gC_5_0, gC_5_2, gC_10_0, gC_10_7, gC_13_5, gC_16_0, gC_16_2, gC_22_0, gC_22_1, gC_22_2, gC_22_3, gC_31_2, gC_33_2, gC_35_2, gC_37_2, bI_rI, bV_rV, bQ_rN, bQ_rR, bz_0, bz_1, bz_Z, hZ0, hZ1, Lay_setI, Lay_setA, h.lay, chartAt_no h c1]; rfl
    · obtain ⟨i, hi, rfl⟩ := inr_t c1 (by omega)
      obtain ⟨q, e1, _, hc⟩ := chartAt_in h hi
      simp only [fx_from, gI_0, pI_0, rc_0, gI_1, pI_1, rc_1, ln_2, ql_2, al_3, as_3, ln_3, al_4, as_4, ln_4, gI_5, pI_5, rc_5, ln_6, ql_6, al_7, as_7, ln_7, al_8, as_8, ln_8, ln_9, ql_9, gI_10, pI_10, rc_10, al_11, as_11, ln_11, al_12, as_12, ln_12, gI_13, pI_13, rc_13, al_14, as_14, ln_14, ln_15, ql_15, gI_16, pI_16, rc_16, al_17, as_17, ln_17, al_18, as_18, ln_18, al_19, as_19, ln_19, al_20, as_20, ln_20, bl_21, bs_21, ln_21, gI_22, pI_22, rc_22, al_23, as_23, ln_23, al_24, as_24, ln_24, al_25, as_25, ln_25, gI_31, pI_31, rc_31, al_32, as_32, ln_32, gI_33, pI_33, rc_33, al_34, as_34, ln_34, gI_35, pI_35, rc_35, al_36, as_36, ln_36, gI_37, pI_37, rc_37, al_38, as_38, ln_38, gC_0_3, gC_0_4, gC_0_5, gC_0_7, gC_0_10, gC_0_11, gC_0_12, gC_0_13, gC_0_14, gC_0_15, gC_0_16, gC_0_17, gC_1_0, gC_1_2, gC_1_3, gC_5_0, gC_5_2, gC_10_0, gC_10_7, gC_13_5, gC_16_0, gC_16_2, gC_22_0, gC_22_1, gC_22_2, gC_22_3, gC_31_2, gC_33_2, gC_35_2, gC_37_2, bI_rI, bV_rV, bQ_rN, bQ_rR, bz_0, bz_1, bz_Z, hZ0, hZ1, Lay_setI, Lay_setA, h.lay, e1, if_true, cN_i (show i < 2 ^ 31 by omega)]
      have := for_fo (fun f k b => fx_from_l21 f t (nI i) b (nI k)) m (fun k b => if nr1 (pm t) i k = true then b ||| ((1 : Int32) <<< (nI k &&& 31)) else b) (fun b => rI b t)
        (fun f b => by
          have e9 : nI m ≤ nI m := Int32.le_refl _
          show fx_from_21 _ t (nI i) b (nI m) = _
          simp only [fx_from_21, gI_0, pI_0, rc_0, gI_1, pI_1, rc_1, ln_2, ql_2, al_3, as_3, ln_3, al_4, as_4, ln_4, gI_5, pI_5, rc_5, ln_6, ql_6, al_7, as_7, ln_7, al_8, as_8, ln_8, ln_9, ql_9, gI_10, pI_10, rc_10, al_11, as_11, ln_11, al_12, as_12, ln_12, gI_13, pI_13, rc_13, al_14, as_14, ln_14, ln_15, ql_15, gI_16, pI_16, rc_16, al_17, as_17, ln_17, al_18, as_18, ln_18, al_19, as_19, ln_19, al_20, as_20, ln_20, bl_21, bs_21, ln_21, gI_22, pI_22, rc_22, al_23, as_23, ln_23, al_24, as_24, ln_24, al_25, as_25, ln_25, gI_31, pI_31, rc_31, al_32, as_32, ln_32, gI_33, pI_33, rc_33, al_34, as_34, ln_34, gI_35, pI_35, rc_35, al_36, as_36, ln_36, gI_37, pI_37, rc_37, al_38, as_38, ln_38, gC_0_3, gC_0_4, gC_0_5, gC_0_7, gC_0_10, gC_0_11, gC_0_12, gC_0_13, gC_0_14, gC_0_15, gC_0_16, gC_0_17, gC_1_0, gC_1_2, gC_1_3, gC_5_0, gC_5_2, gC_10_0, gC_10_7, gC_13_5, gC_16_0, gC_16_2, gC_22_0, gC_22_1, gC_22_2, gC_22_3, gC_31_2, gC_33_2, gC_35_2, gC_37_2, bI_rI, bV_rV, bQ_rN, bQ_rR, bz_0, bz_1, bz_Z, hZ0, hZ1, Lay_setI, Lay_setA, h.lay, h.mp', e9, if_true])
        (fun f k b hk => by
          have e9 : ¬ nI m ≤ nI k := nI_ge hk (by omega)
          show fx_from_21 _ t (nI i) b (nI k) = fx_from_l21 f t (nI i) (if nr1 (pm t) i k = true then b ||| ((1 : Int32) <<< (nI k &&& 31)) else b) (nI (k + 1))
          simp only [fx_from_21, gI_0, pI_0, rc_0, gI_1, pI_1, rc_1, ln_2, ql_2, al_3, as_3, ln_3, al_4, as_4, ln_4, gI_5, pI_5, rc_5, ln_6, ql_6, al_7, as_7, ln_7, al_8, as_8, ln_8, ln_9, ql_9, gI_10, pI_10, rc_10, al_11, as_11, ln_11, al_12, as_12, ln_12, gI_13, pI_13, rc_13, al_14, as_14, ln_14, ln_15, ql_15, gI_16, pI_16, rc_16, al_17, as_17, ln_17, al_18, as_18, ln_18, al_19, as_19, ln_19, al_20, as_20, ln_20, bl_21, bs_21, ln_21, gI_22, pI_22, rc_22, al_23, as_23, ln_23, al_24, as_24, ln_24, al_25, as_25, ln_25, gI_31, pI_31, rc_31, al_32, as_32, ln_32, gI_33, pI_33, rc_33, al_34, as_34, ln_34, gI_35, pI_35, rc_35, al_36, as_36, ln_36, gI_37, pI_37, rc_37, al_38, as_38, ln_38, gC_0_3, gC_0_4, gC_0_5, gC_0_7, gC_0_10, gC_0_11, gC_0_12, gC_0_13, gC_0_14, gC_0_15, gC_0_16, gC_0_17, gC_1_0, gC_1_2, gC_1_3, gC_5_0, gC_5_2, gC_10_0, gC_10_7, gC_13_5, gC_16_0, gC_16_2, gC_22_0, gC_22_1, gC_22_2, gC_22_3, gC_31_2, gC_33_2, gC_35_2, gC_37_2, bI_rI, bV_rV, bQ_rN, bQ_rR, bz_0, bz_1, bz_Z, hZ0, hZ1, Lay_setI, Lay_setA, h.lay, h.mp', e9, if_false, fAt_unlike_v h hi hk, nI_1, nr1, decide_eq_true_eq]
          split <;> rfl)
        0 m 0 1000000 (by omega) (by omega)
      exact this
  · unfold s_from
    simp only [fm_from, gI_39, pI_39, rc_39, al_40, as_40, ln_40, al_41, as_41, ln_41, al_42, as_42, ln_42, al_43, as_43, ln_43, al_44, as_44, ln_44, al_45, as_45, ln_45, al_46, as_46, ln_46, al_47, as_47, ln_47, al_48, as_48, ln_48, al_49, as_49, ln_49, al_50, as_50, ln_50, al_51, as_51, ln_51, al_52, as_52, ln_52, al_53, as_53, ln_53, al_54, as_54, ln_54, al_55, as_55, ln_55, al_56, as_56, ln_56, al_57, as_57, ln_57, al_58, as_58, ln_58, al_59, as_59, ln_59, al_60, as_60, ln_60, al_61, as_61, ln_61, al_62, as_62, ln_62, al_63, as_63, ln_63, al_64, as_64, ln_64, al_65, as_65, ln_65, al_66, as_66, ln_66, al_67, as_67, ln_67, gC_39_4, gC_39_5, gC_39_6, gC_39_7, gC_39_8, gC_39_10, gC_39_11, gC_39_12, gC_39_13, gC_39_15, gC_39_16, gC_39_18, gC_39_19, gC_39_27, gC_39_28, gC_39_29, gC_39_30, gC_39_31, gC_39_36, gC_39_37, gC_39_41, gC_39_42, gC_39_43, gC_39_44, gC_39_46, gC_39_47, gC_39_48, gC_39_49, bI_rI, bV_rV, bQ_rN, bQ_rR, bz_0, bz_1, bz_Z, hZ0, hZ1, Lay_setI, Lay_setA, hu.lay, fm_isMap_v hu]
    cases c1 : inr a m
    · simp only [if_true]; rfl
    · obtain ⟨i, hi, rfl⟩ := inr_t c1 (by omega)
      have i8 : i < 8 := by omega
      simp only [if_false, if_true, Bool.true_eq_false, cN_i (show i < 2 ^ 31 by omega)]
      have := for_fo (fun f k b => fm_from_l15 f u (nI i) b (nI k)) m (fun k b => if nr1 (pm t) i k = true then b ||| ((1 : Int32) <<< (nI k &&& 31)) else b) (fun b => rI b u)
        (fun f b => by
          have e9 : nI m ≤ nI m := Int32.le_refl _
          show fm_from_15 _ u (nI i) b (nI m) = _
          simp only [fm_from_15, gI_39, pI_39, rc_39, al_40, as_40, ln_40, al_41, as_41, ln_41, al_42, as_42, ln_42, al_43, as_43, ln_43, al_44, as_44, ln_44, al_45, as_45, ln_45, al_46, as_46, ln_46, al_47, as_47, ln_47, al_48, as_48, ln_48, al_49, as_49, ln_49, al_50, as_50, ln_50, al_51, as_51, ln_51, al_52, as_52, ln_52, al_53, as_53, ln_53, al_54, as_54, ln_54, al_55, as_55, ln_55, al_56, as_56, ln_56, al_57, as_57, ln_57, al_58, as_58, ln_58, al_59, as_59, ln_59, al_60, as_60, ln_60, al_61, as_61, ln_61, al_62, as_62, ln_62, al_63, as_63, ln_63, al_64, as_64, ln_64, al_65, as_65, ln_65, al_66, as_66, ln_66, al_67, as_67, ln_67, gC_39_4, gC_39_5, gC_39_6, gC_39_7, gC_39_8, gC_39_10, gC_39_11, gC_39_12, gC_39_13, gC_39_15, gC_39_16, gC_39_18, gC_39_19, gC_39_27, gC_39_28, gC_39_29, gC_39_30, gC_39_31, gC_39_36, gC_39_37, gC_39_41, gC_39_42, gC_39_43, gC_39_44, gC_39_46, gC_39_47, gC_39_48, gC_39_49, bI_rI, bV_rV, bQ_rN, bQ_rR, bz_0, bz_1, bz_Z, hZ0, hZ1, Lay_setI, Lay_setA, hu.lay, hu.mp, e9, if_true])
        (fun f k b hk => by
          have e9 : ¬ nI m ≤ nI k := nI_ge hk (by omega)
          have k8 : k < 8 := by omega
          have ek : (nI k = nI i) = (k = i) := propext (nI_eq (by omega) (by omega))
          show fm_from_15 _ u (nI i) b (nI k) = fm_from_l15 f u (nI i) (if nr1 (pm t) i k = true then b ||| ((1 : Int32) <<< (nI k &&& 31)) else b) (nI (k + 1))
          simp only [fm_from_15, gI_39, pI_39, rc_39, al_40, as_40, ln_40, al_41, as_41, ln_41, al_42, as_42, ln_42, al_43, as_43, ln_43, al_44, as_44, ln_44, al_45, as_45, ln_45, al_46, as_46, ln_46, al_47, as_47, ln_47, al_48, as_48, ln_48, al_49, as_49, ln_49, al_50, as_50, ln_50, al_51, as_51, ln_51, al_52, as_52, ln_52, al_53, as_53, ln_53, al_54, as_54, ln_54, al_55, as_55, ln_55, al_56, as_56, ln_56, al_57, as_57, ln_57, al_58, as_58, ln_58, al_59, as_59, ln_59, al_60, as_60, ln_60, al_61, as_61, ln_61, al_62, as_62, ln_62, al_63, as_63, ln_63, al_64, as_64, ln_64, al_65, as_65, ln_65, al_66, as_66, ln_66, al_67, as_67, ln_67, gC_39_4, gC_39_5, gC_39_6, gC_39_7, gC_39_8, gC_39_10, gC_39_11, gC_39_12, gC_39_13, gC_39_15, gC_39_16, gC_39_18, gC_39_19, gC_39_27, gC_39_28, gC_39_29, gC_39_30, gC_39_31, gC_39_36, gC_39_37, gC_39_41, gC_39_42, gC_39_43, gC_39_44, gC_39_46, gC_39_47, gC_39_48, gC_39_49, bI_rI, bV_rV, bQ_rN, bQ_rR, bz_0, bz_1, bz_Z, hZ0, hZ1, Lay_setI, Lay_setA, hu.lay, hu.mp, e9, if_false, i8, k8, rp_3, rp_8, rp_11, rp_14, rp_32, rp_34, rp_36, rp_38, rp_40, rp_41, rp_42, rp_43, rp_44, rp_45, rp_46, rp_47, rp_48, rp_49, rp_50, rp_51, rp_52, rp_53, rp_54, rp_55, rp_56, rp_57, rp_58, fm_ones_v, nI_1, ek, nr1, decide_eq_true_eq, e, Int32.or_zero]
          by_cases c : k = i
          · subst c
            have : ¬ onc (pm t 41 k ^^^ pm t 41 k) = 1 := by rw [Int32.xor_self]; decide +kernel
            rw [if_pos rfl, if_neg this]
          · rw [if_neg c, show pm t 41 k ^^^ pm t 41 i = pm t 41 i ^^^ pm t 41 k from Int32.xor_comm _ _]
            split <;> rfl)
        0 m 0 1000000 (by omega) (by omega)
      exact this
/-! join -/
def prt (G : GG) (i : Nat) : Bool := decide (G 40 i = 3)
def isO (k b : Int32) : Bool := decide (b = 0) || (decide (b = k) || (decide (b = 2) && decide (k = 3)))
theorem fCh_isOne_v {i q : Nat} (hc : ChA (pm t) (mT t) (mN t) i q) (b : Int32) : fCh_isOne t q b = rI (bz (isO (pm t 40 i) b)) t := by
  simp only [fCh_isOne, hc.i0, isO]
  by_cases c1 : b = 0
  · simp [c1, bz]
  · by_cases c2 : b = pm t 40 i
    · simp [c1, c2, bz]
    · by_cases c3 : b = 2
      · by_cases c4 : pm t 40 i = 3
        · simp [c1, c2, c3, c4, bz]
        · simp [c1, c2, c3, c4, bz, rI_ite]
      · simp [c1, c2, c3, bz]
theorem fAt_everyPart_v (h : Inv n m s g x p t) : fAt_everyPart t = rI (orf (prt (pm t)) m) t := by
  have hr := h.rng
  have := for_fo (fun f k b => fAt_everyPart_l4 f t b (nI k)) m (fun k b => if prt (pm t) k = true then b ||| ((1 : Int32) <<< (nI k &&& 31)) else b) (fun b => rI b t)
    (fun f b => by
      have e9 : nI m ≤ nI m := Int32.le_refl _
      show fAt_everyPart_4 _ t b (nI m) = _
      simp only [fAt_everyPart_4, gI_0, pI_0, rc_0, gI_1, pI_1, rc_1, ln_2, ql_2, al_3, as_3, ln_3, al_4, as_4, ln_4, gI_5, pI_5, rc_5, ln_6, ql_6, al_7, as_7, ln_7, al_8, as_8, ln_8, ln_9, ql_9, gI_10, pI_10, rc_10, al_11, as_11, ln_11, al_12, as_12, ln_12, gI_13, pI_13, rc_13, al_14, as_14, ln_14, ln_15, ql_15, gI_16, pI_16, rc_16, al_17, as_17, ln_17, al_18, as_18, ln_18, al_19, as_19, ln_19, al_20, as_20, ln_20, bl_21, bs_21, ln_21, gI_22, pI_22, rc_22, al_23, as_23, ln_23, al_24, as_24, ln_24, al_25, as_25, ln_25, gI_31, pI_31, rc_31, al_32, as_32, ln_32, gI_33, pI_33, rc_33, al_34, as_34, ln_34, gI_35, pI_35, rc_35, al_36, as_36, ln_36, gI_37, pI_37, rc_37, al_38, as_38, ln_38, gC_0_3, gC_0_4, gC_0_5, gC_0_7, gC_0_10, gC_0_11, gC_0_12, gC_0_13, gC_0_14, gC_0_15, gC_0_16, gC_0_17, gC_1_0, gC_1_2, gC_1_3, gC_5_0, gC_5_2, gC_10_0, gC_10_7, gC_13_5, gC_16_0, gC_16_2, gC_22_0, gC_22_1, gC_22_2, gC_22_3, gC_31_2, gC_33_2, gC_35_2, gC_37_2, bI_rI, bV_rV, bQ_rN, bQ_rR, bz_0, bz_1, bz_Z, hZ0, hZ1, Lay_setI, Lay_setA, h.lay, h.mp', e9, if_true])
    (fun f k b hk => by
      have e9 : ¬ nI m ≤ nI k := nI_ge hk (by omega)
      obtain ⟨q, e1, _, hc⟩ := chartAt_in h hk
      show fAt_everyPart_4 _ t b (nI k) = fAt_everyPart_l4 f t (if prt (pm t) k = true then b ||| ((1 : Int32) <<< (nI k &&& 31)) else b) (nI (k + 1))
      have eo : isO (pm t 40 k) 3 = prt (pm t) k := by
        unfold isO prt
        rw [decide_eq_false (show ¬ (3 : Int32) = 0 by decide), decide_eq_false (show ¬ (3 : Int32) = 2 by decide), Bool.false_or, Bool.false_and, Bool.or_false, decide_eq_decide]
        exact ⟨fun e => e.symm, fun e => e.symm⟩
      simp only [fAt_everyPart_4, gI_0, pI_0, rc_0, gI_1, pI_1, rc_1, ln_2, ql_2, al_3, as_3, ln_3, al_4, as_4, ln_4, gI_5, pI_5, rc_5, ln_6, ql_6, al_7, as_7, ln_7, al_8, as_8, ln_8, ln_9, ql_9, gI_10, pI_10, rc_10, al_11, as_11, ln_11, al_12, as_12, ln_12, gI_13, pI_13, rc_13, al_14, as_14, ln_14, ln_15, ql_15, gI_16, pI_16, rc_16, al_17, as_17, ln_17, al_18, as_18, ln_18, al_19, as_19, ln_19, al_20, as_20, ln_20, bl_21, bs_21, ln_21, gI_22, pI_22, rc_22, al_23, as_23, ln_23, al_24, as_24, ln_24, al_25, as_25, ln_25, gI_31, pI_31, rc_31, al_32, as_32, ln_32, gI_33, pI_33, rc_33, al_34, as_34, ln_34, gI_35, pI_35, rc_35, al_36, as_36, ln_36, gI_37, pI_37, rc_37, al_38, as_38, ln_38, gC_0_3, gC_0_4, gC_0_5, gC_0_7, gC_0_10, gC_0_11, gC_0_12, gC_0_13, gC_0_14, gC_0_15, gC_0_16, gC_0_17, gC_1_0, gC_1_2, gC_1_3, gC_5_0, gC_5_2, gC_10_0, gC_10_7, gC_13_5, gC_16_0, gC_16_2, gC_22_0, gC_22_1, gC_22_2, gC_22_3, gC_31_2, gC_33_2, gC_35_2, gC_37_2, bI_rI, bV_rV, bQ_rN, bQ_rR, bz_0, bz_1, bz_Z, hZ0, hZ1, Lay_setI, Lay_setA, h.lay, h.mp', e9, if_false, e1, hc.rc, fCh_isOne_v hc, nI_1, eo]
      cases prt (pm t) k <;> rfl)
    0 m 0 1000000 (by omega) (by omega)
  exact this
theorem ok_join (h : Inv n m s g x p t) : Okk t (fun t => fx_join t) (fun t => fm_join t) := by
  have hr := h.rng
  refine okq h (v := nI (WL n m (pm t) (orf (prt (pm t)) m)).length) ?_ (fun u hu e => ?_)
  · obtain ⟨w, ew, fw, gw⟩ := fx_findWorlds_v h (orf (prt (pm t)) m)
    simp only [fx_join, gI_0, pI_0, rc_0, gI_1, pI_1, rc_1, ln_2, ql_2, al_3, as_3, ln_3, al_4, as_4, ln_4, gI_5, pI_5, rc_5, ln_6, ql_6, al_7, as_7, ln_7, al_8, as_8, ln_8, ln_9, ql_9, gI_10, pI_10, rc_10, al_11, as_11, ln_11, al_12, as_12, ln_12, gI_13, pI_13, rc_13, al_14, as_14, ln_14, ln_15, ql_15, gI_16, pI_16, rc_16, al_17, as_17, ln_17, al_18, as_18, ln_18, al_19, as_19, ln_19, al_20, as_20, ln_20, bl_21, bs_21, ln_21, gI_22, pI_22, rc_22, al_23, as_23, ln_23, al_24, as_24, ln_24, al_25, as_25, ln_25, gI_31, pI_31, rc_31, al_32, as_32, ln_32, gI_33, pI_33, rc_33, al_34, as_34, ln_34, gI_35, pI_35, rc_35, al_36, as_36, ln_36, gI_37, pI_37, rc_37, al_38, as_38, ln_38, gC_0_3, gC_0_4, gC_0_5, gC_0_7, gC_0_10, gC_0_11, gC_0_12, gC_0_13, gC_0_14, gC_0_15, gC_0_16, gC_0_17, gC_1_0, gC_1_2, gC_1_3, gC_5_0, gC_5_2, gC_10_0, gC_10_7, gC_13_5, gC_16_0, gC_16_2, gC_22_0, gC_22_1, gC_22_2, gC_22_3, gC_31_2, gC_33_2, gC_35_2, gC_37_2, bI_rI, bV_rV, bQ_rN, bQ_rR, bz_0, bz_1, bz_Z, hZ0, hZ1, Lay_setI, Lay_setA, h.lay, fAt_everyPart_v h, ew]
    exact ⟨w, rfl, fw.1⟩
  · obtain ⟨w, ew, fw, gw⟩ := agrees_in hu
    have hw := hu.fr fw.1
    have gw' : Agd (pm w) n m w := by rw [fw.1.2]; exact gw
    simp only [fm_join, gI_39, pI_39, rc_39, al_40, as_40, ln_40, al_41, as_41, ln_41, al_42, as_42, ln_42, al_43, as_43, ln_43, al_44, as_44, ln_44, al_45, as_45, ln_45, al_46, as_46, ln_46, al_47, as_47, ln_47, al_48, as_48, ln_48, al_49, as_49, ln_49, al_50, as_50, ln_50, al_51, as_51, ln_51, al_52, as_52, ln_52, al_53, as_53, ln_53, al_54, as_54, ln_54, al_55, as_55, ln_55, al_56, as_56, ln_56, al_57, as_57, ln_57, al_58, as_58, ln_58, al_59, as_59, ln_59, al_60, as_60, ln_60, al_61, as_61, ln_61, al_62, as_62, ln_62, al_63, as_63, ln_63, al_64, as_64, ln_64, al_65, as_65, ln_65, al_66, as_66, ln_66, al_67, as_67, ln_67, gC_39_4, gC_39_5, gC_39_6, gC_39_7, gC_39_8, gC_39_10, gC_39_11, gC_39_12, gC_39_13, gC_39_15, gC_39_16, gC_39_18, gC_39_19, gC_39_27, gC_39_28, gC_39_29, gC_39_30, gC_39_31, gC_39_36, gC_39_37, gC_39_41, gC_39_42, gC_39_43, gC_39_44, gC_39_46, gC_39_47, gC_39_48, gC_39_49, bI_rI, bV_rV, bQ_rN, bQ_rR, bz_0, bz_1, bz_Z, hZ0, hZ1, Lay_setI, Lay_setA, hu.lay, ew]
    have := for_fo (fun f k b => fm_join_l8 (fun t u1 => fm_join_42 t u1) f w b (nI k)) m (fun k b => if prt (pm t) k = true then b ||| ((1 : Int32) <<< (nI k &&& 31)) else b) (fun b => rI (nI (WL n m (pm t) b).length) w)
      (fun f b => by
        have e9 : nI m ≤ nI m := Int32.le_refl _
        show fm_join_8 _ _ w b (nI m) = _
        simp only [fm_join_8, gI_39, pI_39, rc_39, al_40, as_40, ln_40, al_41, as_41, ln_41, al_42, as_42, ln_42, al_43, as_43, ln_43, al_44, as_44, ln_44, al_45, as_45, ln_45, al_46, as_46, ln_46, al_47, as_47, ln_47, al_48, as_48, ln_48, al_49, as_49, ln_49, al_50, as_50, ln_50, al_51, as_51, ln_51, al_52, as_52, ln_52, al_53, as_53, ln_53, al_54, as_54, ln_54, al_55, as_55, ln_55, al_56, as_56, ln_56, al_57, as_57, ln_57, al_58, as_58, ln_58, al_59, as_59, ln_59, al_60, as_60, ln_60, al_61, as_61, ln_61, al_62, as_62, ln_62, al_63, as_63, ln_63, al_64, as_64, ln_64, al_65, as_65, ln_65, al_66, as_66, ln_66, al_67, as_67, ln_67, gC_39_4, gC_39_5, gC_39_6, gC_39_7, gC_39_8, gC_39_10, gC_39_11, gC_39_12, gC_39_13, gC_39_15, gC_39_16, gC_39_18, gC_39_19, gC_39_27, gC_39_28, gC_39_29, gC_39_30, gC_39_31, gC_39_36, gC_39_37, gC_39_41, gC_39_42, gC_39_43, gC_39_44, gC_39_46, gC_39_47, gC_39_48, gC_39_49, bI_rI, bV_rV, bQ_rN, bQ_rR, bz_0, bz_1, bz_Z, hZ0, hZ1, Lay_setI, Lay_setA, hw.lay, hw.mp, e9, if_true, fm_join_42, fm_countBy_v hw gw', fw.1.2, e, WL, wls_len])
      (fun f k b hk => by
        have e9 : ¬ nI m ≤ nI k := nI_ge hk (by omega)
        have k8 : k < 8 := by omega
        show fm_join_8 _ _ w b (nI k) = fm_join_l8 _ f w (if prt (pm t) k = true then b ||| ((1 : Int32) <<< (nI k &&& 31)) else b) (nI (k + 1))
        simp only [fm_join_8, gI_39, pI_39, rc_39, al_40, as_40, ln_40, al_41, as_41, ln_41, al_42, as_42, ln_42, al_43, as_43, ln_43, al_44, as_44, ln_44, al_45, as_45, ln_45, al_46, as_46, ln_46, al_47, as_47, ln_47, al_48, as_48, ln_48, al_49, as_49, ln_49, al_50, as_50, ln_50, al_51, as_51, ln_51, al_52, as_52, ln_52, al_53, as_53, ln_53, al_54, as_54, ln_54, al_55, as_55, ln_55, al_56, as_56, ln_56, al_57, as_57, ln_57, al_58, as_58, ln_58, al_59, as_59, ln_59, al_60, as_60, ln_60, al_61, as_61, ln_61, al_62, as_62, ln_62, al_63, as_63, ln_63, al_64, as_64, ln_64, al_65, as_65, ln_65, al_66, as_66, ln_66, al_67, as_67, ln_67, gC_39_4, gC_39_5, gC_39_6, gC_39_7, gC_39_8, gC_39_10, gC_39_11, gC_39_12, gC_39_13, gC_39_15, gC_39_16, gC_39_18, gC_39_19, gC_39_27, gC_39_28, gC_39_29, gC_39_30, gC_39_31, gC_39_36, gC_39_37, gC_39_41, gC_39_42, gC_39_43, gC_39_44, gC_39_46, gC_39_47, gC_39_48, gC_39_49, bI_rI, bV_rV, bQ_rN, bQ_rR, bz_0, bz_1, bz_Z, hZ0, hZ1, Lay_setI, Lay_setA, hw.lay, hw.mp, e9, if_false, k8, rp_3, rp_8, rp_11, rp_14, rp_32, rp_34, rp_36, rp_38, rp_40, rp_41, rp_42, rp_43, rp_44, rp_45, rp_46, rp_47, rp_48, rp_49, rp_50, rp_51, rp_52, rp_53, rp_54, rp_55, rp_56, rp_57, rp_58, nI_1, prt, decide_eq_true_eq, fw.1.2, e, Int32.or_zero]
        split <;> rfl)
      0 m 0 1000000 (by omega) (by omega)
    exact ⟨w, this, fw.1⟩
/-! the text's value, in the class -/
theorem C2.fr {q : Nat} (hq : (mT t q).1 = 8) (h : C2 q (q + 1) t u) : Fr t u := by
  refine ⟨h.1, funext fun k => funext fun j => ?_⟩
  unfold pm
  rw [h.T]
  by_cases c : scr (mT t) k j = true
  · rw [if_pos c, if_pos c]
  · rw [if_neg c, if_neg c]
    refine h.2 k j (fun e => c ?_) (fun e => c ?_)
    · unfold scr; rw [e.1, e.2, hq]; simp
    · unfold scr; rw [e, Nat.add_sub_cancel, hq]; simp
theorem tx_val {i q e : Nat} (h : TxA (pm t) (mR t) (mT t) (mN t) i q) (he : e < 3) (w far wo : Int32) :
    ∃ u, fTx_valueOf t q (q - 3 + e) w far wo = rI (evn (nms w far wo) (cds (pm t) i e)) u ∧ Fr t u := by
  have h1 := h.1.1
  obtain ⟨hR, b, d, hbd, hd, eb, ed, eT, hcs, hdp⟩ := h.2.2.2.2.2.1 e he
  obtain ⟨hlen, hget⟩ := cds_get eb ed (by omega) (by omega)
  have tg : (mT t (q - 3 + e - 1)).1 ≠ 8 := by
    obtain ⟨g1, g2, g3⟩ := tx_tag h
    have : e = 0 ∨ e = 1 ∨ e = 2 := by omega
    rcases this with rfl | rfl | rfl
    · rw [show q - 3 + 0 - 1 = q - 4 by omega]; exact h.2.2.1
    · rw [show q - 3 + 1 - 1 = q - 1 - 1 - 1 by omega, g3]; decide
    · rw [show q - 3 + 2 - 1 = q - 1 - 1 by omega, g2]; decide
  obtain ⟨u, eu, fu⟩ := fTx_valueOf_v (o := q) (q := q + 1) (v1 := q - 3 + e) h.2.1 h.2.2.2.2.1 h.2.2.2.1 (by omega) (by omega) (by omega) (cds (pm t) i e) (by rw [hlen]; exact eT) (by omega) (by
    intro k hk
    rw [hlen] at hk
    obtain ⟨c, hv, hc1, hc2⟩ := hcs k hk
    have : c < 2 ^ 31 := by rcases hv with a | a | a <;> omega
    rw [hget k c hk hc1 this]
    refine ⟨hv, ?_⟩
    rw [pm_hp (scrF_29 (by omega)) (fun e8 => by rw [eT] at e8; exact absurd (show (20 : Nat) = 8 from e8) (by decide)) tg]
    exact hc2) hdp w far wo
  exact ⟨u, eu, C2.fr h.2.1 fu⟩
theorem fx_bounded_v (t : SM) (v : Int32) : fx_bounded t v = rI (clp v) t := by
  have z : (0 : Int32).toInt = 0 := rfl
  have z9 : (999 : Int32).toInt = 999 := rfl
  simp only [fx_bounded, fjM_min_v, fjM_max_v, bI_rI, clp]
  congr 1
  by_cases a1 : v < 999
  · rw [if_pos a1]
    by_cases a2 : (0 : Int32) ≤ v
    · rw [if_pos a2]
      have a4 : v ≤ 999 := by rw [Int32.le_iff_toInt_le]; rw [Int32.lt_iff_toInt_lt] at a1; omega
      rw [if_pos a4]
      by_cases a3 : (0 : Int32) < v
      · rw [if_pos a3]
      · rw [if_neg a3]
        rw [Int32.not_lt, Int32.le_iff_toInt_le] at a3
        rw [Int32.le_iff_toInt_le] at a2
        exact Int32.toInt_inj.mp (by omega)
    · rw [if_neg a2]
      have a3 : ¬ (0 : Int32) < v := by
        rw [Int32.not_lt, Int32.le_iff_toInt_le]
        rw [Int32.not_le, Int32.lt_iff_toInt_lt] at a2
        omega
      rw [if_neg a3]
  · rw [if_neg a1, if_pos (show (0 : Int32) < 999 by decide)]
    rw [Int32.not_lt, Int32.le_iff_toInt_le] at a1
    have a2 : (0 : Int32) ≤ v := by rw [Int32.le_iff_toInt_le]; omega
    rw [if_pos a2]
    by_cases a4 : v ≤ 999
    · rw [if_pos a4]
      rw [Int32.le_iff_toInt_le] at a4
      exact Int32.toInt_inj.mp (by omega)
    · rw [if_neg a4]
def lwN (G : GG) : Nat := cN (G 39 21)
/-- all maps but one -/
abbrev oth (m : Nat) (a : Int32) : Int32 := evB m &&& (((1 : Int32) <<< (a &&& 31)) ^^^ (-1))
def s_worth (n m : Nat) (G : GG) (a : Int32) : Int32 := if inr a m = true then clp (evn (nms (G 41 (cN a)) 0 (nI (WL n m G (oth m a)).length - nI (WL n m G (evB m)).length)) (cds G (lwN G) 2)) else -5
theorem ok_worth (h : Inv n m s g x p t) (a : Int32) : Okk t (fun t => fx_worth t a) (fun t => fm_worth t a) := by
  have hr := h.rng
  refine okq h (v := s_worth n m (pm t) a) ?_ (fun u hu e => ?_)
  · unfold s_worth
    obtain ⟨q2, l, e2, hl, hl2, hx⟩ := lawText_v h
    cases c1 : inr a m
    · simp only [fx_worth, gI_0, pI_0, rc_0, gI_1, pI_1, rc_1, ln_2, ql_2, al_3, as_3, ln_3, al_4, as_4, ln_4, gI_5, pI_5, rc_5, ln_6, ql_6, al_7, as_7, ln_7, al_8, as_8, ln_8, ln_9, ql_9, gI_10, pI_10, rc_10, al_11, as_11, ln_11, al_12, as_12, ln_12, gI_13, pI_13, rc_13, al_14, as_14, ln_14, ln_15, ql_15, gI_16, pI_16, rc_16, al_17, as_17, ln_17, al_18, as_18, ln_18, al_19, as_19, ln_19, al_20, as_20, ln_20, bl_21, bs_21, ln_21, gI_22, pI_22, rc_22, al_23, as_23, ln_23, al_24, as_24, ln_24, al_25, as_25, ln_25, gI_31, pI_31, rc_31, al_32, as_32, ln_32, gI_33, pI_33, rc_33, al_34, as_34, ln_34, gI_35, pI_35, rc_35, al_36, as_36, ln_36, gI_37, pI_37, rc_37, al_38, as_38, ln_38, gC_0_3, gC_0_4, gC_0_5, gC_0_7, gC_0_10, gC_0_11, gC_0_12, gC_0_13, gC_0_14, gC_0_15, gC_0_16, gC_0_17, gC_1_0, gC_1_2, gC_1_3, gC_5_0, gC_5_2, gC_10_0, gC_10_7, gC_13_5, gC_16_0, gC_16_2, gC_22_0, gC_22_1, gC_22_2, gC_22_3, gC_31_2, gC_33_2, gC_35_2, gC_37_2, bI_rI, bV_rV, bQ_rN, bQ_rR, bz_0, bz_1, bz_Z, hZ0, hZ1, Lay_setI, Lay_setA, h.lay, chartAt_no h c1, e2]
      exact QQ.pure rfl
    · obtain ⟨i, hi, rfl⟩ := inr_t c1 (by omega)
      obtain ⟨q, e1, _, hc⟩ := chartAt_in h hi
      obtain ⟨u, eu, fu, _⟩ := fx_findWorlds_v h (evB m)
      have hu := h.fr fu.1
      obtain ⟨w, ew, fw, _⟩ := fx_findWorlds_v hu (oth m (nI i))
      have hw := hu.fr fw.1
      have frw := fu.1.trans fw.1
      have hc' : ChA (pm w) (mT w) (mN w) i q := by rw [frw.2, frw.T, frw.N]; exact hc
      have hx' : TxA (pm w) (mR w) (mT w) (mN w) l q2 := by rw [frw.2, frw.T, frw.N, frw.R]; exact hx
      obtain ⟨v, ev, fv⟩ := tx_val hx' (e := 2) (by decide) (pm w 41 i) 0 (nI (WL n m (pm u) (oth m (nI i))).length - nI (WL n m (pm t) (evB m)).length)
      have k1 : ∀ c : OR, hRecv w 8 q2 c = c := fun c => if_pos hx'.2.1
      have k2 : ∀ (cn : OR) (c : Nat → OR), hGetR w 8 q2 2 cn c = c (q2 - 3 + 2) := fun cn c => by
        unfold hGetR; rw [if_pos hx'.2.1, (hx'.2.2.2.2.2.1 2 (by decide)).1]
      simp only [fx_worth, gI_0, pI_0, rc_0, gI_1, pI_1, rc_1, ln_2, ql_2, al_3, as_3, ln_3, al_4, as_4, ln_4, gI_5, pI_5, rc_5, ln_6, ql_6, al_7, as_7, ln_7, al_8, as_8, ln_8, ln_9, ql_9, gI_10, pI_10, rc_10, al_11, as_11, ln_11, al_12, as_12, ln_12, gI_13, pI_13, rc_13, al_14, as_14, ln_14, ln_15, ql_15, gI_16, pI_16, rc_16, al_17, as_17, ln_17, al_18, as_18, ln_18, al_19, as_19, ln_19, al_20, as_20, ln_20, bl_21, bs_21, ln_21, gI_22, pI_22, rc_22, al_23, as_23, ln_23, al_24, as_24, ln_24, al_25, as_25, ln_25, gI_31, pI_31, rc_31, al_32, as_32, ln_32, gI_33, pI_33, rc_33, al_34, as_34, ln_34, gI_35, pI_35, rc_35, al_36, as_36, ln_36, gI_37, pI_37, rc_37, al_38, as_38, ln_38, gC_0_3, gC_0_4, gC_0_5, gC_0_7, gC_0_10, gC_0_11, gC_0_12, gC_0_13, gC_0_14, gC_0_15, gC_0_16, gC_0_17, gC_1_0, gC_1_2, gC_1_3, gC_5_0, gC_5_2, gC_10_0, gC_10_7, gC_13_5, gC_16_0, gC_16_2, gC_22_0, gC_22_1, gC_22_2, gC_22_3, gC_31_2, gC_33_2, gC_35_2, gC_37_2, bI_rI, bV_rV, bQ_rN, bQ_rR, bz_0, bz_1, bz_Z, hZ0, hZ1, Lay_setI, Lay_setA, h.lay, e1, e2, fAt_everyMap_v h, eu, hu.lay, fAt_everyMap_v hu, ew, hw.lay, hc'.i1, k1, fTx_priceOf, k2, ev, fx_bounded_v, if_true, cN_i (show i < 2 ^ 31 by omega)]
      refine ⟨v, ?_, frw.trans fv⟩
      rw [frw.2, fu.1.2]
      unfold lwN
      rw [hl2, cN_i (by omega)]
  · rw [← e]
    unfold s_worth
    simp only [fm_worth, gI_39, pI_39, rc_39, al_40, as_40, ln_40, al_41, as_41, ln_41, al_42, as_42, ln_42, al_43, as_43, ln_43, al_44, as_44, ln_44, al_45, as_45, ln_45, al_46, as_46, ln_46, al_47, as_47, ln_47, al_48, as_48, ln_48, al_49, as_49, ln_49, al_50, as_50, ln_50, al_51, as_51, ln_51, al_52, as_52, ln_52, al_53, as_53, ln_53, al_54, as_54, ln_54, al_55, as_55, ln_55, al_56, as_56, ln_56, al_57, as_57, ln_57, al_58, as_58, ln_58, al_59, as_59, ln_59, al_60, as_60, ln_60, al_61, as_61, ln_61, al_62, as_62, ln_62, al_63, as_63, ln_63, al_64, as_64, ln_64, al_65, as_65, ln_65, al_66, as_66, ln_66, al_67, as_67, ln_67, gC_39_4, gC_39_5, gC_39_6, gC_39_7, gC_39_8, gC_39_10, gC_39_11, gC_39_12, gC_39_13, gC_39_15, gC_39_16, gC_39_18, gC_39_19, gC_39_27, gC_39_28, gC_39_29, gC_39_30, gC_39_31, gC_39_36, gC_39_37, gC_39_41, gC_39_42, gC_39_43, gC_39_44, gC_39_46, gC_39_47, gC_39_48, gC_39_49, bI_rI, bV_rV, bQ_rN, bQ_rR, bz_0, bz_1, bz_Z, hZ0, hZ1, Lay_setI, Lay_setA, hu.lay, fm_isMap_v hu]
    cases c1 : inr a m
    · simp only [if_true]
      exact QQ.pure rfl
    · obtain ⟨i, hi, rfl⟩ := inr_t c1 (by omega)
      obtain ⟨w, ew, fw, gw⟩ := agrees_in hu
      have hw := hu.fr fw.1
      have gw' : Agd (pm w) n m w := by rw [fw.1.2]; exact gw
      have i8 : i < 8 := by omega
      obtain ⟨l, hl, hl2⟩ := hw.lwE
      obtain ⟨_, ⟨b, hb, eb⟩, _⟩ := hw.mps i hi
      obtain ⟨v, ev, fv⟩ := fm_asksOf_v hw (FS.refl _ w) hl (e := 2) (by decide) hl2 hb 0 (nI (WL n m (pm u) (oth m (nI i))).length - nI (WL n m (pm u) (evB m)).length)
      rw [if_neg (by decide)] at ev
      simp only [if_false, if_true, Bool.true_eq_false, ew, gI_39, pI_39, rc_39, al_40, as_40, ln_40, al_41, as_41, ln_41, al_42, as_42, ln_42, al_43, as_43, ln_43, al_44, as_44, ln_44, al_45, as_45, ln_45, al_46, as_46, ln_46, al_47, as_47, ln_47, al_48, as_48, ln_48, al_49, as_49, ln_49, al_50, as_50, ln_50, al_51, as_51, ln_51, al_52, as_52, ln_52, al_53, as_53, ln_53, al_54, as_54, ln_54, al_55, as_55, ln_55, al_56, as_56, ln_56, al_57, as_57, ln_57, al_58, as_58, ln_58, al_59, as_59, ln_59, al_60, as_60, ln_60, al_61, as_61, ln_61, al_62, as_62, ln_62, al_63, as_63, ln_63, al_64, as_64, ln_64, al_65, as_65, ln_65, al_66, as_66, ln_66, al_67, as_67, ln_67, gC_39_4, gC_39_5, gC_39_6, gC_39_7, gC_39_8, gC_39_10, gC_39_11, gC_39_12, gC_39_13, gC_39_15, gC_39_16, gC_39_18, gC_39_19, gC_39_27, gC_39_28, gC_39_29, gC_39_30, gC_39_31, gC_39_36, gC_39_37, gC_39_41, gC_39_42, gC_39_43, gC_39_44, gC_39_46, gC_39_47, gC_39_48, gC_39_49, bI_rI, bV_rV, bQ_rN, bQ_rR, bz_0, bz_1, bz_Z, hZ0, hZ1, Lay_setI, Lay_setA, hw.lay, fm_allMaps_v hw, fm_countBy_v hw gw', i8, rp_3, rp_8, rp_11, rp_14, rp_32, rp_34, rp_36, rp_38, rp_40, rp_41, rp_42, rp_43, rp_44, rp_45, rp_46, rp_47, rp_48, rp_49, rp_50, rp_51, rp_52, rp_53, rp_54, rp_55, rp_56, rp_57, rp_58, cN_i (show i < 2 ^ 31 by omega)]
      refine ⟨v, ?_, fw.1.trans fv.1⟩
      rw [eb]
      have ex : ∀ set, nI (cnt (fun j => wp (pm w) m set (nI j)) (2 ^ n)) = nI (WL n m (pm u) set).length := by intro set; unfold WL; rw [wls_len, fw.1.2]
      rw [ex, ex, show fm_asksOf w 2 (nI b) 0 _ = _ from ev, bI_rI, ← eb, fw.1.2]
      unfold lwN
      rw [← fw.1.2, hl2, cN_i (by omega)]
end
