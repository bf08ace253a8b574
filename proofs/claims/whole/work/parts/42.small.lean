section
/-! numbers within -/
def inr (v : Int32) (N : Nat) : Bool := decide (0 ≤ v) && decide (v < nI N)
theorem inr_t {v : Int32} {N : Nat} (h : inr v N = true) (hN : N < 2 ^ 31) : ∃ i, i < N ∧ v = nI i := by
  unfold inr at h
  simp only [Bool.and_eq_true, decide_eq_true_eq] at h
  obtain ⟨i, hi, rfl⟩ := nI_of (Int32.not_lt.mpr h.1)
  exact ⟨i, (nI_ltI hi hN).mp h.2, rfl⟩
theorem inr_i {i N : Nat} (h : i < N) (hN : N < 2 ^ 31) : inr (nI i) N = true := by
  unfold inr
  rw [decide_eq_true (nI_pos' (by omega)), decide_eq_true (nI_lt h hN)]; rfl
theorem inr_in {v : Int32} {N : Nat} (hN : N < 2 ^ 30) : (decide ((0 : Int32) ≤ v) && decide (v ≤ nI N - 1)) = inr v N := by
  have e : (nI N - 1).toInt = (N : Int) - 1 := pk_sub_toInt (b := 1) hN (by decide)
  have e2 : (nI N).toInt = N := nI_toInt (by omega)
  unfold inr
  congr 1
  rw [decide_eq_decide, Int32.le_iff_toInt_le, Int32.lt_iff_toInt_lt, e, e2]
  omega
theorem inr_c {v : Int32} {N : Nat} {t : SM} : (if v < 0 then rI 0 t else if nI N ≤ v then rI 0 t else rI 1 t) = rI (bz (inr v N)) t := by
  unfold inr
  by_cases h1 : v < 0
  · rw [if_pos h1, decide_eq_false (Int32.not_le.mpr h1)]; rfl
  · rw [if_neg h1, decide_eq_true (Int32.not_lt.mp h1)]
    by_cases h2 : nI N ≤ v
    · rw [if_pos h2, decide_eq_false (Int32.not_lt.mpr h2)]; rfl
    · rw [if_neg h2, decide_eq_true (Int32.not_le.mp h2)]; rfl
theorem fm_in_v (t : SM) (v a b : Int32) : fm_in t v a b = rI (bz (decide (a ≤ v) && decide (v ≤ b))) t := by
  unfold fm_in
  by_cases h1 : v < a
  · rw [if_pos h1, decide_eq_false (Int32.not_le.mpr h1)]; rfl
  · rw [if_neg h1, decide_eq_true (Int32.not_lt.mp h1)]
    by_cases h2 : b < v
    · rw [if_pos h2, decide_eq_false (Int32.not_le.mpr h2)]; rfl
    · rw [if_neg h2, decide_eq_true (Int32.not_lt.mp h2)]; rfl
/-! two places -/
def twB (v : Int32) : Bool := decide (0 ≤ v) && (decide (cN v / 10 < 6) && decide (cN v % 10 < 6))
theorem twB_t {v : Int32} (h : twB v = true) : ∃ a b, a < 6 ∧ b < 6 ∧ v = nI (10 * a + b) := by
  unfold twB at h
  simp only [Bool.and_eq_true, decide_eq_true_eq] at h
  obtain ⟨i, hi, rfl⟩ := nI_of (Int32.not_lt.mpr h.1)
  unfold cN at h
  rw [nI_clamp hi] at h
  exact ⟨i / 10, i % 10, h.2.1, h.2.2, by rw [Nat.div_add_mod]⟩
theorem tw_div : ∀ a, a < 6 → ∀ b, b < 6 → nI (10 * a + b) / 10 = nI a := by decide +kernel
theorem tw_rem : ∀ a, a < 6 → ∀ b, b < 6 → nI (10 * a + b) - nI a * 10 = nI b := by decide +kernel
theorem fm_areTwo_v (t : SM) (v : Int32) : fm_areTwo t v = rI (bz (twB v)) t := by
  unfold fm_areTwo
  rw [fm_in_v]
  simp only [bI_rI, bz_0]
  unfold twB
  by_cases h0 : (0 : Int32) ≤ v
  · obtain ⟨i, hi, rfl⟩ := nI_of (Int32.not_lt.mpr h0)
    have e1 : nI i - nI i / 10 * 10 = nI (i % 10) := pk_rem hi (by decide) (by decide)
    have e2 : (nI i ≤ 55) = (i ≤ 55) := propext (nI_leI (b := 55) hi (by decide))
    have e3 : ((5 : Int32) < nI (i % 10)) = (5 < i % 10) := propext (nI_ltI (a := 5) (by decide) (by omega))
    rw [e1]
    simp only [e2, e3, h0, cN, nI_clamp hi, decide_true, Bool.true_and]
    by_cases a1 : i ≤ 55
    · by_cases a2 : 5 < i % 10
      · have : ¬ i % 10 < 6 := by omega
        simp [a1, a2, this, bz]
      · have b1 : i % 10 < 6 := by omega
        have b2 : i / 10 < 6 := by omega
        simp [a1, a2, b1, b2, bz]
    · by_cases b2 : i / 10 < 6
      · have b1 : ¬ i % 10 < 6 := by omega
        simp [a1, b1, bz]
      · simp [a1, b2, bz]
  · simp [h0, bz]
theorem fx_isPlace_v (t : SM) (v : Int32) : fx_isPlace t v = rI (bz (inr v 6)) t := inr_c (N := 6)
theorem fx_isTwo_v (t : SM) (v : Int32) : fx_isTwo t v = rI (bz (twB v)) t := by
  unfold fx_isTwo
  by_cases h0 : (0 : Int32) ≤ v
  · obtain ⟨i, hi, rfl⟩ := nI_of (Int32.not_lt.mpr h0)
    rw [if_neg (nI_pos hi)]
    simp only [fx_startOf, fx_goalOf, bI_rI, fx_isPlace_v, bz_0]
    have e1 : nI i - nI i / 10 * 10 = nI (i % 10) := pk_rem hi (by decide) (by decide)
    have e2 : nI i / 10 = nI (i / 10) := pk_div hi (by decide) (by decide)
    rw [e1, e2]
    have f1 : inr (nI (i / 10)) 6 = decide (i / 10 < 6) := by
      unfold inr
      rw [decide_eq_true (nI_pos' (by omega)), Bool.true_and, decide_eq_decide]
      exact nI_ltI (by omega) (by decide)
    have f2 : inr (nI (i % 10)) 6 = decide (i % 10 < 6) := by
      unfold inr
      rw [decide_eq_true (nI_pos' (by omega)), Bool.true_and, decide_eq_decide]
      exact nI_ltI (by omega) (by decide)
    rw [f1, f2]
    unfold twB
    rw [decide_eq_true h0, cN, nI_clamp hi]
    by_cases b1 : i / 10 < 6
    · by_cases b2 : i % 10 < 6
      · simp [b1, b2, bz]
      · simp [b1, b2, bz]
    · simp [b1, bz]
  · rw [if_pos (Int32.not_le.mp h0)]
    unfold twB
    rw [decide_eq_false h0]; rfl
theorem fx_isZeroOrOne_v (t : SM) (v : Int32) : fx_isZeroOrOne t v = rI (bz (inr v 2)) t := by
  unfold fx_isZeroOrOne
  by_cases h0 : v = 0
  · subst h0; rw [if_pos rfl]; rfl
  · rw [if_neg h0]
    by_cases h1 : v = 1
    · subst h1; rw [if_pos rfl]; rfl
    · rw [if_neg h1]
      have : inr v 2 = false := by
        cases hb : inr v 2 with
        | false => rfl
        | true =>
          obtain ⟨i, hi, rfl⟩ := inr_t hb (by decide)
          have : i = 0 ∨ i = 1 := by omega
          rcases this with rfl | rfl
          · exact absurd rfl h0
          · exact absurd rfl h1
      rw [this]; rfl
/-! counts of bits -/
theorem fo_add {β : Type} (st : Nat → β → β) (b : β) (k : Nat) : fo st b (k + 1) = st k (fo st b k) := rfl
theorem fm_ones_v (t : SM) (v : Int32) : fm_ones t v = rI (onc v) t := by
  unfold fm_ones
  have := for_fo (fun f i a => fm_ones_l4 f t v a (nI i)) 9 (fun i a => a + bz (bt v i)) (fun a => rI a t)
    (fun f b => by
      show fm_ones_4 (fm_ones_l4 f) t v b (nI 9) = _
      unfold fm_ones_4
      rw [if_pos (show (9 : Int32) ≤ nI 9 from Int32.le_refl _)])
    (fun f i b hi => by
      show fm_ones_4 (fm_ones_l4 f) t v b (nI i) = _
      unfold fm_ones_4
      rw [if_neg (show ¬ (9 : Int32) ≤ nI i from nI_ge hi (by decide)), b_bit v (by omega), nI_1])
    0 9 0 1000000 (by decide) (by decide)
  exact this
def dSM : SM := (fun _ _ => 0, fun _ _ => none, fun _ => (0, 0), 0, 0)
def bcE (a : Int32) : Int32 := match fjI_bitCount dSM a with
  | some (some (.int v), _) => v
  | _ => 0
theorem bc_eq (t : SM) (a : Int32) : fjI_bitCount t a = rI (bcE a) t := rfl
theorem bc_all : ∀ w, w < 512 → bcE (nI w) = onc (nI w) := by decide +kernel
theorem bc_on (t : SM) {w : Nat} (h : w < 512) : fjI_bitCount t (nI w) = rI (onc (nI w)) t := by rw [bc_eq, bc_all w h]
theorem fjM_max_v (t : SM) (a b : Int32) : fjM_max t a b = rI (if a < b then b else a) t := id rfl
theorem fjM_min_v (t : SM) (a b : Int32) : fjM_min t a b = rI (if b < a then b else a) t := id rfl
end
section
variable {n m s g x p : Nat} {t u : SM}
theorem pw_lt (h : n ≤ 9) : 2 ^ n ≤ 512 := Nat.pow_le_pow_right (by decide) h
theorem pw_pos : 0 < 2 ^ n := Nat.two_pow_pos n
theorem fm_isTown_v (h : Inv n m s g x p t) (v : Int32) : fm_isTown t v = rI (bz (inr v (2 ^ n))) t := by
  have := h.rng; have hp := pw_lt (n := n) (by omega)
  simp only [fm_isTown, gI_39, pI_39, rc_39, al_40, as_40, ln_40, al_41, as_41, ln_41, al_42, as_42, ln_42, al_43, as_43, ln_43, al_44, as_44, ln_44, al_45, as_45, ln_45, al_46, as_46, ln_46, al_47, as_47, ln_47, al_48, as_48, ln_48, al_49, as_49, ln_49, al_50, as_50, ln_50, al_51, as_51, ln_51, al_52, as_52, ln_52, al_53, as_53, ln_53, al_54, as_54, ln_54, al_55, as_55, ln_55, al_56, as_56, ln_56, al_57, as_57, ln_57, al_58, as_58, ln_58, al_59, as_59, ln_59, al_60, as_60, ln_60, al_61, as_61, ln_61, al_62, as_62, ln_62, al_63, as_63, ln_63, al_64, as_64, ln_64, al_65, as_65, ln_65, al_66, as_66, ln_66, al_67, as_67, ln_67, gC_39_4, gC_39_5, gC_39_6, gC_39_7, gC_39_8, gC_39_10, gC_39_11, gC_39_12, gC_39_13, gC_39_15, gC_39_16, gC_39_18, gC_39_19, gC_39_27, gC_39_28, gC_39_29, gC_39_30, gC_39_31, gC_39_36, gC_39_37, gC_39_41, gC_39_42, gC_39_43, gC_39_44, gC_39_46, gC_39_47, gC_39_48, gC_39_49, bI_rI, bV_rV, bQ_rN, bQ_rR, bz_0, bz_1, bz_Z, hZ0, hZ1, Lay_setI, Lay_setA, h.lay, h.ch, b_pow n (by omega), fm_in_v, inr_in (show 2 ^ n < 2 ^ 30 by omega)]
theorem fm_isMap_v (h : Inv n m s g x p t) (v : Int32) : fm_isMap t v = rI (bz (inr v m)) t := by
  have := h.rng
  simp only [fm_isMap, gI_39, pI_39, rc_39, al_40, as_40, ln_40, al_41, as_41, ln_41, al_42, as_42, ln_42, al_43, as_43, ln_43, al_44, as_44, ln_44, al_45, as_45, ln_45, al_46, as_46, ln_46, al_47, as_47, ln_47, al_48, as_48, ln_48, al_49, as_49, ln_49, al_50, as_50, ln_50, al_51, as_51, ln_51, al_52, as_52, ln_52, al_53, as_53, ln_53, al_54, as_54, ln_54, al_55, as_55, ln_55, al_56, as_56, ln_56, al_57, as_57, ln_57, al_58, as_58, ln_58, al_59, as_59, ln_59, al_60, as_60, ln_60, al_61, as_61, ln_61, al_62, as_62, ln_62, al_63, as_63, ln_63, al_64, as_64, ln_64, al_65, as_65, ln_65, al_66, as_66, ln_66, al_67, as_67, ln_67, gC_39_4, gC_39_5, gC_39_6, gC_39_7, gC_39_8, gC_39_10, gC_39_11, gC_39_12, gC_39_13, gC_39_15, gC_39_16, gC_39_18, gC_39_19, gC_39_27, gC_39_28, gC_39_29, gC_39_30, gC_39_31, gC_39_36, gC_39_37, gC_39_41, gC_39_42, gC_39_43, gC_39_44, gC_39_46, gC_39_47, gC_39_48, gC_39_49, bI_rI, bV_rV, bQ_rN, bQ_rR, bz_0, bz_1, bz_Z, hZ0, hZ1, Lay_setI, Lay_setA, h.lay, h.mp, fm_in_v, inr_in (show m < 2 ^ 30 by omega)]
theorem fm_isChoice_v (h : Inv n m s g x p t) (v : Int32) : fm_isChoice t v = rI (bz (inr v n)) t := by
  have := h.rng
  simp only [fm_isChoice, gI_39, pI_39, rc_39, al_40, as_40, ln_40, al_41, as_41, ln_41, al_42, as_42, ln_42, al_43, as_43, ln_43, al_44, as_44, ln_44, al_45, as_45, ln_45, al_46, as_46, ln_46, al_47, as_47, ln_47, al_48, as_48, ln_48, al_49, as_49, ln_49, al_50, as_50, ln_50, al_51, as_51, ln_51, al_52, as_52, ln_52, al_53, as_53, ln_53, al_54, as_54, ln_54, al_55, as_55, ln_55, al_56, as_56, ln_56, al_57, as_57, ln_57, al_58, as_58, ln_58, al_59, as_59, ln_59, al_60, as_60, ln_60, al_61, as_61, ln_61, al_62, as_62, ln_62, al_63, as_63, ln_63, al_64, as_64, ln_64, al_65, as_65, ln_65, al_66, as_66, ln_66, al_67, as_67, ln_67, gC_39_4, gC_39_5, gC_39_6, gC_39_7, gC_39_8, gC_39_10, gC_39_11, gC_39_12, gC_39_13, gC_39_15, gC_39_16, gC_39_18, gC_39_19, gC_39_27, gC_39_28, gC_39_29, gC_39_30, gC_39_31, gC_39_36, gC_39_37, gC_39_41, gC_39_42, gC_39_43, gC_39_44, gC_39_46, gC_39_47, gC_39_48, gC_39_49, bI_rI, bV_rV, bQ_rN, bQ_rR, bz_0, bz_1, bz_Z, hZ0, hZ1, Lay_setI, Lay_setA, h.lay, h.ch, fm_in_v, inr_in (show n < 2 ^ 30 by omega)]
theorem fx_isTown_v (h : Inv n m s g x p t) (v : Int32) : fx_isTown t v = rI (bz (inr v (2 ^ n))) t := by
  have := h.rng
  simp only [fx_isTown, gI_0, pI_0, rc_0, gI_1, pI_1, rc_1, ln_2, ql_2, al_3, as_3, ln_3, al_4, as_4, ln_4, gI_5, pI_5, rc_5, ln_6, ql_6, al_7, as_7, ln_7, al_8, as_8, ln_8, ln_9, ql_9, gI_10, pI_10, rc_10, al_11, as_11, ln_11, al_12, as_12, ln_12, gI_13, pI_13, rc_13, al_14, as_14, ln_14, ln_15, ql_15, gI_16, pI_16, rc_16, al_17, as_17, ln_17, al_18, as_18, ln_18, al_19, as_19, ln_19, al_20, as_20, ln_20, bl_21, bs_21, ln_21, gI_22, pI_22, rc_22, al_23, as_23, ln_23, al_24, as_24, ln_24, al_25, as_25, ln_25, gI_31, pI_31, rc_31, al_32, as_32, ln_32, gI_33, pI_33, rc_33, al_34, as_34, ln_34, gI_35, pI_35, rc_35, al_36, as_36, ln_36, gI_37, pI_37, rc_37, al_38, as_38, ln_38, gC_0_3, gC_0_4, gC_0_5, gC_0_7, gC_0_10, gC_0_11, gC_0_12, gC_0_13, gC_0_14, gC_0_15, gC_0_16, gC_0_17, gC_1_0, gC_1_2, gC_1_3, gC_5_0, gC_5_2, gC_10_0, gC_10_7, gC_13_5, gC_16_0, gC_16_2, gC_22_0, gC_22_1, gC_22_2, gC_22_3, gC_31_2, gC_33_2, gC_35_2, gC_37_2, bI_rI, bV_rV, bQ_rN, bQ_rR, bz_0, bz_1, bz_Z, hZ0, hZ1, Lay_setI, Lay_setA, h.lay, h.ch', b_pow n (by omega), inr_c]
theorem fx_isChoice_v (h : Inv n m s g x p t) (v : Int32) : fx_isChoice t v = rI (bz (inr v n)) t := by
  simp only [fx_isChoice, gI_0, pI_0, rc_0, gI_1, pI_1, rc_1, ln_2, ql_2, al_3, as_3, ln_3, al_4, as_4, ln_4, gI_5, pI_5, rc_5, ln_6, ql_6, al_7, as_7, ln_7, al_8, as_8, ln_8, ln_9, ql_9, gI_10, pI_10, rc_10, al_11, as_11, ln_11, al_12, as_12, ln_12, gI_13, pI_13, rc_13, al_14, as_14, ln_14, ln_15, ql_15, gI_16, pI_16, rc_16, al_17, as_17, ln_17, al_18, as_18, ln_18, al_19, as_19, ln_19, al_20, as_20, ln_20, bl_21, bs_21, ln_21, gI_22, pI_22, rc_22, al_23, as_23, ln_23, al_24, as_24, ln_24, al_25, as_25, ln_25, gI_31, pI_31, rc_31, al_32, as_32, ln_32, gI_33, pI_33, rc_33, al_34, as_34, ln_34, gI_35, pI_35, rc_35, al_36, as_36, ln_36, gI_37, pI_37, rc_37, al_38, as_38, ln_38, gC_0_3, gC_0_4, gC_0_5, gC_0_7, gC_0_10, gC_0_11, gC_0_12, gC_0_13, gC_0_14, gC_0_15, gC_0_16, gC_0_17, gC_1_0, gC_1_2, gC_1_3, gC_5_0, gC_5_2, gC_10_0, gC_10_7, gC_13_5, gC_16_0, gC_16_2, gC_22_0, gC_22_1, gC_22_2, gC_22_3, gC_31_2, gC_33_2, gC_35_2, gC_37_2, bI_rI, bV_rV, bQ_rN, bQ_rR, bz_0, bz_1, bz_Z, hZ0, hZ1, Lay_setI, Lay_setA, h.lay, h.ch', inr_c]
/-- all maps, all choices, as bits -/
theorem fm_allMaps_v (h : Inv n m s g x p t) : fm_allMaps t = rI (nI (2 ^ m - 1)) t := by
  have := h.rng
  simp only [fm_allMaps, gI_39, pI_39, rc_39, al_40, as_40, ln_40, al_41, as_41, ln_41, al_42, as_42, ln_42, al_43, as_43, ln_43, al_44, as_44, ln_44, al_45, as_45, ln_45, al_46, as_46, ln_46, al_47, as_47, ln_47, al_48, as_48, ln_48, al_49, as_49, ln_49, al_50, as_50, ln_50, al_51, as_51, ln_51, al_52, as_52, ln_52, al_53, as_53, ln_53, al_54, as_54, ln_54, al_55, as_55, ln_55, al_56, as_56, ln_56, al_57, as_57, ln_57, al_58, as_58, ln_58, al_59, as_59, ln_59, al_60, as_60, ln_60, al_61, as_61, ln_61, al_62, as_62, ln_62, al_63, as_63, ln_63, al_64, as_64, ln_64, al_65, as_65, ln_65, al_66, as_66, ln_66, al_67, as_67, ln_67, gC_39_4, gC_39_5, gC_39_6, gC_39_7, gC_39_8, gC_39_10, gC_39_11, gC_39_12, gC_39_13, gC_39_15, gC_39_16, gC_39_18, gC_39_19, gC_39_27, gC_39_28, gC_39_29, gC_39_30, gC_39_31, gC_39_36, gC_39_37, gC_39_41, gC_39_42, gC_39_43, gC_39_44, gC_39_46, gC_39_47, gC_39_48, gC_39_49, bI_rI, bV_rV, bQ_rN, bQ_rR, bz_0, bz_1, bz_Z, hZ0, hZ1, Lay_setI, Lay_setA, h.lay, h.mp, b_mask m (by omega)]
theorem fAt_everyMap_v (h : Inv n m s g x p t) : fAt_everyMap t = rI (nI (2 ^ m - 1)) t := by
  have := h.rng
  simp only [fAt_everyMap, gI_0, pI_0, rc_0, gI_1, pI_1, rc_1, ln_2, ql_2, al_3, as_3, ln_3, al_4, as_4, ln_4, gI_5, pI_5, rc_5, ln_6, ql_6, al_7, as_7, ln_7, al_8, as_8, ln_8, ln_9, ql_9, gI_10, pI_10, rc_10, al_11, as_11, ln_11, al_12, as_12, ln_12, gI_13, pI_13, rc_13, al_14, as_14, ln_14, ln_15, ql_15, gI_16, pI_16, rc_16, al_17, as_17, ln_17, al_18, as_18, ln_18, al_19, as_19, ln_19, al_20, as_20, ln_20, bl_21, bs_21, ln_21, gI_22, pI_22, rc_22, al_23, as_23, ln_23, al_24, as_24, ln_24, al_25, as_25, ln_25, gI_31, pI_31, rc_31, al_32, as_32, ln_32, gI_33, pI_33, rc_33, al_34, as_34, ln_34, gI_35, pI_35, rc_35, al_36, as_36, ln_36, gI_37, pI_37, rc_37, al_38, as_38, ln_38, gC_0_3, gC_0_4, gC_0_5, gC_0_7, gC_0_10, gC_0_11, gC_0_12, gC_0_13, gC_0_14, gC_0_15, gC_0_16, gC_0_17, gC_1_0, gC_1_2, gC_1_3, gC_5_0, gC_5_2, gC_10_0, gC_10_7, gC_13_5, gC_16_0, gC_16_2, gC_22_0, gC_22_1, gC_22_2, gC_22_3, gC_31_2, gC_33_2, gC_35_2, gC_37_2, bI_rI, bV_rV, bQ_rN, bQ_rR, bz_0, bz_1, bz_Z, hZ0, hZ1, Lay_setI, Lay_setA, h.lay, h.mp', b_mask m (by omega)]
theorem fx_everyChoice_v (h : Inv n m s g x p t) : fx_everyChoice t = rI (nI (2 ^ n - 1)) t := by
  have := h.rng
  simp only [fx_everyChoice, gI_0, pI_0, rc_0, gI_1, pI_1, rc_1, ln_2, ql_2, al_3, as_3, ln_3, al_4, as_4, ln_4, gI_5, pI_5, rc_5, ln_6, ql_6, al_7, as_7, ln_7, al_8, as_8, ln_8, ln_9, ql_9, gI_10, pI_10, rc_10, al_11, as_11, ln_11, al_12, as_12, ln_12, gI_13, pI_13, rc_13, al_14, as_14, ln_14, ln_15, ql_15, gI_16, pI_16, rc_16, al_17, as_17, ln_17, al_18, as_18, ln_18, al_19, as_19, ln_19, al_20, as_20, ln_20, bl_21, bs_21, ln_21, gI_22, pI_22, rc_22, al_23, as_23, ln_23, al_24, as_24, ln_24, al_25, as_25, ln_25, gI_31, pI_31, rc_31, al_32, as_32, ln_32, gI_33, pI_33, rc_33, al_34, as_34, ln_34, gI_35, pI_35, rc_35, al_36, as_36, ln_36, gI_37, pI_37, rc_37, al_38, as_38, ln_38, gC_0_3, gC_0_4, gC_0_5, gC_0_7, gC_0_10, gC_0_11, gC_0_12, gC_0_13, gC_0_14, gC_0_15, gC_0_16, gC_0_17, gC_1_0, gC_1_2, gC_1_3, gC_5_0, gC_5_2, gC_10_0, gC_10_7, gC_13_5, gC_16_0, gC_16_2, gC_22_0, gC_22_1, gC_22_2, gC_22_3, gC_31_2, gC_33_2, gC_35_2, gC_37_2, bI_rI, bV_rV, bQ_rN, bQ_rR, bz_0, bz_1, bz_Z, hZ0, hZ1, Lay_setI, Lay_setA, h.lay, h.ch', b_mask n (by omega)]
/-! rows of fixed cells -/
theorem L_na {k N : Nat} (h : Lay t) (hk : k < 68) (ht : layF k = (20, N)) (b : Int32) : fx_numberAt t k b = rI (if inr b N = true then mI t k (cN b) else 0) t := by
  have hN := layF_le k
  rw [ht] at hN
  have hN' : N ≤ 1200 := hN
  unfold fx_numberAt
  rw [L_ln h hk ⟨ht, by decide, by decide⟩]
  by_cases h1 : b < 0
  · rw [if_pos h1]
    have : inr b N = false := by unfold inr; rw [decide_eq_false (Int32.not_le.mpr h1)]; rfl
    rw [this]; rfl
  · rw [if_neg h1]
    by_cases h2 : nI N ≤ b
    · rw [if_pos h2]
      have : inr b N = false := by unfold inr; rw [decide_eq_false (Int32.not_lt.mpr h2), Bool.and_false]
      rw [this]; rfl
    · rw [if_neg h2]
      have e : inr b N = true := by unfold inr; rw [decide_eq_true (Int32.not_lt.mp h1), decide_eq_true (Int32.not_le.mp h2)]; rfl
      obtain ⟨i, hi, rfl⟩ := inr_t e (by omega)
      rw [L_al h hk ht hi, if_pos e, cN, nI_clamp (by omega)]
theorem L_nai {k N i : Nat} (h : Lay t) (hk : k < 68) (ht : layF k = (20, N)) (hi : i < N) : fx_numberAt t k (nI i) = rI (mI t k i) t := by
  have hN := layF_le k
  rw [ht] at hN
  have hN' : N ≤ 1200 := hN
  rw [L_na h hk ht, if_pos (inr_i hi (by omega)), cN, nI_clamp (by omega)]
theorem L_sni {k N i : Nat} {c : Int32} (h : Lay t) (hk : k < 68) (ht : layF k = (20, N)) (hi : i < N) : fx_setNumber t k (nI i) c = rV (setI t k i c) := by
  have hN := layF_le k
  rw [ht] at hN
  have hN' : N ≤ 1200 := hN
  unfold fx_setNumber
  rw [L_ln h hk ⟨ht, by decide, by decide⟩, if_neg (nI_pos (by omega)), if_neg (nI_ge hi (by omega)), L_as h hk ht hi]
theorem setI_setA {k i : Nat} {f : Nat → Int32} {v : Int32} : setI (setA t k f) k i v = setA t k (upd f i v) := by
  unfold setI setA
  refine Prod.ext (funext fun q => ?_) rfl
  show (if q = k then upd (if k = k then f else t.1 k) i v else if q = k then f else t.1 q) = _
  by_cases e : q = k
  · simp [e]
  · simp [e]
theorem setA_mI {k : Nat} : setA t k (mI t k) = t := by
  unfold setA
  refine Prod.ext (funext fun q => ?_) rfl
  show (if q = k then mI t k else t.1 q) = t.1 q
  by_cases e : q = k
  · subst e; rw [if_pos rfl]; rfl
  · rw [if_neg e]
theorem L_fill {k N : Nat} (h : Lay t) (hk : k < 68) (ht : layF k = (20, N)) (v : Int32) : fjA_fill t k v = rV (setA t k (fun j => if j < N then v else mI t k j)) := by
  have hN := layF_le k
  rw [ht] at hN
  have hN' : N ≤ 1200 := hN
  unfold fjA_fill
  rw [L_ln h hk ⟨ht, by decide, by decide⟩]
  refine for_up (β := Unit) (fun f t i _ => fjA_fill_l5 f t k v (nI i) (nI N)) (fun r => r = rV (setA t k (fun j => if j < N then v else mI t k j))) N
    (fun i w _ => w = setA t k (fun j => if j < i then v else mI t k j)) ?_ ?_ N 0 t () 1000000 (by omega) ?_ (by omega)
  · intro f w _ hw
    show fjA_fill_5 (fjA_fill_l5 f) w k v (nI N) (nI N) = _
    unfold fjA_fill_5
    rw [if_pos (nI_le (Nat.le_refl N) (by omega)), hw]
  · intro f w i _ hi hw ih
    show fjA_fill_5 (fjA_fill_l5 f) w k v (nI i) (nI N) = _
    unfold fjA_fill_5
    rw [if_neg (nI_ge hi (by omega)), L_as (by rw [hw]; exact h) hk ht hi, nI_1]
    refine ih _ () ?_
    rw [hw, setI_setA]
    congr 1
    funext j
    unfold upd
    by_cases e : j = i
    · simp [e]
    · by_cases e2 : j < i
      · simp [e, e2, show j < i + 1 by omega]
      · simp [e, e2, show ¬ j < i + 1 by omega]
  · have : (fun j => if j < 0 then v else mI t k j) = mI t k := by funext j; simp
    rw [this, setA_mI]
/-! cells of the heap -/
theorem scrF_hi {k j : Nat} (h : 68 ≤ k) : scrF k j = false := by
  have a1 : ∀ z ∈ scrA, z < 68 := by decide
  have a2 : ∀ z ∈ scrP, z.1 < 68 := by decide
  unfold scrF
  rw [Bool.or_eq_false_iff]
  constructor
  · cases hb : scrA.contains k with
    | false => rfl
    | true => exact absurd (a1 k (List.elem_iff.mp hb)) (by omega)
  · cases hb : scrP.contains (k, j) with
    | false => rfl
    | true => exact absurd (a2 (k, j) (List.elem_iff.mp hb)) (by show ¬ k < 68; omega)
theorem pm_cl {k j : Nat} (h1 : 68 ≤ k) (h2 : (mT t k).1 ≠ 8) (h3 : (mT t (k - 1)).1 ≠ 8) : mI t k j = pm t k j := pm_hp (scrF_hi h1) (fun e => absurd e h2) h3
theorem ChA.i0 {i q : Nat} {c : Int32 → OR} (h : ChA (pm t) (mT t) (mN t) i q) : hGetI t 2 q 0 c = c (pm t 40 i) := by
  unfold hGetI; rw [if_pos h.2.1, pm_cl h.1.1 (by rw [h.2.1]; decide) h.2.2.1, h.2.2.2.1]
theorem ChA.i1 {i q : Nat} {c : Int32 → OR} (h : ChA (pm t) (mT t) (mN t) i q) : hGetI t 2 q 1 c = c (pm t 41 i) := by
  unfold hGetI; rw [if_pos h.2.1, pm_cl h.1.1 (by rw [h.2.1]; decide) h.2.2.1, h.2.2.2.2.1]
theorem ChA.i2 {i q : Nat} {c : Int32 → OR} (h : ChA (pm t) (mT t) (mN t) i q) : hGetI t 2 q 2 c = c (pm t 42 i) := by
  unfold hGetI; rw [if_pos h.2.1, pm_cl h.1.1 (by rw [h.2.1]; decide) h.2.2.1, h.2.2.2.2.2.1]
theorem ChA.i3 {i q : Nat} {c : Int32 → OR} (h : ChA (pm t) (mT t) (mN t) i q) : hGetI t 2 q 3 c = c (pm t 43 i) := by
  unfold hGetI; rw [if_pos h.2.1, pm_cl h.1.1 (by rw [h.2.1]; decide) h.2.2.1, h.2.2.2.2.2.2.1]
theorem ChA.i5 {i q : Nat} {c : Int32 → OR} (h : ChA (pm t) (mT t) (mN t) i q) : hGetI t 2 q 5 c = c (pm t 44 i) := by
  unfold hGetI; rw [if_pos h.2.1, pm_cl h.1.1 (by rw [h.2.1]; decide) h.2.2.1, h.2.2.2.2.2.2.2.2]
theorem ChA.rc {i q : Nat} {c : OR} (h : ChA (pm t) (mT t) (mN t) i q) : hRecv t 2 q c = c := if_pos h.2.1
theorem StA.i0 {i q : Nat} {c : Int32 → OR} (h : StA (pm t) (mT t) (mN t) i q) : hGetI t 6 q 0 c = c (pm t 45 i) := by
  unfold hGetI; rw [if_pos h.2.1, pm_cl h.1.1 (by rw [h.2.1]; decide) h.2.2.1, h.2.2.2.1]
theorem StA.i1 {i q : Nat} {c : Int32 → OR} (h : StA (pm t) (mT t) (mN t) i q) : hGetI t 6 q 1 c = c (pm t 46 i) := by
  unfold hGetI; rw [if_pos h.2.1, pm_cl h.1.1 (by rw [h.2.1]; decide) h.2.2.1, h.2.2.2.2.1]
theorem StA.i2 {i q : Nat} {c : Int32 → OR} (h : StA (pm t) (mT t) (mN t) i q) : hGetI t 6 q 2 c = c (pm t 47 i) := by
  unfold hGetI; rw [if_pos h.2.1, pm_cl h.1.1 (by rw [h.2.1]; decide) h.2.2.1, h.2.2.2.2.2.1]
theorem StA.i3 {i q : Nat} {c : Int32 → OR} (h : StA (pm t) (mT t) (mN t) i q) : hGetI t 6 q 3 c = c (pm t 48 i) := by
  unfold hGetI; rw [if_pos h.2.1, pm_cl h.1.1 (by rw [h.2.1]; decide) h.2.2.1, h.2.2.2.2.2.2]
theorem StA.rc {i q : Nat} {c : OR} (h : StA (pm t) (mT t) (mN t) i q) : hRecv t 6 q c = c := if_pos h.2.1
theorem chartAt_in (h : Inv n m s g x p t) {i : Nat} (hi : i < m) : ∃ q, fAt_chartAt t (nI i) = rR q t ∧ mR t 2 i = some q ∧ ChA (pm t) (mT t) (mN t) i q := by
  have := h.rng
  obtain ⟨q, hq, hc⟩ := h.chs.1 i hi
  refine ⟨q, ?_, hq, hc⟩
  have h8 : i < 8 := by omega
  have e1 : ¬ nI m ≤ nI i := nI_ge hi (by omega)
  have e2 : ¬ nI 8 ≤ nI i := nI_ge h8 (by omega)
  have e3 : ¬ nI i < 0 := nI_pos (by omega)
  simp only [fAt_chartAt, gI_0, pI_0, rc_0, gI_1, pI_1, rc_1, ln_2, ql_2, al_3, as_3, ln_3, al_4, as_4, ln_4, gI_5, pI_5, rc_5, ln_6, ql_6, al_7, as_7, ln_7, al_8, as_8, ln_8, ln_9, ql_9, gI_10, pI_10, rc_10, al_11, as_11, ln_11, al_12, as_12, ln_12, gI_13, pI_13, rc_13, al_14, as_14, ln_14, ln_15, ql_15, gI_16, pI_16, rc_16, al_17, as_17, ln_17, al_18, as_18, ln_18, al_19, as_19, ln_19, al_20, as_20, ln_20, bl_21, bs_21, ln_21, gI_22, pI_22, rc_22, al_23, as_23, ln_23, al_24, as_24, ln_24, al_25, as_25, ln_25, gI_31, pI_31, rc_31, al_32, as_32, ln_32, gI_33, pI_33, rc_33, al_34, as_34, ln_34, gI_35, pI_35, rc_35, al_36, as_36, ln_36, gI_37, pI_37, rc_37, al_38, as_38, ln_38, gC_0_3, gC_0_4, gC_0_5, gC_0_7, gC_0_10, gC_0_11, gC_0_12, gC_0_13, gC_0_14, gC_0_15, gC_0_16, gC_0_17, gC_1_0, gC_1_2, gC_1_3, gC_5_0, gC_5_2, gC_10_0, gC_10_7, gC_13_5, gC_16_0, gC_16_2, gC_22_0, gC_22_1, gC_22_2, gC_22_3, gC_31_2, gC_33_2, gC_35_2, gC_37_2, bI_rI, bV_rV, bQ_rN, bQ_rR, bz_0, bz_1, bz_Z, hZ0, hZ1, Lay_setI, Lay_setA, h.lay, h.mp', e1, e2, e3, if_false]
  exact ql_2 h.lay h8 hq
theorem chartAt_no (h : Inv n m s g x p t) {v : Int32} (hv : inr v m = false) : fAt_chartAt t v = rN t := by
  have := h.rng
  unfold fAt_chartAt
  by_cases e3 : v < 0
  · rw [if_pos e3]
  · rw [if_neg e3, gI_1 h.lay, h.mp']
    rw [if_pos]
    unfold inr at hv
    rw [decide_eq_true (Int32.not_lt.mp e3), Bool.true_and, decide_eq_false_iff_not] at hv
    exact Int32.not_lt.mp hv
theorem streetAt_in (h : Inv n m s g x p t) {i : Nat} (hi : i < s) : ∃ q, fSs_streetAt t (nI i) = rR q t ∧ mR t 6 i = some q ∧ StA (pm t) (mT t) (mN t) i q := by
  have := h.rng
  obtain ⟨_, q, hq, hc⟩ := h.sts i hi
  refine ⟨q, ?_, hq, hc⟩
  have h8 : i < 12 := by omega
  have e1 : ¬ nI s ≤ nI i := nI_ge hi (by omega)
  have e2 : ¬ nI 12 ≤ nI i := nI_ge h8 (by omega)
  have e3 : ¬ nI i < 0 := nI_pos (by omega)
  simp only [fSs_streetAt, gI_0, pI_0, rc_0, gI_1, pI_1, rc_1, ln_2, ql_2, al_3, as_3, ln_3, al_4, as_4, ln_4, gI_5, pI_5, rc_5, ln_6, ql_6, al_7, as_7, ln_7, al_8, as_8, ln_8, ln_9, ql_9, gI_10, pI_10, rc_10, al_11, as_11, ln_11, al_12, as_12, ln_12, gI_13, pI_13, rc_13, al_14, as_14, ln_14, ln_15, ql_15, gI_16, pI_16, rc_16, al_17, as_17, ln_17, al_18, as_18, ln_18, al_19, as_19, ln_19, al_20, as_20, ln_20, bl_21, bs_21, ln_21, gI_22, pI_22, rc_22, al_23, as_23, ln_23, al_24, as_24, ln_24, al_25, as_25, ln_25, gI_31, pI_31, rc_31, al_32, as_32, ln_32, gI_33, pI_33, rc_33, al_34, as_34, ln_34, gI_35, pI_35, rc_35, al_36, as_36, ln_36, gI_37, pI_37, rc_37, al_38, as_38, ln_38, gC_0_3, gC_0_4, gC_0_5, gC_0_7, gC_0_10, gC_0_11, gC_0_12, gC_0_13, gC_0_14, gC_0_15, gC_0_16, gC_0_17, gC_1_0, gC_1_2, gC_1_3, gC_5_0, gC_5_2, gC_10_0, gC_10_7, gC_13_5, gC_16_0, gC_16_2, gC_22_0, gC_22_1, gC_22_2, gC_22_3, gC_31_2, gC_33_2, gC_35_2, gC_37_2, bI_rI, bV_rV, bQ_rN, bQ_rR, bz_0, bz_1, bz_Z, hZ0, hZ1, Lay_setI, Lay_setA, h.lay, h.st', e1, e2, e3, if_false]
  exact ql_6 h.lay h8 hq
theorem streetAt_no (h : Inv n m s g x p t) {v : Int32} (hv : inr v s = false) : fSs_streetAt t v = rN t := by
  have := h.rng
  unfold fSs_streetAt
  by_cases e3 : v < 0
  · rw [if_pos e3]
  · rw [if_neg e3, gI_5 h.lay, h.st']
    rw [if_pos]
    unfold inr at hv
    rw [decide_eq_true (Int32.not_lt.mp e3), Bool.true_and, decide_eq_false_iff_not] at hv
    exact Int32.not_lt.mp hv
end
