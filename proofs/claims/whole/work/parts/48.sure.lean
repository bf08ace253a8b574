section
variable {n m s g x p : Nat} {t0 t u : SM}
/-! may, judge -/
def s_may (n : Nat) (G : GG) (a : Int32) : Int32 := if inr a (2 ^ n) = true then bz (may G a) else -2
theorem xq_may (h : Inv n m s g x p t) (a : Int32) : QQ t (fx_may t a) (s_may n (pm t) a) := by
  have hr := h.rng
  have hpw := pw_lt (n := n) (by omega)
  unfold s_may
  simp only [fx_may, gI_0, pI_0, rc_0, gI_1, pI_1, rc_1, ln_2, ql_2, al_3, as_3, ln_3, al_4, as_4, ln_4, gI_5, pI_5, rc_5, ln_6, ql_6, al_7, as_7, ln_7, al_8, as_8, ln_8, ln_9, ql_9, gI_10, pI_10, rc_10, al_11, as_11, ln_11, al_12, as_12, ln_12, gI_13, pI_13, rc_13, al_14, as_14, ln_14, ln_15, ql_15, gI_16, pI_16, rc_16, al_17, as_17, ln_17, al_18, as_18, ln_18, al_19, as_19, ln_19, al_20, as_20, ln_20, bl_21, bs_21, ln_21, gI_22, pI_22, rc_22, al_23, as_23, ln_23, al_24, as_24, ln_24, al_25, as_25, ln_25, gI_31, pI_31, rc_31, al_32, as_32, ln_32, gI_33, pI_33, rc_33, al_34, as_34, ln_34, gI_35, pI_35, rc_35, al_36, as_36, ln_36, gI_37, pI_37, rc_37, al_38, as_38, ln_38, gC_0_3, gC_0_4, gC_0_5, gC_0_7, gC_0_10, gC_0_11, gC_0_12, gC_0_13, gC_0_14, gC_0_15, gC_0_16, gC_0_17, gC_1_0, gC_1_2, gC_1_3, gC_5_0, gC_5_2, gC_10_0, gC_10_7, gC_13_5, gC_16_0, gC_16_2, gC_22_0, gC_22_1, gC_22_2, gC_22_3, gC_31_2, gC_33_2, gC_35_2, gC_37_2, bI_rI, bV_rV, bQ_rN, bQ_rR, bz_0, bz_1, bz_Z, hZ0, hZ1, Lay_setI, Lay_setA, h.lay, fx_isTown_v h]
  cases c : inr a (2 ^ n)
  · simp only [if_true]
    exact QQ.pure rfl
  · obtain ⟨i, hi, rfl⟩ := inr_t c (by omega)
    simp only [if_false, if_true, Bool.true_eq_false, fx_lawAllows_v h hi, bI_rI, bV_rV, bQ_rN, bQ_rR, bz_0, bz_1, bz_Z, hZ0, hZ1, Lay_setI, Lay_setA, bz_b0]
    exact QQ.pure rfl
theorem mq_may (h : Inv n m s g x p t) (a : Int32) : QQ t (fm_may t a) (s_may n (pm t) a) := by
  have hr := h.rng
  have hpw := pw_lt (n := n) (by omega)
  unfold s_may
  simp only [fm_may, gI_39, pI_39, rc_39, al_40, as_40, ln_40, al_41, as_41, ln_41, al_42, as_42, ln_42, al_43, as_43, ln_43, al_44, as_44, ln_44, al_45, as_45, ln_45, al_46, as_46, ln_46, al_47, as_47, ln_47, al_48, as_48, ln_48, al_49, as_49, ln_49, al_50, as_50, ln_50, al_51, as_51, ln_51, al_52, as_52, ln_52, al_53, as_53, ln_53, al_54, as_54, ln_54, al_55, as_55, ln_55, al_56, as_56, ln_56, al_57, as_57, ln_57, al_58, as_58, ln_58, al_59, as_59, ln_59, al_60, as_60, ln_60, al_61, as_61, ln_61, al_62, as_62, ln_62, al_63, as_63, ln_63, al_64, as_64, ln_64, al_65, as_65, ln_65, al_66, as_66, ln_66, al_67, as_67, ln_67, gC_39_4, gC_39_5, gC_39_6, gC_39_7, gC_39_8, gC_39_10, gC_39_11, gC_39_12, gC_39_13, gC_39_15, gC_39_16, gC_39_18, gC_39_19, gC_39_27, gC_39_28, gC_39_29, gC_39_30, gC_39_31, gC_39_36, gC_39_37, gC_39_41, gC_39_42, gC_39_43, gC_39_44, gC_39_46, gC_39_47, gC_39_48, gC_39_49, bI_rI, bV_rV, bQ_rN, bQ_rR, bz_0, bz_1, bz_Z, hZ0, hZ1, Lay_setI, Lay_setA, h.lay, fm_isTown_v h]
  cases c : inr a (2 ^ n)
  · simp only [if_true]
    exact QQ.pure rfl
  · obtain ⟨i, hi, rfl⟩ := inr_t c (by omega)
    obtain ⟨u, eu, fu⟩ := fm_mayBe_v h (FS.refl _ _) hi
    simp only [if_false, if_true, Bool.true_eq_false, eu, bI_rI, bV_rV, bQ_rN, bQ_rR, bz_0, bz_1, bz_Z, hZ0, hZ1, Lay_setI, Lay_setA, bz_b0]
    exact ⟨u, rfl, fu.1⟩
theorem ok_may (h : Inv n m s g x p t) (a : Int32) : Okk t (fun t => fx_may t a) (fun t => fm_may t a) := okq h (xq_may h a) (fun u hu e => e ▸ mq_may hu a)
/-- the first number from i on with a property, of d numbers; else -1 -/
def fst (q : Nat → Bool) : Nat → Nat → Int32
  | 0, _ => -1
  | d + 1, i => if q i = true then nI i else fst q d (i + 1)
theorem fst_cg {q r : Nat → Bool} : ∀ d i, (∀ k, i ≤ k → k < i + d → q k = r k) → fst q d i = fst r d i := by
  intro d
  induction d with
  | zero => intro i _; rfl
  | succ d ih =>
    intro i h
    show (if q i = true then nI i else fst q d (i + 1)) = (if r i = true then nI i else fst r d (i + 1))
    rw [h i (Nat.le_refl i) (by omega), ih (i + 1) (fun k a b => h k (by omega) (by omega))]
theorem fst_no {q : Nat → Bool} : ∀ d i, (∀ k, i ≤ k → k < i + d → q k = false) → fst q d i = -1 := by
  intro d
  induction d with
  | zero => intro i _; rfl
  | succ d ih =>
    intro i h
    show (if q i = true then nI i else fst q d (i + 1)) = _
    rw [h i (Nat.le_refl i) (by omega), if_neg (by decide)]
    exact ih (i + 1) (fun k a b => h k (by omega) (by omega))
theorem fst_more {q : Nat → Bool} : ∀ d e i, (∀ k, i + d ≤ k → k < i + d + e → q k = false) → fst q (d + e) i = fst q d i := by
  intro d
  induction d with
  | zero => intro e i h; rw [Nat.zero_add]; exact fst_no e i (fun k a b => h k (by omega) (by omega))
  | succ d ih =>
    intro e i h
    rw [show d + 1 + e = (d + e) + 1 by omega]
    show (if q i = true then nI i else fst q (d + e) (i + 1)) = (if q i = true then nI i else fst q d (i + 1))
    rw [ih e (i + 1) (fun k a b => h k (by omega) (by omega))]
theorem fx_firstOf_v (t : SM) (v : Int32) : fx_firstOf t v = rI (fst (bt v) 31 0) t := by
  have key : ∀ d i f, i + d = 31 → d < f → fx_firstOf_l2 f t v (nI i) = rI (fst (bt v) d i) t := by
    intro d
    induction d with
    | zero =>
      intro i f hi hf
      obtain ⟨f, rfl⟩ : ∃ f', f = f' + 1 := ⟨f - 1, by omega⟩
      obtain rfl : i = 31 := by omega
      show fx_firstOf_2 _ t v (nI 31) = _
      unfold fx_firstOf_2
      rw [if_pos (show (31 : Int32) ≤ nI 31 from Int32.le_refl _)]; rfl
    | succ d ih =>
      intro i f hi hf
      obtain ⟨f, rfl⟩ : ∃ f', f = f' + 1 := ⟨f - 1, by omega⟩
      show fx_firstOf_2 _ t v (nI i) = rI (if bt v i = true then nI i else fst (bt v) d (i + 1)) t
      unfold fx_firstOf_2
      rw [if_neg (show ¬ (31 : Int32) ≤ nI i from nI_ge (b := 31) (by omega) (by decide)), b_bit v (by omega), nI_1, ih (i + 1) f (by omega) (by omega)]
      cases bt v i <;> rfl
  exact key 31 0 1000000 (by omega) (by omega)
def s_judge (n m : Nat) (G : GG) (a : Int32) : Int32 := if inr a (2 ^ n) = true then (if act G a = true then fst (fun i => !agr G i a) m 0 else 99) else -2
theorem xq_judge (h : Inv n m s g x p t) (a : Int32) : QQ t (fx_judge t a) (s_judge n m (pm t) a) := by
  have hr := h.rng
  have hpw := pw_lt (n := n) (by omega)
  unfold s_judge
  simp only [fx_judge, gI_0, pI_0, rc_0, gI_1, pI_1, rc_1, ln_2, ql_2, al_3, as_3, ln_3, al_4, as_4, ln_4, gI_5, pI_5, rc_5, ln_6, ql_6, al_7, as_7, ln_7, al_8, as_8, ln_8, ln_9, ql_9, gI_10, pI_10, rc_10, al_11, as_11, ln_11, al_12, as_12, ln_12, gI_13, pI_13, rc_13, al_14, as_14, ln_14, ln_15, ql_15, gI_16, pI_16, rc_16, al_17, as_17, ln_17, al_18, as_18, ln_18, al_19, as_19, ln_19, al_20, as_20, ln_20, bl_21, bs_21, ln_21, gI_22, pI_22, rc_22, al_23, as_23, ln_23, al_24, as_24, ln_24, al_25, as_25, ln_25, gI_31, pI_31, rc_31, al_32, as_32, ln_32, gI_33, pI_33, rc_33, al_34, as_34, ln_34, gI_35, pI_35, rc_35, al_36, as_36, ln_36, gI_37, pI_37, rc_37, al_38, as_38, ln_38, gC_0_3, gC_0_4, gC_0_5, gC_0_7, gC_0_10, gC_0_11, gC_0_12, gC_0_13, gC_0_14, gC_0_15, gC_0_16, gC_0_17, gC_1_0, gC_1_2, gC_1_3, gC_5_0, gC_5_2, gC_10_0, gC_10_7, gC_13_5, gC_16_0, gC_16_2, gC_22_0, gC_22_1, gC_22_2, gC_22_3, gC_31_2, gC_33_2, gC_35_2, gC_37_2, bI_rI, bV_rV, bQ_rN, bQ_rR, bz_0, bz_1, bz_Z, hZ0, hZ1, Lay_setI, Lay_setA, h.lay, fx_isTown_v h]
  cases c : inr a (2 ^ n)
  · simp only [if_true]
    exact QQ.pure rfl
  · obtain ⟨i, hi, rfl⟩ := inr_t c (by omega)
    simp only [if_false, if_true, Bool.true_eq_false, fx_mayBeRight_v h hi, gI_0, pI_0, rc_0, gI_1, pI_1, rc_1, ln_2, ql_2, al_3, as_3, ln_3, al_4, as_4, ln_4, gI_5, pI_5, rc_5, ln_6, ql_6, al_7, as_7, ln_7, al_8, as_8, ln_8, ln_9, ql_9, gI_10, pI_10, rc_10, al_11, as_11, ln_11, al_12, as_12, ln_12, gI_13, pI_13, rc_13, al_14, as_14, ln_14, ln_15, ql_15, gI_16, pI_16, rc_16, al_17, as_17, ln_17, al_18, as_18, ln_18, al_19, as_19, ln_19, al_20, as_20, ln_20, bl_21, bs_21, ln_21, gI_22, pI_22, rc_22, al_23, as_23, ln_23, al_24, as_24, ln_24, al_25, as_25, ln_25, gI_31, pI_31, rc_31, al_32, as_32, ln_32, gI_33, pI_33, rc_33, al_34, as_34, ln_34, gI_35, pI_35, rc_35, al_36, as_36, ln_36, gI_37, pI_37, rc_37, al_38, as_38, ln_38, gC_0_3, gC_0_4, gC_0_5, gC_0_7, gC_0_10, gC_0_11, gC_0_12, gC_0_13, gC_0_14, gC_0_15, gC_0_16, gC_0_17, gC_1_0, gC_1_2, gC_1_3, gC_5_0, gC_5_2, gC_10_0, gC_10_7, gC_13_5, gC_16_0, gC_16_2, gC_22_0, gC_22_1, gC_22_2, gC_22_3, gC_31_2, gC_33_2, gC_35_2, gC_37_2, bI_rI, bV_rV, bQ_rN, bQ_rR, bz_0, bz_1, bz_Z, hZ0, hZ1, Lay_setI, Lay_setA, h.lay]
    cases c2 : act (pm t) (nI i)
    · simp only [if_true]
      exact QQ.pure rfl
    · simp only [if_false, if_true, Bool.true_eq_false, fAt_everyMap_v h, fAt_agreeingWith_v h (show i < 512 by omega), fx_firstOf_v, gI_0, pI_0, rc_0, gI_1, pI_1, rc_1, ln_2, ql_2, al_3, as_3, ln_3, al_4, as_4, ln_4, gI_5, pI_5, rc_5, ln_6, ql_6, al_7, as_7, ln_7, al_8, as_8, ln_8, ln_9, ql_9, gI_10, pI_10, rc_10, al_11, as_11, ln_11, al_12, as_12, ln_12, gI_13, pI_13, rc_13, al_14, as_14, ln_14, ln_15, ql_15, gI_16, pI_16, rc_16, al_17, as_17, ln_17, al_18, as_18, ln_18, al_19, as_19, ln_19, al_20, as_20, ln_20, bl_21, bs_21, ln_21, gI_22, pI_22, rc_22, al_23, as_23, ln_23, al_24, as_24, ln_24, al_25, as_25, ln_25, gI_31, pI_31, rc_31, al_32, as_32, ln_32, gI_33, pI_33, rc_33, al_34, as_34, ln_34, gI_35, pI_35, rc_35, al_36, as_36, ln_36, gI_37, pI_37, rc_37, al_38, as_38, ln_38, gC_0_3, gC_0_4, gC_0_5, gC_0_7, gC_0_10, gC_0_11, gC_0_12, gC_0_13, gC_0_14, gC_0_15, gC_0_16, gC_0_17, gC_1_0, gC_1_2, gC_1_3, gC_5_0, gC_5_2, gC_10_0, gC_10_7, gC_13_5, gC_16_0, gC_16_2, gC_22_0, gC_22_1, gC_22_2, gC_22_3, gC_31_2, gC_33_2, gC_35_2, gC_37_2, bI_rI, bV_rV, bQ_rN, bQ_rR, bz_0, bz_1, bz_Z, hZ0, hZ1, Lay_setI, Lay_setA, h.lay]
      refine QQ.pure ?_
      congr 1
      have : (fun k => bt (nI (2 ^ m - 1) &&& (agB (pm t) m (nI i) ^^^ (-1))) k) = fun k => bt (nI (2 ^ m - 1) &&& (agB (pm t) m (nI i) ^^^ (-1))) k := rfl
      rw [show (31 : Nat) = m + (31 - m) by omega, fst_more m (31 - m) 0 (fun k a b => by rw [b_and, bt_mask (by omega)]; simp; omega)]
      refine fst_cg m 0 (fun k a b => ?_)
      rw [b_and, bt_mask (by omega), b_not _ (by omega), bt_agB (by omega) (by omega)]
      simp [show k < m by omega]
theorem mq_judge (h : Inv n m s g x p t) (a : Int32) : QQ t (fm_judge t a) (s_judge n m (pm t) a) := by
  have hr := h.rng
  have hpw := pw_lt (n := n) (by omega)
  unfold s_judge
  simp only [fm_judge, gI_39, pI_39, rc_39, al_40, as_40, ln_40, al_41, as_41, ln_41, al_42, as_42, ln_42, al_43, as_43, ln_43, al_44, as_44, ln_44, al_45, as_45, ln_45, al_46, as_46, ln_46, al_47, as_47, ln_47, al_48, as_48, ln_48, al_49, as_49, ln_49, al_50, as_50, ln_50, al_51, as_51, ln_51, al_52, as_52, ln_52, al_53, as_53, ln_53, al_54, as_54, ln_54, al_55, as_55, ln_55, al_56, as_56, ln_56, al_57, as_57, ln_57, al_58, as_58, ln_58, al_59, as_59, ln_59, al_60, as_60, ln_60, al_61, as_61, ln_61, al_62, as_62, ln_62, al_63, as_63, ln_63, al_64, as_64, ln_64, al_65, as_65, ln_65, al_66, as_66, ln_66, al_67, as_67, ln_67, gC_39_4, gC_39_5, gC_39_6, gC_39_7, gC_39_8, gC_39_10, gC_39_11, gC_39_12, gC_39_13, gC_39_15, gC_39_16, gC_39_18, gC_39_19, gC_39_27, gC_39_28, gC_39_29, gC_39_30, gC_39_31, gC_39_36, gC_39_37, gC_39_41, gC_39_42, gC_39_43, gC_39_44, gC_39_46, gC_39_47, gC_39_48, gC_39_49, bI_rI, bV_rV, bQ_rN, bQ_rR, bz_0, bz_1, bz_Z, hZ0, hZ1, Lay_setI, Lay_setA, h.lay, fm_isTown_v h, h.sn, h.so]
  cases c : inr a (2 ^ n)
  · simp only [if_true]
    exact QQ.pure rfl
  · obtain ⟨i, hi, rfl⟩ := inr_t c (by omega)
    obtain ⟨u, eu, fu⟩ := fm_mayBe_v h (FS.refl _ _) hi
    simp only [if_false, if_true, Bool.true_eq_false, eu, bI_rI, bV_rV, bQ_rN, bQ_rR, bz_0, bz_1, bz_Z, hZ0, hZ1, Lay_setI, Lay_setA]
    unfold act
    by_cases c1 : (nI i &&& pm t 39 1) = pm t 39 2
    · rw [if_pos c1, decide_eq_true c1, Bool.true_and]
      cases c2 : may (pm t) (nI i)
      · simp only [if_true]
        exact ⟨u, rfl, fu.1⟩
      · simp only [if_false, if_true, Bool.true_eq_false]
        have hu := h.fr fu.1
        have key : ∀ d k f, k + d = m → d < f → fm_judge_l37 f u (nI i) (nI k) = rI (fst (fun k => !agr (pm t) k (nI i)) d k) u := by
          intro d
          induction d with
          | zero =>
            intro k f hk hf
            obtain ⟨f, rfl⟩ : ∃ f', f = f' + 1 := ⟨f - 1, by omega⟩
            obtain rfl : k = m := by omega
            have e1 : nI k ≤ nI k := Int32.le_refl _
            show fm_judge_37 _ u (nI i) (nI k) = _
            simp only [fm_judge_37, gI_39, pI_39, rc_39, al_40, as_40, ln_40, al_41, as_41, ln_41, al_42, as_42, ln_42, al_43, as_43, ln_43, al_44, as_44, ln_44, al_45, as_45, ln_45, al_46, as_46, ln_46, al_47, as_47, ln_47, al_48, as_48, ln_48, al_49, as_49, ln_49, al_50, as_50, ln_50, al_51, as_51, ln_51, al_52, as_52, ln_52, al_53, as_53, ln_53, al_54, as_54, ln_54, al_55, as_55, ln_55, al_56, as_56, ln_56, al_57, as_57, ln_57, al_58, as_58, ln_58, al_59, as_59, ln_59, al_60, as_60, ln_60, al_61, as_61, ln_61, al_62, as_62, ln_62, al_63, as_63, ln_63, al_64, as_64, ln_64, al_65, as_65, ln_65, al_66, as_66, ln_66, al_67, as_67, ln_67, gC_39_4, gC_39_5, gC_39_6, gC_39_7, gC_39_8, gC_39_10, gC_39_11, gC_39_12, gC_39_13, gC_39_15, gC_39_16, gC_39_18, gC_39_19, gC_39_27, gC_39_28, gC_39_29, gC_39_30, gC_39_31, gC_39_36, gC_39_37, gC_39_41, gC_39_42, gC_39_43, gC_39_44, gC_39_46, gC_39_47, gC_39_48, gC_39_49, bI_rI, bV_rV, bQ_rN, bQ_rR, bz_0, bz_1, bz_Z, hZ0, hZ1, Lay_setI, Lay_setA, hu.lay, hu.mp, e1, if_true]; rfl
          | succ d ih =>
            intro k f hk hf
            obtain ⟨f, rfl⟩ : ∃ f', f = f' + 1 := ⟨f - 1, by omega⟩
            have e1 : ¬ nI m ≤ nI k := nI_ge (by omega) (by omega)
            show fm_judge_37 _ u (nI i) (nI k) = rI (if (!agr (pm t) k (nI i)) = true then nI k else fst (fun k => !agr (pm t) k (nI i)) d (k + 1)) u
            simp only [fm_judge_37, gI_39, pI_39, rc_39, al_40, as_40, ln_40, al_41, as_41, ln_41, al_42, as_42, ln_42, al_43, as_43, ln_43, al_44, as_44, ln_44, al_45, as_45, ln_45, al_46, as_46, ln_46, al_47, as_47, ln_47, al_48, as_48, ln_48, al_49, as_49, ln_49, al_50, as_50, ln_50, al_51, as_51, ln_51, al_52, as_52, ln_52, al_53, as_53, ln_53, al_54, as_54, ln_54, al_55, as_55, ln_55, al_56, as_56, ln_56, al_57, as_57, ln_57, al_58, as_58, ln_58, al_59, as_59, ln_59, al_60, as_60, ln_60, al_61, as_61, ln_61, al_62, as_62, ln_62, al_63, as_63, ln_63, al_64, as_64, ln_64, al_65, as_65, ln_65, al_66, as_66, ln_66, al_67, as_67, ln_67, gC_39_4, gC_39_5, gC_39_6, gC_39_7, gC_39_8, gC_39_10, gC_39_11, gC_39_12, gC_39_13, gC_39_15, gC_39_16, gC_39_18, gC_39_19, gC_39_27, gC_39_28, gC_39_29, gC_39_30, gC_39_31, gC_39_36, gC_39_37, gC_39_41, gC_39_42, gC_39_43, gC_39_44, gC_39_46, gC_39_47, gC_39_48, gC_39_49, bI_rI, bV_rV, bQ_rN, bQ_rR, bz_0, bz_1, bz_Z, hZ0, hZ1, Lay_setI, Lay_setA, hu.lay, hu.mp, e1, if_false, fm_agrees_v hu (nI i) (show k < m by omega), fu.1.2, nI_1, ih (k + 1) f (by omega) (by omega)]
            cases agr (pm t) k (nI i) <;> rfl
        exact ⟨u, key m 0 1000000 (by omega) (by omega), fu.1⟩
    · rw [if_neg c1, decide_eq_false c1]
      exact QQ.pure rfl
theorem ok_judge (h : Inv n m s g x p t) (a : Int32) : Okk t (fun t => fx_judge t a) (fun t => fm_judge t a) := okq h (xq_judge h a) (fun u hu e => e ▸ mq_judge hu a)
/-! sure -/
def allB (L : List Nat) (n : Nat) : Int32 := orf (fun i => L.all (fun w => w.testBit i)) n
def nonB (L : List Nat) (n : Nat) : Int32 := orf (fun i => L.all (fun w => !w.testBit i)) n
theorem li_in {v : Int32} {c : Int} {N : Nat} (h : inr v N = true) (hN : N < 2 ^ 31) : ¬ v < 0 := by
  obtain ⟨i, hi, rfl⟩ := inr_t h hN
  exact nI_pos (by omega)
theorem all_snoc (L : List Nat) (w : Nat) (q : Nat → Bool) : (L ++ [w]).all q = (L.all q && q w) := by simp
theorem fm_allSo_v (h : Inv n m s g x p t) (ha : Agd (pm t) n m t) (set : Int32) : fm_allSo t set = rI (allB (WL n m (pm t) set) n) t := by
  have hr := h.rng
  have hpw := pw_lt (n := n) (by omega)
  simp only [fm_allSo, gI_39, pI_39, rc_39, al_40, as_40, ln_40, al_41, as_41, ln_41, al_42, as_42, ln_42, al_43, as_43, ln_43, al_44, as_44, ln_44, al_45, as_45, ln_45, al_46, as_46, ln_46, al_47, as_47, ln_47, al_48, as_48, ln_48, al_49, as_49, ln_49, al_50, as_50, ln_50, al_51, as_51, ln_51, al_52, as_52, ln_52, al_53, as_53, ln_53, al_54, as_54, ln_54, al_55, as_55, ln_55, al_56, as_56, ln_56, al_57, as_57, ln_57, al_58, as_58, ln_58, al_59, as_59, ln_59, al_60, as_60, ln_60, al_61, as_61, ln_61, al_62, as_62, ln_62, al_63, as_63, ln_63, al_64, as_64, ln_64, al_65, as_65, ln_65, al_66, as_66, ln_66, al_67, as_67, ln_67, gC_39_4, gC_39_5, gC_39_6, gC_39_7, gC_39_8, gC_39_10, gC_39_11, gC_39_12, gC_39_13, gC_39_15, gC_39_16, gC_39_18, gC_39_19, gC_39_27, gC_39_28, gC_39_29, gC_39_30, gC_39_31, gC_39_36, gC_39_37, gC_39_41, gC_39_42, gC_39_43, gC_39_44, gC_39_46, gC_39_47, gC_39_48, gC_39_49, bI_rI, bV_rV, bQ_rN, bQ_rR, bz_0, bz_1, bz_Z, hZ0, hZ1, Lay_setI, Lay_setA, h.lay, h.ch, b_mask n (show n < 31 by omega)]
  refine for_up (β := Int32) (fun f t i a => fm_allSo_l11 f t set a (nI i)) (fun r => r = rI (allB (WL n m (pm t) set) n) t) (2 ^ n)
    (fun i u a => u = t ∧ ∀ k, k < 32 → bt a k = (decide (k < n) && (wls (fun j => wp (pm t) m set (nI j)) i).all (fun w => w.testBit k))) ?_ ?_ (2 ^ n) 0 t (nI (2 ^ n - 1)) 1000000 (by omega)
    ⟨rfl, fun k hk => by rw [bt_mask (by omega)]; simp [wls]⟩ (by omega)
  · intro f u a ⟨e, ea⟩
    subst e
    have e1 : nI (2 ^ n) ≤ nI (2 ^ n) := Int32.le_refl _
    show fm_allSo_11 _ u set a (nI (2 ^ n)) = _
    simp only [fm_allSo_11, gI_39, pI_39, rc_39, al_40, as_40, ln_40, al_41, as_41, ln_41, al_42, as_42, ln_42, al_43, as_43, ln_43, al_44, as_44, ln_44, al_45, as_45, ln_45, al_46, as_46, ln_46, al_47, as_47, ln_47, al_48, as_48, ln_48, al_49, as_49, ln_49, al_50, as_50, ln_50, al_51, as_51, ln_51, al_52, as_52, ln_52, al_53, as_53, ln_53, al_54, as_54, ln_54, al_55, as_55, ln_55, al_56, as_56, ln_56, al_57, as_57, ln_57, al_58, as_58, ln_58, al_59, as_59, ln_59, al_60, as_60, ln_60, al_61, as_61, ln_61, al_62, as_62, ln_62, al_63, as_63, ln_63, al_64, as_64, ln_64, al_65, as_65, ln_65, al_66, as_66, ln_66, al_67, as_67, ln_67, gC_39_4, gC_39_5, gC_39_6, gC_39_7, gC_39_8, gC_39_10, gC_39_11, gC_39_12, gC_39_13, gC_39_15, gC_39_16, gC_39_18, gC_39_19, gC_39_27, gC_39_28, gC_39_29, gC_39_30, gC_39_31, gC_39_36, gC_39_37, gC_39_41, gC_39_42, gC_39_43, gC_39_44, gC_39_46, gC_39_47, gC_39_48, gC_39_49, bI_rI, bV_rV, bQ_rN, bQ_rR, bz_0, bz_1, bz_Z, hZ0, hZ1, Lay_setI, Lay_setA, h.lay, h.ch, b_pow n (show n < 31 by omega), e1, if_true]
    congr 1
    apply b_ext
    intro k hk
    rw [ea k hk]; unfold allB; rw [bt_orf _ n (by omega) k hk]; rfl
  · intro f u i a hi ⟨e, ea⟩ ih
    subst e
    have i512 : i < 512 := by omega
    have e1 : ¬ nI (2 ^ n) ≤ nI i := nI_ge hi (by omega)
    show fm_allSo_11 _ u set a (nI i) = _
    simp only [fm_allSo_11, gI_39, pI_39, rc_39, al_40, as_40, ln_40, al_41, as_41, ln_41, al_42, as_42, ln_42, al_43, as_43, ln_43, al_44, as_44, ln_44, al_45, as_45, ln_45, al_46, as_46, ln_46, al_47, as_47, ln_47, al_48, as_48, ln_48, al_49, as_49, ln_49, al_50, as_50, ln_50, al_51, as_51, ln_51, al_52, as_52, ln_52, al_53, as_53, ln_53, al_54, as_54, ln_54, al_55, as_55, ln_55, al_56, as_56, ln_56, al_57, as_57, ln_57, al_58, as_58, ln_58, al_59, as_59, ln_59, al_60, as_60, ln_60, al_61, as_61, ln_61, al_62, as_62, ln_62, al_63, as_63, ln_63, al_64, as_64, ln_64, al_65, as_65, ln_65, al_66, as_66, ln_66, al_67, as_67, ln_67, gC_39_4, gC_39_5, gC_39_6, gC_39_7, gC_39_8, gC_39_10, gC_39_11, gC_39_12, gC_39_13, gC_39_15, gC_39_16, gC_39_18, gC_39_19, gC_39_27, gC_39_28, gC_39_29, gC_39_30, gC_39_31, gC_39_36, gC_39_37, gC_39_41, gC_39_42, gC_39_43, gC_39_44, gC_39_46, gC_39_47, gC_39_48, gC_39_49, bI_rI, bV_rV, bQ_rN, bQ_rR, bz_0, bz_1, bz_Z, hZ0, hZ1, Lay_setI, Lay_setA, h.lay, h.ch, b_pow n (show n < 31 by omega), e1, if_false, i512, ha i hi, agv_neg (pm u) m (nI i) (show m ≤ 8 by omega), nI_1, Int32.and_self]
    cases c : act (pm u) (nI i)
    · simp only [if_true]
      refine ih u a ⟨rfl, fun k hk => ?_⟩
      rw [ea k hk, wls_s, if_neg (by simp [wp, c])]
    · simp only [if_false, Bool.true_eq_false, agv_t c]
      by_cases c2 : (agB (pm u) m (nI i) &&& set) = set
      · rw [if_pos c2]
        refine ih u _ ⟨rfl, fun k hk => ?_⟩
        rw [b_and, ea k hk, wls_s, if_pos (by simp [wp, c, c2]), all_snoc, b_ni _ _ (by omega), Bool.and_assoc]
      · rw [if_neg c2]
        refine ih u a ⟨rfl, fun k hk => ?_⟩
        rw [ea k hk, wls_s, if_neg (by simp [wp, c2])]
theorem fm_noneSo_v (h : Inv n m s g x p t) (ha : Agd (pm t) n m t) (set : Int32) : fm_noneSo t set = rI (nonB (WL n m (pm t) set) n) t := by
  have hr := h.rng
  have hpw := pw_lt (n := n) (by omega)
  simp only [fm_noneSo, gI_39, pI_39, rc_39, al_40, as_40, ln_40, al_41, as_41, ln_41, al_42, as_42, ln_42, al_43, as_43, ln_43, al_44, as_44, ln_44, al_45, as_45, ln_45, al_46, as_46, ln_46, al_47, as_47, ln_47, al_48, as_48, ln_48, al_49, as_49, ln_49, al_50, as_50, ln_50, al_51, as_51, ln_51, al_52, as_52, ln_52, al_53, as_53, ln_53, al_54, as_54, ln_54, al_55, as_55, ln_55, al_56, as_56, ln_56, al_57, as_57, ln_57, al_58, as_58, ln_58, al_59, as_59, ln_59, al_60, as_60, ln_60, al_61, as_61, ln_61, al_62, as_62, ln_62, al_63, as_63, ln_63, al_64, as_64, ln_64, al_65, as_65, ln_65, al_66, as_66, ln_66, al_67, as_67, ln_67, gC_39_4, gC_39_5, gC_39_6, gC_39_7, gC_39_8, gC_39_10, gC_39_11, gC_39_12, gC_39_13, gC_39_15, gC_39_16, gC_39_18, gC_39_19, gC_39_27, gC_39_28, gC_39_29, gC_39_30, gC_39_31, gC_39_36, gC_39_37, gC_39_41, gC_39_42, gC_39_43, gC_39_44, gC_39_46, gC_39_47, gC_39_48, gC_39_49, bI_rI, bV_rV, bQ_rN, bQ_rR, bz_0, bz_1, bz_Z, hZ0, hZ1, Lay_setI, Lay_setA, h.lay, h.ch, b_mask n (show n < 31 by omega)]
  refine for_up (β := Int32) (fun f t i a => fm_noneSo_l11 f t set a (nI i)) (fun r => r = rI (nonB (WL n m (pm t) set) n) t) (2 ^ n)
    (fun i u a => u = t ∧ ∀ k, k < 32 → bt a k = (decide (k < n) && (wls (fun j => wp (pm t) m set (nI j)) i).all (fun w => !w.testBit k))) ?_ ?_ (2 ^ n) 0 t (nI (2 ^ n - 1)) 1000000 (by omega)
    ⟨rfl, fun k hk => by rw [bt_mask (by omega)]; simp [wls]⟩ (by omega)
  · intro f u a ⟨e, ea⟩
    subst e
    have e1 : nI (2 ^ n) ≤ nI (2 ^ n) := Int32.le_refl _
    show fm_noneSo_11 _ u set a (nI (2 ^ n)) = _
    simp only [fm_noneSo_11, gI_39, pI_39, rc_39, al_40, as_40, ln_40, al_41, as_41, ln_41, al_42, as_42, ln_42, al_43, as_43, ln_43, al_44, as_44, ln_44, al_45, as_45, ln_45, al_46, as_46, ln_46, al_47, as_47, ln_47, al_48, as_48, ln_48, al_49, as_49, ln_49, al_50, as_50, ln_50, al_51, as_51, ln_51, al_52, as_52, ln_52, al_53, as_53, ln_53, al_54, as_54, ln_54, al_55, as_55, ln_55, al_56, as_56, ln_56, al_57, as_57, ln_57, al_58, as_58, ln_58, al_59, as_59, ln_59, al_60, as_60, ln_60, al_61, as_61, ln_61, al_62, as_62, ln_62, al_63, as_63, ln_63, al_64, as_64, ln_64, al_65, as_65, ln_65, al_66, as_66, ln_66, al_67, as_67, ln_67, gC_39_4, gC_39_5, gC_39_6, gC_39_7, gC_39_8, gC_39_10, gC_39_11, gC_39_12, gC_39_13, gC_39_15, gC_39_16, gC_39_18, gC_39_19, gC_39_27, gC_39_28, gC_39_29, gC_39_30, gC_39_31, gC_39_36, gC_39_37, gC_39_41, gC_39_42, gC_39_43, gC_39_44, gC_39_46, gC_39_47, gC_39_48, gC_39_49, bI_rI, bV_rV, bQ_rN, bQ_rR, bz_0, bz_1, bz_Z, hZ0, hZ1, Lay_setI, Lay_setA, h.lay, h.ch, b_pow n (show n < 31 by omega), e1, if_true]
    congr 1
    apply b_ext
    intro k hk
    rw [ea k hk]; unfold nonB; rw [bt_orf _ n (by omega) k hk]; rfl
  · intro f u i a hi ⟨e, ea⟩ ih
    subst e
    have i512 : i < 512 := by omega
    have e1 : ¬ nI (2 ^ n) ≤ nI i := nI_ge hi (by omega)
    show fm_noneSo_11 _ u set a (nI i) = _
    simp only [fm_noneSo_11, gI_39, pI_39, rc_39, al_40, as_40, ln_40, al_41, as_41, ln_41, al_42, as_42, ln_42, al_43, as_43, ln_43, al_44, as_44, ln_44, al_45, as_45, ln_45, al_46, as_46, ln_46, al_47, as_47, ln_47, al_48, as_48, ln_48, al_49, as_49, ln_49, al_50, as_50, ln_50, al_51, as_51, ln_51, al_52, as_52, ln_52, al_53, as_53, ln_53, al_54, as_54, ln_54, al_55, as_55, ln_55, al_56, as_56, ln_56, al_57, as_57, ln_57, al_58, as_58, ln_58, al_59, as_59, ln_59, al_60, as_60, ln_60, al_61, as_61, ln_61, al_62, as_62, ln_62, al_63, as_63, ln_63, al_64, as_64, ln_64, al_65, as_65, ln_65, al_66, as_66, ln_66, al_67, as_67, ln_67, gC_39_4, gC_39_5, gC_39_6, gC_39_7, gC_39_8, gC_39_10, gC_39_11, gC_39_12, gC_39_13, gC_39_15, gC_39_16, gC_39_18, gC_39_19, gC_39_27, gC_39_28, gC_39_29, gC_39_30, gC_39_31, gC_39_36, gC_39_37, gC_39_41, gC_39_42, gC_39_43, gC_39_44, gC_39_46, gC_39_47, gC_39_48, gC_39_49, bI_rI, bV_rV, bQ_rN, bQ_rR, bz_0, bz_1, bz_Z, hZ0, hZ1, Lay_setI, Lay_setA, h.lay, h.ch, b_pow n (show n < 31 by omega), e1, if_false, i512, ha i hi, agv_neg (pm u) m (nI i) (show m ≤ 8 by omega), nI_1, Int32.and_self]
    cases c : act (pm u) (nI i)
    · simp only [if_true]
      refine ih u a ⟨rfl, fun k hk => ?_⟩
      rw [ea k hk, wls_s, if_neg (by simp [wp, c])]
    · simp only [if_false, Bool.true_eq_false, agv_t c]
      by_cases c2 : (agB (pm u) m (nI i) &&& set) = set
      · rw [if_pos c2]
        refine ih u _ ⟨rfl, fun k hk => ?_⟩
        rw [b_and, ea k hk, wls_s, if_pos (by simp [wp, c, c2]), all_snoc, b_not _ hk, b_ni _ _ (by omega), Bool.and_assoc]
      · rw [if_neg c2]
        refine ih u a ⟨rfl, fun k hk => ?_⟩
        rw [ea k hk, wls_s, if_neg (by simp [wp, c2])]
theorem soInAll_v {L : List Nat} (h : Lay u) (hf : FdC L u) (hl : L.length ≤ 512) (hn : n ≤ 9) (hb : ∀ w, w ∈ L → w < 2 ^ n) (h0 : L ≠ []) : fWd_soInAll u = rI (allB L n) u := by
  have hpw := pw_lt (n := n) (by omega)
  unfold fWd_soInAll
  refine for_up (β := Int32) (fun f t i a => fWd_soInAll_l6 f t a (nI i)) (fun r => r = rI (allB L n) u) L.length
    (fun i w a => w = u ∧ ∀ k, k < 32 → bt a k = (decide (k < 9) && (L.take i).all (fun w => w.testBit k))) ?_ ?_ L.length 0 u 511 1000000 (by omega)
    ⟨rfl, fun k hk => by rw [show (511 : Int32) = nI (2 ^ 9 - 1) from rfl, bt_mask (by decide)]; simp⟩ (by omega)
  · intro f w a ⟨e, ea⟩
    subst e
    have e1 : nI L.length ≤ nI L.length := Int32.le_refl _
    show fWd_soInAll_6 _ w a (nI L.length) = _
    simp only [fWd_soInAll_6, gI_0, pI_0, rc_0, gI_1, pI_1, rc_1, ln_2, ql_2, al_3, as_3, ln_3, al_4, as_4, ln_4, gI_5, pI_5, rc_5, ln_6, ql_6, al_7, as_7, ln_7, al_8, as_8, ln_8, ln_9, ql_9, gI_10, pI_10, rc_10, al_11, as_11, ln_11, al_12, as_12, ln_12, gI_13, pI_13, rc_13, al_14, as_14, ln_14, ln_15, ql_15, gI_16, pI_16, rc_16, al_17, as_17, ln_17, al_18, as_18, ln_18, al_19, as_19, ln_19, al_20, as_20, ln_20, bl_21, bs_21, ln_21, gI_22, pI_22, rc_22, al_23, as_23, ln_23, al_24, as_24, ln_24, al_25, as_25, ln_25, gI_31, pI_31, rc_31, al_32, as_32, ln_32, gI_33, pI_33, rc_33, al_34, as_34, ln_34, gI_35, pI_35, rc_35, al_36, as_36, ln_36, gI_37, pI_37, rc_37, al_38, as_38, ln_38, gC_0_3, gC_0_4, gC_0_5, gC_0_7, gC_0_10, gC_0_11, gC_0_12, gC_0_13, gC_0_14, gC_0_15, gC_0_16, gC_0_17, gC_1_0, gC_1_2, gC_1_3, gC_5_0, gC_5_2, gC_10_0, gC_10_7, gC_13_5, gC_16_0, gC_16_2, gC_22_0, gC_22_1, gC_22_2, gC_22_3, gC_31_2, gC_33_2, gC_35_2, gC_37_2, bI_rI, bV_rV, bQ_rN, bQ_rR, bz_0, bz_1, bz_Z, hZ0, hZ1, Lay_setI, Lay_setA, h, hf.1, e1, if_true]
    congr 1
    apply b_ext
    intro k hk
    rw [ea k hk, List.take_length]; unfold allB; rw [bt_orf _ n (by omega) k hk]
    by_cases kn : k < n
    · simp [kn, show k < 9 by omega]
    · obtain ⟨v, L', rfl⟩ := List.exists_cons_of_ne_nil h0
      have : v.testBit k = false := Nat.testBit_lt_two_pow (Nat.lt_of_lt_of_le (hb v (by simp)) (Nat.pow_le_pow_right (by decide) (by omega)))
      simp [kn, this]
  · intro f w i a hi ⟨e, ea⟩ ih
    subst e
    have e1 : ¬ nI L.length ≤ nI i := nI_ge hi (by omega)
    have hm : L.getD i 0 ∈ L := by rw [List.getD_eq_getElem?_getD, List.getElem?_eq_getElem hi]; exact List.getElem_mem hi
    have hlt := hb _ hm
    show fWd_soInAll_6 _ w a (nI i) = _
    simp only [fWd_soInAll_6, gI_0, pI_0, rc_0, gI_1, pI_1, rc_1, ln_2, ql_2, al_3, as_3, ln_3, al_4, as_4, ln_4, gI_5, pI_5, rc_5, ln_6, ql_6, al_7, as_7, ln_7, al_8, as_8, ln_8, ln_9, ql_9, gI_10, pI_10, rc_10, al_11, as_11, ln_11, al_12, as_12, ln_12, gI_13, pI_13, rc_13, al_14, as_14, ln_14, ln_15, ql_15, gI_16, pI_16, rc_16, al_17, as_17, ln_17, al_18, as_18, ln_18, al_19, as_19, ln_19, al_20, as_20, ln_20, bl_21, bs_21, ln_21, gI_22, pI_22, rc_22, al_23, as_23, ln_23, al_24, as_24, ln_24, al_25, as_25, ln_25, gI_31, pI_31, rc_31, al_32, as_32, ln_32, gI_33, pI_33, rc_33, al_34, as_34, ln_34, gI_35, pI_35, rc_35, al_36, as_36, ln_36, gI_37, pI_37, rc_37, al_38, as_38, ln_38, gC_0_3, gC_0_4, gC_0_5, gC_0_7, gC_0_10, gC_0_11, gC_0_12, gC_0_13, gC_0_14, gC_0_15, gC_0_16, gC_0_17, gC_1_0, gC_1_2, gC_1_3, gC_5_0, gC_5_2, gC_10_0, gC_10_7, gC_13_5, gC_16_0, gC_16_2, gC_22_0, gC_22_1, gC_22_2, gC_22_3, gC_31_2, gC_33_2, gC_35_2, gC_37_2, bI_rI, bV_rV, bQ_rN, bQ_rR, bz_0, bz_1, bz_Z, hZ0, hZ1, Lay_setI, Lay_setA, h, hf.1, e1, if_false, fWd_townAt_v h hf hl, twn_i hi hl, nI_1]
    refine ih w _ ⟨rfl, fun k hk => ?_⟩
    rw [b_and, ea k hk, b_ni _ _ (by omega), List.take_succ, List.all_append, List.getD_eq_getElem?_getD, List.getElem?_eq_getElem hi, Bool.and_assoc]
    simp
def anyB (L : List Nat) (n : Nat) : Int32 := orf (fun i => L.any (fun w => w.testBit i)) n
theorem soInSome_v {L : List Nat} (h : Lay u) (hf : FdC L u) (hl : L.length ≤ 512) (hn : n ≤ 9) (hb : ∀ w, w ∈ L → w < 2 ^ n) : fWd_soInSome u = rI (anyB L n) u := by
  have hpw := pw_lt (n := n) (by omega)
  unfold fWd_soInSome
  refine for_up (β := Int32) (fun f t i a => fWd_soInSome_l4 f t a (nI i)) (fun r => r = rI (anyB L n) u) L.length
    (fun i w a => w = u ∧ ∀ k, k < 32 → bt a k = (L.take i).any (fun w => w.testBit k)) ?_ ?_ L.length 0 u 0 1000000 (by omega)
    ⟨rfl, fun k hk => by rw [b_0]; simp⟩ (by omega)
  · intro f w a ⟨e, ea⟩
    subst e
    have e1 : nI L.length ≤ nI L.length := Int32.le_refl _
    show fWd_soInSome_4 _ w a (nI L.length) = _
    simp only [fWd_soInSome_4, gI_0, pI_0, rc_0, gI_1, pI_1, rc_1, ln_2, ql_2, al_3, as_3, ln_3, al_4, as_4, ln_4, gI_5, pI_5, rc_5, ln_6, ql_6, al_7, as_7, ln_7, al_8, as_8, ln_8, ln_9, ql_9, gI_10, pI_10, rc_10, al_11, as_11, ln_11, al_12, as_12, ln_12, gI_13, pI_13, rc_13, al_14, as_14, ln_14, ln_15, ql_15, gI_16, pI_16, rc_16, al_17, as_17, ln_17, al_18, as_18, ln_18, al_19, as_19, ln_19, al_20, as_20, ln_20, bl_21, bs_21, ln_21, gI_22, pI_22, rc_22, al_23, as_23, ln_23, al_24, as_24, ln_24, al_25, as_25, ln_25, gI_31, pI_31, rc_31, al_32, as_32, ln_32, gI_33, pI_33, rc_33, al_34, as_34, ln_34, gI_35, pI_35, rc_35, al_36, as_36, ln_36, gI_37, pI_37, rc_37, al_38, as_38, ln_38, gC_0_3, gC_0_4, gC_0_5, gC_0_7, gC_0_10, gC_0_11, gC_0_12, gC_0_13, gC_0_14, gC_0_15, gC_0_16, gC_0_17, gC_1_0, gC_1_2, gC_1_3, gC_5_0, gC_5_2, gC_10_0, gC_10_7, gC_13_5, gC_16_0, gC_16_2, gC_22_0, gC_22_1, gC_22_2, gC_22_3, gC_31_2, gC_33_2, gC_35_2, gC_37_2, bI_rI, bV_rV, bQ_rN, bQ_rR, bz_0, bz_1, bz_Z, hZ0, hZ1, Lay_setI, Lay_setA, h, hf.1, e1, if_true]
    congr 1
    apply b_ext
    intro k hk
    rw [ea k hk, List.take_length]; unfold anyB; rw [bt_orf _ n (by omega) k hk]
    by_cases kn : k < n
    · simp [kn]
    · simp only [kn, decide_false, Bool.false_and]
      rw [List.any_eq_false]
      intro v hv
      simp [Nat.testBit_lt_two_pow (Nat.lt_of_lt_of_le (hb v hv) (Nat.pow_le_pow_right (by decide) (show n ≤ k by omega)))]
  · intro f w i a hi ⟨e, ea⟩ ih
    subst e
    have e1 : ¬ nI L.length ≤ nI i := nI_ge hi (by omega)
    have hm : L.getD i 0 ∈ L := by rw [List.getD_eq_getElem?_getD, List.getElem?_eq_getElem hi]; exact List.getElem_mem hi
    have hlt := hb _ hm
    show fWd_soInSome_4 _ w a (nI i) = _
    simp only [fWd_soInSome_4, gI_0, pI_0, rc_0, gI_1, pI_1, rc_1, ln_2, ql_2, al_3, as_3, ln_3, al_4, as_4, ln_4, gI_5, pI_5, rc_5, ln_6, ql_6, al_7, as_7, ln_7, al_8, as_8, ln_8, ln_9, ql_9, gI_10, pI_10, rc_10, al_11, as_11, ln_11, al_12, as_12, ln_12, gI_13, pI_13, rc_13, al_14, as_14, ln_14, ln_15, ql_15, gI_16, pI_16, rc_16, al_17, as_17, ln_17, al_18, as_18, ln_18, al_19, as_19, ln_19, al_20, as_20, ln_20, bl_21, bs_21, ln_21, gI_22, pI_22, rc_22, al_23, as_23, ln_23, al_24, as_24, ln_24, al_25, as_25, ln_25, gI_31, pI_31, rc_31, al_32, as_32, ln_32, gI_33, pI_33, rc_33, al_34, as_34, ln_34, gI_35, pI_35, rc_35, al_36, as_36, ln_36, gI_37, pI_37, rc_37, al_38, as_38, ln_38, gC_0_3, gC_0_4, gC_0_5, gC_0_7, gC_0_10, gC_0_11, gC_0_12, gC_0_13, gC_0_14, gC_0_15, gC_0_16, gC_0_17, gC_1_0, gC_1_2, gC_1_3, gC_5_0, gC_5_2, gC_10_0, gC_10_7, gC_13_5, gC_16_0, gC_16_2, gC_22_0, gC_22_1, gC_22_2, gC_22_3, gC_31_2, gC_33_2, gC_35_2, gC_37_2, bI_rI, bV_rV, bQ_rN, bQ_rR, bz_0, bz_1, bz_Z, hZ0, hZ1, Lay_setI, Lay_setA, h, hf.1, e1, if_false, fWd_townAt_v h hf hl, twn_i hi hl, nI_1]
    refine ih w _ ⟨rfl, fun k hk => ?_⟩
    rw [b_or, ea k hk, b_ni _ _ (by omega), List.take_succ, List.any_append, List.getD_eq_getElem?_getD, List.getElem?_eq_getElem hi]
    simp
def s_sure (n m : Nat) (G : GG) (a : Int32) : Int32 := if inr a 3 = true then (if WL n m G (evB m) = [] then -3 else if a = 0 then allB (WL n m G (evB m)) n else if a = 1 then nonB (WL n m G (evB m)) n else ((nI (2 ^ n - 1) &&& (allB (WL n m G (evB m)) n ^^^ (-1))) &&& (nonB (WL n m G (evB m)) n ^^^ (-1)))) else -2
theorem WL_lt (G : GG) (set : Int32) : ∀ w, w ∈ WL n m G set → w < 2 ^ n := fun _ hw => (wls_mem.mp hw).1
theorem len_0 (L : List Nat) (h : L.length ≤ 512) : (nI L.length = 0) = (L = []) := by
  cases L with
  | nil => simp; rfl
  | cons a L => simp only [reduceCtorEq, eq_iff_iff, iff_false]; exact nI_ne0 (by simp) (by omega)
theorem xq_sure (h : Inv n m s g x p t) (a : Int32) : QQ t (fx_sure t a) (s_sure n m (pm t) a) := by
  have hr := h.rng
  unfold s_sure
  by_cases e1 : a < 0
  · have : inr a 3 = false := by unfold inr; rw [decide_eq_false (Int32.not_le.mpr e1)]; rfl
    rw [this]
    simp only [fx_sure, e1, if_true]
    exact QQ.pure rfl
  · by_cases e2 : a ≤ 2
    · have e : inr a 3 = true := by
        obtain ⟨i, hi, rfl⟩ := nI_of e1
        exact inr_i (by have := (nI_leI (b := 2) hi (by decide)).mp e2; omega) (by omega)
      obtain ⟨u, eu, fu, gu⟩ := fx_findWorlds_v h (evB m)
      have hu := h.fr fu.1
      have hl := WL_le (m := m) (show n ≤ 9 by omega) (pm t) (evB m)
      simp only [fx_sure, e1, if_false, gI_0, pI_0, rc_0, gI_1, pI_1, rc_1, ln_2, ql_2, al_3, as_3, ln_3, al_4, as_4, ln_4, gI_5, pI_5, rc_5, ln_6, ql_6, al_7, as_7, ln_7, al_8, as_8, ln_8, ln_9, ql_9, gI_10, pI_10, rc_10, al_11, as_11, ln_11, al_12, as_12, ln_12, gI_13, pI_13, rc_13, al_14, as_14, ln_14, ln_15, ql_15, gI_16, pI_16, rc_16, al_17, as_17, ln_17, al_18, as_18, ln_18, al_19, as_19, ln_19, al_20, as_20, ln_20, bl_21, bs_21, ln_21, gI_22, pI_22, rc_22, al_23, as_23, ln_23, al_24, as_24, ln_24, al_25, as_25, ln_25, gI_31, pI_31, rc_31, al_32, as_32, ln_32, gI_33, pI_33, rc_33, al_34, as_34, ln_34, gI_35, pI_35, rc_35, al_36, as_36, ln_36, gI_37, pI_37, rc_37, al_38, as_38, ln_38, gC_0_3, gC_0_4, gC_0_5, gC_0_7, gC_0_10, gC_0_11, gC_0_12, gC_0_13, gC_0_14, gC_0_15, gC_0_16, gC_0_17, gC_1_0, gC_1_2, gC_1_3, gC_5_0, gC_5_2, gC_10_0, gC_10_7, gC_13_5, gC_16_0, gC_16_2, gC_22_0, gC_22_1, gC_22_2, gC_22_3, gC_31_2, gC_33_2, gC_35_2, gC_37_2, bI_rI, bV_rV, bQ_rN, bQ_rR, bz_0, bz_1, bz_Z, hZ0, hZ1, Lay_setI, Lay_setA, h.lay, fAt_everyMap_v h, e2, if_true, eu, e, len_0 _ hl]
      by_cases c0 : WL n m (pm t) (evB m) = []
      · rw [if_pos c0, if_pos c0]; exact ⟨u, rfl, fu.1⟩
      · rw [if_neg c0, if_neg c0]
        simp only [gI_0, pI_0, rc_0, gI_1, pI_1, rc_1, ln_2, ql_2, al_3, as_3, ln_3, al_4, as_4, ln_4, gI_5, pI_5, rc_5, ln_6, ql_6, al_7, as_7, ln_7, al_8, as_8, ln_8, ln_9, ql_9, gI_10, pI_10, rc_10, al_11, as_11, ln_11, al_12, as_12, ln_12, gI_13, pI_13, rc_13, al_14, as_14, ln_14, ln_15, ql_15, gI_16, pI_16, rc_16, al_17, as_17, ln_17, al_18, as_18, ln_18, al_19, as_19, ln_19, al_20, as_20, ln_20, bl_21, bs_21, ln_21, gI_22, pI_22, rc_22, al_23, as_23, ln_23, al_24, as_24, ln_24, al_25, as_25, ln_25, gI_31, pI_31, rc_31, al_32, as_32, ln_32, gI_33, pI_33, rc_33, al_34, as_34, ln_34, gI_35, pI_35, rc_35, al_36, as_36, ln_36, gI_37, pI_37, rc_37, al_38, as_38, ln_38, gC_0_3, gC_0_4, gC_0_5, gC_0_7, gC_0_10, gC_0_11, gC_0_12, gC_0_13, gC_0_14, gC_0_15, gC_0_16, gC_0_17, gC_1_0, gC_1_2, gC_1_3, gC_5_0, gC_5_2, gC_10_0, gC_10_7, gC_13_5, gC_16_0, gC_16_2, gC_22_0, gC_22_1, gC_22_2, gC_22_3, gC_31_2, gC_33_2, gC_35_2, gC_37_2, bI_rI, bV_rV, bQ_rN, bQ_rR, bz_0, bz_1, bz_Z, hZ0, hZ1, Lay_setI, Lay_setA, hu.lay, soInAll_v hu.lay gu hl (show n ≤ 9 by omega) (WL_lt _ _) c0, soInSome_v hu.lay gu hl (show n ≤ 9 by omega) (WL_lt _ _), fx_everyChoice_v hu]
        by_cases a0 : a = 0
        · rw [if_pos a0, if_pos a0]; exact ⟨u, rfl, fu.1⟩
        · rw [if_neg a0, if_neg a0]
          by_cases a1 : a = 1
          · rw [if_pos a1, if_pos a1]
            refine ⟨u, ?_, fu.1⟩
            congr 1
            apply b_ext
            intro k hk
            unfold anyB nonB
            rw [b_and, b_not _ hk, bt_mask (by omega), bt_orf _ n (by omega) k hk, bt_orf _ n (by omega) k hk]
            by_cases kn : k < n
            · simp [kn, List.not_any_eq_all_not]
            · simp [kn]
          · rw [if_neg a1, if_neg a1]
            refine ⟨u, ?_, fu.1⟩
            congr 1
            apply b_ext
            intro k hk
            unfold anyB nonB allB
            rw [b_and, b_and, b_and, b_not _ hk, b_not _ hk, bt_mask (by omega), bt_orf _ n (by omega) k hk, bt_orf _ n (by omega) k hk, bt_orf _ n (by omega) k hk]
            by_cases kn : k < n
            · have ea : (WL n m (pm t) (evB m)).any (fun w => w.testBit k) = !(WL n m (pm t) (evB m)).all (fun w => !w.testBit k) := by rw [List.not_all_eq_any_not]; simp
              rw [ea]
              simp only [kn, decide_true, Bool.true_and]
              cases (WL n m (pm t) (evB m)).all (fun w => w.testBit k) <;> simp
            · simp [kn]
    · have e : inr a 3 = false := by
        cases c : inr a 3 with
        | false => rfl
        | true =>
          obtain ⟨i, hi, rfl⟩ := inr_t c (by omega)
          exact absurd (nI_le (b := 2) (show i ≤ 2 by omega) (by omega)) e2
      rw [e]
      simp only [fx_sure, e1, if_false, e2]
      exact QQ.pure rfl
theorem in_3 (a : Int32) : (decide ((0 : Int32) ≤ a) && decide (a ≤ 2)) = inr a 3 := inr_in (N := 3) (by decide)
theorem in_2 (a : Int32) : (decide ((0 : Int32) ≤ a) && decide (a ≤ 1)) = inr a 2 := inr_in (N := 2) (by decide)
theorem mq_sure (h : Inv n m s g x p t) (a : Int32) : QQ t (fm_sure t a) (s_sure n m (pm t) a) := by
  have hr := h.rng
  unfold s_sure
  simp only [fm_sure, fm_in_v, in_3, gI_39, pI_39, rc_39, al_40, as_40, ln_40, al_41, as_41, ln_41, al_42, as_42, ln_42, al_43, as_43, ln_43, al_44, as_44, ln_44, al_45, as_45, ln_45, al_46, as_46, ln_46, al_47, as_47, ln_47, al_48, as_48, ln_48, al_49, as_49, ln_49, al_50, as_50, ln_50, al_51, as_51, ln_51, al_52, as_52, ln_52, al_53, as_53, ln_53, al_54, as_54, ln_54, al_55, as_55, ln_55, al_56, as_56, ln_56, al_57, as_57, ln_57, al_58, as_58, ln_58, al_59, as_59, ln_59, al_60, as_60, ln_60, al_61, as_61, ln_61, al_62, as_62, ln_62, al_63, as_63, ln_63, al_64, as_64, ln_64, al_65, as_65, ln_65, al_66, as_66, ln_66, al_67, as_67, ln_67, gC_39_4, gC_39_5, gC_39_6, gC_39_7, gC_39_8, gC_39_10, gC_39_11, gC_39_12, gC_39_13, gC_39_15, gC_39_16, gC_39_18, gC_39_19, gC_39_27, gC_39_28, gC_39_29, gC_39_30, gC_39_31, gC_39_36, gC_39_37, gC_39_41, gC_39_42, gC_39_43, gC_39_44, gC_39_46, gC_39_47, gC_39_48, gC_39_49, bI_rI, bV_rV, bQ_rN, bQ_rR, bz_0, bz_1, bz_Z, hZ0, hZ1, Lay_setI, Lay_setA, h.lay]
  cases c : inr a 3
  · simp only [if_true]; exact QQ.pure rfl
  · obtain ⟨u, eu, fu, ga, gu⟩ := fm_findsWorlds_v h
    have hu := h.fr fu.1
    have ga' : Agd (pm u) n m u := by rw [fu.1.2]; exact ga
    have hl := WL_le (m := m) (show n ≤ 9 by omega) (pm t) (evB m)
    simp only [if_false, if_true, Bool.true_eq_false, eu, gI_39, pI_39, rc_39, al_40, as_40, ln_40, al_41, as_41, ln_41, al_42, as_42, ln_42, al_43, as_43, ln_43, al_44, as_44, ln_44, al_45, as_45, ln_45, al_46, as_46, ln_46, al_47, as_47, ln_47, al_48, as_48, ln_48, al_49, as_49, ln_49, al_50, as_50, ln_50, al_51, as_51, ln_51, al_52, as_52, ln_52, al_53, as_53, ln_53, al_54, as_54, ln_54, al_55, as_55, ln_55, al_56, as_56, ln_56, al_57, as_57, ln_57, al_58, as_58, ln_58, al_59, as_59, ln_59, al_60, as_60, ln_60, al_61, as_61, ln_61, al_62, as_62, ln_62, al_63, as_63, ln_63, al_64, as_64, ln_64, al_65, as_65, ln_65, al_66, as_66, ln_66, al_67, as_67, ln_67, gC_39_4, gC_39_5, gC_39_6, gC_39_7, gC_39_8, gC_39_10, gC_39_11, gC_39_12, gC_39_13, gC_39_15, gC_39_16, gC_39_18, gC_39_19, gC_39_27, gC_39_28, gC_39_29, gC_39_30, gC_39_31, gC_39_36, gC_39_37, gC_39_41, gC_39_42, gC_39_43, gC_39_44, gC_39_46, gC_39_47, gC_39_48, gC_39_49, bI_rI, bV_rV, bQ_rN, bQ_rR, bz_0, bz_1, bz_Z, hZ0, hZ1, Lay_setI, Lay_setA, hu.lay, gu.1, len_0 _ hl, fm_allMaps_v hu, fm_allSo_v hu ga', fm_noneSo_v hu ga', fu.1.2, hu.ch, b_mask n (show n < 31 by omega)]
    by_cases c0 : WL n m (pm t) (evB m) = []
    · rw [if_pos c0, if_pos c0]; exact ⟨u, rfl, fu.1⟩
    · rw [if_neg c0, if_neg c0]
      by_cases a0 : a = 0
      · rw [if_pos a0, if_pos a0]; exact ⟨u, rfl, fu.1⟩
      · rw [if_neg a0, if_neg a0]
        by_cases a1 : a = 1
        · rw [if_pos a1, if_pos a1]; exact ⟨u, rfl, fu.1⟩
        · rw [if_neg a1, if_neg a1]; exact ⟨u, rfl, fu.1⟩
theorem ok_sure (h : Inv n m s g x p t) (a : Int32) : Okk t (fun t => fx_sure t a) (fun t => fm_sure t a) := okq h (xq_sure h a) (fun u hu e => e ▸ mq_sure hu a)
end
