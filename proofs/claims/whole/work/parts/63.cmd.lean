section
variable {n m s g x p : Nat} {t u : SM}
def A2 : List Nat := [0, 1, 5, 8, 10, 11, 13, 14, 31, 32, 33, 34, 35, 36, 37, 38, 39, 49, 50, 53, 54, 55, 56]
theorem SR.up {K K' : List Nat} {G G' : GG} (h : SR K G G') (hs : (K.all fun k => K'.contains k) = true) : SR K' G G' :=
  fun k hk => h k (fun c => hk (List.elem_iff.mp (List.all_eq_true.mp hs k c)))
theorem Inv.asm {g' p' : Nat} (h : Inv n m s g x p t) (e : u.2 = t.2) (r : SR A2 (pm t) (pm u)) (hn : IvN n m s g' x p' (pm u)) (hg : IvG g' (pm u)) (ht : IvT p' (pm u)) (hi : IvI m x (pm u)) (hs : IvS (pm u)) : Inv n m s g' x p' u := by
  have eT : mT u = mT t := by unfold mT; rw [e]
  have eR : mR u = mR t := by unfold mR; rw [e]
  have eN : mN u = mN t := by unfold mN; rw [e]
  have k68 : ∀ k, 68 ≤ k → k ∉ A2 := fun k hk hm => by unfold A2 at hm; simp at hm; omega
  refine ⟨by unfold Lay; rw [eT, eR, eN]; exact h.lay, ?_⟩
  rw [eT, eR, eN]
  exact ⟨hn, hg, ht, hi, hs, h.mps.c r (by decide) (by decide) (by decide) (by decide), h.chs.c r (by decide) (by decide) (by decide) (by decide) (by decide) k68,
    h.agg.c r (by decide) (by decide) (by decide) (by decide) (by decide), h.sts.c r (by decide) (by decide) (by decide) (by decide) k68,
    h.txs.c r (by decide) (by decide) (fun k a hm => by unfold A2 at hm; simp at hm; omega), h.tgs, h.wds.c r (by decide)⟩
/-! force -/
theorem ok_force (h : Inv n m s g x p t) (a : Int32) : Okk t (fun t => fx_force t a) (fun t => fm_force t a) := by
  have hr := h.rng
  have hl := h.lay
  have f0 : ∀ u, Inv n m s g x p u → fm_force u a = if inr a x = true then rI (pm u 39 21) (setI u 39 21 a) else rI (-2) u := fun u hu => by
    simp only [fm_force, fm_in_v, gI_39, pI_39, rc_39, al_40, as_40, ln_40, al_41, as_41, ln_41, al_42, as_42, ln_42, al_43, as_43, ln_43, al_44, as_44, ln_44, al_45, as_45, ln_45, al_46, as_46, ln_46, al_47, as_47, ln_47, al_48, as_48, ln_48, al_49, as_49, ln_49, al_50, as_50, ln_50, al_51, as_51, ln_51, al_52, as_52, ln_52, al_53, as_53, ln_53, al_54, as_54, ln_54, al_55, as_55, ln_55, al_56, as_56, ln_56, al_57, as_57, ln_57, al_58, as_58, ln_58, al_59, as_59, ln_59, al_60, as_60, ln_60, al_61, as_61, ln_61, al_62, as_62, ln_62, al_63, as_63, ln_63, al_64, as_64, ln_64, al_65, as_65, ln_65, al_66, as_66, ln_66, al_67, as_67, ln_67, gC_39_4, gC_39_5, gC_39_6, gC_39_7, gC_39_8, gC_39_10, gC_39_11, gC_39_12, gC_39_13, gC_39_15, gC_39_16, gC_39_18, gC_39_19, gC_39_27, gC_39_28, gC_39_29, gC_39_30, gC_39_31, gC_39_36, gC_39_37, gC_39_41, gC_39_42, gC_39_43, gC_39_44, gC_39_46, gC_39_47, gC_39_48, gC_39_49, bI_rI, bV_rV, bQ_rN, bQ_rR, bz_0, bz_1, bz_Z, hZ0, hZ1, Lay_setI, Lay_setA, hu.lay, hu.tx, hu.lw, inr_in (show x < 2 ^ 30 by omega)]
    cases inr a x <;> simp
  have f1 : fx_force t a = if inr a x = true then rI (pm t 39 21) (setI t 0 9 a) else rI (-2) t := by
    simp only [fx_force, gI_0, pI_0, rc_0, gI_1, pI_1, rc_1, ln_2, ql_2, al_3, as_3, ln_3, al_4, as_4, ln_4, gI_5, pI_5, rc_5, ln_6, ql_6, al_7, as_7, ln_7, al_8, as_8, ln_8, ln_9, ql_9, gI_10, pI_10, rc_10, al_11, as_11, ln_11, al_12, as_12, ln_12, gI_13, pI_13, rc_13, al_14, as_14, ln_14, ln_15, ql_15, gI_16, pI_16, rc_16, al_17, as_17, ln_17, al_18, as_18, ln_18, al_19, as_19, ln_19, al_20, as_20, ln_20, bl_21, bs_21, ln_21, gI_22, pI_22, rc_22, al_23, as_23, ln_23, al_24, as_24, ln_24, al_25, as_25, ln_25, gI_31, pI_31, rc_31, al_32, as_32, ln_32, gI_33, pI_33, rc_33, al_34, as_34, ln_34, gI_35, pI_35, rc_35, al_36, as_36, ln_36, gI_37, pI_37, rc_37, al_38, as_38, ln_38, gC_0_3, gC_0_4, gC_0_5, gC_0_7, gC_0_10, gC_0_11, gC_0_12, gC_0_13, gC_0_14, gC_0_15, gC_0_16, gC_0_17, gC_1_0, gC_1_2, gC_1_3, gC_5_0, gC_5_2, gC_10_0, gC_10_7, gC_13_5, gC_16_0, gC_16_2, gC_22_0, gC_22_1, gC_22_2, gC_22_3, gC_31_2, gC_33_2, gC_35_2, gC_37_2, bI_rI, bV_rV, bQ_rN, bQ_rR, bz_0, bz_1, bz_Z, hZ0, hZ1, Lay_setI, Lay_setA, hl, h.tx', h.lw', if_in3 a x rfl]
  cases c : inr a x
  · exact okr h (v := -2) (by rw [f1, c]; rfl) (by rw [f0 t h, c]; rfl)
  · obtain ⟨i, hi, rfl⟩ := inr_t c (by omega)
    rw [c, if_pos rfl] at f1
    have f2 : fm_force (setI t 0 9 (nI i)) (nI i) = rI (pm t 39 21) (setI (setI t 0 9 (nI i)) 39 21 (nI i)) := by
      have l1 : Lay (setI t 0 9 (nI i)) := hl
      have c39 : mI (setI t 0 9 (nI i)) 39 = mI t 39 := setI_ne (by decide)
      simp only [fm_force, fm_in_v, gI_39, pI_39, rc_39, al_40, as_40, ln_40, al_41, as_41, ln_41, al_42, as_42, ln_42, al_43, as_43, ln_43, al_44, as_44, ln_44, al_45, as_45, ln_45, al_46, as_46, ln_46, al_47, as_47, ln_47, al_48, as_48, ln_48, al_49, as_49, ln_49, al_50, as_50, ln_50, al_51, as_51, ln_51, al_52, as_52, ln_52, al_53, as_53, ln_53, al_54, as_54, ln_54, al_55, as_55, ln_55, al_56, as_56, ln_56, al_57, as_57, ln_57, al_58, as_58, ln_58, al_59, as_59, ln_59, al_60, as_60, ln_60, al_61, as_61, ln_61, al_62, as_62, ln_62, al_63, as_63, ln_63, al_64, as_64, ln_64, al_65, as_65, ln_65, al_66, as_66, ln_66, al_67, as_67, ln_67, gC_39_4, gC_39_5, gC_39_6, gC_39_7, gC_39_8, gC_39_10, gC_39_11, gC_39_12, gC_39_13, gC_39_15, gC_39_16, gC_39_18, gC_39_19, gC_39_27, gC_39_28, gC_39_29, gC_39_30, gC_39_31, gC_39_36, gC_39_37, gC_39_41, gC_39_42, gC_39_43, gC_39_44, gC_39_46, gC_39_47, gC_39_48, gC_39_49, bI_rI, bV_rV, bQ_rN, bQ_rR, bz_0, bz_1, bz_Z, hZ0, hZ1, Lay_setI, Lay_setA, l1, c39, h.tx, h.lw, inr_in (show x < 2 ^ 30 by omega), c, if_false, Bool.true_eq_false]
    have w : ∀ q j, pm (setI (setI t 0 9 (nI i)) 39 21 (nI i)) q j = if q = 39 ∧ j = 21 then nI i else if q = 0 ∧ j = 9 then nI i else pm t q j := by
      intro q j
      have l1 : Lay (setI t 0 9 (nI i)) := hl
      rw [pmI_39_21 l1, pmI_0_9 hl]
    have r1 : SR [0, 1, 5, 10, 13, 14, 39, 53] (pm t) (pm (setI (setI t 0 9 (nI i)) 39 21 (nI i))) := ((SR.refl _ _).st (by decide)).st (by decide)
    obtain ⟨_, ⟨a1, a2⟩, ⟨b1, b2⟩, ⟨c1, c2⟩, ⟨d1, d2⟩, ⟨e3, e4⟩, ⟨g1, g2⟩, g3, g4, g5, gl⟩ := h.num
    obtain ⟨i1, i2, i3, i4, i5, i6, ik, il, j1, j2, j3, j4, j5, j6⟩ := h.img
    refine okc f1 f2 hl (n' := n) (m' := m) (s' := s) (g' := g) (x' := x) (p' := p) ?_ rfl rfl
    refine h.num1 rfl r1 (IvN.mk hr ?_ ?_ ?_ ?_ ?_ ?_ ?_ ?_ ?_ ?_ ?_ ?_ ?_ ?_ ?_ ⟨i, hi, by simp [w]⟩) ?_ rfl rfl (Or.inl ⟨rfl, Nat.le_refl m⟩) (Or.inl ⟨rfl, rfl⟩) rfl
    any_goals (simp [w, a1, a2, b1, b2, c1, c2, d1, d2, e3, e4, g1, g2, g3, g4])
    unfold IvI
    exact ⟨by simp [w, i1], by simp [w, i2], by simp [w, i3], by simp [w, i4], by simp [w, i5], by simp [w, i6], ik, il, j1, j2, by simp [w, j3], by simp [w, j4], fun e => j5 (by simpa [w] using e), fun i hi => by simp [w, j6 i hi]⟩
/-! look -/
theorem s012 {v : Int32} : mI (setI t 0 1 v) 0 2 = mI t 0 2 := by rw [setI_I, if_neg (by decide)]
theorem s3912 {v : Int32} : mI (setI t 39 1 v) 39 2 = mI t 39 2 := by rw [setI_I, if_neg (by decide)]
theorem m1_in (b : Int32) : (decide ((-1 : Int32) ≤ b) && decide (b ≤ 1)) = true ↔ ¬ b < -1 ∧ b ≤ 1 := by
  rw [Bool.and_eq_true, decide_eq_true_eq, decide_eq_true_eq, Int32.not_lt]
theorem ok_look (h : Inv n m s g x p t) (a b : Int32) : Okk t (fun t => fx_look t a b) (fun t => fm_look t a b) := by
  have hr := h.rng
  have hl := h.lay
  cases c : inr a n
  · refine okr h (v := -5) ?_ ?_
    · simp only [fx_look, gI_0, pI_0, rc_0, gI_1, pI_1, rc_1, ln_2, ql_2, al_3, as_3, ln_3, al_4, as_4, ln_4, gI_5, pI_5, rc_5, ln_6, ql_6, al_7, as_7, ln_7, al_8, as_8, ln_8, ln_9, ql_9, gI_10, pI_10, rc_10, al_11, as_11, ln_11, al_12, as_12, ln_12, gI_13, pI_13, rc_13, al_14, as_14, ln_14, ln_15, ql_15, gI_16, pI_16, rc_16, al_17, as_17, ln_17, al_18, as_18, ln_18, al_19, as_19, ln_19, al_20, as_20, ln_20, bl_21, bs_21, ln_21, gI_22, pI_22, rc_22, al_23, as_23, ln_23, al_24, as_24, ln_24, al_25, as_25, ln_25, gI_31, pI_31, rc_31, al_32, as_32, ln_32, gI_33, pI_33, rc_33, al_34, as_34, ln_34, gI_35, pI_35, rc_35, al_36, as_36, ln_36, gI_37, pI_37, rc_37, al_38, as_38, ln_38, gC_0_3, gC_0_4, gC_0_5, gC_0_7, gC_0_10, gC_0_11, gC_0_12, gC_0_13, gC_0_14, gC_0_15, gC_0_16, gC_0_17, gC_1_0, gC_1_2, gC_1_3, gC_5_0, gC_5_2, gC_10_0, gC_10_7, gC_13_5, gC_16_0, gC_16_2, gC_22_0, gC_22_1, gC_22_2, gC_22_3, gC_31_2, gC_33_2, gC_35_2, gC_37_2, bI_rI, bV_rV, bQ_rN, bQ_rR, bz_0, bz_1, bz_Z, hZ0, hZ1, Lay_setI, Lay_setA, hl, fx_isChoice_v h, c, if_true]
    · simp only [fm_look, gI_39, pI_39, rc_39, al_40, as_40, ln_40, al_41, as_41, ln_41, al_42, as_42, ln_42, al_43, as_43, ln_43, al_44, as_44, ln_44, al_45, as_45, ln_45, al_46, as_46, ln_46, al_47, as_47, ln_47, al_48, as_48, ln_48, al_49, as_49, ln_49, al_50, as_50, ln_50, al_51, as_51, ln_51, al_52, as_52, ln_52, al_53, as_53, ln_53, al_54, as_54, ln_54, al_55, as_55, ln_55, al_56, as_56, ln_56, al_57, as_57, ln_57, al_58, as_58, ln_58, al_59, as_59, ln_59, al_60, as_60, ln_60, al_61, as_61, ln_61, al_62, as_62, ln_62, al_63, as_63, ln_63, al_64, as_64, ln_64, al_65, as_65, ln_65, al_66, as_66, ln_66, al_67, as_67, ln_67, gC_39_4, gC_39_5, gC_39_6, gC_39_7, gC_39_8, gC_39_10, gC_39_11, gC_39_12, gC_39_13, gC_39_15, gC_39_16, gC_39_18, gC_39_19, gC_39_27, gC_39_28, gC_39_29, gC_39_30, gC_39_31, gC_39_36, gC_39_37, gC_39_41, gC_39_42, gC_39_43, gC_39_44, gC_39_46, gC_39_47, gC_39_48, gC_39_49, bI_rI, bV_rV, bQ_rN, bQ_rR, bz_0, bz_1, bz_Z, hZ0, hZ1, Lay_setI, Lay_setA, hl, fm_isChoice_v h, c, if_true]
  · obtain ⟨i, hi, rfl⟩ := inr_t c (by omega)
    by_cases cb : ¬ b < -1 ∧ b ≤ 1
    · have cin := (m1_in b).mpr cb
      have f1 : fx_look t (nI i) b = rI (if bt (pm t 39 1) i = true then bz (bt (pm t 39 2) i) else -1)
          (setI (setI t 0 1 (if 0 ≤ b then pm t 39 1 ||| ((1 : Int32) <<< (nI i &&& 31)) else pm t 39 1 &&& (((1 : Int32) <<< (nI i &&& 31)) ^^^ (-1)))) 0 2 (if b = 1 then pm t 39 2 ||| ((1 : Int32) <<< (nI i &&& 31)) else pm t 39 2 &&& (((1 : Int32) <<< (nI i &&& 31)) ^^^ (-1)))) := by
        simp only [fx_look, gI_0, pI_0, rc_0, gI_1, pI_1, rc_1, ln_2, ql_2, al_3, as_3, ln_3, al_4, as_4, ln_4, gI_5, pI_5, rc_5, ln_6, ql_6, al_7, as_7, ln_7, al_8, as_8, ln_8, ln_9, ql_9, gI_10, pI_10, rc_10, al_11, as_11, ln_11, al_12, as_12, ln_12, gI_13, pI_13, rc_13, al_14, as_14, ln_14, ln_15, ql_15, gI_16, pI_16, rc_16, al_17, as_17, ln_17, al_18, as_18, ln_18, al_19, as_19, ln_19, al_20, as_20, ln_20, bl_21, bs_21, ln_21, gI_22, pI_22, rc_22, al_23, as_23, ln_23, al_24, as_24, ln_24, al_25, as_25, ln_25, gI_31, pI_31, rc_31, al_32, as_32, ln_32, gI_33, pI_33, rc_33, al_34, as_34, ln_34, gI_35, pI_35, rc_35, al_36, as_36, ln_36, gI_37, pI_37, rc_37, al_38, as_38, ln_38, gC_0_3, gC_0_4, gC_0_5, gC_0_7, gC_0_10, gC_0_11, gC_0_12, gC_0_13, gC_0_14, gC_0_15, gC_0_16, gC_0_17, gC_1_0, gC_1_2, gC_1_3, gC_5_0, gC_5_2, gC_10_0, gC_10_7, gC_13_5, gC_16_0, gC_16_2, gC_22_0, gC_22_1, gC_22_2, gC_22_3, gC_31_2, gC_33_2, gC_35_2, gC_37_2, bI_rI, bV_rV, bQ_rN, bQ_rR, bz_0, bz_1, bz_Z, hZ0, hZ1, Lay_setI, Lay_setA, hl, fx_isChoice_v h, c, if_false, Bool.true_eq_false, cb.1, cb.2, if_true, h.sn', hasChoice_v, b_bit _ (show i < 32 by omega), s012, h.so']
        cases bt (pm t 39 1) i
        · by_cases e1 : (0 : Int32) ≤ b
          · by_cases e2 : b = 1 <;> simp [e1, e2]
          · by_cases e2 : b = 1 <;> simp [e1, e2]
        · by_cases e1 : (0 : Int32) ≤ b
          · by_cases e2 : b = 1 <;> simp [e1, e2]
          · by_cases e2 : b = 1 <;> simp [e1, e2]
      generalize hS : (if 0 ≤ b then pm t 39 1 ||| ((1 : Int32) <<< (nI i &&& 31)) else pm t 39 1 &&& (((1 : Int32) <<< (nI i &&& 31)) ^^^ (-1))) = S at f1
      generalize hO : (if b = 1 then pm t 39 2 ||| ((1 : Int32) <<< (nI i &&& 31)) else pm t 39 2 &&& (((1 : Int32) <<< (nI i &&& 31)) ^^^ (-1))) = O at f1
      have l1 : Lay (setI (setI t 0 1 S) 0 2 O) := hl
      have c39 : mI (setI (setI t 0 1 S) 0 2 O) 39 = mI t 39 := by rw [setI_ne (by decide), setI_ne (by decide)]
      have f2 : fm_look (setI (setI t 0 1 S) 0 2 O) (nI i) b = rI (if bt (pm t 39 1) i = true then bz (bt (pm t 39 2) i) else -1) (setI (setI (setI (setI t 0 1 S) 0 2 O) 39 1 S) 39 2 O) := by
        simp only [fm_look, fm_isChoice, fm_in_v, gI_39, pI_39, rc_39, al_40, as_40, ln_40, al_41, as_41, ln_41, al_42, as_42, ln_42, al_43, as_43, ln_43, al_44, as_44, ln_44, al_45, as_45, ln_45, al_46, as_46, ln_46, al_47, as_47, ln_47, al_48, as_48, ln_48, al_49, as_49, ln_49, al_50, as_50, ln_50, al_51, as_51, ln_51, al_52, as_52, ln_52, al_53, as_53, ln_53, al_54, as_54, ln_54, al_55, as_55, ln_55, al_56, as_56, ln_56, al_57, as_57, ln_57, al_58, as_58, ln_58, al_59, as_59, ln_59, al_60, as_60, ln_60, al_61, as_61, ln_61, al_62, as_62, ln_62, al_63, as_63, ln_63, al_64, as_64, ln_64, al_65, as_65, ln_65, al_66, as_66, ln_66, al_67, as_67, ln_67, gC_39_4, gC_39_5, gC_39_6, gC_39_7, gC_39_8, gC_39_10, gC_39_11, gC_39_12, gC_39_13, gC_39_15, gC_39_16, gC_39_18, gC_39_19, gC_39_27, gC_39_28, gC_39_29, gC_39_30, gC_39_31, gC_39_36, gC_39_37, gC_39_41, gC_39_42, gC_39_43, gC_39_44, gC_39_46, gC_39_47, gC_39_48, gC_39_49, bI_rI, bV_rV, bQ_rN, bQ_rR, bz_0, bz_1, bz_Z, hZ0, hZ1, Lay_setI, Lay_setA, l1, c39, h.ch, inr_in (show n < 2 ^ 30 by omega), c, cin, if_false, Bool.true_eq_false, h.sn, h.so, b_bit _ (show i < 32 by omega), s3912]
        rw [← hS, ← hO]
        cases bt (pm t 39 1) i
        · by_cases e1 : (0 : Int32) ≤ b
          · by_cases e2 : b = 1 <;> simp [e1, e2]
          · by_cases e2 : b = 1 <;> simp [e1, e2]
        · by_cases e1 : (0 : Int32) ≤ b
          · by_cases e2 : b = 1 <;> simp [e1, e2]
          · by_cases e2 : b = 1 <;> simp [e1, e2]
      have w : ∀ q j, pm (setI (setI (setI (setI t 0 1 S) 0 2 O) 39 1 S) 39 2 O) q j = if q = 39 ∧ j = 2 then O else if q = 39 ∧ j = 1 then S else if q = 0 ∧ j = 2 then O else if q = 0 ∧ j = 1 then S else pm t q j := by
        intro q j
        have l2 : Lay (setI (setI (setI t 0 1 S) 0 2 O) 39 1 S) := hl
        have l3 : Lay (setI t 0 1 S) := hl
        rw [pmI_39_2 l2, pmI_39_1 l1, pmI_0_2 l3, pmI_0_1 hl]
      have r1 : SR [0, 1, 5, 10, 13, 14, 39, 53] (pm t) (pm (setI (setI (setI (setI t 0 1 S) 0 2 O) 39 1 S) 39 2 O)) := ((((SR.refl _ _).st (by decide)).st (by decide)).st (by decide)).st (by decide)
      obtain ⟨_, ⟨a1, a2⟩, ⟨b1, b2⟩, ⟨c1, c2⟩, ⟨d1, d2⟩, ⟨e3, e4⟩, ⟨g1, g2⟩, g3, g4, g5, gl1, gl2, gl3⟩ := h.num
      obtain ⟨i1, i2, i3, i4, i5, i6, ik, il, j1, j2, j3, j4, j5, j6⟩ := h.img
      refine okc f1 f2 hl (n' := n) (m' := m) (s' := s) (g' := g) (x' := x) (p' := p) ?_ rfl rfl
      refine h.num1 rfl r1 (IvN.mk hr ?_ ?_ ?_ ?_ ?_ ?_ ?_ ?_ ?_ ?_ ?_ ?_ ?_ ?_ ?_ ⟨gl1, gl2, by simp [w, gl3]⟩) ?_ rfl rfl (Or.inl ⟨rfl, Nat.le_refl m⟩) (Or.inl ⟨rfl, rfl⟩) rfl
      any_goals (simp [w, a1, a2, b1, b2, c1, c2, d1, d2, e3, e4, g1, g2, g5])
      unfold IvI
      exact ⟨by simp [w, i1], by simp [w, i2], by simp [w, i3], by simp [w, i4], by simp [w, i5], by simp [w, i6], ik, il, j1, j2, by simp [w, j3], by simp [w, j4], fun e => j5 (by simpa [w] using e), fun i hi => by simp [w, j6 i hi]⟩
    · have cin : (decide ((-1 : Int32) ≤ b) && decide (b ≤ 1)) = false := by
        cases z : (decide ((-1 : Int32) ≤ b) && decide (b ≤ 1)) with
        | false => rfl
        | true => exact absurd ((m1_in b).mp z) cb
      refine okr h (v := -7) ?_ ?_
      · simp only [fx_look, gI_0, pI_0, rc_0, gI_1, pI_1, rc_1, ln_2, ql_2, al_3, as_3, ln_3, al_4, as_4, ln_4, gI_5, pI_5, rc_5, ln_6, ql_6, al_7, as_7, ln_7, al_8, as_8, ln_8, ln_9, ql_9, gI_10, pI_10, rc_10, al_11, as_11, ln_11, al_12, as_12, ln_12, gI_13, pI_13, rc_13, al_14, as_14, ln_14, ln_15, ql_15, gI_16, pI_16, rc_16, al_17, as_17, ln_17, al_18, as_18, ln_18, al_19, as_19, ln_19, al_20, as_20, ln_20, bl_21, bs_21, ln_21, gI_22, pI_22, rc_22, al_23, as_23, ln_23, al_24, as_24, ln_24, al_25, as_25, ln_25, gI_31, pI_31, rc_31, al_32, as_32, ln_32, gI_33, pI_33, rc_33, al_34, as_34, ln_34, gI_35, pI_35, rc_35, al_36, as_36, ln_36, gI_37, pI_37, rc_37, al_38, as_38, ln_38, gC_0_3, gC_0_4, gC_0_5, gC_0_7, gC_0_10, gC_0_11, gC_0_12, gC_0_13, gC_0_14, gC_0_15, gC_0_16, gC_0_17, gC_1_0, gC_1_2, gC_1_3, gC_5_0, gC_5_2, gC_10_0, gC_10_7, gC_13_5, gC_16_0, gC_16_2, gC_22_0, gC_22_1, gC_22_2, gC_22_3, gC_31_2, gC_33_2, gC_35_2, gC_37_2, bI_rI, bV_rV, bQ_rN, bQ_rR, bz_0, bz_1, bz_Z, hZ0, hZ1, Lay_setI, Lay_setA, hl, fx_isChoice_v h, c, if_false, Bool.true_eq_false]
        by_cases e1 : b < -1
        · rw [if_pos e1]
        · rw [if_neg e1, if_neg (fun e2 => cb ⟨e1, e2⟩)]
      · simp only [fm_look, fm_in_v, gI_39, pI_39, rc_39, al_40, as_40, ln_40, al_41, as_41, ln_41, al_42, as_42, ln_42, al_43, as_43, ln_43, al_44, as_44, ln_44, al_45, as_45, ln_45, al_46, as_46, ln_46, al_47, as_47, ln_47, al_48, as_48, ln_48, al_49, as_49, ln_49, al_50, as_50, ln_50, al_51, as_51, ln_51, al_52, as_52, ln_52, al_53, as_53, ln_53, al_54, as_54, ln_54, al_55, as_55, ln_55, al_56, as_56, ln_56, al_57, as_57, ln_57, al_58, as_58, ln_58, al_59, as_59, ln_59, al_60, as_60, ln_60, al_61, as_61, ln_61, al_62, as_62, ln_62, al_63, as_63, ln_63, al_64, as_64, ln_64, al_65, as_65, ln_65, al_66, as_66, ln_66, al_67, as_67, ln_67, gC_39_4, gC_39_5, gC_39_6, gC_39_7, gC_39_8, gC_39_10, gC_39_11, gC_39_12, gC_39_13, gC_39_15, gC_39_16, gC_39_18, gC_39_19, gC_39_27, gC_39_28, gC_39_29, gC_39_30, gC_39_31, gC_39_36, gC_39_37, gC_39_41, gC_39_42, gC_39_43, gC_39_44, gC_39_46, gC_39_47, gC_39_48, gC_39_49, bI_rI, bV_rV, bQ_rN, bQ_rR, bz_0, bz_1, bz_Z, hZ0, hZ1, Lay_setI, Lay_setA, hl, fm_isChoice_v h, c, if_false, Bool.true_eq_false, cin, if_true]
/-! goer -/
theorem ok_goer (h : Inv n m s g x p t) (a : Int32) : Okk t (fun t => fx_goer t a) (fun t => fm_goer t a) := by
  have hr := h.rng
  have hl := h.lay
  cases c : twB a
  · refine okr h (v := -2) ?_ ?_
    · simp only [fx_goer, fx_isTwo_v, bI_rI, bz_0, c, if_true]
    · simp only [fm_goer, fm_areTwo_v, bI_rI, bz_0, c, if_true]
  · obtain ⟨i, j, hi, hj, ea⟩ := twB_t c
    have z1 : (nI g < 6) = (g < 6) := propext (nI_ltI (b := 6) (by omega) (by decide))
    have z2 : (nI g = 6) = (g = 6) := propext (nI_eq (b := 6) (by omega) (by decide))
    by_cases cg : g < 6
    · have q1 : mI (setI t 8 g a) 0 6 = nI g := by rw [setI_ne (by decide)]; exact h.go'
      have q2 : mI (setI (setI t 8 g a) 0 6 (nI (g + 1))) 0 6 = nI (g + 1) := setI_eq rfl rfl
      have f1 : fx_goer t a = rI (nI g) (setI (setI t 8 g a) 0 6 (nI (g + 1))) := by
        simp only [fx_goer, fx_isTwo_v, bI_rI, bz_0, c, if_false, Bool.true_eq_false, gI_0, pI_0, rc_0, gI_1, pI_1, rc_1, ln_2, ql_2, al_3, as_3, ln_3, al_4, as_4, ln_4, gI_5, pI_5, rc_5, ln_6, ql_6, al_7, as_7, ln_7, al_8, as_8, ln_8, ln_9, ql_9, gI_10, pI_10, rc_10, al_11, as_11, ln_11, al_12, as_12, ln_12, gI_13, pI_13, rc_13, al_14, as_14, ln_14, ln_15, ql_15, gI_16, pI_16, rc_16, al_17, as_17, ln_17, al_18, as_18, ln_18, al_19, as_19, ln_19, al_20, as_20, ln_20, bl_21, bs_21, ln_21, gI_22, pI_22, rc_22, al_23, as_23, ln_23, al_24, as_24, ln_24, al_25, as_25, ln_25, gI_31, pI_31, rc_31, al_32, as_32, ln_32, gI_33, pI_33, rc_33, al_34, as_34, ln_34, gI_35, pI_35, rc_35, al_36, as_36, ln_36, gI_37, pI_37, rc_37, al_38, as_38, ln_38, gC_0_3, gC_0_4, gC_0_5, gC_0_7, gC_0_10, gC_0_11, gC_0_12, gC_0_13, gC_0_14, gC_0_15, gC_0_16, gC_0_17, gC_1_0, gC_1_2, gC_1_3, gC_5_0, gC_5_2, gC_10_0, gC_10_7, gC_13_5, gC_16_0, gC_16_2, gC_22_0, gC_22_1, gC_22_2, gC_22_3, gC_31_2, gC_33_2, gC_35_2, gC_37_2, bI_rI, bV_rV, bQ_rN, bQ_rR, bz_0, bz_1, bz_Z, hZ0, hZ1, Lay_setI, Lay_setA, hl, h.go', z1, cg, if_true, q1, nI_1, q2, nI_pred]
      have l1 : Lay (setI (setI t 8 g a) 0 6 (nI (g + 1))) := hl
      have c39 : mI (setI (setI t 8 g a) 0 6 (nI (g + 1))) 39 = mI t 39 := by rw [setI_ne (by decide), setI_ne (by decide)]
      have q3 : mI (setI (setI (setI t 8 g a) 0 6 (nI (g + 1))) 49 g a) 39 14 = nI g := by rw [setI_ne (by decide), c39]; exact h.go
      have q4 : mI (setI (setI (setI (setI t 8 g a) 0 6 (nI (g + 1))) 49 g a) 39 14 (nI (g + 1))) 39 14 = nI (g + 1) := setI_eq rfl rfl
      have cg2 : ¬ g = 6 := by omega
      have f2 : fm_goer (setI (setI t 8 g a) 0 6 (nI (g + 1))) a = rI (nI g) (setI (setI (setI (setI t 8 g a) 0 6 (nI (g + 1))) 49 g a) 39 14 (nI (g + 1))) := by
        simp only [fm_goer, fm_areTwo_v, bI_rI, bz_0, c, if_false, Bool.true_eq_false, gI_39, pI_39, rc_39, al_40, as_40, ln_40, al_41, as_41, ln_41, al_42, as_42, ln_42, al_43, as_43, ln_43, al_44, as_44, ln_44, al_45, as_45, ln_45, al_46, as_46, ln_46, al_47, as_47, ln_47, al_48, as_48, ln_48, al_49, as_49, ln_49, al_50, as_50, ln_50, al_51, as_51, ln_51, al_52, as_52, ln_52, al_53, as_53, ln_53, al_54, as_54, ln_54, al_55, as_55, ln_55, al_56, as_56, ln_56, al_57, as_57, ln_57, al_58, as_58, ln_58, al_59, as_59, ln_59, al_60, as_60, ln_60, al_61, as_61, ln_61, al_62, as_62, ln_62, al_63, as_63, ln_63, al_64, as_64, ln_64, al_65, as_65, ln_65, al_66, as_66, ln_66, al_67, as_67, ln_67, gC_39_4, gC_39_5, gC_39_6, gC_39_7, gC_39_8, gC_39_10, gC_39_11, gC_39_12, gC_39_13, gC_39_15, gC_39_16, gC_39_18, gC_39_19, gC_39_27, gC_39_28, gC_39_29, gC_39_30, gC_39_31, gC_39_36, gC_39_37, gC_39_41, gC_39_42, gC_39_43, gC_39_44, gC_39_46, gC_39_47, gC_39_48, gC_39_49, bI_rI, bV_rV, bQ_rN, bQ_rR, bz_0, bz_1, bz_Z, hZ0, hZ1, Lay_setI, Lay_setA, l1, c39, h.go, z2, cg2, cg, q3, nI_1, q4, nI_pred]
      have w : ∀ q k, pm (setI (setI (setI (setI t 8 g a) 0 6 (nI (g + 1))) 49 g a) 39 14 (nI (g + 1))) q k = if q = 39 ∧ k = 14 then nI (g + 1) else if q = 49 ∧ k = g then a else if q = 0 ∧ k = 6 then nI (g + 1) else if q = 8 ∧ k = g then a else pm t q k := by
        intro q k
        have l2 : Lay (setI (setI (setI t 8 g a) 0 6 (nI (g + 1))) 49 g a) := hl
        have l3 : Lay (setI t 8 g a) := hl
        rw [pmI_39_14 l2, pmI_49_r l1, pmI_0_6 l3, pmI_8_r hl]
      have r1 : SR [0, 8, 39, 49] (pm t) (pm (setI (setI (setI (setI t 8 g a) 0 6 (nI (g + 1))) 49 g a) 39 14 (nI (g + 1)))) := ((((SR.refl _ _).st (by decide)).st (by decide)).st (by decide)).st (by decide)
      obtain ⟨_, ⟨a1, a2⟩, ⟨b1, b2⟩, ⟨c1, c2⟩, ⟨d1, d2⟩, ⟨e3, e4⟩, ⟨g1, g2⟩, g3, g4, g5, gl1, gl2, gl3⟩ := h.num
      obtain ⟨i1, i2, i3, i4, i5, i6, ik, il, j1, j2, j3, j4, j5, j6⟩ := h.img
      refine okc f1 f2 hl (n' := n) (m' := m) (s' := s) (g' := g + 1) (x' := x) (p' := p) ?_ rfl rfl
      refine h.asm rfl (r1.up (by decide)) (IvN.mk ⟨hr.1, hr.2.1, hr.2.2.1, by omega, hr.2.2.2.2⟩ ?_ ?_ ?_ ?_ ?_ ?_ ?_ ?_ ?_ ?_ ?_ ?_ ?_ ?_ ?_ ⟨gl1, gl2, by simp [w, gl3]⟩) ?_ (h.tap.c r1 (by decide) (by decide)) ?_ (h.shs.c r1 (fun k a b hm => by simp at hm; omega) (by decide) (by decide) (by decide))
      any_goals (simp [w, a1, a2, b1, b2, c1, c2, d1, d2, e3, e4, g1, g2, g3, g4, g5]; done)
      · intro k hk
        by_cases e : k = g
        · refine ⟨by simp [w, e], i, j, hi, hj, by rw [w]; simp [e]; exact ea⟩
        · obtain ⟨v1, v2⟩ := h.gos k (by omega)
          exact ⟨by simp [w, e, v1], by simpa [w, e] using v2⟩
      · unfold IvI
        exact ⟨by simp [w, i1], by simp [w, i2], by simp [w, i3], by simp [w, i4], by simp [w, i5], by simp [w, i6], ik, il, j1, j2, by simp [w, j3], by simp [w, j4], fun e => j5 (by simpa [w] using e), fun i hi => by simp [w, j6 i hi]⟩
    · refine okr h (v := -4) ?_ ?_
      · simp only [fx_goer, fx_isTwo_v, bI_rI, bz_0, c, if_false, Bool.true_eq_false, gI_0, pI_0, rc_0, gI_1, pI_1, rc_1, ln_2, ql_2, al_3, as_3, ln_3, al_4, as_4, ln_4, gI_5, pI_5, rc_5, ln_6, ql_6, al_7, as_7, ln_7, al_8, as_8, ln_8, ln_9, ql_9, gI_10, pI_10, rc_10, al_11, as_11, ln_11, al_12, as_12, ln_12, gI_13, pI_13, rc_13, al_14, as_14, ln_14, ln_15, ql_15, gI_16, pI_16, rc_16, al_17, as_17, ln_17, al_18, as_18, ln_18, al_19, as_19, ln_19, al_20, as_20, ln_20, bl_21, bs_21, ln_21, gI_22, pI_22, rc_22, al_23, as_23, ln_23, al_24, as_24, ln_24, al_25, as_25, ln_25, gI_31, pI_31, rc_31, al_32, as_32, ln_32, gI_33, pI_33, rc_33, al_34, as_34, ln_34, gI_35, pI_35, rc_35, al_36, as_36, ln_36, gI_37, pI_37, rc_37, al_38, as_38, ln_38, gC_0_3, gC_0_4, gC_0_5, gC_0_7, gC_0_10, gC_0_11, gC_0_12, gC_0_13, gC_0_14, gC_0_15, gC_0_16, gC_0_17, gC_1_0, gC_1_2, gC_1_3, gC_5_0, gC_5_2, gC_10_0, gC_10_7, gC_13_5, gC_16_0, gC_16_2, gC_22_0, gC_22_1, gC_22_2, gC_22_3, gC_31_2, gC_33_2, gC_35_2, gC_37_2, bI_rI, bV_rV, bQ_rN, bQ_rR, bz_0, bz_1, bz_Z, hZ0, hZ1, Lay_setI, Lay_setA, hl, h.go', z1, cg]
      · have e6 : nI g = 6 := by rw [show g = 6 by omega]; rfl
        simp only [fm_goer, fm_areTwo_v, bI_rI, bz_0, c, if_false, Bool.true_eq_false, gI_39, pI_39, rc_39, al_40, as_40, ln_40, al_41, as_41, ln_41, al_42, as_42, ln_42, al_43, as_43, ln_43, al_44, as_44, ln_44, al_45, as_45, ln_45, al_46, as_46, ln_46, al_47, as_47, ln_47, al_48, as_48, ln_48, al_49, as_49, ln_49, al_50, as_50, ln_50, al_51, as_51, ln_51, al_52, as_52, ln_52, al_53, as_53, ln_53, al_54, as_54, ln_54, al_55, as_55, ln_55, al_56, as_56, ln_56, al_57, as_57, ln_57, al_58, as_58, ln_58, al_59, as_59, ln_59, al_60, as_60, ln_60, al_61, as_61, ln_61, al_62, as_62, ln_62, al_63, as_63, ln_63, al_64, as_64, ln_64, al_65, as_65, ln_65, al_66, as_66, ln_66, al_67, as_67, ln_67, gC_39_4, gC_39_5, gC_39_6, gC_39_7, gC_39_8, gC_39_10, gC_39_11, gC_39_12, gC_39_13, gC_39_15, gC_39_16, gC_39_18, gC_39_19, gC_39_27, gC_39_28, gC_39_29, gC_39_30, gC_39_31, gC_39_36, gC_39_37, gC_39_41, gC_39_42, gC_39_43, gC_39_44, gC_39_46, gC_39_47, gC_39_48, gC_39_49, bI_rI, bV_rV, bQ_rN, bQ_rR, bz_0, bz_1, bz_Z, hZ0, hZ1, Lay_setI, Lay_setA, hl, h.go]
        rw [if_pos e6]
/-! drop -/
theorem shrinkTo_v {k : Nat} (hl : Lay t) (h1 : mI t 1 1 = nI m) (hm : m ≤ 8) (hk : k ≤ 8) : fAt_shrinkTo t (nI k) = rV (setI t 1 1 (nI (if k < m then k else m))) := by
  have z1 : (nI k < nI m) = (k < m) := propext (nI_ltI (by omega) (by omega))
  simp only [fAt_shrinkTo, gI_0, pI_0, rc_0, gI_1, pI_1, rc_1, ln_2, ql_2, al_3, as_3, ln_3, al_4, as_4, ln_4, gI_5, pI_5, rc_5, ln_6, ql_6, al_7, as_7, ln_7, al_8, as_8, ln_8, ln_9, ql_9, gI_10, pI_10, rc_10, al_11, as_11, ln_11, al_12, as_12, ln_12, gI_13, pI_13, rc_13, al_14, as_14, ln_14, ln_15, ql_15, gI_16, pI_16, rc_16, al_17, as_17, ln_17, al_18, as_18, ln_18, al_19, as_19, ln_19, al_20, as_20, ln_20, bl_21, bs_21, ln_21, gI_22, pI_22, rc_22, al_23, as_23, ln_23, al_24, as_24, ln_24, al_25, as_25, ln_25, gI_31, pI_31, rc_31, al_32, as_32, ln_32, gI_33, pI_33, rc_33, al_34, as_34, ln_34, gI_35, pI_35, rc_35, al_36, as_36, ln_36, gI_37, pI_37, rc_37, al_38, as_38, ln_38, gC_0_3, gC_0_4, gC_0_5, gC_0_7, gC_0_10, gC_0_11, gC_0_12, gC_0_13, gC_0_14, gC_0_15, gC_0_16, gC_0_17, gC_1_0, gC_1_2, gC_1_3, gC_5_0, gC_5_2, gC_10_0, gC_10_7, gC_13_5, gC_16_0, gC_16_2, gC_22_0, gC_22_1, gC_22_2, gC_22_3, gC_31_2, gC_33_2, gC_35_2, gC_37_2, bI_rI, bV_rV, bQ_rN, bQ_rR, bz_0, bz_1, bz_Z, hZ0, hZ1, Lay_setI, Lay_setA, hl, h1, fjM_min_v, fjM_max_v, z1]
  congr 2
  by_cases c : k < m
  · rw [if_pos c, if_pos c]
    by_cases c0 : k = 0
    · subst c0; rfl
    · rw [if_pos (show (0 : Int32) < nI k from nI_lt (a := 0) (by omega) (by omega))]
  · rw [if_neg c, if_neg c]
    by_cases c0 : m = 0
    · subst c0; rfl
    · rw [if_pos (show (0 : Int32) < nI m from nI_lt (a := 0) (by omega) (by omega))]
theorem ok_drop (h : Inv n m s g x p t) : Okk t (fun t => fx_drop t) (fun t => fm_drop t) := by
  have hr := h.rng
  have hl := h.lay
  have z0 : (nI m = 0) = (m = 0) := propext (nI_eq (b := 0) (by omega) (by decide))
  by_cases cm : m = 0
  · refine okr h (v := -3) ?_ ?_
    · simp only [fx_drop, gI_0, pI_0, rc_0, gI_1, pI_1, rc_1, ln_2, ql_2, al_3, as_3, ln_3, al_4, as_4, ln_4, gI_5, pI_5, rc_5, ln_6, ql_6, al_7, as_7, ln_7, al_8, as_8, ln_8, ln_9, ql_9, gI_10, pI_10, rc_10, al_11, as_11, ln_11, al_12, as_12, ln_12, gI_13, pI_13, rc_13, al_14, as_14, ln_14, ln_15, ql_15, gI_16, pI_16, rc_16, al_17, as_17, ln_17, al_18, as_18, ln_18, al_19, as_19, ln_19, al_20, as_20, ln_20, bl_21, bs_21, ln_21, gI_22, pI_22, rc_22, al_23, as_23, ln_23, al_24, as_24, ln_24, al_25, as_25, ln_25, gI_31, pI_31, rc_31, al_32, as_32, ln_32, gI_33, pI_33, rc_33, al_34, as_34, ln_34, gI_35, pI_35, rc_35, al_36, as_36, ln_36, gI_37, pI_37, rc_37, al_38, as_38, ln_38, gC_0_3, gC_0_4, gC_0_5, gC_0_7, gC_0_10, gC_0_11, gC_0_12, gC_0_13, gC_0_14, gC_0_15, gC_0_16, gC_0_17, gC_1_0, gC_1_2, gC_1_3, gC_5_0, gC_5_2, gC_10_0, gC_10_7, gC_13_5, gC_16_0, gC_16_2, gC_22_0, gC_22_1, gC_22_2, gC_22_3, gC_31_2, gC_33_2, gC_35_2, gC_37_2, bI_rI, bV_rV, bQ_rN, bQ_rR, bz_0, bz_1, bz_Z, hZ0, hZ1, Lay_setI, Lay_setA, hl, h.mp']
      rw [if_pos (show nI m = 0 by rw [cm]; rfl)]
    · simp only [fm_drop, gI_39, pI_39, rc_39, al_40, as_40, ln_40, al_41, as_41, ln_41, al_42, as_42, ln_42, al_43, as_43, ln_43, al_44, as_44, ln_44, al_45, as_45, ln_45, al_46, as_46, ln_46, al_47, as_47, ln_47, al_48, as_48, ln_48, al_49, as_49, ln_49, al_50, as_50, ln_50, al_51, as_51, ln_51, al_52, as_52, ln_52, al_53, as_53, ln_53, al_54, as_54, ln_54, al_55, as_55, ln_55, al_56, as_56, ln_56, al_57, as_57, ln_57, al_58, as_58, ln_58, al_59, as_59, ln_59, al_60, as_60, ln_60, al_61, as_61, ln_61, al_62, as_62, ln_62, al_63, as_63, ln_63, al_64, as_64, ln_64, al_65, as_65, ln_65, al_66, as_66, ln_66, al_67, as_67, ln_67, gC_39_4, gC_39_5, gC_39_6, gC_39_7, gC_39_8, gC_39_10, gC_39_11, gC_39_12, gC_39_13, gC_39_15, gC_39_16, gC_39_18, gC_39_19, gC_39_27, gC_39_28, gC_39_29, gC_39_30, gC_39_31, gC_39_36, gC_39_37, gC_39_41, gC_39_42, gC_39_43, gC_39_44, gC_39_46, gC_39_47, gC_39_48, gC_39_49, bI_rI, bV_rV, bQ_rN, bQ_rR, bz_0, bz_1, bz_Z, hZ0, hZ1, Lay_setI, Lay_setA, hl, h.mp]
      rw [if_pos (show nI m = 0 by rw [cm]; rfl)]
  · obtain ⟨m, rfl⟩ : ∃ k, m = k + 1 := ⟨m - 1, by omega⟩
    obtain ⟨_, ⟨a1, a2⟩, ⟨b1, b2⟩, ⟨c1, c2⟩, ⟨d1, d2⟩, ⟨e3, e4⟩, ⟨g1, g2⟩, g3, g4, g5, gl1, gl2, gl3⟩ := h.num
    obtain ⟨i1, i2, i3, i4, i5, i6, ik, il, j1, j2, j3, j4, j5, j6⟩ := h.img
    have l1 : Lay (setI t 1 1 (nI m)) := hl
    have es : (if m < m + 1 then m else m + 1) = m := if_pos (by omega)
    have q0 : fAt_shrinkTo t (nI m) = rV (setI t 1 1 (nI m)) := by rw [shrinkTo_v hl h.mp' (by omega) (by omega), es]
    have q1 : mI (setI t 1 1 (nI m)) 13 4 = nI ik := by rw [setI_ne (by decide), pm_fx hl rfl rfl, i6, j3]
    have q2 : mI (setI t 1 1 (nI m)) 1 1 = nI m := setI_eq rfl rfl
    have z1 : (nI ik ≤ nI m) = (ik ≤ m) := propext (nI_leI (by omega) (by omega))
    have z2 : (nI m < nI ik) = (m < ik) := propext (nI_ltI (by omega) (by omega))
    have q3 : mI (setI (setI t 1 1 (nI m)) 13 0 0) 1 1 = nI m := by rw [setI_ne (by decide)]; exact q2
    by_cases ck : ik ≤ m
    · have f1 : fx_drop t = rI (nI m) (setI t 1 1 (nI m)) := by
        simp only [fx_drop, gI_0, pI_0, rc_0, gI_1, pI_1, rc_1, ln_2, ql_2, al_3, as_3, ln_3, al_4, as_4, ln_4, gI_5, pI_5, rc_5, ln_6, ql_6, al_7, as_7, ln_7, al_8, as_8, ln_8, ln_9, ql_9, gI_10, pI_10, rc_10, al_11, as_11, ln_11, al_12, as_12, ln_12, gI_13, pI_13, rc_13, al_14, as_14, ln_14, ln_15, ql_15, gI_16, pI_16, rc_16, al_17, as_17, ln_17, al_18, as_18, ln_18, al_19, as_19, ln_19, al_20, as_20, ln_20, bl_21, bs_21, ln_21, gI_22, pI_22, rc_22, al_23, as_23, ln_23, al_24, as_24, ln_24, al_25, as_25, ln_25, gI_31, pI_31, rc_31, al_32, as_32, ln_32, gI_33, pI_33, rc_33, al_34, as_34, ln_34, gI_35, pI_35, rc_35, al_36, as_36, ln_36, gI_37, pI_37, rc_37, al_38, as_38, ln_38, gC_0_3, gC_0_4, gC_0_5, gC_0_7, gC_0_10, gC_0_11, gC_0_12, gC_0_13, gC_0_14, gC_0_15, gC_0_16, gC_0_17, gC_1_0, gC_1_2, gC_1_3, gC_5_0, gC_5_2, gC_10_0, gC_10_7, gC_13_5, gC_16_0, gC_16_2, gC_22_0, gC_22_1, gC_22_2, gC_22_3, gC_31_2, gC_33_2, gC_35_2, gC_37_2, bI_rI, bV_rV, bQ_rN, bQ_rR, bz_0, bz_1, bz_Z, hZ0, hZ1, Lay_setI, Lay_setA, hl, h.mp', z0, cm, if_false, nI_pred, q0, l1, q1, q2, z1, ck, if_true]
      have c39 : mI (setI t 1 1 (nI m)) 39 = mI t 39 := setI_ne (by decide)
      have p0 : mI (setI (setI t 1 1 (nI m)) 39 3 (nI m)) 39 22 = pm t 39 22 := by rw [setI_I, if_neg (by decide), c39, pm_fx hl rfl rfl]
      have p1 : mI (setI (setI t 1 1 (nI m)) 39 3 (nI m)) 39 25 = nI ik := by rw [setI_I, if_neg (by decide), c39, pm_fx hl rfl rfl, j3]
      have p2 : mI (setI (setI t 1 1 (nI m)) 39 3 (nI m)) 39 3 = nI m := setI_eq rfl rfl
      have p3 : ∀ v, mI (setI (setI (setI t 1 1 (nI m)) 39 3 (nI m)) 39 22 v) 39 3 = nI m := fun v => by rw [setI_I, if_neg (by decide)]; exact p2
      have ck2 : ¬ m < ik := by omega
      have f2 : fm_drop (setI t 1 1 (nI m)) = rI (nI m) (setI (setI (setI t 1 1 (nI m)) 39 3 (nI m)) 39 22 (pm t 39 22)) := by
        simp only [fm_drop, gI_39, pI_39, rc_39, al_40, as_40, ln_40, al_41, as_41, ln_41, al_42, as_42, ln_42, al_43, as_43, ln_43, al_44, as_44, ln_44, al_45, as_45, ln_45, al_46, as_46, ln_46, al_47, as_47, ln_47, al_48, as_48, ln_48, al_49, as_49, ln_49, al_50, as_50, ln_50, al_51, as_51, ln_51, al_52, as_52, ln_52, al_53, as_53, ln_53, al_54, as_54, ln_54, al_55, as_55, ln_55, al_56, as_56, ln_56, al_57, as_57, ln_57, al_58, as_58, ln_58, al_59, as_59, ln_59, al_60, as_60, ln_60, al_61, as_61, ln_61, al_62, as_62, ln_62, al_63, as_63, ln_63, al_64, as_64, ln_64, al_65, as_65, ln_65, al_66, as_66, ln_66, al_67, as_67, ln_67, gC_39_4, gC_39_5, gC_39_6, gC_39_7, gC_39_8, gC_39_10, gC_39_11, gC_39_12, gC_39_13, gC_39_15, gC_39_16, gC_39_18, gC_39_19, gC_39_27, gC_39_28, gC_39_29, gC_39_30, gC_39_31, gC_39_36, gC_39_37, gC_39_41, gC_39_42, gC_39_43, gC_39_44, gC_39_46, gC_39_47, gC_39_48, gC_39_49, bI_rI, bV_rV, bQ_rN, bQ_rR, bz_0, bz_1, bz_Z, hZ0, hZ1, Lay_setI, Lay_setA, l1, c39, h.mp, z0, cm, if_false, nI_pred, p0, p1, p2, z2, ck2, p3]
        rcases i2 with e | e
        · rw [e, if_pos rfl]
        · rw [e, if_neg (by decide)]
      have w : ∀ q j, pm (setI (setI (setI t 1 1 (nI m)) 39 3 (nI m)) 39 22 (pm t 39 22)) q j = if q = 39 ∧ j = 22 then pm t 39 22 else if q = 39 ∧ j = 3 then nI m else if q = 1 ∧ j = 1 then nI m else pm t q j := by
        intro q j
        have l2 : Lay (setI (setI t 1 1 (nI m)) 39 3 (nI m)) := hl
        rw [pmI_39_22 l2, pmI_39_3 l1, pmI_1_1 hl]
      have r1 : SR [0, 1, 5, 10, 13, 14, 39, 53] (pm t) (pm (setI (setI (setI t 1 1 (nI m)) 39 3 (nI m)) 39 22 (pm t 39 22))) := (((SR.refl _ _).st (by decide)).st (by decide)).st (by decide)
      refine okc f1 f2 hl (n' := n) (m' := m) (s' := s) (g' := g) (x' := x) (p' := p) ?_ rfl rfl
      refine h.num1 rfl r1 (IvN.mk ⟨hr.1, by omega, hr.2.2⟩ ?_ ?_ ?_ ?_ ?_ ?_ ?_ ?_ ?_ ?_ ?_ ?_ ?_ ?_ ?_ ⟨gl1, gl2, by simp [w, gl3]⟩) ?_ rfl rfl (Or.inl ⟨rfl, by omega⟩) (Or.inl ⟨rfl, rfl⟩) rfl
      any_goals (simp [w, a1, a2, b1, b2, c1, c2, d1, d2, e3, e4, g1, g2, g3, g4, g5]; done)
      unfold IvI
      exact ⟨by simp [w, i1], by simp [w, i2], by simp [w, i3], by simp [w, i4], by simp [w, i5], by simp [w, i6], ik, il, j1, j2, by simp [w, j3], by simp [w, j4], fun _ => ck, fun i hi => by simp [w, j6 i hi]⟩
    · have f1 : fx_drop t = rI (nI m) (setI (setI t 1 1 (nI m)) 13 0 0) := by
        simp only [fx_drop, gI_0, pI_0, rc_0, gI_1, pI_1, rc_1, ln_2, ql_2, al_3, as_3, ln_3, al_4, as_4, ln_4, gI_5, pI_5, rc_5, ln_6, ql_6, al_7, as_7, ln_7, al_8, as_8, ln_8, ln_9, ql_9, gI_10, pI_10, rc_10, al_11, as_11, ln_11, al_12, as_12, ln_12, gI_13, pI_13, rc_13, al_14, as_14, ln_14, ln_15, ql_15, gI_16, pI_16, rc_16, al_17, as_17, ln_17, al_18, as_18, ln_18, al_19, as_19, ln_19, al_20, as_20, ln_20, bl_21, bs_21, ln_21, gI_22, pI_22, rc_22, al_23, as_23, ln_23, al_24, as_24, ln_24, al_25, as_25, ln_25, gI_31, pI_31, rc_31, al_32, as_32, ln_32, gI_33, pI_33, rc_33, al_34, as_34, ln_34, gI_35, pI_35, rc_35, al_36, as_36, ln_36, gI_37, pI_37, rc_37, al_38, as_38, ln_38, gC_0_3, gC_0_4, gC_0_5, gC_0_7, gC_0_10, gC_0_11, gC_0_12, gC_0_13, gC_0_14, gC_0_15, gC_0_16, gC_0_17, gC_1_0, gC_1_2, gC_1_3, gC_5_0, gC_5_2, gC_10_0, gC_10_7, gC_13_5, gC_16_0, gC_16_2, gC_22_0, gC_22_1, gC_22_2, gC_22_3, gC_31_2, gC_33_2, gC_35_2, gC_37_2, bI_rI, bV_rV, bQ_rN, bQ_rR, bz_0, bz_1, bz_Z, hZ0, hZ1, Lay_setI, Lay_setA, hl, h.mp', z0, cm, if_false, nI_pred, q0, l1, q1, q2, z1, ck, q3]
      have c39 : mI (setI (setI t 1 1 (nI m)) 13 0 0) 39 = mI t 39 := by rw [setI_ne (by decide), setI_ne (by decide)]
      have l0 : Lay (setI (setI t 1 1 (nI m)) 13 0 0) := hl
      have p0 : mI (setI (setI (setI t 1 1 (nI m)) 13 0 0) 39 3 (nI m)) 39 22 = pm t 39 22 := by rw [setI_I, if_neg (by decide), c39, pm_fx hl rfl rfl]
      have p1 : mI (setI (setI (setI t 1 1 (nI m)) 13 0 0) 39 3 (nI m)) 39 25 = nI ik := by rw [setI_I, if_neg (by decide), c39, pm_fx hl rfl rfl, j3]
      have p2 : mI (setI (setI (setI t 1 1 (nI m)) 13 0 0) 39 3 (nI m)) 39 3 = nI m := setI_eq rfl rfl
      have p3 : ∀ v, mI (setI (setI (setI (setI t 1 1 (nI m)) 13 0 0) 39 3 (nI m)) 39 22 v) 39 3 = nI m := fun v => by rw [setI_I, if_neg (by decide)]; exact p2
      have ck2 : m < ik := by omega
      have f2 : fm_drop (setI (setI t 1 1 (nI m)) 13 0 0) = rI (nI m) (setI (setI (setI (setI t 1 1 (nI m)) 13 0 0) 39 3 (nI m)) 39 22 0) := by
        simp only [fm_drop, gI_39, pI_39, rc_39, al_40, as_40, ln_40, al_41, as_41, ln_41, al_42, as_42, ln_42, al_43, as_43, ln_43, al_44, as_44, ln_44, al_45, as_45, ln_45, al_46, as_46, ln_46, al_47, as_47, ln_47, al_48, as_48, ln_48, al_49, as_49, ln_49, al_50, as_50, ln_50, al_51, as_51, ln_51, al_52, as_52, ln_52, al_53, as_53, ln_53, al_54, as_54, ln_54, al_55, as_55, ln_55, al_56, as_56, ln_56, al_57, as_57, ln_57, al_58, as_58, ln_58, al_59, as_59, ln_59, al_60, as_60, ln_60, al_61, as_61, ln_61, al_62, as_62, ln_62, al_63, as_63, ln_63, al_64, as_64, ln_64, al_65, as_65, ln_65, al_66, as_66, ln_66, al_67, as_67, ln_67, gC_39_4, gC_39_5, gC_39_6, gC_39_7, gC_39_8, gC_39_10, gC_39_11, gC_39_12, gC_39_13, gC_39_15, gC_39_16, gC_39_18, gC_39_19, gC_39_27, gC_39_28, gC_39_29, gC_39_30, gC_39_31, gC_39_36, gC_39_37, gC_39_41, gC_39_42, gC_39_43, gC_39_44, gC_39_46, gC_39_47, gC_39_48, gC_39_49, bI_rI, bV_rV, bQ_rN, bQ_rR, bz_0, bz_1, bz_Z, hZ0, hZ1, Lay_setI, Lay_setA, l0, c39, h.mp, z0, cm, if_false, nI_pred, p0, p1, p2, z2, ck2, if_true, p3]
        rcases i2 with e | e
        · rw [e, if_pos rfl]
        · rw [e, if_neg (by decide)]
      have w : ∀ q j, pm (setI (setI (setI (setI t 1 1 (nI m)) 13 0 0) 39 3 (nI m)) 39 22 0) q j = if q = 39 ∧ j = 22 then 0 else if q = 39 ∧ j = 3 then nI m else if q = 13 ∧ j = 0 then 0 else if q = 1 ∧ j = 1 then nI m else pm t q j := by
        intro q j
        have l2 : Lay (setI (setI (setI t 1 1 (nI m)) 13 0 0) 39 3 (nI m)) := hl
        rw [pmI_39_22 l2, pmI_39_3 l0, pmI_13_0 l1, pmI_1_1 hl]
      have r1 : SR [0, 1, 5, 10, 13, 14, 39, 53] (pm t) (pm (setI (setI (setI (setI t 1 1 (nI m)) 13 0 0) 39 3 (nI m)) 39 22 0)) := ((((SR.refl _ _).st (by decide)).st (by decide)).st (by decide)).st (by decide)
      refine okc f1 f2 hl (n' := n) (m' := m) (s' := s) (g' := g) (x' := x) (p' := p) ?_ rfl rfl
      refine h.num1 rfl r1 (IvN.mk ⟨hr.1, by omega, hr.2.2⟩ ?_ ?_ ?_ ?_ ?_ ?_ ?_ ?_ ?_ ?_ ?_ ?_ ?_ ?_ ?_ ⟨gl1, gl2, by simp [w, gl3]⟩) ?_ rfl rfl (Or.inl ⟨rfl, by omega⟩) (Or.inl ⟨rfl, rfl⟩) rfl
      any_goals (simp [w, a1, a2, b1, b2, c1, c2, d1, d2, e3, e4, g1, g2, g3, g4, g5]; done)
      unfold IvI
      exact ⟨by simp [w], by simp [w], by simp [w, i3], by simp [w, i4], by simp [w, i5], by simp [w, i6], ik, il, j1, j2, by simp [w, j3], by simp [w, j4], fun e => by simp [w] at e, fun i hi => by simp [w, j6 i hi]⟩
end
