section
variable {n m s g x p : Nat} {t0 t u : SM}
/-- the set of fewest maps with a property, of like ones the least -/
def fws (P : Nat → Bool) (k : Nat) (b : Int32) : Int32 := if P k = true ∧ (b < 0 ∨ onc (nI k) < onc b) then nI k else b
def fw (P : Nat → Bool) (N : Nat) : Int32 := fo (fws P) (-1) N
theorem fw_s (P : Nat → Bool) (k : Nat) : fw P (k + 1) = fws P k (fw P k) := rfl
theorem fw_is (P : Nat → Bool) : ∀ k, fw P k = -1 ∨ ∃ j, j < k ∧ fw P k = nI j := by
  intro k
  induction k with
  | zero => exact Or.inl rfl
  | succ k ih =>
    rw [fw_s]; unfold fws
    split
    · exact Or.inr ⟨k, by omega, rfl⟩
    · rcases ih with h | ⟨j, hj, h⟩
      · exact Or.inl h
      · exact Or.inr ⟨j, by omega, h⟩
theorem fw_cg {P Q : Nat → Bool} (N : Nat) (h : ∀ k, k < N → P k = Q k) : fw P N = fw Q N := by
  unfold fw
  exact fo_congr N (fun i b hi => by unfold fws; rw [h i hi])
/-- two ways of making the step, as programs write it -/
theorem fws_a {P : Nat → Bool} {k : Nat} {b : Int32} (hb : b = -1) : fws P k b = if P k = true then nI k else b := by
  unfold fws; subst hb
  cases P k
  · simp
  · rw [if_pos ⟨rfl, Or.inl (by decide)⟩]; rfl
theorem fws_b {P : Nat → Bool} {k j : Nat} {b : Int32} (hb : b = nI j) (hj : j < 2 ^ 31) : fws P k b = if onc b ≤ onc (nI k) then b else if P k = true then nI k else b := by
  have h0 : ¬ b < 0 := by rw [hb]; exact nI_pos hj
  unfold fws
  by_cases c : onc b ≤ onc (nI k)
  · rw [if_pos c, if_neg]
    rintro ⟨_, e | e⟩
    · exact h0 e
    · exact absurd c (Int32.not_le.mpr e)
  · rw [if_neg c]
    cases P k
    · simp
    · rw [if_pos ⟨rfl, Or.inr (Int32.not_le.mp c)⟩]; rfl
theorem fewest_v (h : Inv n m s g x p t) (P : Nat → Bool) (hP : ∀ k, k < 256 → mI t 21 k = bz (P k)) : fx_fewestWanted t = rI (fw P (2 ^ m)) t := by
  have hr := h.rng
  have hpm := Nat.pow_le_pow_right (n := 2) (by decide) (show m ≤ 8 by omega)
  have hm0 := Nat.two_pow_pos m
  unfold fx_fewestWanted
  refine for_up (β := Int32) (fun f t k b => fx_fewestWanted_l4 f t b (nI k)) (fun r => r = rI (fw P (2 ^ m)) t) (2 ^ m)
    (fun k w b => w = t ∧ b = fw P k) ?_ ?_ (2 ^ m) 0 t (-1) 1000000 (by omega) ⟨rfl, rfl⟩ (by omega)
  · intro f w b ⟨e, eb⟩
    subst e
    have e1 : nI (2 ^ m - 1) < nI (2 ^ m) := nI_lt (by omega) (by omega)
    show fx_fewestWanted_4 _ w b (nI (2 ^ m)) = _
    simp only [fx_fewestWanted_4, gI_0, pI_0, rc_0, gI_1, pI_1, rc_1, ln_2, ql_2, al_3, as_3, ln_3, al_4, as_4, ln_4, gI_5, pI_5, rc_5, ln_6, ql_6, al_7, as_7, ln_7, al_8, as_8, ln_8, ln_9, ql_9, gI_10, pI_10, rc_10, al_11, as_11, ln_11, al_12, as_12, ln_12, gI_13, pI_13, rc_13, al_14, as_14, ln_14, ln_15, ql_15, gI_16, pI_16, rc_16, al_17, as_17, ln_17, al_18, as_18, ln_18, al_19, as_19, ln_19, al_20, as_20, ln_20, bl_21, bs_21, ln_21, gI_22, pI_22, rc_22, al_23, as_23, ln_23, al_24, as_24, ln_24, al_25, as_25, ln_25, gI_31, pI_31, rc_31, al_32, as_32, ln_32, gI_33, pI_33, rc_33, al_34, as_34, ln_34, gI_35, pI_35, rc_35, al_36, as_36, ln_36, gI_37, pI_37, rc_37, al_38, as_38, ln_38, gC_0_3, gC_0_4, gC_0_5, gC_0_7, gC_0_10, gC_0_11, gC_0_12, gC_0_13, gC_0_14, gC_0_15, gC_0_16, gC_0_17, gC_1_0, gC_1_2, gC_1_3, gC_5_0, gC_5_2, gC_10_0, gC_10_7, gC_13_5, gC_16_0, gC_16_2, gC_22_0, gC_22_1, gC_22_2, gC_22_3, gC_31_2, gC_33_2, gC_35_2, gC_37_2, bI_rI, bV_rV, bQ_rN, bQ_rR, bz_0, bz_1, bz_Z, hZ0, hZ1, Lay_setI, Lay_setA, h.lay, fAt_everyMap_v h, e1, if_true, eb]
  · intro f w k b hk ⟨e, eb⟩ ih
    subst e
    have e1 : ¬ nI (2 ^ m - 1) < nI k := nI_nlt (by omega) (by omega)
    have e2 : ¬ nI 256 ≤ nI k := nI_ge (by omega) (by omega)
    have k256 : k < 256 := by omega
    show fx_fewestWanted_4 _ w b (nI k) = _
    simp only [fx_fewestWanted_4, gI_0, pI_0, rc_0, gI_1, pI_1, rc_1, ln_2, ql_2, al_3, as_3, ln_3, al_4, as_4, ln_4, gI_5, pI_5, rc_5, ln_6, ql_6, al_7, as_7, ln_7, al_8, as_8, ln_8, ln_9, ql_9, gI_10, pI_10, rc_10, al_11, as_11, ln_11, al_12, as_12, ln_12, gI_13, pI_13, rc_13, al_14, as_14, ln_14, ln_15, ql_15, gI_16, pI_16, rc_16, al_17, as_17, ln_17, al_18, as_18, ln_18, al_19, as_19, ln_19, al_20, as_20, ln_20, bl_21, bs_21, ln_21, gI_22, pI_22, rc_22, al_23, as_23, ln_23, al_24, as_24, ln_24, al_25, as_25, ln_25, gI_31, pI_31, rc_31, al_32, as_32, ln_32, gI_33, pI_33, rc_33, al_34, as_34, ln_34, gI_35, pI_35, rc_35, al_36, as_36, ln_36, gI_37, pI_37, rc_37, al_38, as_38, ln_38, gC_0_3, gC_0_4, gC_0_5, gC_0_7, gC_0_10, gC_0_11, gC_0_12, gC_0_13, gC_0_14, gC_0_15, gC_0_16, gC_0_17, gC_1_0, gC_1_2, gC_1_3, gC_5_0, gC_5_2, gC_10_0, gC_10_7, gC_13_5, gC_16_0, gC_16_2, gC_22_0, gC_22_1, gC_22_2, gC_22_3, gC_31_2, gC_33_2, gC_35_2, gC_37_2, bI_rI, bV_rV, bQ_rN, bQ_rR, bz_0, bz_1, bz_Z, hZ0, hZ1, Lay_setI, Lay_setA, h.lay, fAt_everyMap_v h, e1, if_false, e2, k256, hP k k256, bc_on w (show k < 512 by omega), nI_1]
    have goal2 : ∀ b2, b2 = fws P k b → fx_fewestWanted_l4 f w b2 (nI (k + 1)) = rI (fw P (2 ^ m)) w := fun b2 hb2 => ih w b2 ⟨rfl, by rw [fw_s, ← eb]; exact hb2⟩
    rcases fw_is P k with hb | ⟨j, hj, hb⟩
    · rw [← eb] at hb
      have hn : b < 0 := by rw [hb]; decide
      cases c : P k
      · rw [if_pos rfl]; exact goal2 b (by rw [fws_a hb, c]; rfl)
      · rw [if_neg (by decide), if_pos hn]; exact goal2 _ (by rw [fws_a hb, c]; rfl)
    · rw [← eb] at hb
      have hn : ¬ b < 0 := by rw [hb]; exact nI_pos (by omega)
      cases c : P k
      · rw [if_pos rfl]
        exact goal2 b (by rw [fws_b hb (by omega), c]; simp)
      · rw [if_neg (by decide), if_neg hn]
        have hb2 : fjI_bitCount w b = rI (onc b) w := by rw [hb]; exact bc_on w (by omega)
        rw [hb2, bI_rI]
        by_cases cc : onc b ≤ onc (nI k)
        · rw [if_pos cc]; exact goal2 b (by rw [fws_b hb (by omega), if_pos cc])
        · rw [if_neg cc]; exact goal2 _ (by rw [fws_b hb (by omega), if_neg cc, c]; rfl)
/-- towns by some maps, as tallied -/
theorem tl_len {G : GG} {S : Nat} (hm : m ≤ 8) (hS : S < 2 ^ m) : tlf G n m 0 m S = (WL n m G (nI S)).length := by
  unfold tlf WL
  rw [wls_len]
  refine cnt_cg _ (fun j _ => ?_)
  obtain ⟨ea, la⟩ := agN_eq G hm (nI j)
  rw [rl_m hm la hS, ← ea]
  unfold wp
  simp
/-! none -/
def s_none (n m : Nat) (G : GG) : Int32 := fw (fun k => decide ((WL n m G (nI k)).length = 0)) (2 ^ m)
theorem nI_z {a : Nat} (h : a < 2 ^ 31) : (nI a = 0) = (a = 0) := propext (nI_eq (b := 0) h (by decide))
theorem wl512 (hn : n ≤ 9) (G : GG) (S : Int32) : (WL n m G S).length < 2 ^ 31 := by have := WL_le (m := m) hn G S; omega
theorem xq_none (h : Inv n m s g x p t) : QQ t (fx_none t) (s_none n m (pm t)) := by
  have hr := h.rng
  have hpm := Nat.pow_le_pow_right (n := 2) (by decide) (show m ≤ 8 by omega)
  obtain ⟨u, eu, fu, gu⟩ := fx_tally_v h (k := 19) (by decide) rfl (fun _ => rfl) 0
  have hu := h.fr fu.1
  unfold fx_none
  rw [gC_0_14 h.lay, rc_0 h.lay, eu, bV_rV]
  refine for_up (β := Unit) (fun f t k _ => fx_none_l11 (fun t => fx_none_44 t) f t (nI k)) (fun r => QQ t r (s_none n m (pm t))) 256
    (fun k w _ => Fr t w ∧ (∀ j, mI w 19 j = mI u 19 j) ∧ ∀ j, j < k → mI w 21 j = bz (decide (mI u 19 j = 0))) ?_ ?_ 256 0 u () 1000000 (by omega) ⟨fu.1, fun _ => rfl, fun j hj => absurd hj (by omega)⟩ (by omega)
  · intro f w _ ⟨fw1, w1, w2⟩
    have hw := h.fr fw1
    have e1 : (256 : Int32) ≤ nI 256 := Int32.le_refl _
    show QQ t (fx_none_11 _ _ w (nI 256)) _
    simp only [fx_none_11, e1, if_true, fx_none_44, gI_0, pI_0, rc_0, gI_1, pI_1, rc_1, ln_2, ql_2, al_3, as_3, ln_3, al_4, as_4, ln_4, gI_5, pI_5, rc_5, ln_6, ql_6, al_7, as_7, ln_7, al_8, as_8, ln_8, ln_9, ql_9, gI_10, pI_10, rc_10, al_11, as_11, ln_11, al_12, as_12, ln_12, gI_13, pI_13, rc_13, al_14, as_14, ln_14, ln_15, ql_15, gI_16, pI_16, rc_16, al_17, as_17, ln_17, al_18, as_18, ln_18, al_19, as_19, ln_19, al_20, as_20, ln_20, bl_21, bs_21, ln_21, gI_22, pI_22, rc_22, al_23, as_23, ln_23, al_24, as_24, ln_24, al_25, as_25, ln_25, gI_31, pI_31, rc_31, al_32, as_32, ln_32, gI_33, pI_33, rc_33, al_34, as_34, ln_34, gI_35, pI_35, rc_35, al_36, as_36, ln_36, gI_37, pI_37, rc_37, al_38, as_38, ln_38, gC_0_3, gC_0_4, gC_0_5, gC_0_7, gC_0_10, gC_0_11, gC_0_12, gC_0_13, gC_0_14, gC_0_15, gC_0_16, gC_0_17, gC_1_0, gC_1_2, gC_1_3, gC_5_0, gC_5_2, gC_10_0, gC_10_7, gC_13_5, gC_16_0, gC_16_2, gC_22_0, gC_22_1, gC_22_2, gC_22_3, gC_31_2, gC_33_2, gC_35_2, gC_37_2, bI_rI, bV_rV, bQ_rN, bQ_rR, bz_0, bz_1, bz_Z, hZ0, hZ1, Lay_setI, Lay_setA, hw.lay, fewest_v hw (fun k => decide (mI u 19 k = 0)) w2]
    refine ⟨w, ?_, fw1⟩
    unfold s_none
    congr 1
    refine fw_cg _ (fun k hk => ?_)
    rw [gu k hk, tl_len (show m ≤ 8 by omega) hk, decide_eq_decide, nI_z (wl512 (by omega) _ _)]
  · intro f w k _ hk ⟨fw1, w1, w2⟩ ih
    have hw := h.fr fw1
    have e1 : ¬ (256 : Int32) ≤ nI k := nI_ge (b := 256) hk (by decide)
    have z0 : (0 : Int32) = 0 ∨ (0 : Int32) = 1 := Or.inl rfl
    have z1 : (1 : Int32) = 0 ∨ (1 : Int32) = 1 := Or.inr rfl
    show QQ t (fx_none_11 _ _ w (nI k)) _
    simp only [fx_none_11, e1, if_false, gI_0, pI_0, rc_0, gI_1, pI_1, rc_1, ln_2, ql_2, al_3, as_3, ln_3, al_4, as_4, ln_4, gI_5, pI_5, rc_5, ln_6, ql_6, al_7, as_7, ln_7, al_8, as_8, ln_8, ln_9, ql_9, gI_10, pI_10, rc_10, al_11, as_11, ln_11, al_12, as_12, ln_12, gI_13, pI_13, rc_13, al_14, as_14, ln_14, ln_15, ql_15, gI_16, pI_16, rc_16, al_17, as_17, ln_17, al_18, as_18, ln_18, al_19, as_19, ln_19, al_20, as_20, ln_20, bl_21, bs_21, ln_21, gI_22, pI_22, rc_22, al_23, as_23, ln_23, al_24, as_24, ln_24, al_25, as_25, ln_25, gI_31, pI_31, rc_31, al_32, as_32, ln_32, gI_33, pI_33, rc_33, al_34, as_34, ln_34, gI_35, pI_35, rc_35, al_36, as_36, ln_36, gI_37, pI_37, rc_37, al_38, as_38, ln_38, gC_0_3, gC_0_4, gC_0_5, gC_0_7, gC_0_10, gC_0_11, gC_0_12, gC_0_13, gC_0_14, gC_0_15, gC_0_16, gC_0_17, gC_1_0, gC_1_2, gC_1_3, gC_5_0, gC_5_2, gC_10_0, gC_10_7, gC_13_5, gC_16_0, gC_16_2, gC_22_0, gC_22_1, gC_22_2, gC_22_3, gC_31_2, gC_33_2, gC_35_2, gC_37_2, bI_rI, bV_rV, bQ_rN, bQ_rR, bz_0, bz_1, bz_Z, hZ0, hZ1, Lay_setI, Lay_setA, hw.lay, hk, z0, z1, nI_1, w1]
    have step : ∀ b, b = bz (decide (mI u 19 k = 0)) → QQ t (fx_none_l11 (fun t => fx_none_44 t) f (setI w 21 k b) (nI (k + 1))) (s_none n m (pm t)) := by
      intro b hb
      refine ih _ () ⟨fw1.trans (Fr.setF rfl), fun j => by rw [setI_ne (by decide)]; exact w1 j, fun j hj => ?_⟩
      by_cases e : j = k
      · rw [setI_eq rfl e, hb, e]
      · rw [setI_I, if_neg (by omega)]; exact w2 j (by omega)
    by_cases c : mI u 19 k = 0
    · rw [if_pos c, bs_21 hw.lay hk z1]; exact step 1 (by rw [decide_eq_true c]; rfl)
    · rw [if_neg c, bs_21 hw.lay hk z0]; exact step 0 (by rw [decide_eq_false c]; rfl)
theorem mq_none (h : Inv n m s g x p t) : QQ t (fm_none t) (s_none n m (pm t)) := by
  have hr := h.rng
  have hpm := Nat.pow_le_pow_right (n := 2) (by decide) (show m ≤ 8 by omega)
  have hm0 := Nat.two_pow_pos m
  obtain ⟨u, eu, fu, gu⟩ := agrees_in h
  have hu := h.fr fu.1
  have gu' : Agd (pm u) n m u := by rw [fu.1.2]; exact gu
  unfold fm_none
  rw [rc_39 h.lay, eu, bV_rV]
  refine ⟨u, ?_, fu.1⟩
  rw [← fu.1.2]
  refine for_up (β := Int32) (fun f t k b => fm_none_l8 f t b (nI k)) (fun r => r = rI (s_none n m (pm u)) u) (2 ^ m)
    (fun k w b => w = u ∧ b = fw (fun k => decide ((WL n m (pm u) (nI k)).length = 0)) k) ?_ ?_ (2 ^ m) 0 u (-1) 1000000 (by omega) ⟨rfl, rfl⟩ (by omega)
  · intro f w b ⟨e, eb⟩
    subst e
    have e1 : nI (2 ^ m - 1) < nI (2 ^ m) := nI_lt (by omega) (by omega)
    show fm_none_8 _ w b (nI (2 ^ m)) = _
    simp only [fm_none_8, gI_39, pI_39, rc_39, al_40, as_40, ln_40, al_41, as_41, ln_41, al_42, as_42, ln_42, al_43, as_43, ln_43, al_44, as_44, ln_44, al_45, as_45, ln_45, al_46, as_46, ln_46, al_47, as_47, ln_47, al_48, as_48, ln_48, al_49, as_49, ln_49, al_50, as_50, ln_50, al_51, as_51, ln_51, al_52, as_52, ln_52, al_53, as_53, ln_53, al_54, as_54, ln_54, al_55, as_55, ln_55, al_56, as_56, ln_56, al_57, as_57, ln_57, al_58, as_58, ln_58, al_59, as_59, ln_59, al_60, as_60, ln_60, al_61, as_61, ln_61, al_62, as_62, ln_62, al_63, as_63, ln_63, al_64, as_64, ln_64, al_65, as_65, ln_65, al_66, as_66, ln_66, al_67, as_67, ln_67, gC_39_4, gC_39_5, gC_39_6, gC_39_7, gC_39_8, gC_39_10, gC_39_11, gC_39_12, gC_39_13, gC_39_15, gC_39_16, gC_39_18, gC_39_19, gC_39_27, gC_39_28, gC_39_29, gC_39_30, gC_39_31, gC_39_36, gC_39_37, gC_39_41, gC_39_42, gC_39_43, gC_39_44, gC_39_46, gC_39_47, gC_39_48, gC_39_49, bI_rI, bV_rV, bQ_rN, bQ_rR, bz_0, bz_1, bz_Z, hZ0, hZ1, Lay_setI, Lay_setA, hu.lay, fm_allMaps_v hu, e1, if_true, eb]
    rfl
  · intro f w k b hk ⟨e, eb⟩ ih
    subst e
    have e1 : ¬ nI (2 ^ m - 1) < nI k := nI_nlt (by omega) (by omega)
    have ec : (nI (cnt (fun j => wp (pm w) m (nI k) (nI j)) (2 ^ n)) = 0) = (decide ((WL n m (pm w) (nI k)).length = 0) = true) := by
      rw [decide_eq_true_eq, ← nI_z (wl512 (by omega) _ _)]; unfold WL; rw [wls_len]
    show fm_none_8 _ w b (nI k) = _
    simp only [fm_none_8, gI_39, pI_39, rc_39, al_40, as_40, ln_40, al_41, as_41, ln_41, al_42, as_42, ln_42, al_43, as_43, ln_43, al_44, as_44, ln_44, al_45, as_45, ln_45, al_46, as_46, ln_46, al_47, as_47, ln_47, al_48, as_48, ln_48, al_49, as_49, ln_49, al_50, as_50, ln_50, al_51, as_51, ln_51, al_52, as_52, ln_52, al_53, as_53, ln_53, al_54, as_54, ln_54, al_55, as_55, ln_55, al_56, as_56, ln_56, al_57, as_57, ln_57, al_58, as_58, ln_58, al_59, as_59, ln_59, al_60, as_60, ln_60, al_61, as_61, ln_61, al_62, as_62, ln_62, al_63, as_63, ln_63, al_64, as_64, ln_64, al_65, as_65, ln_65, al_66, as_66, ln_66, al_67, as_67, ln_67, gC_39_4, gC_39_5, gC_39_6, gC_39_7, gC_39_8, gC_39_10, gC_39_11, gC_39_12, gC_39_13, gC_39_15, gC_39_16, gC_39_18, gC_39_19, gC_39_27, gC_39_28, gC_39_29, gC_39_30, gC_39_31, gC_39_36, gC_39_37, gC_39_41, gC_39_42, gC_39_43, gC_39_44, gC_39_46, gC_39_47, gC_39_48, gC_39_49, bI_rI, bV_rV, bQ_rN, bQ_rR, bz_0, bz_1, bz_Z, hZ0, hZ1, Lay_setI, Lay_setA, hu.lay, fm_allMaps_v hu, e1, if_false, fm_countBy_v hu gu', fm_ones_v, ec, nI_1]
    generalize hP : (fun k => decide ((WL n m (pm w) (nI k)).length = 0)) = P at *
    have hPk : decide ((WL n m (pm w) (nI k)).length = 0) = P k := by rw [← hP]
    rw [hPk]
    have goal2 : ∀ b2, b2 = fws P k b → fm_none_l8 f w b2 (nI (k + 1)) = rI (s_none n m (pm w)) w := fun b2 hb2 => ih w b2 ⟨rfl, by rw [fw_s, ← eb]; exact hb2⟩
    rcases fw_is P k with hb | ⟨j, hj, hb⟩
    · rw [← eb] at hb
      rw [if_pos hb]
      cases c : P k
      · rw [if_neg (by decide)]; exact goal2 b (by rw [fws_a hb, c]; rfl)
      · rw [if_pos rfl]; exact goal2 _ (by rw [fws_a hb, c]; rfl)
    · rw [← eb] at hb
      have hn : ¬ b = -1 := by rw [hb]; intro e; have := nI_pos (n := j) (by omega); rw [e] at this; exact this (by decide)
      rw [if_neg hn]
      by_cases cc : onc b ≤ onc (nI k)
      · rw [if_pos cc]; exact goal2 b (by rw [fws_b hb (by omega), if_pos cc])
      · rw [if_neg cc]
        cases c : P k
        · rw [if_neg (by decide)]; exact goal2 b (by rw [fws_b hb (by omega), if_neg cc, c]; rfl)
        · rw [if_pos rfl]; exact goal2 _ (by rw [fws_b hb (by omega), if_neg cc, c]; rfl)
theorem ok_none (h : Inv n m s g x p t) : Okk t (fun t => fx_none t) (fun t => fm_none t) := okq h (xq_none h) (fun u hu e => e ▸ mq_none hu)
/-! many -/
def s_many (n m : Nat) (G : GG) : Int32 := fw (fun k => decide ((WL n m G (nI k)).length = (WL n m G (evB m)).length)) (2 ^ m)
theorem xq_many (h : Inv n m s g x p t) : QQ t (fx_many t) (s_many n m (pm t)) := by
  have hr := h.rng
  have hpm := Nat.pow_le_pow_right (n := 2) (by decide) (show m ≤ 8 by omega)
  have hm0 := Nat.two_pow_pos m
  obtain ⟨u, eu, fu, gu⟩ := fx_tally_v h (k := 19) (by decide) rfl (fun _ => rfl) 0
  have hu := h.fr fu.1
  have ev : fx_numberAt u 19 (nI (2 ^ m - 1)) = rI (mI u 19 (2 ^ m - 1)) u := L_nai hu.lay (by decide) (rfl : layF 19 = (20, 256)) (by omega)
  simp only [fx_many, gI_0, pI_0, rc_0, gI_1, pI_1, rc_1, ln_2, ql_2, al_3, as_3, ln_3, al_4, as_4, ln_4, gI_5, pI_5, rc_5, ln_6, ql_6, al_7, as_7, ln_7, al_8, as_8, ln_8, ln_9, ql_9, gI_10, pI_10, rc_10, al_11, as_11, ln_11, al_12, as_12, ln_12, gI_13, pI_13, rc_13, al_14, as_14, ln_14, ln_15, ql_15, gI_16, pI_16, rc_16, al_17, as_17, ln_17, al_18, as_18, ln_18, al_19, as_19, ln_19, al_20, as_20, ln_20, bl_21, bs_21, ln_21, gI_22, pI_22, rc_22, al_23, as_23, ln_23, al_24, as_24, ln_24, al_25, as_25, ln_25, gI_31, pI_31, rc_31, al_32, as_32, ln_32, gI_33, pI_33, rc_33, al_34, as_34, ln_34, gI_35, pI_35, rc_35, al_36, as_36, ln_36, gI_37, pI_37, rc_37, al_38, as_38, ln_38, gC_0_3, gC_0_4, gC_0_5, gC_0_7, gC_0_10, gC_0_11, gC_0_12, gC_0_13, gC_0_14, gC_0_15, gC_0_16, gC_0_17, gC_1_0, gC_1_2, gC_1_3, gC_5_0, gC_5_2, gC_10_0, gC_10_7, gC_13_5, gC_16_0, gC_16_2, gC_22_0, gC_22_1, gC_22_2, gC_22_3, gC_31_2, gC_33_2, gC_35_2, gC_37_2, bI_rI, bV_rV, bQ_rN, bQ_rR, bz_0, bz_1, bz_Z, hZ0, hZ1, Lay_setI, Lay_setA, h.lay, eu, hu.lay, fAt_everyMap_v hu, ev]
  refine for_up (β := Unit) (fun f t k _ => fx_many_l26 (fun t => fx_many_60 t) f t (mI u 19 (2 ^ m - 1)) (nI k)) (fun r => QQ t r (s_many n m (pm t))) 256
    (fun k w _ => Fr t w ∧ (∀ j, mI w 19 j = mI u 19 j) ∧ ∀ j, j < k → mI w 21 j = bz (decide (mI u 19 j = mI u 19 (2 ^ m - 1)))) ?_ ?_ 256 0 u () 1000000 (by omega) ⟨fu.1, fun _ => rfl, fun j hj => absurd hj (by omega)⟩ (by omega)
  · intro f w _ ⟨fw1, w1, w2⟩
    have hw := h.fr fw1
    have e1 : (256 : Int32) ≤ nI 256 := Int32.le_refl _
    show QQ t (fx_many_26 _ _ w _ (nI 256)) _
    simp only [fx_many_26, e1, if_true, fx_many_60, gI_0, pI_0, rc_0, gI_1, pI_1, rc_1, ln_2, ql_2, al_3, as_3, ln_3, al_4, as_4, ln_4, gI_5, pI_5, rc_5, ln_6, ql_6, al_7, as_7, ln_7, al_8, as_8, ln_8, ln_9, ql_9, gI_10, pI_10, rc_10, al_11, as_11, ln_11, al_12, as_12, ln_12, gI_13, pI_13, rc_13, al_14, as_14, ln_14, ln_15, ql_15, gI_16, pI_16, rc_16, al_17, as_17, ln_17, al_18, as_18, ln_18, al_19, as_19, ln_19, al_20, as_20, ln_20, bl_21, bs_21, ln_21, gI_22, pI_22, rc_22, al_23, as_23, ln_23, al_24, as_24, ln_24, al_25, as_25, ln_25, gI_31, pI_31, rc_31, al_32, as_32, ln_32, gI_33, pI_33, rc_33, al_34, as_34, ln_34, gI_35, pI_35, rc_35, al_36, as_36, ln_36, gI_37, pI_37, rc_37, al_38, as_38, ln_38, gC_0_3, gC_0_4, gC_0_5, gC_0_7, gC_0_10, gC_0_11, gC_0_12, gC_0_13, gC_0_14, gC_0_15, gC_0_16, gC_0_17, gC_1_0, gC_1_2, gC_1_3, gC_5_0, gC_5_2, gC_10_0, gC_10_7, gC_13_5, gC_16_0, gC_16_2, gC_22_0, gC_22_1, gC_22_2, gC_22_3, gC_31_2, gC_33_2, gC_35_2, gC_37_2, bI_rI, bV_rV, bQ_rN, bQ_rR, bz_0, bz_1, bz_Z, hZ0, hZ1, Lay_setI, Lay_setA, hw.lay, fewest_v hw (fun k => decide (mI u 19 k = mI u 19 (2 ^ m - 1))) w2]
    refine ⟨w, ?_, fw1⟩
    unfold s_many
    congr 1
    refine fw_cg _ (fun k hk => ?_)
    rw [gu k hk, gu _ (show 2 ^ m - 1 < 2 ^ m by omega), tl_len (show m ≤ 8 by omega) hk, tl_len (show m ≤ 8 by omega) (show 2 ^ m - 1 < 2 ^ m by omega), decide_eq_decide]
    exact nI_eq (wl512 (by omega) _ _) (wl512 (by omega) _ _)
  · intro f w k _ hk ⟨fw1, w1, w2⟩ ih
    have hw := h.fr fw1
    have e1 : ¬ (256 : Int32) ≤ nI k := nI_ge (b := 256) hk (by decide)
    have z0 : (0 : Int32) = 0 ∨ (0 : Int32) = 1 := Or.inl rfl
    have z1 : (1 : Int32) = 0 ∨ (1 : Int32) = 1 := Or.inr rfl
    show QQ t (fx_many_26 _ _ w _ (nI k)) _
    simp only [fx_many_26, e1, if_false, gI_0, pI_0, rc_0, gI_1, pI_1, rc_1, ln_2, ql_2, al_3, as_3, ln_3, al_4, as_4, ln_4, gI_5, pI_5, rc_5, ln_6, ql_6, al_7, as_7, ln_7, al_8, as_8, ln_8, ln_9, ql_9, gI_10, pI_10, rc_10, al_11, as_11, ln_11, al_12, as_12, ln_12, gI_13, pI_13, rc_13, al_14, as_14, ln_14, ln_15, ql_15, gI_16, pI_16, rc_16, al_17, as_17, ln_17, al_18, as_18, ln_18, al_19, as_19, ln_19, al_20, as_20, ln_20, bl_21, bs_21, ln_21, gI_22, pI_22, rc_22, al_23, as_23, ln_23, al_24, as_24, ln_24, al_25, as_25, ln_25, gI_31, pI_31, rc_31, al_32, as_32, ln_32, gI_33, pI_33, rc_33, al_34, as_34, ln_34, gI_35, pI_35, rc_35, al_36, as_36, ln_36, gI_37, pI_37, rc_37, al_38, as_38, ln_38, gC_0_3, gC_0_4, gC_0_5, gC_0_7, gC_0_10, gC_0_11, gC_0_12, gC_0_13, gC_0_14, gC_0_15, gC_0_16, gC_0_17, gC_1_0, gC_1_2, gC_1_3, gC_5_0, gC_5_2, gC_10_0, gC_10_7, gC_13_5, gC_16_0, gC_16_2, gC_22_0, gC_22_1, gC_22_2, gC_22_3, gC_31_2, gC_33_2, gC_35_2, gC_37_2, bI_rI, bV_rV, bQ_rN, bQ_rR, bz_0, bz_1, bz_Z, hZ0, hZ1, Lay_setI, Lay_setA, hw.lay, hk, z0, z1, nI_1, w1]
    have step : ∀ b, b = bz (decide (mI u 19 k = mI u 19 (2 ^ m - 1))) → QQ t (fx_many_l26 (fun t => fx_many_60 t) f (setI w 21 k b) (mI u 19 (2 ^ m - 1)) (nI (k + 1))) (s_many n m (pm t)) := by
      intro b hb
      refine ih _ () ⟨fw1.trans (Fr.setF rfl), fun j => by rw [setI_ne (by decide)]; exact w1 j, fun j hj => ?_⟩
      by_cases e : j = k
      · rw [setI_eq rfl e, hb, e]
      · rw [setI_I, if_neg (by omega)]; exact w2 j (by omega)
    by_cases c : mI u 19 k = mI u 19 (2 ^ m - 1)
    · rw [if_pos c, bs_21 hw.lay hk z1]; exact step 1 (by rw [decide_eq_true c]; rfl)
    · rw [if_neg c, bs_21 hw.lay hk z0]; exact step 0 (by rw [decide_eq_false c]; rfl)
theorem mq_many (h : Inv n m s g x p t) : QQ t (fm_many t) (s_many n m (pm t)) := by
  have hr := h.rng
  have hpm := Nat.pow_le_pow_right (n := 2) (by decide) (show m ≤ 8 by omega)
  have hm0 := Nat.two_pow_pos m
  obtain ⟨u, eu, fu, gu⟩ := agrees_in h
  have hu := h.fr fu.1
  have gu' : Agd (pm u) n m u := by rw [fu.1.2]; exact gu
  simp only [fm_many, gI_39, pI_39, rc_39, al_40, as_40, ln_40, al_41, as_41, ln_41, al_42, as_42, ln_42, al_43, as_43, ln_43, al_44, as_44, ln_44, al_45, as_45, ln_45, al_46, as_46, ln_46, al_47, as_47, ln_47, al_48, as_48, ln_48, al_49, as_49, ln_49, al_50, as_50, ln_50, al_51, as_51, ln_51, al_52, as_52, ln_52, al_53, as_53, ln_53, al_54, as_54, ln_54, al_55, as_55, ln_55, al_56, as_56, ln_56, al_57, as_57, ln_57, al_58, as_58, ln_58, al_59, as_59, ln_59, al_60, as_60, ln_60, al_61, as_61, ln_61, al_62, as_62, ln_62, al_63, as_63, ln_63, al_64, as_64, ln_64, al_65, as_65, ln_65, al_66, as_66, ln_66, al_67, as_67, ln_67, gC_39_4, gC_39_5, gC_39_6, gC_39_7, gC_39_8, gC_39_10, gC_39_11, gC_39_12, gC_39_13, gC_39_15, gC_39_16, gC_39_18, gC_39_19, gC_39_27, gC_39_28, gC_39_29, gC_39_30, gC_39_31, gC_39_36, gC_39_37, gC_39_41, gC_39_42, gC_39_43, gC_39_44, gC_39_46, gC_39_47, gC_39_48, gC_39_49, bI_rI, bV_rV, bQ_rN, bQ_rR, bz_0, bz_1, bz_Z, hZ0, hZ1, Lay_setI, Lay_setA, h.lay, eu, hu.lay, fm_allMaps_v hu, fm_countBy_v hu gu']
  refine ⟨u, ?_, fu.1⟩
  rw [← fu.1.2]
  refine for_up (β := Int32) (fun f t k b => fm_many_l17 f t (nI (cnt (fun j => wp (pm u) m (nI (2 ^ m - 1)) (nI j)) (2 ^ n))) b (nI k)) (fun r => r = rI (s_many n m (pm u)) u) (2 ^ m)
    (fun k w b => w = u ∧ b = fw (fun k => decide ((WL n m (pm u) (nI k)).length = (WL n m (pm u) (evB m)).length)) k) ?_ ?_ (2 ^ m) 0 u (-1) 1000000 (by omega) ⟨rfl, rfl⟩ (by omega)
  · intro f w b ⟨e, eb⟩
    subst e
    have e1 : nI (2 ^ m - 1) < nI (2 ^ m) := nI_lt (by omega) (by omega)
    show fm_many_17 _ w _ b (nI (2 ^ m)) = _
    simp only [fm_many_17, gI_39, pI_39, rc_39, al_40, as_40, ln_40, al_41, as_41, ln_41, al_42, as_42, ln_42, al_43, as_43, ln_43, al_44, as_44, ln_44, al_45, as_45, ln_45, al_46, as_46, ln_46, al_47, as_47, ln_47, al_48, as_48, ln_48, al_49, as_49, ln_49, al_50, as_50, ln_50, al_51, as_51, ln_51, al_52, as_52, ln_52, al_53, as_53, ln_53, al_54, as_54, ln_54, al_55, as_55, ln_55, al_56, as_56, ln_56, al_57, as_57, ln_57, al_58, as_58, ln_58, al_59, as_59, ln_59, al_60, as_60, ln_60, al_61, as_61, ln_61, al_62, as_62, ln_62, al_63, as_63, ln_63, al_64, as_64, ln_64, al_65, as_65, ln_65, al_66, as_66, ln_66, al_67, as_67, ln_67, gC_39_4, gC_39_5, gC_39_6, gC_39_7, gC_39_8, gC_39_10, gC_39_11, gC_39_12, gC_39_13, gC_39_15, gC_39_16, gC_39_18, gC_39_19, gC_39_27, gC_39_28, gC_39_29, gC_39_30, gC_39_31, gC_39_36, gC_39_37, gC_39_41, gC_39_42, gC_39_43, gC_39_44, gC_39_46, gC_39_47, gC_39_48, gC_39_49, bI_rI, bV_rV, bQ_rN, bQ_rR, bz_0, bz_1, bz_Z, hZ0, hZ1, Lay_setI, Lay_setA, hu.lay, fm_allMaps_v hu, e1, if_true, eb]
    rfl
  · intro f w k b hk ⟨e, eb⟩ ih
    subst e
    have e1 : ¬ nI (2 ^ m - 1) < nI k := nI_nlt (by omega) (by omega)
    have ec : (nI (cnt (fun j => wp (pm w) m (nI k) (nI j)) (2 ^ n)) = nI (cnt (fun j => wp (pm w) m (nI (2 ^ m - 1)) (nI j)) (2 ^ n))) = (decide ((WL n m (pm w) (nI k)).length = (WL n m (pm w) (evB m)).length) = true) := by
      rw [decide_eq_true_eq, ← propext (nI_eq (wl512 (n := n) (m := m) (show n ≤ 9 by omega) (pm w) (nI k)) (wl512 (n := n) (m := m) (show n ≤ 9 by omega) (pm w) (evB m)))]; unfold WL; rw [wls_len, wls_len]
    show fm_many_17 _ w _ b (nI k) = _
    simp only [fm_many_17, fm_many_41, gI_39, pI_39, rc_39, al_40, as_40, ln_40, al_41, as_41, ln_41, al_42, as_42, ln_42, al_43, as_43, ln_43, al_44, as_44, ln_44, al_45, as_45, ln_45, al_46, as_46, ln_46, al_47, as_47, ln_47, al_48, as_48, ln_48, al_49, as_49, ln_49, al_50, as_50, ln_50, al_51, as_51, ln_51, al_52, as_52, ln_52, al_53, as_53, ln_53, al_54, as_54, ln_54, al_55, as_55, ln_55, al_56, as_56, ln_56, al_57, as_57, ln_57, al_58, as_58, ln_58, al_59, as_59, ln_59, al_60, as_60, ln_60, al_61, as_61, ln_61, al_62, as_62, ln_62, al_63, as_63, ln_63, al_64, as_64, ln_64, al_65, as_65, ln_65, al_66, as_66, ln_66, al_67, as_67, ln_67, gC_39_4, gC_39_5, gC_39_6, gC_39_7, gC_39_8, gC_39_10, gC_39_11, gC_39_12, gC_39_13, gC_39_15, gC_39_16, gC_39_18, gC_39_19, gC_39_27, gC_39_28, gC_39_29, gC_39_30, gC_39_31, gC_39_36, gC_39_37, gC_39_41, gC_39_42, gC_39_43, gC_39_44, gC_39_46, gC_39_47, gC_39_48, gC_39_49, bI_rI, bV_rV, bQ_rN, bQ_rR, bz_0, bz_1, bz_Z, hZ0, hZ1, Lay_setI, Lay_setA, hu.lay, fm_allMaps_v hu, e1, if_false, fm_countBy_v hu gu', fm_ones_v, ec, nI_1]
    generalize hP : (fun k => decide ((WL n m (pm w) (nI k)).length = (WL n m (pm w) (evB m)).length)) = P at *
    have hPk : decide ((WL n m (pm w) (nI k)).length = (WL n m (pm w) (evB m)).length) = P k := by rw [← hP]
    rw [hPk]
    have goal2 : ∀ b2, b2 = fws P k b → fm_many_l17 f w (nI (cnt (fun j => wp (pm w) m (nI (2 ^ m - 1)) (nI j)) (2 ^ n))) b2 (nI (k + 1)) = rI (s_many n m (pm w)) w := fun b2 hb2 => ih w b2 ⟨rfl, by rw [fw_s, ← eb]; exact hb2⟩
    rcases fw_is P k with hb | ⟨j, hj, hb⟩
    · rw [← eb] at hb
      rw [if_pos hb]
      cases c : P k
      · rw [if_neg (by decide)]; exact goal2 b (by rw [fws_a hb, c]; rfl)
      · rw [if_pos rfl]; exact goal2 _ (by rw [fws_a hb, c]; rfl)
    · rw [← eb] at hb
      have hn : ¬ b = -1 := by rw [hb]; intro e; have := nI_pos (n := j) (by omega); rw [e] at this; exact this (by decide)
      rw [if_neg hn]
      by_cases cc : onc b ≤ onc (nI k)
      · rw [if_pos cc]; exact goal2 b (by rw [fws_b hb (by omega), if_pos cc])
      · rw [if_neg cc]
        cases c : P k
        · rw [if_neg (by decide)]; exact goal2 b (by rw [fws_b hb (by omega), if_neg cc, c]; rfl)
        · rw [if_pos rfl]; exact goal2 _ (by rw [fws_b hb (by omega), if_neg cc, c]; rfl)
theorem ok_many (h : Inv n m s g x p t) : Okk t (fun t => fx_many t) (fun t => fm_many t) := okq h (xq_many h) (fun u hu e => e ▸ mq_many hu)
end
