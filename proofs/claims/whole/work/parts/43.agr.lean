section
/-! counts as numbers -/
def cn9 (v : Int32) : Nat := fo (fun i a => a + (if bt v i = true then 1 else 0)) 0 9
theorem fo_nI (p : Nat → Bool) : ∀ k, fo (fun i a => a + bz (p i)) (0 : Int32) k = nI (fo (fun i a => a + (if p i = true then 1 else 0)) 0 k) ∧ fo (fun i a => a + (if p i = true then 1 else 0)) 0 k ≤ k := by
  intro k
  induction k with
  | zero => exact ⟨rfl, Nat.le_refl 0⟩
  | succ k ih =>
    refine ⟨?_, ?_⟩
    · show fo (fun i a => a + bz (p i)) (0 : Int32) k + bz (p k) = _
      rw [ih.1, fo_add]
      cases hp : p k
      · simp [bz]
      · simp only [if_true]; exact nI_1 _
    · rw [fo_add]
      have := ih.2
      split <;> omega
theorem onc_nI (v : Int32) : onc v = nI (cn9 v) := (fo_nI (bt v) 9).1
theorem cn9_le (v : Int32) : cn9 v ≤ 9 := (fo_nI (bt v) 9).2
variable {n m s g x p : Nat} {t u : SM}
/-! which maps agree -/
theorem agF_fuel {G : GG} (hM : IvM n m G) (w : Int32) : ∀ k k' i, i < m → i ≤ k → i ≤ k' → agF G w k i = agF G w k' i := by
  intro k
  induction k with
  | zero =>
    intro k' i hi h1 h2
    obtain rfl : i = 0 := by omega
    cases k' with
    | zero => rfl
    | succ j =>
      show ag1 G 0 w = if G 40 0 = 1 then _ else ag1 G 0 w
      obtain ⟨_, _, _, c, hc, _, hl⟩ := hM 0 hi
      rw [if_neg (fun e => absurd (hl e) (by omega))]
  | succ k ih =>
    intro k' i hi h1 h2
    obtain ⟨_, _, _, c, hc, e, hl⟩ := hM i hi
    cases k' with
    | zero =>
      obtain rfl : i = 0 := by omega
      show (if G 40 0 = 1 then _ else ag1 G 0 w) = ag1 G 0 w
      rw [if_neg (fun e => absurd (hl e) (by omega))]
    | succ j =>
      show (if G 40 i = 1 then decide (onc (G 41 i ^^^ G 41 (G 43 i).toNatClampNeg) = 1) && agF G w k (G 43 i).toNatClampNeg else ag1 G i w) = (if G 40 i = 1 then decide (onc (G 41 i ^^^ G 41 (G 43 i).toNatClampNeg) = 1) && agF G w j (G 43 i).toNatClampNeg else ag1 G i w)
      by_cases e1 : G 40 i = 1
      · rw [if_pos e1, if_pos e1, e, nI_clamp (by omega)]
        have := hl e1
        rw [ih j c (by omega) (by omega) (by omega)]
      · rw [if_neg e1, if_neg e1]
theorem agr_eq {G : GG} (hM : IvM n m G) (w : Int32) {i : Nat} (hi : i < m) : agr G i w = if G 40 i = 1 then decide (onc (G 41 i ^^^ G 41 (cN (G 43 i))) = 1) && agr G (cN (G 43 i)) w else ag1 G i w := by
  obtain ⟨_, _, _, c, hc, e, hl⟩ := hM i hi
  unfold agr
  rw [agF_fuel hM w i (i + 1) i hi (Nat.le_refl i) (by omega)]
  show (if G 40 i = 1 then decide (onc (G 41 i ^^^ G 41 (G 43 i).toNatClampNeg) = 1) && agF G w i (G 43 i).toNatClampNeg else ag1 G i w) = _
  by_cases e1 : G 40 i = 1
  · have hlt := hl e1
    rw [if_pos e1, if_pos e1, cN, e, nI_clamp (by omega), agF_fuel hM w i c c (by omega) (by omega) (Nat.le_refl c)]
  · rw [if_neg e1, if_neg e1]
theorem fm_slipsOf_v (h : Inv n m s g x p t) {i : Nat} (hi : i < m) (w : Int32) : fm_slipsOf t (nI i) w = rI (slp (pm t) i w) t := by
  have := h.rng
  have h8 : i < 8 := by omega
  simp only [fm_slipsOf, gI_39, pI_39, rc_39, al_40, as_40, ln_40, al_41, as_41, ln_41, al_42, as_42, ln_42, al_43, as_43, ln_43, al_44, as_44, ln_44, al_45, as_45, ln_45, al_46, as_46, ln_46, al_47, as_47, ln_47, al_48, as_48, ln_48, al_49, as_49, ln_49, al_50, as_50, ln_50, al_51, as_51, ln_51, al_52, as_52, ln_52, al_53, as_53, ln_53, al_54, as_54, ln_54, al_55, as_55, ln_55, al_56, as_56, ln_56, al_57, as_57, ln_57, al_58, as_58, ln_58, al_59, as_59, ln_59, al_60, as_60, ln_60, al_61, as_61, ln_61, al_62, as_62, ln_62, al_63, as_63, ln_63, al_64, as_64, ln_64, al_65, as_65, ln_65, al_66, as_66, ln_66, al_67, as_67, ln_67, gC_39_4, gC_39_5, gC_39_6, gC_39_7, gC_39_8, gC_39_10, gC_39_11, gC_39_12, gC_39_13, gC_39_15, gC_39_16, gC_39_18, gC_39_19, gC_39_27, gC_39_28, gC_39_29, gC_39_30, gC_39_31, gC_39_36, gC_39_37, gC_39_41, gC_39_42, gC_39_43, gC_39_44, gC_39_46, gC_39_47, gC_39_48, gC_39_49, bI_rI, bV_rV, bQ_rN, bQ_rR, bz_0, bz_1, bz_Z, hZ0, hZ1, Lay_setI, Lay_setA, rp_3, rp_8, rp_11, rp_14, rp_32, rp_34, rp_36, rp_38, rp_40, rp_41, rp_42, rp_43, rp_44, rp_45, rp_46, rp_47, rp_48, rp_49, rp_50, rp_51, rp_52, rp_53, rp_54, rp_55, rp_56, rp_57, rp_58, h.lay, h8, slp]
  split <;> rfl
theorem fm_agrees_49_v (h : Inv n m s g x p t) {i : Nat} (hi : i < m) (w : Int32) : fm_agrees_49 t w (nI i) = rI (bz (ag1 (pm t) i w)) t := by
  have := h.rng
  have h8 : i < 8 := by omega
  simp only [fm_agrees_49, gI_39, pI_39, rc_39, al_40, as_40, ln_40, al_41, as_41, ln_41, al_42, as_42, ln_42, al_43, as_43, ln_43, al_44, as_44, ln_44, al_45, as_45, ln_45, al_46, as_46, ln_46, al_47, as_47, ln_47, al_48, as_48, ln_48, al_49, as_49, ln_49, al_50, as_50, ln_50, al_51, as_51, ln_51, al_52, as_52, ln_52, al_53, as_53, ln_53, al_54, as_54, ln_54, al_55, as_55, ln_55, al_56, as_56, ln_56, al_57, as_57, ln_57, al_58, as_58, ln_58, al_59, as_59, ln_59, al_60, as_60, ln_60, al_61, as_61, ln_61, al_62, as_62, ln_62, al_63, as_63, ln_63, al_64, as_64, ln_64, al_65, as_65, ln_65, al_66, as_66, ln_66, al_67, as_67, ln_67, gC_39_4, gC_39_5, gC_39_6, gC_39_7, gC_39_8, gC_39_10, gC_39_11, gC_39_12, gC_39_13, gC_39_15, gC_39_16, gC_39_18, gC_39_19, gC_39_27, gC_39_28, gC_39_29, gC_39_30, gC_39_31, gC_39_36, gC_39_37, gC_39_41, gC_39_42, gC_39_43, gC_39_44, gC_39_46, gC_39_47, gC_39_48, gC_39_49, bI_rI, bV_rV, bQ_rN, bQ_rR, bz_0, bz_1, bz_Z, hZ0, hZ1, Lay_setI, Lay_setA, rp_3, rp_8, rp_11, rp_14, rp_32, rp_34, rp_36, rp_38, rp_40, rp_41, rp_42, rp_43, rp_44, rp_45, rp_46, rp_47, rp_48, rp_49, rp_50, rp_51, rp_52, rp_53, rp_54, rp_55, rp_56, rp_57, rp_58, h.lay, h8, fm_slipsOf_v h hi, fm_ones_v, bz_ite, bz_itf, ag1]
  by_cases e2 : pm t 40 i = 2
  · simp only [e2, if_true]
  · by_cases e3 : pm t 40 i = 3
    · simp only [if_neg e2, if_pos e3]
    · by_cases e4 : pm t 40 i = 4
      · simp only [if_neg e2, if_neg e3, if_pos e4]
      · by_cases e5 : pm t 40 i = 5
        · simp only [e2, e3, e4, e5, if_true, if_false]
          by_cases a1 : onc (slp (pm t) i w) = 2
          · by_cases a2 : (slp (pm t) i w &&& (slp (pm t) i w <<< ((1 : Int32) &&& 31))) = 0
            · simp [a1, a2, bz]
            · simp [a1, a2]
          · simp [a1, bz]
        · simp only [e2, e3, e4, e5, if_false]
theorem fm_agrees_v (h : Inv n m s g x p t) (w : Int32) {i : Nat} (hi : i < m) : fm_agrees t (nI i) w = rI (bz (agr (pm t) i w)) t := by
  have hr := h.rng
  have key : ∀ k i f, i ≤ k → i < m → i < f → fm_agrees_l2 (fun t u2 u3 => fm_agrees_49 t u2 u3) f t w (nI i) = rI (bz (agr (pm t) i w)) t := by
    intro k
    induction k with
    | zero =>
      intro i f h0 hi hf
      obtain ⟨f, rfl⟩ : ∃ f', f = f' + 1 := ⟨f - 1, by omega⟩
      obtain rfl : i = 0 := by omega
      obtain ⟨_, _, _, c, hc, e, hl⟩ := h.mps 0 hi
      have e1 : ¬ pm t 40 0 = 1 := fun e => absurd (hl e) (by omega)
      have h8 : 0 < 8 := by omega
      rw [agr_eq h.mps w hi, if_neg e1]
      show fm_agrees_2 _ _ t w (nI 0) = _
      simp only [fm_agrees_2, gI_39, pI_39, rc_39, al_40, as_40, ln_40, al_41, as_41, ln_41, al_42, as_42, ln_42, al_43, as_43, ln_43, al_44, as_44, ln_44, al_45, as_45, ln_45, al_46, as_46, ln_46, al_47, as_47, ln_47, al_48, as_48, ln_48, al_49, as_49, ln_49, al_50, as_50, ln_50, al_51, as_51, ln_51, al_52, as_52, ln_52, al_53, as_53, ln_53, al_54, as_54, ln_54, al_55, as_55, ln_55, al_56, as_56, ln_56, al_57, as_57, ln_57, al_58, as_58, ln_58, al_59, as_59, ln_59, al_60, as_60, ln_60, al_61, as_61, ln_61, al_62, as_62, ln_62, al_63, as_63, ln_63, al_64, as_64, ln_64, al_65, as_65, ln_65, al_66, as_66, ln_66, al_67, as_67, ln_67, gC_39_4, gC_39_5, gC_39_6, gC_39_7, gC_39_8, gC_39_10, gC_39_11, gC_39_12, gC_39_13, gC_39_15, gC_39_16, gC_39_18, gC_39_19, gC_39_27, gC_39_28, gC_39_29, gC_39_30, gC_39_31, gC_39_36, gC_39_37, gC_39_41, gC_39_42, gC_39_43, gC_39_44, gC_39_46, gC_39_47, gC_39_48, gC_39_49, bI_rI, bV_rV, bQ_rN, bQ_rR, bz_0, bz_1, bz_Z, hZ0, hZ1, Lay_setI, Lay_setA, rp_3, rp_8, rp_11, rp_14, rp_32, rp_34, rp_36, rp_38, rp_40, rp_41, rp_42, rp_43, rp_44, rp_45, rp_46, rp_47, rp_48, rp_49, rp_50, rp_51, rp_52, rp_53, rp_54, rp_55, rp_56, rp_57, rp_58, h.lay, h8, e1, if_false]
      exact fm_agrees_49_v h hi w
    | succ k ih =>
      intro i f h0 hi hf
      obtain ⟨f, rfl⟩ : ∃ f', f = f' + 1 := ⟨f - 1, by omega⟩
      obtain ⟨_, _, _, c, hc, e, hl⟩ := h.mps i hi
      have h8 : i < 8 := by omega
      rw [agr_eq h.mps w hi]
      show fm_agrees_2 _ _ t w (nI i) = _
      by_cases e1 : pm t 40 i = 1
      · have hlt := hl e1
        have c8 : c < 8 := by omega
        have ec : cN (nI c) = c := by unfold cN; exact nI_clamp (by omega)
        simp only [fm_agrees_2, gI_39, pI_39, rc_39, al_40, as_40, ln_40, al_41, as_41, ln_41, al_42, as_42, ln_42, al_43, as_43, ln_43, al_44, as_44, ln_44, al_45, as_45, ln_45, al_46, as_46, ln_46, al_47, as_47, ln_47, al_48, as_48, ln_48, al_49, as_49, ln_49, al_50, as_50, ln_50, al_51, as_51, ln_51, al_52, as_52, ln_52, al_53, as_53, ln_53, al_54, as_54, ln_54, al_55, as_55, ln_55, al_56, as_56, ln_56, al_57, as_57, ln_57, al_58, as_58, ln_58, al_59, as_59, ln_59, al_60, as_60, ln_60, al_61, as_61, ln_61, al_62, as_62, ln_62, al_63, as_63, ln_63, al_64, as_64, ln_64, al_65, as_65, ln_65, al_66, as_66, ln_66, al_67, as_67, ln_67, gC_39_4, gC_39_5, gC_39_6, gC_39_7, gC_39_8, gC_39_10, gC_39_11, gC_39_12, gC_39_13, gC_39_15, gC_39_16, gC_39_18, gC_39_19, gC_39_27, gC_39_28, gC_39_29, gC_39_30, gC_39_31, gC_39_36, gC_39_37, gC_39_41, gC_39_42, gC_39_43, gC_39_44, gC_39_46, gC_39_47, gC_39_48, gC_39_49, bI_rI, bV_rV, bQ_rN, bQ_rR, bz_0, bz_1, bz_Z, hZ0, hZ1, Lay_setI, Lay_setA, rp_3, rp_8, rp_11, rp_14, rp_32, rp_34, rp_36, rp_38, rp_40, rp_41, rp_42, rp_43, rp_44, rp_45, rp_46, rp_47, rp_48, rp_49, rp_50, rp_51, rp_52, rp_53, rp_54, rp_55, rp_56, rp_57, rp_58, h.lay, h8, e1, if_true, e, c8, fm_ones_v, ec]
        by_cases a1 : onc (pm t 41 i ^^^ pm t 41 c) = 1
        · simp only [a1, if_true, decide_true, Bool.true_and]
          exact ih c f (by omega) (by omega) (by omega)
        · simp only [a1, if_false, decide_false, Bool.false_and]; rfl
      · simp only [fm_agrees_2, gI_39, pI_39, rc_39, al_40, as_40, ln_40, al_41, as_41, ln_41, al_42, as_42, ln_42, al_43, as_43, ln_43, al_44, as_44, ln_44, al_45, as_45, ln_45, al_46, as_46, ln_46, al_47, as_47, ln_47, al_48, as_48, ln_48, al_49, as_49, ln_49, al_50, as_50, ln_50, al_51, as_51, ln_51, al_52, as_52, ln_52, al_53, as_53, ln_53, al_54, as_54, ln_54, al_55, as_55, ln_55, al_56, as_56, ln_56, al_57, as_57, ln_57, al_58, as_58, ln_58, al_59, as_59, ln_59, al_60, as_60, ln_60, al_61, as_61, ln_61, al_62, as_62, ln_62, al_63, as_63, ln_63, al_64, as_64, ln_64, al_65, as_65, ln_65, al_66, as_66, ln_66, al_67, as_67, ln_67, gC_39_4, gC_39_5, gC_39_6, gC_39_7, gC_39_8, gC_39_10, gC_39_11, gC_39_12, gC_39_13, gC_39_15, gC_39_16, gC_39_18, gC_39_19, gC_39_27, gC_39_28, gC_39_29, gC_39_30, gC_39_31, gC_39_36, gC_39_37, gC_39_41, gC_39_42, gC_39_43, gC_39_44, gC_39_46, gC_39_47, gC_39_48, gC_39_49, bI_rI, bV_rV, bQ_rN, bQ_rR, bz_0, bz_1, bz_Z, hZ0, hZ1, Lay_setI, Lay_setA, rp_3, rp_8, rp_11, rp_14, rp_32, rp_34, rp_36, rp_38, rp_40, rp_41, rp_42, rp_43, rp_44, rp_45, rp_46, rp_47, rp_48, rp_49, rp_50, rp_51, rp_52, rp_53, rp_54, rp_55, rp_56, rp_57, rp_58, h.lay, h8, e1, if_false]
        exact fm_agrees_49_v h hi w
  exact key i i 1000000 (Nat.le_refl i) hi (by omega)
end
