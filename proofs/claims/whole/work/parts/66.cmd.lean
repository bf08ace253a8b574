section
variable {n m s g x p : Nat} {t u : SM}
variable {G G' : GG} {R : Nat → Nat → Option Nat} {T : Nat → Nat × Nat} {N : Nat}
theorem IvX.tg (h : IvX x G R T N) (h1 : G' 51 = G 51) (h2 : G' 52 = G 52) (hk : ∀ k, (T k).1 = 8 ∨ (T k).1 = 20 → (26 ≤ k ∧ k ≤ 29) ∨ 68 ≤ k → G' k = G k) : IvX x G' R T N := by
  intro i hi
  obtain ⟨q, hq, a, b, c, d, e, f, gg⟩ := h i hi
  have ec : ∀ z, cds G' i z = cds G i z := fun z => by unfold cds; rw [h1, h2]
  refine ⟨q, hq, a, b, c, d, e, fun z hz => ?_, fun z hz => ?_⟩
  · obtain ⟨f1, b1, d1, f2, f3, f4, f5, f6, f7, f8⟩ := f z hz
    refine ⟨f1, b1, d1, f2, f3, by rw [h2]; exact f4, by rw [h2]; exact f5, f6, fun k hk2 => ?_, by rw [ec]; exact f8⟩
    obtain ⟨cc, g1, g2, g3⟩ := f7 k hk2
    exact ⟨cc, g1, by rw [h1]; exact g2, by rw [hk _ (Or.inr (by rw [f6])) (by have := a.1; omega)]; exact g3⟩
  · rw [hk q (Or.inl b) (by have := a.1; omega), ec]; exact gg z hz
theorem IvR.tg (h : IvR n s G R T N) (h1 : G' 45 = G 45) (h2 : G' 46 = G 46) (h3 : G' 47 = G 47) (h4 : G' 48 = G 48) (hk : ∀ k, (T k).1 = 6 → 68 ≤ k → G' k = G k) : IvR n s G' R T N := by
  intro i hi
  obtain ⟨a, q, hq, hc⟩ := h i hi
  refine ⟨by unfold StV; rw [h1, h2, h3, h4]; exact a, q, hq, ?_⟩
  unfold StA
  rw [hk q hc.2.1 hc.1.1, h1, h2, h3, h4]
  exact hc
/-! back -/
def bkR (t : SM) (ik i : Nat) (u : SM) : Prop := u.2 = t.2 ∧ (∀ q k, q ≠ 0 → q ≠ 1 → (∀ j, j < i → j < ik → mR t 2 j = some q → k ≠ 5) → mI u q k = mI t q k) ∧ ∀ j q, j < i → j < ik → mR t 2 j = some q → mI u q 5 = pm t 14 j
theorem back_x (h : Inv n m s g x p t) {ik : Nat} (h1 : pm t 39 22 = 1) (hk : pm t 39 25 = nI ik) (hik : ik ≤ m) :
    ∃ u, fx_back t = rI (nI ik) u ∧ bkR t ik 8 u ∧ (∀ j, mI u 0 j = if j = 9 then pm t 39 26 else if j = 2 then pm t 39 24 else if j = 1 then pm t 39 23 else mI t 0 j) ∧ ∀ j, mI u 1 j = if j = 1 then nI ik else mI t 1 j := by
  have hr := h.rng
  have hl := h.lay
  obtain ⟨i1, i2, i3, i4, i5, i6, _, il, j1, j2, j3, j4, j5, j6⟩ := h.img
  have p0 : ¬ mI t 13 0 = 0 := by rw [pm_fx hl rfl rfl, i1, h1]; decide
  have q2 : ∀ (u : SM) (j : Nat) (v : Int32), mI (setI u 0 j v) 13 = mI u 13 := fun u j v => setI_ne (by decide)
  have q3 : ∀ (u : SM) (j : Nat) (v : Int32), mI (setI u 0 j v) 1 = mI u 1 := fun u j v => setI_ne (by decide)
  have m1 : mI t 13 1 = pm t 39 23 := by rw [pm_fx hl rfl rfl, i3]
  have m2 : mI t 13 2 = pm t 39 24 := by rw [pm_fx hl rfl rfl, i4]
  have m3 : mI t 13 3 = pm t 39 26 := by rw [pm_fx hl rfl rfl, i5]
  have m4 : mI t 13 4 = nI ik := by rw [pm_fx hl rfl rfl, i6, hk]
  have l0 : Lay (setI (setI (setI t 0 1 (pm t 39 23)) 0 2 (pm t 39 24)) 0 9 (pm t 39 26)) := hl
  have sh := shrinkTo_v (m := m) (k := ik) l0 (by rw [q3, q3, q3]; exact h.mp') hr.2.1 (by omega)
  have es : (if ik < m then ik else m) = ik := by split <;> omega
  rw [es] at sh
  simp only [fx_back, gI_0, pI_0, rc_0, gI_1, pI_1, rc_1, ln_2, ql_2, al_3, as_3, ln_3, al_4, as_4, ln_4, gI_5, pI_5, rc_5, ln_6, ql_6, al_7, as_7, ln_7, al_8, as_8, ln_8, ln_9, ql_9, gI_10, pI_10, rc_10, al_11, as_11, ln_11, al_12, as_12, ln_12, gI_13, pI_13, rc_13, al_14, as_14, ln_14, ln_15, ql_15, gI_16, pI_16, rc_16, al_17, as_17, ln_17, al_18, as_18, ln_18, al_19, as_19, ln_19, al_20, as_20, ln_20, bl_21, bs_21, ln_21, gI_22, pI_22, rc_22, al_23, as_23, ln_23, al_24, as_24, ln_24, al_25, as_25, ln_25, gI_31, pI_31, rc_31, al_32, as_32, ln_32, gI_33, pI_33, rc_33, al_34, as_34, ln_34, gI_35, pI_35, rc_35, al_36, as_36, ln_36, gI_37, pI_37, rc_37, al_38, as_38, ln_38, gC_0_3, gC_0_4, gC_0_5, gC_0_7, gC_0_10, gC_0_11, gC_0_12, gC_0_13, gC_0_14, gC_0_15, gC_0_16, gC_0_17, gC_1_0, gC_1_2, gC_1_3, gC_5_0, gC_5_2, gC_10_0, gC_10_7, gC_13_5, gC_16_0, gC_16_2, gC_22_0, gC_22_1, gC_22_2, gC_22_3, gC_31_2, gC_33_2, gC_35_2, gC_37_2, bI_rI, bV_rV, bQ_rN, bQ_rR, bz_0, bz_1, bz_Z, hZ0, hZ1, Lay_setI, Lay_setA, hl, p0, if_false, q2, m1, m2, m3, m4, sh]
  have f0 : (setI (setI (setI (setI t 0 1 (pm t 39 23)) 0 2 (pm t 39 24)) 0 9 (pm t 39 26)) 1 1 (nI ik)).2 = t.2 := rfl
  have f1 : ∀ q, q ≠ 0 → q ≠ 1 → mI (setI (setI (setI (setI t 0 1 (pm t 39 23)) 0 2 (pm t 39 24)) 0 9 (pm t 39 26)) 1 1 (nI ik)) q = mI t q := fun q a b => by
    rw [setI_ne b, setI_ne a, setI_ne a, setI_ne a]
  have f2 : ∀ j, mI (setI (setI (setI (setI t 0 1 (pm t 39 23)) 0 2 (pm t 39 24)) 0 9 (pm t 39 26)) 1 1 (nI ik)) 0 j = if j = 9 then pm t 39 26 else if j = 2 then pm t 39 24 else if j = 1 then pm t 39 23 else mI t 0 j := fun j => by
    rw [setI_ne (by decide)]; simp [setI_I]
  have f3 : ∀ j, mI (setI (setI (setI (setI t 0 1 (pm t 39 23)) 0 2 (pm t 39 24)) 0 9 (pm t 39 26)) 1 1 (nI ik)) 1 j = if j = 1 then nI ik else mI t 1 j := fun j => by
    rw [setI_I]; simp [q3]
  generalize setI (setI (setI (setI t 0 1 (pm t 39 23)) 0 2 (pm t 39 24)) 0 9 (pm t 39 26)) 1 1 (nI ik) = t1 at *
  refine for_up (β := Unit) (fun f t i _ => fx_back_l62 (fun t => fx_back_100 t) f t (nI i)) (fun r => ∃ u, r = rI (nI ik) u ∧ bkR t ik 8 u ∧ (∀ j, mI u 0 j = if j = 9 then pm t 39 26 else if j = 2 then pm t 39 24 else if j = 1 then pm t 39 23 else mI t 0 j) ∧ ∀ j, mI u 1 j = if j = 1 then nI ik else mI t 1 j) 8
    (fun i u _ => bkR t ik i u ∧ mI u 0 = mI t1 0 ∧ mI u 1 = mI t1 1) ?_ ?_ 8 0 t1 () 1000000 (by omega) ⟨⟨f0, fun q k a b _ => by rw [f1 q a b], fun j q hj => absurd hj (by omega)⟩, rfl, rfl⟩ (by omega)
  · intro f u _ ⟨b, c, d⟩
    have lu := hl.of b.1
    have u1 : mI u 1 1 = nI ik := by rw [d, f3]; rfl
    show ∃ z, fx_back_62 _ _ u (nI 8) = _ ∧ _
    refine ⟨u, ?_, b, by rw [c]; exact f2, by rw [d]; exact f3⟩
    unfold fx_back_62
    rw [if_pos (show (8 : Int32) ≤ nI 8 from Int32.le_refl _)]
    simp only [fx_back_100, gI_0, pI_0, rc_0, gI_1, pI_1, rc_1, ln_2, ql_2, al_3, as_3, ln_3, al_4, as_4, ln_4, gI_5, pI_5, rc_5, ln_6, ql_6, al_7, as_7, ln_7, al_8, as_8, ln_8, ln_9, ql_9, gI_10, pI_10, rc_10, al_11, as_11, ln_11, al_12, as_12, ln_12, gI_13, pI_13, rc_13, al_14, as_14, ln_14, ln_15, ql_15, gI_16, pI_16, rc_16, al_17, as_17, ln_17, al_18, as_18, ln_18, al_19, as_19, ln_19, al_20, as_20, ln_20, bl_21, bs_21, ln_21, gI_22, pI_22, rc_22, al_23, as_23, ln_23, al_24, as_24, ln_24, al_25, as_25, ln_25, gI_31, pI_31, rc_31, al_32, as_32, ln_32, gI_33, pI_33, rc_33, al_34, as_34, ln_34, gI_35, pI_35, rc_35, al_36, as_36, ln_36, gI_37, pI_37, rc_37, al_38, as_38, ln_38, gC_0_3, gC_0_4, gC_0_5, gC_0_7, gC_0_10, gC_0_11, gC_0_12, gC_0_13, gC_0_14, gC_0_15, gC_0_16, gC_0_17, gC_1_0, gC_1_2, gC_1_3, gC_5_0, gC_5_2, gC_10_0, gC_10_7, gC_13_5, gC_16_0, gC_16_2, gC_22_0, gC_22_1, gC_22_2, gC_22_3, gC_31_2, gC_33_2, gC_35_2, gC_37_2, bI_rI, bV_rV, bQ_rN, bQ_rR, bz_0, bz_1, bz_Z, hZ0, hZ1, Lay_setI, Lay_setA, lu, u1]
  · intro f u i _ hi ⟨b, c, d⟩ ih
    have lu := hl.of b.1
    have u1 : mI u 1 1 = nI ik := by rw [d, f3]; rfl
    have e8 : ¬ (8 : Int32) ≤ nI i := nI_ge (b := 8) hi (by decide)
    show ∃ z, fx_back_62 _ _ u (nI i) = _ ∧ _
    unfold fx_back_62
    rw [if_neg e8, gC_0_3 lu, rc_1 lu]
    by_cases cm : i < ik
    · obtain ⟨q, _, hq, hc⟩ := chartAt_in h (show i < m by omega)
      have q68 := hc.1.1
      have tg : (mT u q).1 = 2 := by unfold mT; rw [b.1]; exact hc.2.1
      have nn : ∀ j, j < i → j < ik → mR t 2 j = some 14 → i ≠ 5 := fun j _ hj2 hj3 => by
        obtain ⟨q', hq', hc'⟩ := h.chs.1 j (by omega)
        rw [hj3] at hq'
        have z1 := Option.some.inj hq'
        have z2 := hc'.1.1
        omega
      have e14 : mI u 14 i = pm t 14 i := (b.2.1 14 i (by decide) (by decide) nn).trans (rp_14 hl)
      have pt : ∀ (v : Int32) (c : SM → OR), hPutI u 2 q 5 v c = c (setI u q 5 v) := fun v c => if_pos tg
      rw [chart_in lu u1 (by omega) cm (by unfold mR; rw [b.1]; exact hq), bQ_rR, gC_0_11 lu, gC_13_5 lu, al_14 lu hi, e14, pt, nI_1]
      refine ih _ () ⟨⟨b.1, fun z k a1 a2 a3 => ?_, fun j z hj hj2 hj3 => ?_⟩, by rw [setI_ne (by omega)]; exact c, by rw [setI_ne (by omega)]; exact d⟩
      · by_cases ez : z = q ∧ k = 5
        · exact absurd ez.2 (a3 i (by omega) cm (by rw [ez.1]; exact hq))
        · rw [setI_I, if_neg ez]; exact b.2.1 z k a1 a2 (fun j hj => a3 j (by omega))
      · by_cases ej : j = i
        · subst ej
          rw [hq] at hj3
          rw [setI_eq (Option.some.inj hj3).symm rfl]
        · have : z ≠ q := fun e => ej (h.chs.2 j i q (by omega) (by omega) (by rw [← e]; exact hj3) hq)
          rw [setI_ne this]; exact b.2.2 j z (by omega) hj2 hj3
    · rw [chart_no lu u1 (inr_no (by omega) (by omega)), bQ_rN, nI_1]
      refine ih u () ⟨⟨b.1, fun z k a1 a2 a3 => b.2.1 z k a1 a2 (fun j hj => a3 j (by omega)), fun j z hj hj2 => b.2.2 j z (by omega) hj2⟩, c, d⟩
theorem back_m {ik : Nat} {G1 : Nat → Int32} (hl : Lay t) (h22 : mI t 39 22 = 1) (h25 : mI t 39 25 = nI ik) (hm : ik ≤ 8) (h53 : ∀ j, j < ik → mI t 53 j = G1 j) :
    ∃ u, fm_back t = rI (nI ik) u ∧ u.2 = t.2 ∧ (∀ q, q ≠ 39 → q ≠ 44 → mI u q = mI t q) ∧ (∀ j, mI u 39 j = if j = 21 then mI t 39 26 else if j = 3 then nI ik else if j = 2 then mI t 39 24 else if j = 1 then mI t 39 23 else mI t 39 j) ∧ ∀ j, mI u 44 j = if j < ik then G1 j else mI t 44 j := by
  have n22 : ¬ mI t 39 22 = 0 := by rw [h22]; decide
  have r1 : mI (setI t 39 1 (mI t 39 23)) 39 24 = mI t 39 24 := by simp [setI_I]
  have r2 : mI (setI (setI t 39 1 (mI t 39 23)) 39 2 (mI t 39 24)) 39 25 = nI ik := by simp [setI_I, h25]
  have r3 : mI (setI (setI (setI t 39 1 (mI t 39 23)) 39 2 (mI t 39 24)) 39 3 (nI ik)) 39 26 = mI t 39 26 := by simp [setI_I]
  simp only [fm_back, gI_39, pI_39, rc_39, al_40, as_40, ln_40, al_41, as_41, ln_41, al_42, as_42, ln_42, al_43, as_43, ln_43, al_44, as_44, ln_44, al_45, as_45, ln_45, al_46, as_46, ln_46, al_47, as_47, ln_47, al_48, as_48, ln_48, al_49, as_49, ln_49, al_50, as_50, ln_50, al_51, as_51, ln_51, al_52, as_52, ln_52, al_53, as_53, ln_53, al_54, as_54, ln_54, al_55, as_55, ln_55, al_56, as_56, ln_56, al_57, as_57, ln_57, al_58, as_58, ln_58, al_59, as_59, ln_59, al_60, as_60, ln_60, al_61, as_61, ln_61, al_62, as_62, ln_62, al_63, as_63, ln_63, al_64, as_64, ln_64, al_65, as_65, ln_65, al_66, as_66, ln_66, al_67, as_67, ln_67, gC_39_4, gC_39_5, gC_39_6, gC_39_7, gC_39_8, gC_39_10, gC_39_11, gC_39_12, gC_39_13, gC_39_15, gC_39_16, gC_39_18, gC_39_19, gC_39_27, gC_39_28, gC_39_29, gC_39_30, gC_39_31, gC_39_36, gC_39_37, gC_39_41, gC_39_42, gC_39_43, gC_39_44, gC_39_46, gC_39_47, gC_39_48, gC_39_49, bI_rI, bV_rV, bQ_rN, bQ_rR, bz_0, bz_1, bz_Z, hZ0, hZ1, Lay_setI, Lay_setA, hl, n22, if_false, r1, r2, r3]
  have f0 : (setI (setI (setI (setI t 39 1 (mI t 39 23)) 39 2 (mI t 39 24)) 39 3 (nI ik)) 39 21 (mI t 39 26)).2 = t.2 := rfl
  have f1 : ∀ q, q ≠ 39 → mI (setI (setI (setI (setI t 39 1 (mI t 39 23)) 39 2 (mI t 39 24)) 39 3 (nI ik)) 39 21 (mI t 39 26)) q = mI t q := fun q hq => by
    rw [setI_ne hq, setI_ne hq, setI_ne hq, setI_ne hq]
  have f2 : ∀ j, mI (setI (setI (setI (setI t 39 1 (mI t 39 23)) 39 2 (mI t 39 24)) 39 3 (nI ik)) 39 21 (mI t 39 26)) 39 j = if j = 21 then mI t 39 26 else if j = 3 then nI ik else if j = 2 then mI t 39 24 else if j = 1 then mI t 39 23 else mI t 39 j := fun j => by simp [setI_I]
  generalize setI (setI (setI (setI t 39 1 (mI t 39 23)) 39 2 (mI t 39 24)) 39 3 (nI ik)) 39 21 (mI t 39 26) = t1 at *
  refine for_up (β := Unit) (fun f t i _ => fm_back_l44 (fun t => fm_back_70 t) f t (nI i)) (fun r => ∃ u, r = rI (nI ik) u ∧ u.2 = t.2 ∧ (∀ q, q ≠ 39 → q ≠ 44 → mI u q = mI t q) ∧ (∀ j, mI u 39 j = if j = 21 then mI t 39 26 else if j = 3 then nI ik else if j = 2 then mI t 39 24 else if j = 1 then mI t 39 23 else mI t 39 j) ∧ ∀ j, mI u 44 j = if j < ik then G1 j else mI t 44 j) ik
    (fun i u _ => u.2 = t.2 ∧ (∀ q, q ≠ 39 → q ≠ 44 → mI u q = mI t q) ∧ mI u 39 = mI t1 39 ∧ ∀ j, mI u 44 j = if j < i then G1 j else mI t 44 j) ?_ ?_ ik 0 t1 () 1000000 (by omega) ⟨f0, fun q a b => f1 q a, rfl, fun j => by rw [if_neg (by omega), f1 44 (by decide)]⟩ (by omega)
  · intro f u _ ⟨e, a, b, c⟩
    have lu := hl.of e
    have u1 : mI u 39 3 = nI ik := by rw [b, f2]; simp
    have e9 : nI ik ≤ nI ik := Int32.le_refl _
    show ∃ z, fm_back_44 _ _ u (nI ik) = _ ∧ _
    refine ⟨u, ?_, e, a, by rw [b]; exact f2, c⟩
    simp only [fm_back_44, gI_39, pI_39, rc_39, al_40, as_40, ln_40, al_41, as_41, ln_41, al_42, as_42, ln_42, al_43, as_43, ln_43, al_44, as_44, ln_44, al_45, as_45, ln_45, al_46, as_46, ln_46, al_47, as_47, ln_47, al_48, as_48, ln_48, al_49, as_49, ln_49, al_50, as_50, ln_50, al_51, as_51, ln_51, al_52, as_52, ln_52, al_53, as_53, ln_53, al_54, as_54, ln_54, al_55, as_55, ln_55, al_56, as_56, ln_56, al_57, as_57, ln_57, al_58, as_58, ln_58, al_59, as_59, ln_59, al_60, as_60, ln_60, al_61, as_61, ln_61, al_62, as_62, ln_62, al_63, as_63, ln_63, al_64, as_64, ln_64, al_65, as_65, ln_65, al_66, as_66, ln_66, al_67, as_67, ln_67, gC_39_4, gC_39_5, gC_39_6, gC_39_7, gC_39_8, gC_39_10, gC_39_11, gC_39_12, gC_39_13, gC_39_15, gC_39_16, gC_39_18, gC_39_19, gC_39_27, gC_39_28, gC_39_29, gC_39_30, gC_39_31, gC_39_36, gC_39_37, gC_39_41, gC_39_42, gC_39_43, gC_39_44, gC_39_46, gC_39_47, gC_39_48, gC_39_49, bI_rI, bV_rV, bQ_rN, bQ_rR, bz_0, bz_1, bz_Z, hZ0, hZ1, Lay_setI, Lay_setA, lu, u1, e9, if_true, fm_back_70]
  · intro f u i _ hi ⟨e, a, b, c⟩ ih
    have lu := hl.of e
    have u1 : mI u 39 3 = nI ik := by rw [b, f2]; simp
    have e9 : ¬ nI ik ≤ nI i := nI_ge hi (by omega)
    have i8 : i < 8 := by omega
    show ∃ z, fm_back_44 _ _ u (nI i) = _ ∧ _
    unfold fm_back_44
    rw [gI_39 lu, u1, if_neg e9, gC_39_8 lu, gC_39_27 lu, al_53 lu i8, as_44 lu i8, nI_1]
    refine ih _ () ⟨e, fun q a1 a2 => by rw [setI_ne a2]; exact a q a1 a2, by rw [setI_ne (by decide)]; exact b, fun j => ?_⟩
    by_cases c1 : j = i
    · rw [setI_eq rfl c1, a 53 (by decide) (by decide), h53 i hi, if_pos (by omega), c1]
    · rw [setI_I, if_neg (fun z => c1 z.2), c]
      by_cases c2 : j < i
      · rw [if_pos c2, if_pos (by omega)]
      · rw [if_neg c2, if_neg (by omega)]
theorem ok_back (h : Inv n m s g x p t) : Okk t (fun t => fx_back t) (fun t => fm_back t) := by
  have hr := h.rng
  have hl := h.lay
  obtain ⟨i1, i2, i3, i4, i5, i6, ik, il, j1, j2, j3, j4, j5, j6⟩ := h.img
  rcases i2 with e | e
  · refine okr h (v := -3) ?_ ?_
    · have : mI t 13 0 = 0 := by rw [pm_fx hl rfl rfl, i1, e]
      simp only [fx_back, gI_0, pI_0, rc_0, gI_1, pI_1, rc_1, ln_2, ql_2, al_3, as_3, ln_3, al_4, as_4, ln_4, gI_5, pI_5, rc_5, ln_6, ql_6, al_7, as_7, ln_7, al_8, as_8, ln_8, ln_9, ql_9, gI_10, pI_10, rc_10, al_11, as_11, ln_11, al_12, as_12, ln_12, gI_13, pI_13, rc_13, al_14, as_14, ln_14, ln_15, ql_15, gI_16, pI_16, rc_16, al_17, as_17, ln_17, al_18, as_18, ln_18, al_19, as_19, ln_19, al_20, as_20, ln_20, bl_21, bs_21, ln_21, gI_22, pI_22, rc_22, al_23, as_23, ln_23, al_24, as_24, ln_24, al_25, as_25, ln_25, gI_31, pI_31, rc_31, al_32, as_32, ln_32, gI_33, pI_33, rc_33, al_34, as_34, ln_34, gI_35, pI_35, rc_35, al_36, as_36, ln_36, gI_37, pI_37, rc_37, al_38, as_38, ln_38, gC_0_3, gC_0_4, gC_0_5, gC_0_7, gC_0_10, gC_0_11, gC_0_12, gC_0_13, gC_0_14, gC_0_15, gC_0_16, gC_0_17, gC_1_0, gC_1_2, gC_1_3, gC_5_0, gC_5_2, gC_10_0, gC_10_7, gC_13_5, gC_16_0, gC_16_2, gC_22_0, gC_22_1, gC_22_2, gC_22_3, gC_31_2, gC_33_2, gC_35_2, gC_37_2, bI_rI, bV_rV, bQ_rN, bQ_rR, bz_0, bz_1, bz_Z, hZ0, hZ1, Lay_setI, Lay_setA, hl, this, if_true]
    · have : mI t 39 22 = 0 := by rw [pm_fx hl rfl rfl, e]
      simp only [fm_back, gI_39, pI_39, rc_39, al_40, as_40, ln_40, al_41, as_41, ln_41, al_42, as_42, ln_42, al_43, as_43, ln_43, al_44, as_44, ln_44, al_45, as_45, ln_45, al_46, as_46, ln_46, al_47, as_47, ln_47, al_48, as_48, ln_48, al_49, as_49, ln_49, al_50, as_50, ln_50, al_51, as_51, ln_51, al_52, as_52, ln_52, al_53, as_53, ln_53, al_54, as_54, ln_54, al_55, as_55, ln_55, al_56, as_56, ln_56, al_57, as_57, ln_57, al_58, as_58, ln_58, al_59, as_59, ln_59, al_60, as_60, ln_60, al_61, as_61, ln_61, al_62, as_62, ln_62, al_63, as_63, ln_63, al_64, as_64, ln_64, al_65, as_65, ln_65, al_66, as_66, ln_66, al_67, as_67, ln_67, gC_39_4, gC_39_5, gC_39_6, gC_39_7, gC_39_8, gC_39_10, gC_39_11, gC_39_12, gC_39_13, gC_39_15, gC_39_16, gC_39_18, gC_39_19, gC_39_27, gC_39_28, gC_39_29, gC_39_30, gC_39_31, gC_39_36, gC_39_37, gC_39_41, gC_39_42, gC_39_43, gC_39_44, gC_39_46, gC_39_47, gC_39_48, gC_39_49, bI_rI, bV_rV, bQ_rN, bQ_rR, bz_0, bz_1, bz_Z, hZ0, hZ1, Lay_setI, Lay_setA, hl, this, if_true]
  · have hik := j5 e
    obtain ⟨t1, f1, b1, c1, d1⟩ := back_x h e j3 hik
    have l1 := hl.of b1.1
    -- fixed rows stay
    have notch : ∀ q, q < 68 → ∀ j, j < 8 → j < ik → mR t 2 j = some q → False := fun q hq j _ hj hj3 => by
      obtain ⟨q', hq', hc'⟩ := h.chs.1 j (by omega)
      rw [hj3] at hq'
      have := Option.some.inj hq'
      have := hc'.1.1
      omega
    have k1 : ∀ q, q < 68 → q ≠ 0 → q ≠ 1 → mI t1 q = mI t q := fun q hq a b => funext fun k => b1.2.1 q k a b (fun j h1 h2 h3 => (notch q hq j h1 h2 h3).elim)
    have k39 := k1 39 (by decide) (by decide) (by decide)
    obtain ⟨t2, f2, e2, a2, c2, d2⟩ := back_m (t := t1) (ik := ik) (G1 := fun j => pm t 53 j) l1 (by rw [k39, pm_fx hl rfl rfl, e]) (by rw [k39, pm_fx hl rfl rfl, j3]) j1 (fun j hj => by rw [k1 53 (by decide) (by decide) (by decide)]; exact rp_53 hl)
    have ee : t2.2 = t.2 := e2.trans b1.1
    have eT : mT t2 = mT t := by unfold mT; rw [ee]
    have eR : mR t2 = mR t := by unfold mR; rw [ee]
    have eN : mN t2 = mN t := by unfold mN; rw [ee]
    have l2 := hl.of ee
    have rows : ∀ q, q < 68 → q ∉ [0, 1, 39, 44] → pm t2 q = pm t q := fun q hq hm => by
      simp at hm
      exact pm_rw ee (by rw [a2 q (by omega) (by omega), k1 q hq (by omega) (by omega)])
    have heap : ∀ q, 68 ≤ q → (mT t q).1 ≠ 2 → pm t2 q = pm t q := fun q hq ht => pm_rw ee (by
      rw [a2 q (by omega) (by omega)]
      funext k
      exact b1.2.1 q k (by omega) (by omega) (fun j h1 h2 h3 => by
        obtain ⟨q', hq', hc'⟩ := h.chs.1 j (by omega)
        rw [h3] at hq'
        rw [Option.some.inj hq'] at ht
        exact absurd hc'.2.1 ht))
    have w39 : ∀ j, j ≠ 1 → j ≠ 2 → j ≠ 3 → j ≠ 21 → pm t2 39 j = pm t 39 j := fun j a b c d => pm_of ee (by rw [c2, if_neg d, if_neg c, if_neg b, if_neg a, k39])
    have w0 : ∀ j, j ≠ 1 → j ≠ 2 → j ≠ 9 → pm t2 0 j = pm t 0 j := fun j a b c => pm_of ee (by rw [a2 0 (by decide) (by decide), c1, if_neg c, if_neg b, if_neg a])
    have p1 : pm t2 39 1 = pm t 39 23 := by rw [← pm_fx l2 rfl rfl, c2, k39]; simp [pm_fx (k := 39) (j := 23) hl rfl rfl]
    have p2 : pm t2 39 2 = pm t 39 24 := by rw [← pm_fx l2 rfl rfl, c2, k39]; simp [pm_fx (k := 39) (j := 24) hl rfl rfl]
    have p3 : pm t2 39 3 = nI ik := by rw [← pm_fx l2 rfl rfl, c2]; simp
    have p21 : pm t2 39 21 = pm t 39 26 := by rw [← pm_fx l2 rfl rfl, c2, k39]; simp [pm_fx (k := 39) (j := 26) hl rfl rfl]
    have o1 : pm t2 0 1 = pm t 39 23 := by rw [← pm_fx l2 rfl rfl, a2 0 (by decide) (by decide), c1]; simp
    have o2 : pm t2 0 2 = pm t 39 24 := by rw [← pm_fx l2 rfl rfl, a2 0 (by decide) (by decide), c1]; simp
    have o9 : pm t2 0 9 = pm t 39 26 := by rw [← pm_fx l2 rfl rfl, a2 0 (by decide) (by decide), c1]; simp
    have s1 : pm t2 1 1 = nI ik := by rw [← pm_fx l2 rfl rfl, a2 1 (by decide) (by decide), d1]; simp
    have s44 : ∀ j, j < ik → pm t2 44 j = pm t 53 j := fun j hj => by rw [← rp_44 l2, d2, if_pos hj]
    obtain ⟨_, ⟨a3, a4⟩, ⟨b3, b4⟩, ⟨c3, c4⟩, ⟨d3, d4⟩, ⟨e3, e4⟩, ⟨g1, g2⟩, g3, g4, g5, gl1, gl2, gl3⟩ := h.num
    have r40 := rows 40 (by decide) (by decide); have r41 := rows 41 (by decide) (by decide); have r42 := rows 42 (by decide) (by decide); have r43 := rows 43 (by decide) (by decide)
    refine okc f1 f2 l1 (n' := n) (m' := ik) (s' := s) (g' := g) (x' := x) (p' := p) ⟨l2, ?_⟩ eN (by unfold mZ; rw [ee])
    rw [eT, eR, eN]
    refine ⟨IvN.mk ⟨hr.1, j1, hr.2.2⟩ ?_ ?_ p3 s1 ?_ ?_ ?_ ?_ ?_ ?_ ?_ ?_ (by rw [o1, p1]) (by rw [o2, p2]) (by rw [o9, p21]) ⟨il, j2, by rw [p21, j4]⟩, ?_, ?_, ?_, ?_, ?_, ⟨?_, fun i j q a b => h.chs.2 i j q (by omega) (by omega)⟩, ?_, ?_, ?_, h.tgs, ?_⟩
    · rw [w39 0 (by decide) (by decide) (by decide) (by decide)]; exact a3
    · rw [w0 0 (by decide) (by decide) (by decide)]; exact a4
    · rw [w39 9 (by decide) (by decide) (by decide) (by decide)]; exact c3
    · rw [rows 5 (by decide) (by decide)]; exact c4
    · rw [w39 14 (by decide) (by decide) (by decide) (by decide)]; exact d3
    · rw [w0 6 (by decide) (by decide) (by decide)]; exact d4
    · rw [w39 20 (by decide) (by decide) (by decide) (by decide)]; exact e3
    · rw [w0 8 (by decide) (by decide) (by decide)]; exact e4
    · rw [w39 17 (by decide) (by decide) (by decide) (by decide)]; exact g1
    · rw [rows 10 (by decide) (by decide)]; exact g2
    · have := h.gos; unfold IvG at *; rw [rows 8 (by decide) (by decide), rows 49 (by decide) (by decide)]; exact this
    · have := h.tap; unfold IvT at *; rw [rows 11 (by decide) (by decide), rows 50 (by decide) (by decide)]; exact this
    · unfold IvI
      rw [rows 13 (by decide) (by decide), rows 14 (by decide) (by decide), rows 53 (by decide) (by decide), w39 22 (by decide) (by decide) (by decide) (by decide), w39 23 (by decide) (by decide) (by decide) (by decide), w39 24 (by decide) (by decide) (by decide) (by decide), w39 25 (by decide) (by decide) (by decide) (by decide), w39 26 (by decide) (by decide) (by decide) (by decide)]
      exact ⟨i1, Or.inr e, i3, i4, i5, i6, ik, il, j1, j2, j3, j4, fun _ => Nat.le_refl ik, j6⟩
    · intro i hi
      rw [rows (31 + 2 * i) (by omega) (by simp; omega), rows (32 + 2 * i) (by omega) (by simp; omega), rows 54 (by decide) (by decide), rows 55 (by decide) (by decide), rows 56 (by decide) (by decide)]
      exact h.shs i hi
    · intro i hi
      rw [r40, r41, r42, r43]
      exact h.mps i (by omega)
    · intro i hi
      obtain ⟨q, hq, hc⟩ := h.chs.1 i (by omega)
      have h68 := hc.1.1
      have fld : ∀ k, k ≠ 5 → pm t2 q k = pm t q k := fun k hk => pm_of ee (by rw [a2 q (by omega) (by omega)]; exact b1.2.1 q k (by omega) (by omega) (fun _ _ _ _ => hk))
      refine ⟨q, hq, hc.1, hc.2.1, hc.2.2.1, ?_, ?_, ?_, ?_, ?_, ?_⟩
      · rw [r40, fld 0 (by decide)]; exact hc.2.2.2.1
      · rw [r41, fld 1 (by decide)]; exact hc.2.2.2.2.1
      · rw [r42, fld 2 (by decide)]; exact hc.2.2.2.2.2.1
      · rw [r43, fld 3 (by decide)]; exact hc.2.2.2.2.2.2.1
      · rw [r40, r41, r43, fld 4 (by decide)]; exact hc.2.2.2.2.2.2.2.1
      · have tq : (mT t2 q).1 = 2 := by rw [eT]; exact hc.2.1
        have tq2 : (mT t2 (q - 1)).1 ≠ 8 := by rw [eT]; exact hc.2.2.1
        rw [s44 i hi, ← pm_cl (t := t2) h68 (by rw [tq]; decide) tq2, a2 q (by omega) (by omega), b1.2.2 i q (by omega) hi hq, j6 i hi]
    · intro j hj
      obtain ⟨r, a, b, c⟩ := h.agg j hj
      refine ⟨r, a, by rw [rows 3 (by decide) (by decide)]; exact b, fun i hi => ?_⟩
      have : ∀ w f i, agF (pm t2) w f i = agF (pm t) w f i := by
        intro w f
        have e : ∀ i, ag1 (pm t2) i w = ag1 (pm t) i w := fun i => by unfold ag1 slp; rw [r40, r41, r42, r43]
        induction f with
        | zero => intro i; exact e i
        | succ f ih => intro i; unfold agF; rw [e, ih, r40, r41, r43]
      unfold agr; rw [this]; exact c i (by omega)
    · exact h.sts.tg (rows 45 (by decide) (by decide)) (rows 46 (by decide) (by decide)) (rows 47 (by decide) (by decide)) (rows 48 (by decide) (by decide)) (fun k hk h6 => heap k h6 (by rw [hk]; decide))
    · refine h.txs.tg (rows 51 (by decide) (by decide)) (rows 52 (by decide) (by decide)) (fun k hk h6 => ?_)
      rcases h6 with h6 | h6
      · exact rows k (by omega) (by simp; omega)
      · exact heap k h6 (by rcases hk with hk | hk <;> rw [hk] <;> decide)
    · have := h.wds; unfold IvW at *; rw [rows 58 (by decide) (by decide)]; exact this
end
