section
variable {n m s g x p : Nat} {t u : SM}
/-- the class's drawing: its sum, and from whom each is drawn -/
theorem drawn_x (h : Inv n m s g x p t) : ∃ u', fAt_drawFromOneAnother t = rI (nI (trS (DD (pm t)) m (m - 1)).2.2) u' ∧ FS [4] t u' ∧ ∀ q, q < m → (trS (DD (pm t)) m (m - 1)).1 q = true → mI u' 4 q = (trS (DD (pm t)) m (m - 1)).2.1 q := by
  have hr := h.rng
  have hl := h.lay
  have fl := L_fill (t := t) (k := 4) (N := 8) hl (by decide) rfl (-1)
  have hu : FS [4] t (setA t 4 (fun j => if j < 8 then -1 else mI t 4 j)) := ⟨⟨rfl, by
    funext q j
    unfold pm
    rw [setA_I]
    by_cases e : q = 4
    · subst e
      have : scr (mT t) 4 j = true := by unfold scr; rw [show scrF 4 j = true from rfl]; rfl
      show (if scr (mT t) 4 j = true then _ else _) = _
      rw [if_pos this, if_pos this]
    · rw [if_neg e]; rfl⟩, fun q _ hq => by rw [setA_I, if_neg (by simpa using hq)]⟩
  have w4 : ∀ q, q < 8 → mI (setA t 4 (fun j => if j < 8 then -1 else mI t 4 j)) 4 q = -1 := fun q hq => by rw [setA_I, if_pos rfl, if_pos hq]
  generalize setA t 4 (fun j => if j < 8 then -1 else mI t 4 j) = w at *
  have st : fAt_drawFromOneAnother t = fAt_drawFromOneAnother_l14 1000000 w 0 1 1 := by
    simp only [fAt_drawFromOneAnother, gI_0, pI_0, rc_0, gI_1, pI_1, rc_1, ln_2, ql_2, al_3, as_3, ln_3, al_4, as_4, ln_4, gI_5, pI_5, rc_5, ln_6, ql_6, al_7, as_7, ln_7, al_8, as_8, ln_8, ln_9, ql_9, gI_10, pI_10, rc_10, al_11, as_11, ln_11, al_12, as_12, ln_12, gI_13, pI_13, rc_13, al_14, as_14, ln_14, ln_15, ql_15, gI_16, pI_16, rc_16, al_17, as_17, ln_17, al_18, as_18, ln_18, al_19, as_19, ln_19, al_20, as_20, ln_20, bl_21, bs_21, ln_21, gI_22, pI_22, rc_22, al_23, as_23, ln_23, al_24, as_24, ln_24, al_25, as_25, ln_25, gI_31, pI_31, rc_31, al_32, as_32, ln_32, gI_33, pI_33, rc_33, al_34, as_34, ln_34, gI_35, pI_35, rc_35, al_36, as_36, ln_36, gI_37, pI_37, rc_37, al_38, as_38, ln_38, gC_0_3, gC_0_4, gC_0_5, gC_0_7, gC_0_10, gC_0_11, gC_0_12, gC_0_13, gC_0_14, gC_0_15, gC_0_16, gC_0_17, gC_1_0, gC_1_2, gC_1_3, gC_5_0, gC_5_2, gC_10_0, gC_10_7, gC_13_5, gC_16_0, gC_16_2, gC_22_0, gC_22_1, gC_22_2, gC_22_3, gC_31_2, gC_33_2, gC_35_2, gC_37_2, bI_rI, bV_rV, bQ_rN, bQ_rR, bz_0, bz_1, bz_Z, hZ0, hZ1, Lay_setI, Lay_setA, hl, fl]
  by_cases hm : m = 0
  · refine ⟨w, ?_, hu, fun q hq => absurd hq (by omega)⟩
    have hI := h.fr hu.1
    have e9 : nI m ≤ 1 := by rw [hm]; decide
    rw [st]
    show fAt_drawFromOneAnother_14 _ w _ _ _ = _
    simp only [fAt_drawFromOneAnother_14, gI_0, pI_0, rc_0, gI_1, pI_1, rc_1, ln_2, ql_2, al_3, as_3, ln_3, al_4, as_4, ln_4, gI_5, pI_5, rc_5, ln_6, ql_6, al_7, as_7, ln_7, al_8, as_8, ln_8, ln_9, ql_9, gI_10, pI_10, rc_10, al_11, as_11, ln_11, al_12, as_12, ln_12, gI_13, pI_13, rc_13, al_14, as_14, ln_14, ln_15, ql_15, gI_16, pI_16, rc_16, al_17, as_17, ln_17, al_18, as_18, ln_18, al_19, as_19, ln_19, al_20, as_20, ln_20, bl_21, bs_21, ln_21, gI_22, pI_22, rc_22, al_23, as_23, ln_23, al_24, as_24, ln_24, al_25, as_25, ln_25, gI_31, pI_31, rc_31, al_32, as_32, ln_32, gI_33, pI_33, rc_33, al_34, as_34, ln_34, gI_35, pI_35, rc_35, al_36, as_36, ln_36, gI_37, pI_37, rc_37, al_38, as_38, ln_38, gC_0_3, gC_0_4, gC_0_5, gC_0_7, gC_0_10, gC_0_11, gC_0_12, gC_0_13, gC_0_14, gC_0_15, gC_0_16, gC_0_17, gC_1_0, gC_1_2, gC_1_3, gC_5_0, gC_5_2, gC_10_0, gC_10_7, gC_13_5, gC_16_0, gC_16_2, gC_22_0, gC_22_1, gC_22_2, gC_22_3, gC_31_2, gC_33_2, gC_35_2, gC_37_2, bI_rI, bV_rV, bQ_rN, bQ_rR, bz_0, bz_1, bz_Z, hZ0, hZ1, Lay_setI, Lay_setA, hI.lay, hI.mp', e9, if_true]
    rw [hm]; rfl
  · obtain ⟨u', f1, f2, f3⟩ := dr14 h (m - 1) 0 1000000 w 1 (by omega) (by omega) hu (fun k hk => by
      rw [b_1 k (by omega)]
      show _ = (k == 0)
      rw [Bool.eq_iff_iff]; simp) (fun q hq _ => w4 q (by omega))
    exact ⟨u', by rw [st]; exact f1, f2, f3⟩
end
