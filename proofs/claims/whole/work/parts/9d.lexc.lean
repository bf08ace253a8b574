section
/-! what a reading leaves as it was -/
def FF (P : Nat → Nat → Bool) (t u : SM) : Prop := u.2 = t.2 ∧ ∀ k j, P k j = false → mI u k j = mI t k j
variable {P Q : Nat → Nat → Bool} {t u w : SM}
theorem FF.refl (P : Nat → Nat → Bool) (t : SM) : FF P t t := ⟨rfl, fun _ _ _ => rfl⟩
theorem FF.tr (h : FF P t u) (h2 : FF P u w) : FF P t w := ⟨h2.1.trans h.1, fun k j a => (h2.2 k j a).trans (h.2 k j a)⟩
theorem FF.up (h : FF P t u) (hq : ∀ k j, P k j = true → Q k j = true) : FF Q t u := ⟨h.1, fun k j a => h.2 k j (by
  cases e : P k j
  · rfl
  · rw [hq k j e] at a; exact absurd a (by decide))⟩
theorem FF.st {k j : Nat} {v : Int32} (h : FF P t u) (hk : P k j = true) : FF P t (setI u k j v) := ⟨h.1, fun q i a => by
  rw [setI_I, if_neg (fun e => by rw [e.1, e.2, hk] at a; exact absurd a (by decide))]; exact h.2 q i a⟩
theorem FF.fr (h : FF P t u) (hP : ∀ k j, P k j = true → scrF k j = true) : Fr t u := ⟨h.1, funext fun k => funext fun j => by
  have hT : mT u = mT t := by unfold mT; rw [h.1]
  unfold pm
  rw [hT]
  by_cases s : scr (mT t) k j = true
  · rw [if_pos s, if_pos s]
  · rw [if_neg s, if_neg s]
    refine h.2 k j ?_
    cases e : P k j
    · rfl
    · exact absurd (by unfold scr; rw [hP k j e]; rfl) s⟩
theorem FF.T (h : FF P t u) : mT u = mT t := by unfold mT; rw [h.1]
theorem FF.R (h : FF P t u) : mR u = mR t := by unfold mR; rw [h.1]
theorem FF.N (h : FF P t u) : mN u = mN t := by unfold mN; rw [h.1]
theorem FF.Z (h : FF P t u) : mZ u = mZ t := by unfold mZ; rw [h.1]
theorem FF.lay (h : FF P t u) (hl : Lay t) : Lay u := by unfold Lay at *; rw [h.T, h.R, h.N]; exact hl
def P3 (k j : Nat) : Bool := k == 10 && j == 3
def P36 (k j : Nat) : Bool := k == 10 && (j == 3 || j == 6)
def PA (k j : Nat) : Bool := k == 10 && (j == 2 || (j == 3 || (j == 4 || (j == 5 || j == 6))))
def PC (k j : Nat) : Bool := (k == 10 && (j == 2 || (j == 3 || (j == 4 || (j == 5 || (j == 6 || j == 8)))))) || k == 12
theorem P3_A (k j : Nat) (h : P3 k j = true) : PA k j = true := by
  simp only [P3, PA, Bool.and_eq_true, Bool.or_eq_true, beq_iff_eq] at h ⊢; omega
theorem P36_A (k j : Nat) (h : P36 k j = true) : PA k j = true := by
  simp only [P36, PA, Bool.and_eq_true, Bool.or_eq_true, beq_iff_eq] at h ⊢; omega
theorem PA_C (k j : Nat) (h : PA k j = true) : PC k j = true := by
  simp only [PC, PA, Bool.and_eq_true, Bool.or_eq_true, beq_iff_eq] at h ⊢; omega
theorem PC_s (k j : Nat) (h : PC k j = true) : scrF k j = true := by
  simp only [PC, Bool.and_eq_true, Bool.or_eq_true, beq_iff_eq] at h
  rcases h with ⟨rfl, h⟩ | rfl
  · rcases h with rfl | rfl | rfl | rfl | rfl | rfl <;> rfl
  · rfl
theorem PA_s (k j : Nat) (h : PA k j = true) : scrF k j = true := PC_s k j (PA_C k j h)
end
section
variable {n m s g x p : Nat} {t0 t u : SM}
theorem byA (h : Inv n m s g x p t0) (f : Fr t0 u) {a : Nat} (ha : a ≤ 160) : fRd_byteAt u (nI a) = rI (if a < p then nI (Bt (pm t0) a) else 256) u := by
  have := byteAt_v (h.fr f) ha; rw [f.2] at this; exact this
theorem btl (h : Inv n m s g x p t0) {a : Nat} (ha : a < p) : Bt (pm t0) a < 256 := (bt_f h ha).2.2
theorem adv_loop (h : Inv n m s g x p t0) (k50 : SM → OR) : ∀ (d a f : Nat) (u : SM), a + d = p → d < f → Fr t0 u → mI u 10 3 = nI a → ∃ w, fRd_advance_l0 k50 f u = k50 w ∧ FF P3 u w ∧ mI w 10 3 = nI (rq isBl (Bt (pm t0)) p a) := by
  have hr := h.rng
  intro d
  induction d with
  | zero =>
    intro a f u hd hf fr ha
    obtain ⟨f, rfl⟩ : ∃ f', f = f' + 1 := ⟨f - 1, by omega⟩
    have hi := h.fr fr
    have e : nI p ≤ nI a := nI_le (by omega) (by omega)
    refine ⟨u, ?_, FF.refl _ _, ?_⟩
    · show fRd_advance_0 _ _ u = _
      simp only [fRd_advance_0, gI_0, pI_0, rc_0, gI_1, pI_1, rc_1, ln_2, ql_2, al_3, as_3, ln_3, al_4, as_4, ln_4, gI_5, pI_5, rc_5, ln_6, ql_6, al_7, as_7, ln_7, al_8, as_8, ln_8, ln_9, ql_9, gI_10, pI_10, rc_10, al_11, as_11, ln_11, al_12, as_12, ln_12, gI_13, pI_13, rc_13, al_14, as_14, ln_14, ln_15, ql_15, gI_16, pI_16, rc_16, al_17, as_17, ln_17, al_18, as_18, ln_18, al_19, as_19, ln_19, al_20, as_20, ln_20, bl_21, bs_21, ln_21, gI_22, pI_22, rc_22, al_23, as_23, ln_23, al_24, as_24, ln_24, al_25, as_25, ln_25, gI_31, pI_31, rc_31, al_32, as_32, ln_32, gI_33, pI_33, rc_33, al_34, as_34, ln_34, gI_35, pI_35, rc_35, al_36, as_36, ln_36, gI_37, pI_37, rc_37, al_38, as_38, ln_38, gC_0_3, gC_0_4, gC_0_5, gC_0_7, gC_0_10, gC_0_11, gC_0_12, gC_0_13, gC_0_14, gC_0_15, gC_0_16, gC_0_17, gC_1_0, gC_1_2, gC_1_3, gC_5_0, gC_5_2, gC_10_0, gC_10_7, gC_13_5, gC_16_0, gC_16_2, gC_22_0, gC_22_1, gC_22_2, gC_22_3, gC_31_2, gC_33_2, gC_35_2, gC_37_2, bI_rI, bV_rV, bQ_rN, bQ_rR, bz_0, bz_1, bz_Z, hZ0, hZ1, Lay_setI, Lay_setA, hi.lay, hi.tp', ha, e, if_true]
    · rw [rq_eq, if_neg (by omega)]; exact ha
  | succ d ih =>
    intro a f u hd hf fr ha
    obtain ⟨f, rfl⟩ : ∃ f', f = f' + 1 := ⟨f - 1, by omega⟩
    have hi := h.fr fr
    have e : ¬ nI p ≤ nI a := nI_ge (by omega) (by omega)
    have hb := btl h (show a < p by omega)
    have hby := byA h fr (show a ≤ 160 by omega)
    rw [if_pos (show a < p by omega)] at hby
    have e32 : (nI (Bt (pm t0) a) = 32) = (Bt (pm t0) a = 32) := propext (nI_eq (b := 32) (by omega) (by decide))
    have e10 : (nI (Bt (pm t0) a) = 10) = (Bt (pm t0) a = 10) := propext (nI_eq (b := 10) (by omega) (by decide))
    have stp : ∃ w, fRd_advance_l0 k50 f (setI u 10 3 (nI (a + 1))) = k50 w ∧ FF P3 u w ∧ mI w 10 3 = nI (rq isBl (Bt (pm t0)) p (a + 1)) := by
      obtain ⟨w, h1, h2, h3⟩ := ih (a + 1) f (setI u 10 3 (nI (a + 1))) (by omega) (by omega) (fr.trans (Fr.setF rfl)) (setI_eq rfl rfl)
      exact ⟨w, h1, ((FF.refl P3 u).st (show P3 10 3 = true from rfl)).tr h2, h3⟩
    rw [rq_eq]
    show ∃ w, fRd_advance_0 _ _ u = _ ∧ _
    simp only [fRd_advance_0, gI_0, pI_0, rc_0, gI_1, pI_1, rc_1, ln_2, ql_2, al_3, as_3, ln_3, al_4, as_4, ln_4, gI_5, pI_5, rc_5, ln_6, ql_6, al_7, as_7, ln_7, al_8, as_8, ln_8, ln_9, ql_9, gI_10, pI_10, rc_10, al_11, as_11, ln_11, al_12, as_12, ln_12, gI_13, pI_13, rc_13, al_14, as_14, ln_14, ln_15, ql_15, gI_16, pI_16, rc_16, al_17, as_17, ln_17, al_18, as_18, ln_18, al_19, as_19, ln_19, al_20, as_20, ln_20, bl_21, bs_21, ln_21, gI_22, pI_22, rc_22, al_23, as_23, ln_23, al_24, as_24, ln_24, al_25, as_25, ln_25, gI_31, pI_31, rc_31, al_32, as_32, ln_32, gI_33, pI_33, rc_33, al_34, as_34, ln_34, gI_35, pI_35, rc_35, al_36, as_36, ln_36, gI_37, pI_37, rc_37, al_38, as_38, ln_38, gC_0_3, gC_0_4, gC_0_5, gC_0_7, gC_0_10, gC_0_11, gC_0_12, gC_0_13, gC_0_14, gC_0_15, gC_0_16, gC_0_17, gC_1_0, gC_1_2, gC_1_3, gC_5_0, gC_5_2, gC_10_0, gC_10_7, gC_13_5, gC_16_0, gC_16_2, gC_22_0, gC_22_1, gC_22_2, gC_22_3, gC_31_2, gC_33_2, gC_35_2, gC_37_2, bI_rI, bV_rV, bQ_rN, bQ_rR, bz_0, bz_1, bz_Z, hZ0, hZ1, Lay_setI, Lay_setA, hi.lay, hi.tp', ha, e, if_false, hby, e32, e10, nI_1]
    by_cases c1 : Bt (pm t0) a = 32
    · rw [if_pos (⟨by omega, by unfold isBl; rw [c1]; rfl⟩ : a < p ∧ isBl (Bt (pm t0) a) = true)]
      simp only [if_pos c1]
      exact stp
    · by_cases c2 : Bt (pm t0) a = 10
      · rw [if_pos (⟨by omega, by unfold isBl; rw [c2]; rfl⟩ : a < p ∧ isBl (Bt (pm t0) a) = true)]
        simp only [if_neg c1, if_pos c2]
        exact stp
      · rw [if_neg (by unfold isBl; simp [c1, c2] : ¬ (a < p ∧ isBl (Bt (pm t0) a) = true))]
        simp only [if_neg c1, if_neg c2]
        exact ⟨u, rfl, FF.refl _ _, ha⟩
theorem let_loop (h : Inv n m s g x p t0) (k38 : SM → OR) : ∀ (d a f : Nat) (u : SM), a + d = p → d < f → Fr t0 u → mI u 10 3 = nI a → ∃ w, fRd_readWord_l0 k38 f u = k38 w ∧ FF P3 u w ∧ mI w 10 3 = nI (rq isL (Bt (pm t0)) p a) := by
  have hr := h.rng
  intro d
  induction d with
  | zero =>
    intro a f u hd hf fr ha
    obtain ⟨f, rfl⟩ : ∃ f', f = f' + 1 := ⟨f - 1, by omega⟩
    have hi := h.fr fr
    have e : nI p ≤ nI a := nI_le (by omega) (by omega)
    refine ⟨u, ?_, FF.refl _ _, ?_⟩
    · show fRd_readWord_0 _ _ u = _
      simp only [fRd_readWord_0, gI_0, pI_0, rc_0, gI_1, pI_1, rc_1, ln_2, ql_2, al_3, as_3, ln_3, al_4, as_4, ln_4, gI_5, pI_5, rc_5, ln_6, ql_6, al_7, as_7, ln_7, al_8, as_8, ln_8, ln_9, ql_9, gI_10, pI_10, rc_10, al_11, as_11, ln_11, al_12, as_12, ln_12, gI_13, pI_13, rc_13, al_14, as_14, ln_14, ln_15, ql_15, gI_16, pI_16, rc_16, al_17, as_17, ln_17, al_18, as_18, ln_18, al_19, as_19, ln_19, al_20, as_20, ln_20, bl_21, bs_21, ln_21, gI_22, pI_22, rc_22, al_23, as_23, ln_23, al_24, as_24, ln_24, al_25, as_25, ln_25, gI_31, pI_31, rc_31, al_32, as_32, ln_32, gI_33, pI_33, rc_33, al_34, as_34, ln_34, gI_35, pI_35, rc_35, al_36, as_36, ln_36, gI_37, pI_37, rc_37, al_38, as_38, ln_38, gC_0_3, gC_0_4, gC_0_5, gC_0_7, gC_0_10, gC_0_11, gC_0_12, gC_0_13, gC_0_14, gC_0_15, gC_0_16, gC_0_17, gC_1_0, gC_1_2, gC_1_3, gC_5_0, gC_5_2, gC_10_0, gC_10_7, gC_13_5, gC_16_0, gC_16_2, gC_22_0, gC_22_1, gC_22_2, gC_22_3, gC_31_2, gC_33_2, gC_35_2, gC_37_2, bI_rI, bV_rV, bQ_rN, bQ_rR, bz_0, bz_1, bz_Z, hZ0, hZ1, Lay_setI, Lay_setA, hi.lay, hi.tp', ha, e, if_true]
    · rw [rq_eq, if_neg (by omega)]; exact ha
  | succ d ih =>
    intro a f u hd hf fr ha
    obtain ⟨f, rfl⟩ : ∃ f', f = f' + 1 := ⟨f - 1, by omega⟩
    have hi := h.fr fr
    have e : ¬ nI p ≤ nI a := nI_ge (by omega) (by omega)
    have hb := btl h (show a < p by omega)
    have hby := byA h fr (show a ≤ 160 by omega)
    rw [if_pos (show a < p by omega)] at hby
    rw [rq_eq]
    show ∃ w, fRd_readWord_0 _ _ u = _ ∧ _
    simp only [fRd_readWord_0, gI_0, pI_0, rc_0, gI_1, pI_1, rc_1, ln_2, ql_2, al_3, as_3, ln_3, al_4, as_4, ln_4, gI_5, pI_5, rc_5, ln_6, ql_6, al_7, as_7, ln_7, al_8, as_8, ln_8, ln_9, ql_9, gI_10, pI_10, rc_10, al_11, as_11, ln_11, al_12, as_12, ln_12, gI_13, pI_13, rc_13, al_14, as_14, ln_14, ln_15, ql_15, gI_16, pI_16, rc_16, al_17, as_17, ln_17, al_18, as_18, ln_18, al_19, as_19, ln_19, al_20, as_20, ln_20, bl_21, bs_21, ln_21, gI_22, pI_22, rc_22, al_23, as_23, ln_23, al_24, as_24, ln_24, al_25, as_25, ln_25, gI_31, pI_31, rc_31, al_32, as_32, ln_32, gI_33, pI_33, rc_33, al_34, as_34, ln_34, gI_35, pI_35, rc_35, al_36, as_36, ln_36, gI_37, pI_37, rc_37, al_38, as_38, ln_38, gC_0_3, gC_0_4, gC_0_5, gC_0_7, gC_0_10, gC_0_11, gC_0_12, gC_0_13, gC_0_14, gC_0_15, gC_0_16, gC_0_17, gC_1_0, gC_1_2, gC_1_3, gC_5_0, gC_5_2, gC_10_0, gC_10_7, gC_13_5, gC_16_0, gC_16_2, gC_22_0, gC_22_1, gC_22_2, gC_22_3, gC_31_2, gC_33_2, gC_35_2, gC_37_2, bI_rI, bV_rV, bQ_rN, bQ_rR, bz_0, bz_1, bz_Z, hZ0, hZ1, Lay_setI, Lay_setA, hi.lay, hi.tp', ha, e, if_false, hby, isLetter_v u (show Bt (pm t0) a ≤ 256 by omega), nI_1]
    cases c : isL (Bt (pm t0) a)
    · rw [if_neg (by simp : ¬ (a < p ∧ false = true))]
      exact ⟨u, by simp only [if_true], FF.refl _ _, ha⟩
    · rw [if_pos (⟨by omega, rfl⟩ : a < p ∧ true = true)]
      obtain ⟨w, h1, h2, h3⟩ := ih (a + 1) f (setI u 10 3 (nI (a + 1))) (by omega) (by omega) (fr.trans (Fr.setF rfl)) (setI_eq rfl rfl)
      refine ⟨w, ?_, ((FF.refl P3 u).st (show P3 10 3 = true from rfl)).tr h2, h3⟩
      simp only [Bool.true_eq_false, if_false]
      exact h1
theorem num_loop (h : Inv n m s g x p t0) (k66 : SM → OR) {b : Nat} : ∀ (d a f : Nat) (u : SM), a + d = p → d < f → Fr t0 u → b ≤ a → mI u 10 3 = nI a → mI u 10 6 = nI (dgv (Bt (pm t0)) b (a - b)) → ∃ w, fRd_readNumber_l5 k66 f u = k66 w ∧ FF P36 u w ∧ mI w 10 3 = nI (rq isD (Bt (pm t0)) p a) ∧ mI w 10 6 = nI (dgv (Bt (pm t0)) b (rq isD (Bt (pm t0)) p a - b)) := by
  have hr := h.rng
  intro d
  induction d with
  | zero =>
    intro a f u hd hf fr hba ha hv
    obtain ⟨f, rfl⟩ : ∃ f', f = f' + 1 := ⟨f - 1, by omega⟩
    have hi := h.fr fr
    have e : nI p ≤ nI a := nI_le (by omega) (by omega)
    have er : rq isD (Bt (pm t0)) p a = a := by rw [rq_eq, if_neg (by omega)]
    refine ⟨u, ?_, FF.refl _ _, by rw [er]; exact ha, by rw [er]; exact hv⟩
    show fRd_readNumber_5 _ _ u = _
    simp only [fRd_readNumber_5, gI_0, pI_0, rc_0, gI_1, pI_1, rc_1, ln_2, ql_2, al_3, as_3, ln_3, al_4, as_4, ln_4, gI_5, pI_5, rc_5, ln_6, ql_6, al_7, as_7, ln_7, al_8, as_8, ln_8, ln_9, ql_9, gI_10, pI_10, rc_10, al_11, as_11, ln_11, al_12, as_12, ln_12, gI_13, pI_13, rc_13, al_14, as_14, ln_14, ln_15, ql_15, gI_16, pI_16, rc_16, al_17, as_17, ln_17, al_18, as_18, ln_18, al_19, as_19, ln_19, al_20, as_20, ln_20, bl_21, bs_21, ln_21, gI_22, pI_22, rc_22, al_23, as_23, ln_23, al_24, as_24, ln_24, al_25, as_25, ln_25, gI_31, pI_31, rc_31, al_32, as_32, ln_32, gI_33, pI_33, rc_33, al_34, as_34, ln_34, gI_35, pI_35, rc_35, al_36, as_36, ln_36, gI_37, pI_37, rc_37, al_38, as_38, ln_38, gC_0_3, gC_0_4, gC_0_5, gC_0_7, gC_0_10, gC_0_11, gC_0_12, gC_0_13, gC_0_14, gC_0_15, gC_0_16, gC_0_17, gC_1_0, gC_1_2, gC_1_3, gC_5_0, gC_5_2, gC_10_0, gC_10_7, gC_13_5, gC_16_0, gC_16_2, gC_22_0, gC_22_1, gC_22_2, gC_22_3, gC_31_2, gC_33_2, gC_35_2, gC_37_2, bI_rI, bV_rV, bQ_rN, bQ_rR, bz_0, bz_1, bz_Z, hZ0, hZ1, Lay_setI, Lay_setA, hi.lay, hi.tp', ha, e, if_true]
  | succ d ih =>
    intro a f u hd hf fr hba ha hv
    obtain ⟨f, rfl⟩ : ∃ f', f = f' + 1 := ⟨f - 1, by omega⟩
    have hi := h.fr fr
    have e : ¬ nI p ≤ nI a := nI_ge (by omega) (by omega)
    have hb := btl h (show a < p by omega)
    have hby := byA h fr (show a ≤ 160 by omega)
    rw [if_pos (show a < p by omega)] at hby
    cases c : isD (Bt (pm t0) a)
    · have er : rq isD (Bt (pm t0)) p a = a := by rw [rq_eq, if_neg (by rw [c]; simp)]
      refine ⟨u, ?_, FF.refl _ _, by rw [er]; exact ha, by rw [er]; exact hv⟩
      show fRd_readNumber_5 _ _ u = _
      simp only [fRd_readNumber_5, gI_0, pI_0, rc_0, gI_1, pI_1, rc_1, ln_2, ql_2, al_3, as_3, ln_3, al_4, as_4, ln_4, gI_5, pI_5, rc_5, ln_6, ql_6, al_7, as_7, ln_7, al_8, as_8, ln_8, ln_9, ql_9, gI_10, pI_10, rc_10, al_11, as_11, ln_11, al_12, as_12, ln_12, gI_13, pI_13, rc_13, al_14, as_14, ln_14, ln_15, ql_15, gI_16, pI_16, rc_16, al_17, as_17, ln_17, al_18, as_18, ln_18, al_19, as_19, ln_19, al_20, as_20, ln_20, bl_21, bs_21, ln_21, gI_22, pI_22, rc_22, al_23, as_23, ln_23, al_24, as_24, ln_24, al_25, as_25, ln_25, gI_31, pI_31, rc_31, al_32, as_32, ln_32, gI_33, pI_33, rc_33, al_34, as_34, ln_34, gI_35, pI_35, rc_35, al_36, as_36, ln_36, gI_37, pI_37, rc_37, al_38, as_38, ln_38, gC_0_3, gC_0_4, gC_0_5, gC_0_7, gC_0_10, gC_0_11, gC_0_12, gC_0_13, gC_0_14, gC_0_15, gC_0_16, gC_0_17, gC_1_0, gC_1_2, gC_1_3, gC_5_0, gC_5_2, gC_10_0, gC_10_7, gC_13_5, gC_16_0, gC_16_2, gC_22_0, gC_22_1, gC_22_2, gC_22_3, gC_31_2, gC_33_2, gC_35_2, gC_37_2, bI_rI, bV_rV, bQ_rN, bQ_rR, bz_0, bz_1, bz_Z, hZ0, hZ1, Lay_setI, Lay_setA, hi.lay, hi.tp', ha, e, if_false, hby, isDigit_v u (show Bt (pm t0) a ≤ 256 by omega), c, if_true]
    · have er : rq isD (Bt (pm t0)) p a = rq isD (Bt (pm t0)) p (a + 1) := by rw [rq_eq, if_pos ⟨by omega, c⟩]
      have cd : 48 ≤ Bt (pm t0) a := by
        unfold isD at c; simp only [Bool.and_eq_true, decide_eq_true_eq] at c; exact c.1
      have ev : nI (dgv (Bt (pm t0)) b (a - b)) * 10 + nI (Bt (pm t0) a) - 48 = nI (dgv (Bt (pm t0)) b (a + 1 - b)) := by
        have e1 : dgv (Bt (pm t0)) b (a + 1 - b) = 10 * dgv (Bt (pm t0)) b (a - b) + (Bt (pm t0) (b + (a - b)) - 48) := by
          rw [show a + 1 - b = (a - b) + 1 by omega]; rfl
        rw [e1, show b + (a - b) = a by omega, show nI (dgv (Bt (pm t0)) b (a - b)) * 10 = nI (dgv (Bt (pm t0)) b (a - b) * 10) from pk_mul _ 10, nI_add, show ∀ v : Nat, 48 ≤ v → nI v - 48 = nI (v - 48) from fun v hv => pk_sub (b := 48) hv]
        · congr 1; omega
        · omega
      obtain ⟨w, h1, h2, h3, h4⟩ := ih (a + 1) f (setI (setI u 10 6 (nI (dgv (Bt (pm t0)) b (a + 1 - b)))) 10 3 (nI (a + 1))) (by omega) (by omega) ((fr.trans (Fr.setF rfl)).trans (Fr.setF rfl)) (by omega) (setI_eq rfl rfl) (by rw [setI_I, if_neg (by decide)]; exact setI_eq rfl rfl)
      refine ⟨w, ?_, (((FF.refl P36 u).st (show P36 10 6 = true from rfl)).st (show P36 10 3 = true from rfl)).tr h2, by rw [er]; exact h3, by rw [er]; exact h4⟩
      have a3 : mI (setI u 10 6 (nI (dgv (Bt (pm t0)) b (a + 1 - b)))) 10 3 = nI a := by rw [setI_I, if_neg (by decide)]; exact ha
      show fRd_readNumber_5 _ _ u = _
      simp only [fRd_readNumber_5, gI_0, pI_0, rc_0, gI_1, pI_1, rc_1, ln_2, ql_2, al_3, as_3, ln_3, al_4, as_4, ln_4, gI_5, pI_5, rc_5, ln_6, ql_6, al_7, as_7, ln_7, al_8, as_8, ln_8, ln_9, ql_9, gI_10, pI_10, rc_10, al_11, as_11, ln_11, al_12, as_12, ln_12, gI_13, pI_13, rc_13, al_14, as_14, ln_14, ln_15, ql_15, gI_16, pI_16, rc_16, al_17, as_17, ln_17, al_18, as_18, ln_18, al_19, as_19, ln_19, al_20, as_20, ln_20, bl_21, bs_21, ln_21, gI_22, pI_22, rc_22, al_23, as_23, ln_23, al_24, as_24, ln_24, al_25, as_25, ln_25, gI_31, pI_31, rc_31, al_32, as_32, ln_32, gI_33, pI_33, rc_33, al_34, as_34, ln_34, gI_35, pI_35, rc_35, al_36, as_36, ln_36, gI_37, pI_37, rc_37, al_38, as_38, ln_38, gC_0_3, gC_0_4, gC_0_5, gC_0_7, gC_0_10, gC_0_11, gC_0_12, gC_0_13, gC_0_14, gC_0_15, gC_0_16, gC_0_17, gC_1_0, gC_1_2, gC_1_3, gC_5_0, gC_5_2, gC_10_0, gC_10_7, gC_13_5, gC_16_0, gC_16_2, gC_22_0, gC_22_1, gC_22_2, gC_22_3, gC_31_2, gC_33_2, gC_35_2, gC_37_2, bI_rI, bV_rV, bQ_rN, bQ_rR, bz_0, bz_1, bz_Z, hZ0, hZ1, Lay_setI, Lay_setA, hi.lay, hi.tp', ha, e, if_false, hby, isDigit_v u (show Bt (pm t0) a ≤ 256 by omega), c, Bool.true_eq_false, hv, ev, a3, nI_1]
      exact h1
/-! the words -/
theorem st_loop (h : Inv n m s g x p t0) {b j : Nat} (hj : j < 12) (hb : b + (wd j).length ≤ p) (fr : Fr t0 u) (h5 : mI u 10 5 = nI b) : ∀ (d i f : Nat), i + d = (wd j).length → d < f → ∃ v, fRd_standsThere_l20 f u (UInt32.ofNat (j + 1)) (nI i) = rI (bz v) u ∧ (v = true ↔ ∀ k, i ≤ k → k < (wd j).length → Bt (pm t0) (b + k) = (wd j).getD k 0) := by
  have hr := h.rng
  have hi := h.fr fr
  intro d
  induction d with
  | zero =>
    intro i f hd hf
    obtain ⟨f, rfl⟩ : ∃ f', f = f' + 1 := ⟨f - 1, by omega⟩
    have e : nI (wd j).length ≤ nI i := nI_le (by omega) (by omega)
    refine ⟨true, ?_, ⟨fun _ k h1 h2 => by omega, fun _ => rfl⟩⟩
    show fRd_standsThere_20 _ u _ _ = _
    unfold fRd_standsThere_20
    rw [st_Tc 0 1 (by decide) hj, st_len u j hj, bI_rI, if_pos e]; rfl
  | succ d ih =>
    intro i f hd hf
    obtain ⟨f, rfl⟩ : ∃ f', f = f' + 1 := ⟨f - 1, by omega⟩
    have e : ¬ nI (wd j).length ≤ nI i := nI_ge (by omega) (by omega)
    have e2 : ¬ nI (b + i) < 0 := nI_pos (by omega)
    have e3 : ¬ nI 160 ≤ nI (b + i) := nI_ge (by omega) (by omega)
    have b160 : b + i < 160 := by omega
    have e4 := (bt_f hi (show b + i < p by omega)).1
    rw [fr.2] at e4
    have hbl := btl h (show b + i < p by omega)
    have hw : ∀ j, j < 12 → ∀ i, (wd j).getD i 0 < 256 := by
      have : ∀ j, j < 12 → ∀ y ∈ wd j, y < 256 := by decide +kernel
      intro j hj i
      rw [List.getD_eq_getElem?_getD]
      cases hq : (wd j)[i]? with
      | none => decide
      | some z => exact this j hj z (List.mem_of_getElem? hq)
    have e5 : (nI (Bt (pm t0) (b + i)) = nI ((wd j).getD i 0)) = (Bt (pm t0) (b + i) = (wd j).getD i 0) := propext (nI_eq (by omega) (by have := hw j hj i; omega))
    show ∃ v, fRd_standsThere_20 _ u _ _ = _ ∧ _
    unfold fRd_standsThere_20
    rw [st_Tc 0 1 (by decide) hj, st_len u j hj, bI_rI, if_neg e]
    simp only [gI_0, pI_0, rc_0, gI_1, pI_1, rc_1, ln_2, ql_2, al_3, as_3, ln_3, al_4, as_4, ln_4, gI_5, pI_5, rc_5, ln_6, ql_6, al_7, as_7, ln_7, al_8, as_8, ln_8, ln_9, ql_9, gI_10, pI_10, rc_10, al_11, as_11, ln_11, al_12, as_12, ln_12, gI_13, pI_13, rc_13, al_14, as_14, ln_14, ln_15, ql_15, gI_16, pI_16, rc_16, al_17, as_17, ln_17, al_18, as_18, ln_18, al_19, as_19, ln_19, al_20, as_20, ln_20, bl_21, bs_21, ln_21, gI_22, pI_22, rc_22, al_23, as_23, ln_23, al_24, as_24, ln_24, al_25, as_25, ln_25, gI_31, pI_31, rc_31, al_32, as_32, ln_32, gI_33, pI_33, rc_33, al_34, as_34, ln_34, gI_35, pI_35, rc_35, al_36, as_36, ln_36, gI_37, pI_37, rc_37, al_38, as_38, ln_38, gC_0_3, gC_0_4, gC_0_5, gC_0_7, gC_0_10, gC_0_11, gC_0_12, gC_0_13, gC_0_14, gC_0_15, gC_0_16, gC_0_17, gC_1_0, gC_1_2, gC_1_3, gC_5_0, gC_5_2, gC_10_0, gC_10_7, gC_13_5, gC_16_0, gC_16_2, gC_22_0, gC_22_1, gC_22_2, gC_22_3, gC_31_2, gC_33_2, gC_35_2, gC_37_2, bI_rI, bV_rV, bQ_rN, bQ_rR, bz_0, bz_1, bz_Z, hZ0, hZ1, Lay_setI, Lay_setA, hi.lay, h5, nI_add, e2, e3, if_false, b160, e4]
    rw [st_Tc 1 1 (by decide) hj, st_ch u j hj i (by omega), bI_rI, nI_1]
    simp only [e5]
    by_cases c : Bt (pm t0) (b + i) = (wd j).getD i 0
    · rw [if_pos c]
      obtain ⟨v, h1, h2⟩ := ih (i + 1) f (by omega) (by omega)
      refine ⟨v, h1, h2.trans ⟨fun hh k k1 k2 => ?_, fun hh k k1 k2 => hh k (by omega) k2⟩⟩
      by_cases ek : k = i
      · rw [ek]; exact c
      · exact hh k (by omega) k2
    · rw [if_neg c]
      exact ⟨false, rfl, ⟨fun hh => absurd hh (by decide), fun hh => absurd (hh i (Nat.le_refl _) (by omega)) c⟩⟩
theorem stands_v (h : Inv n m s g x p t0) {b e j : Nat} (hj : j < 12) (hbe : b ≤ e) (he : e ≤ p) (fr : Fr t0 u) (h5 : mI u 10 5 = nI b) (h3 : mI u 10 3 = nI e) : fRd_standsThere u (UInt32.ofNat (j + 1)) = rI (bz (eqw (Bt (pm t0)) b e j)) u := by
  have hr := h.rng
  have hi := h.fr fr
  have h6 : ∀ j, j < 12 → (wd j).length ≤ 6 := by decide +kernel
  have hl := h6 j hj
  have e1 : (nI (wd j).length = nI (e - b)) = ((wd j).length = e - b) := propext (nI_eq (by omega) (by omega))
  unfold fRd_standsThere
  rw [st_Tc 0 0 (by decide) hj, st_len u j hj, bI_rI]
  simp only [gI_0, pI_0, rc_0, gI_1, pI_1, rc_1, ln_2, ql_2, al_3, as_3, ln_3, al_4, as_4, ln_4, gI_5, pI_5, rc_5, ln_6, ql_6, al_7, as_7, ln_7, al_8, as_8, ln_8, ln_9, ql_9, gI_10, pI_10, rc_10, al_11, as_11, ln_11, al_12, as_12, ln_12, gI_13, pI_13, rc_13, al_14, as_14, ln_14, ln_15, ql_15, gI_16, pI_16, rc_16, al_17, as_17, ln_17, al_18, as_18, ln_18, al_19, as_19, ln_19, al_20, as_20, ln_20, bl_21, bs_21, ln_21, gI_22, pI_22, rc_22, al_23, as_23, ln_23, al_24, as_24, ln_24, al_25, as_25, ln_25, gI_31, pI_31, rc_31, al_32, as_32, ln_32, gI_33, pI_33, rc_33, al_34, as_34, ln_34, gI_35, pI_35, rc_35, al_36, as_36, ln_36, gI_37, pI_37, rc_37, al_38, as_38, ln_38, gC_0_3, gC_0_4, gC_0_5, gC_0_7, gC_0_10, gC_0_11, gC_0_12, gC_0_13, gC_0_14, gC_0_15, gC_0_16, gC_0_17, gC_1_0, gC_1_2, gC_1_3, gC_5_0, gC_5_2, gC_10_0, gC_10_7, gC_13_5, gC_16_0, gC_16_2, gC_22_0, gC_22_1, gC_22_2, gC_22_3, gC_31_2, gC_33_2, gC_35_2, gC_37_2, bI_rI, bV_rV, bQ_rN, bQ_rR, bz_0, bz_1, bz_Z, hZ0, hZ1, Lay_setI, Lay_setA, hi.lay, h5, h3, pk_sub hbe, e1]
  by_cases c : (wd j).length = e - b
  · rw [if_pos c]
    obtain ⟨v, h1, h2⟩ := st_loop h hj (show b + (wd j).length ≤ p by omega) fr h5 (wd j).length 0 1000000 (by omega) (by omega)
    refine h1.trans ?_
    congr 2
    rw [Bool.eq_iff_iff, h2, eqw_t]
    exact ⟨fun hh => ⟨c, fun k hk => hh k (Nat.zero_le _) hk⟩, fun hh k _ hk => hh.2 k hk⟩
  · rw [if_neg c]
    have : eqw (Bt (pm t0)) b e j = false := by
      cases q : eqw (Bt (pm t0)) b e j
      · rfl
      · exact absurd (eqw_t.mp q).1 c
    rw [this]; rfl
theorem wd_loop (h : Inv n m s g x p t0) {b e : Nat} (hbe : b ≤ e) (he : e ≤ p) (fr : Fr t0 u) (h5 : mI u 10 5 = nI b) (h3 : mI u 10 3 = nI e) (k60 : SM → Int32 → OR) (k72 : SM → OR) : ∀ (d j f : Nat), j + d = 12 → d < f → (∀ i, i < j → eqw (Bt (pm t0)) b e i = false) →
    fRd_readWord_l42 k60 k72 f u (nI (300 + j)) = if wix (Bt (pm t0)) b e = 12 then k72 u else k60 u (nI (300 + wix (Bt (pm t0)) b e)) := by
  have hi := h.fr fr
  intro d
  induction d with
  | zero =>
    intro j f hd hf hn
    obtain ⟨f, rfl⟩ : ∃ f', f = f' + 1 := ⟨f - 1, by omega⟩
    have ex : wix (Bt (pm t0)) b e = 12 := by
      rcases wix_f (Bt (pm t0)) b e with q | q
      · rw [hn _ (by omega)] at q; exact absurd q.2 (by decide)
      · exact q.1
    show fRd_readWord_42 _ _ _ u _ = _
    unfold fRd_readWord_42
    rw [if_pos (show (311 : Int32) < nI (300 + j) from nI_lt (a := 311) (by omega) (by omega)), if_pos ex]
  | succ d ih =>
    intro j f hd hf hn
    obtain ⟨f, rfl⟩ : ∃ f', f = f' + 1 := ⟨f - 1, by omega⟩
    show fRd_readWord_42 _ _ _ u _ = _
    unfold fRd_readWord_42
    rw [if_neg (show ¬ (311 : Int32) < nI (300 + j) from nI_nlt (a := 311) (b := 300 + j) (by omega) (by omega)), st_sp u _ j (by omega), rc_10 hi.lay, stands_v h (by omega) hbe he fr h5 h3, bI_rI]
    cases c : eqw (Bt (pm t0)) b e j
    · rw [if_pos (show bz false = 0 from rfl), nI_1]
      exact ih (j + 1) f (by omega) (by omega) (fun i hi2 => by
        by_cases q : i = j
        · rw [q]; exact c
        · exact hn i (by omega))
    · have ex : wix (Bt (pm t0)) b e = j := wix_is (by omega) c
      rw [if_neg (show ¬ bz true = 0 by decide), if_neg (by omega), ex]
end
section
variable {n m s g x p : Nat} {t0 t u : SM}
/-! the class's token at a place -/
def TK (G : GG) (p : Nat) (u : SM) (a : Nat) : Prop := (tC (Bt G) p a ≠ 257 → mI u 10 3 = nI (tN (Bt G) p a)) ∧ mI u 10 4 = nI (tC (Bt G) p a) ∧ mI u 10 5 = nI (tB (Bt G) p a) ∧ (tC (Bt G) p a = 258 → mI u 10 6 = nI (tV (Bt G) p a)) ∧ mI u 10 2 = (if tC (Bt G) p a = 257 then nI (tB (Bt G) p a) else -1)
theorem fail0 {b : Nat} (hl : Lay u) (h2 : mI u 10 2 = -1) (h5 : mI u 10 5 = nI b) : fRd_fail u = rV (setI (setI u 10 2 (nI b)) 10 4 257) := by
  have e : ¬ (0 : Int32) ≤ -1 := by decide
  simp only [fRd_fail, gI_0, pI_0, rc_0, gI_1, pI_1, rc_1, ln_2, ql_2, al_3, as_3, ln_3, al_4, as_4, ln_4, gI_5, pI_5, rc_5, ln_6, ql_6, al_7, as_7, ln_7, al_8, as_8, ln_8, ln_9, ql_9, gI_10, pI_10, rc_10, al_11, as_11, ln_11, al_12, as_12, ln_12, gI_13, pI_13, rc_13, al_14, as_14, ln_14, ln_15, ql_15, gI_16, pI_16, rc_16, al_17, as_17, ln_17, al_18, as_18, ln_18, al_19, as_19, ln_19, al_20, as_20, ln_20, bl_21, bs_21, ln_21, gI_22, pI_22, rc_22, al_23, as_23, ln_23, al_24, as_24, ln_24, al_25, as_25, ln_25, gI_31, pI_31, rc_31, al_32, as_32, ln_32, gI_33, pI_33, rc_33, al_34, as_34, ln_34, gI_35, pI_35, rc_35, al_36, as_36, ln_36, gI_37, pI_37, rc_37, al_38, as_38, ln_38, gC_0_3, gC_0_4, gC_0_5, gC_0_7, gC_0_10, gC_0_11, gC_0_12, gC_0_13, gC_0_14, gC_0_15, gC_0_16, gC_0_17, gC_1_0, gC_1_2, gC_1_3, gC_5_0, gC_5_2, gC_10_0, gC_10_7, gC_13_5, gC_16_0, gC_16_2, gC_22_0, gC_22_1, gC_22_2, gC_22_3, gC_31_2, gC_33_2, gC_35_2, gC_37_2, bI_rI, bV_rV, bQ_rN, bQ_rR, bz_0, bz_1, bz_Z, hZ0, hZ1, Lay_setI, Lay_setA, hl, h2, h5, e, if_false]
theorem fail1 {b : Nat} (hl : Lay u) (h2 : mI u 10 2 = nI b) (hb : b < 2 ^ 31) : fRd_fail u = rV (setI u 10 4 257) := by
  have e : (0 : Int32) ≤ nI b := nI_pos' hb
  simp only [fRd_fail, gI_0, pI_0, rc_0, gI_1, pI_1, rc_1, ln_2, ql_2, al_3, as_3, ln_3, al_4, as_4, ln_4, gI_5, pI_5, rc_5, ln_6, ql_6, al_7, as_7, ln_7, al_8, as_8, ln_8, ln_9, ql_9, gI_10, pI_10, rc_10, al_11, as_11, ln_11, al_12, as_12, ln_12, gI_13, pI_13, rc_13, al_14, as_14, ln_14, ln_15, ql_15, gI_16, pI_16, rc_16, al_17, as_17, ln_17, al_18, as_18, ln_18, al_19, as_19, ln_19, al_20, as_20, ln_20, bl_21, bs_21, ln_21, gI_22, pI_22, rc_22, al_23, as_23, ln_23, al_24, as_24, ln_24, al_25, as_25, ln_25, gI_31, pI_31, rc_31, al_32, as_32, ln_32, gI_33, pI_33, rc_33, al_34, as_34, ln_34, gI_35, pI_35, rc_35, al_36, as_36, ln_36, gI_37, pI_37, rc_37, al_38, as_38, ln_38, gC_0_3, gC_0_4, gC_0_5, gC_0_7, gC_0_10, gC_0_11, gC_0_12, gC_0_13, gC_0_14, gC_0_15, gC_0_16, gC_0_17, gC_1_0, gC_1_2, gC_1_3, gC_5_0, gC_5_2, gC_10_0, gC_10_7, gC_13_5, gC_16_0, gC_16_2, gC_22_0, gC_22_1, gC_22_2, gC_22_3, gC_31_2, gC_33_2, gC_35_2, gC_37_2, bI_rI, bV_rV, bQ_rN, bQ_rR, bz_0, bz_1, bz_Z, hZ0, hZ1, Lay_setI, Lay_setA, hl, h2, e, if_true]
theorem isL_ne (c : Nat) : isL c = true → isD c = false ∧ isS c = false := by
  intro h
  unfold isL at h
  simp only [Bool.and_eq_true, decide_eq_true_eq] at h
  unfold isD isS
  constructor
  · rw [Bool.and_eq_false_iff]; right; exact decide_eq_false (by omega)
  · simp only [Bool.or_eq_false_iff, beq_eq_false_iff_ne]; omega
theorem tC_lt (G : GG) (h : Inv n m s g x p t0) (hG : G = pm t0) (a : Nat) (ha : a ≤ p) : tC (Bt G) p a < 312 := by
  subst hG
  have h1 := tB_le (B := Bt (pm t0)) ha
  unfold tC
  split
  · decide
  · split
    · split
      · decide
      · have := wix_f (Bt (pm t0)) (tB (Bt (pm t0)) p a) (rq isL (Bt (pm t0)) p (tB (Bt (pm t0)) p a)); omega
    · split
      · split <;> decide
      · split
        · have := btl h (show tB (Bt (pm t0)) p a < p by omega); omega
        · decide
theorem advance_v (h : Inv n m s g x p t0) (fr : Fr t0 u) {a : Nat} (ha : a ≤ p) (h3 : mI u 10 3 = nI a) (h2 : mI u 10 2 = -1) : ∃ w, fRd_advance u = rV w ∧ FF PA u w ∧ TK (pm t0) p w a := by
  have hr := h.rng
  obtain ⟨w1, q1, q2, q3⟩ := adv_loop h (fun t => fRd_advance_50 t) (p - a) a 1000000 u (by omega) (by omega) fr h3
  unfold fRd_advance
  rw [q1]
  have tb := tB_le (B := Bt (pm t0)) ha
  generalize hb : tB (Bt (pm t0)) p a = b at *
  have f1 : FF PA u w1 := q2.up P3_A
  have fr1 := fr.trans (f1.fr PA_s)
  have hi1 := h.fr fr1
  have q3' : mI w1 10 3 = nI b := by rw [q3, ← hb]; rfl
  have q2' : mI w1 10 2 = -1 := by rw [q2.2 10 2 rfl]; exact h2
  clear q1 q2 q3
  have fr2 : Fr t0 (setI w1 10 5 (nI b)) := fr1.trans (Fr.setF rfl)
  have hi2 := h.fr fr2
  have f2 : FF PA u (setI w1 10 5 (nI b)) := f1.st rfl
  have a3 : mI (setI w1 10 5 (nI b)) 10 3 = nI b := by rw [setI_I, if_neg (by decide)]; exact q3'
  have a2 : mI (setI w1 10 5 (nI b)) 10 2 = -1 := by rw [setI_I, if_neg (by decide)]; exact q2'
  have a5 : mI (setI w1 10 5 (nI b)) 10 5 = nI b := setI_eq rfl rfl
  have hby := byA h fr2 (show b ≤ 160 by omega)
  have go : ∃ w, fRd_advance_50 w1 = rV w ∧ FF PA u w ∧ TK (pm t0) p w a := by
    unfold fRd_advance_50
    simp only [gI_10 hi1.lay, q3', pI_10 hi1.lay]
    generalize setI w1 10 5 (nI b) = v at *
    simp only [gI_10 hi2.lay, a3, rc_10 hi2.lay, hby, bI_rI]
    by_cases c0 : b < p
    · have hbl := btl h c0
      have n256 : ¬ nI (Bt (pm t0) b) = 256 := fun e => by have := (nI_eq (b := 256) (by omega) (by decide)).mp e; omega
      have tB' : tB (Bt (pm t0)) p a ≠ p := by omega
      rw [if_pos c0, if_neg n256, isLetter_v v (by omega), bI_rI]
      cases cL : isL (Bt (pm t0) b)
      · rw [if_pos (show bz false = 0 from rfl), isDigit_v v (by omega), bI_rI]
        have cL' : ¬ isL (Bt (pm t0) (tB (Bt (pm t0)) p a)) = true := by rw [hb, cL]; decide
        cases cD : isD (Bt (pm t0) b)
        · rw [if_pos (show bz false = 0 from rfl), rc_10 hi2.lay]
          have cD' : ¬ isD (Bt (pm t0) (tB (Bt (pm t0)) p a)) = true := by rw [hb, cD]; decide
          obtain ⟨i, hi, hii⟩ := indexOf_v v hbl
          unfold fRd_readSign
          rw [show hTc 1 0 13 = fun k => k from funext fun k => if_pos (by decide)]
          simp only [hi, bI_rI]
          cases cS : isS (Bt (pm t0) b)
          · have : ¬ 0 ≤ i := fun e => by rw [hii.mp e] at cS; exact absurd cS (by decide)
            rw [if_neg this, rc_10 hi2.lay, fail0 hi2.lay a2 a5, bV_rV, bV_rV]
            have eC : tC (Bt (pm t0)) p a = 257 := by unfold tC; rw [if_neg tB', if_neg cL', if_neg cD', hb, if_neg (by rw [cS]; decide)]
            refine ⟨_, rfl, (f2.st rfl).st rfl, ?_⟩
            refine ⟨fun e => absurd eC e, by rw [eC]; exact setI_eq rfl rfl, ?_, fun e => by rw [eC] at e; exact absurd e (by decide), ?_⟩
            · rw [setI_I, if_neg (by decide), setI_I, if_neg (by decide), hb]; exact a5
            · rw [if_pos eC, setI_I, if_neg (by decide), hb]; exact setI_eq rfl rfl
          · rw [if_pos (hii.mpr cS)]
            have b3 : mI (setI v 10 4 (nI (Bt (pm t0) b))) 10 3 = nI b := by rw [setI_I, if_neg (by decide)]; exact a3
            simp only [gI_0, pI_0, rc_0, gI_1, pI_1, rc_1, ln_2, ql_2, al_3, as_3, ln_3, al_4, as_4, ln_4, gI_5, pI_5, rc_5, ln_6, ql_6, al_7, as_7, ln_7, al_8, as_8, ln_8, ln_9, ql_9, gI_10, pI_10, rc_10, al_11, as_11, ln_11, al_12, as_12, ln_12, gI_13, pI_13, rc_13, al_14, as_14, ln_14, ln_15, ql_15, gI_16, pI_16, rc_16, al_17, as_17, ln_17, al_18, as_18, ln_18, al_19, as_19, ln_19, al_20, as_20, ln_20, bl_21, bs_21, ln_21, gI_22, pI_22, rc_22, al_23, as_23, ln_23, al_24, as_24, ln_24, al_25, as_25, ln_25, gI_31, pI_31, rc_31, al_32, as_32, ln_32, gI_33, pI_33, rc_33, al_34, as_34, ln_34, gI_35, pI_35, rc_35, al_36, as_36, ln_36, gI_37, pI_37, rc_37, al_38, as_38, ln_38, gC_0_3, gC_0_4, gC_0_5, gC_0_7, gC_0_10, gC_0_11, gC_0_12, gC_0_13, gC_0_14, gC_0_15, gC_0_16, gC_0_17, gC_1_0, gC_1_2, gC_1_3, gC_5_0, gC_5_2, gC_10_0, gC_10_7, gC_13_5, gC_16_0, gC_16_2, gC_22_0, gC_22_1, gC_22_2, gC_22_3, gC_31_2, gC_33_2, gC_35_2, gC_37_2, bI_rI, bV_rV, bQ_rN, bQ_rR, bz_0, bz_1, bz_Z, hZ0, hZ1, Lay_setI, Lay_setA, hi2.lay, b3, nI_1]
            have eC : tC (Bt (pm t0)) p a = Bt (pm t0) b := by unfold tC; rw [if_neg tB', if_neg cL', if_neg cD', hb, if_pos cS]
            have eN : tN (Bt (pm t0)) p a = b + 1 := by unfold tN; rw [if_neg tB', if_neg cL', if_neg cD', hb]
            refine ⟨_, rfl, (f2.st rfl).st rfl, ?_⟩
            refine ⟨fun e => by rw [eN]; exact setI_eq rfl rfl, ?_, ?_, fun e => by omega, ?_⟩
            · rw [setI_I, if_neg (by decide), eC]; exact setI_eq rfl rfl
            · rw [setI_I, if_neg (by decide), setI_I, if_neg (by decide), hb]; exact a5
            · rw [if_neg (by omega), setI_I, if_neg (by decide), setI_I, if_neg (by decide)]; exact a2
        · rw [if_neg (show ¬ bz true = 0 by decide), rc_10 hi2.lay]
          have cD' : isD (Bt (pm t0) (tB (Bt (pm t0)) p a)) = true := by rw [hb]; exact cD
          unfold fRd_readNumber
          rw [pI_10 hi2.lay]
          obtain ⟨w, l1, l2, l3, l4⟩ := num_loop h (fun t => fRd_readNumber_66 t) (b := b) (p - b) b 1000000 (setI v 10 6 0) (by omega) (by omega) (fr2.trans (Fr.setF rfl)) (Nat.le_refl _) (by rw [setI_I, if_neg (by decide)]; exact a3) (by rw [Nat.sub_self]; exact setI_eq rfl rfl)
          rw [l1]
          have f3 : FF PA v w := ((FF.refl PA v).st rfl).tr (l2.up P36_A)
          have hi3 := h.fr (fr2.trans (f3.fr PA_s))
          have lo := rq_f isD (Bt (pm t0)) (show b ≤ p by omega)
          have v5 : mI w 10 5 = nI b := by rw [l2.2 10 5 rfl, setI_I, if_neg (by decide)]; exact a5
          have v2 : mI w 10 2 = -1 := by rw [l2.2 10 2 rfl, setI_I, if_neg (by decide)]; exact a2
          have eN : tN (Bt (pm t0)) p a = rq isD (Bt (pm t0)) p b := by unfold tN; rw [if_neg tB', if_neg cL', if_pos cD', hb]
          have eV : tV (Bt (pm t0)) p a = dgv (Bt (pm t0)) b (rq isD (Bt (pm t0)) p b - b) := by unfold tV; rw [hb]
          have eC : tC (Bt (pm t0)) p a = if rq isD (Bt (pm t0)) p b - b ≤ 4 then 258 else 257 := by unfold tC; rw [if_neg tB', if_neg cL', if_pos cD', hb]
          generalize rq isD (Bt (pm t0)) p b = e at *
          have w3 : mI (setI w 10 4 258) 10 3 = nI e := by rw [setI_I, if_neg (by decide)]; exact l3
          have w5 : mI (setI w 10 4 258) 10 5 = nI b := by rw [setI_I, if_neg (by decide)]; exact v5
          have w2 : mI (setI w 10 4 258) 10 2 = -1 := by rw [setI_I, if_neg (by decide)]; exact v2
          have w6 : mI (setI w 10 4 258) 10 6 = nI (dgv (Bt (pm t0)) b (e - b)) := by rw [setI_I, if_neg (by decide)]; exact l4
          have e4 : (nI (e - b) ≤ 4) = (e - b ≤ 4) := propext (nI_leI (b := 4) (by omega) (by decide))
          have w4 : mI (setI w 10 4 258) 10 4 = 258 := setI_eq rfl rfl
          have lw : Lay (setI w 10 4 258) := hi3.lay
          have fw : FF PA u (setI w 10 4 258) := (f2.tr f3).st rfl
          simp only [fRd_readNumber_66, pI_10 hi3.lay]
          generalize setI w 10 4 258 = y at *
          simp only [gI_10 lw, w3, w5, pk_sub lo.1, e4]
          by_cases c4 : e - b ≤ 4
          · rw [if_pos c4] at eC
            rw [if_pos c4, bV_rV]
            exact ⟨y, rfl, fw, fun _ => by rw [eN]; exact w3, by rw [eC]; exact w4, by rw [hb]; exact w5, fun _ => by rw [eV]; exact w6, by rw [if_neg (by omega)]; exact w2⟩
          · rw [if_neg c4] at eC
            rw [if_neg c4, rc_10 lw, fail0 lw w2 w5, bV_rV, bV_rV]
            refine ⟨_, rfl, (fw.st rfl).st rfl, fun q => absurd eC q, by rw [eC]; exact setI_eq rfl rfl, ?_, fun q => by rw [eC] at q; exact absurd q (by decide), ?_⟩
            · rw [setI_I, if_neg (by decide), setI_I, if_neg (by decide), hb]; exact w5
            · rw [if_pos eC, setI_I, if_neg (by decide), hb]; exact setI_eq rfl rfl
      · rw [if_neg (show ¬ bz true = 0 by decide), rc_10 hi2.lay]
        have cL' : isL (Bt (pm t0) (tB (Bt (pm t0)) p a)) = true := by rw [hb]; exact cL
        unfold fRd_readWord
        obtain ⟨w, l1, l2, l3⟩ := let_loop h (fun t => fRd_readWord_38 t) (p - b) b 1000000 v (by omega) (by omega) fr2 a3
        rw [l1]
        have f3 : FF PA v w := l2.up P3_A
        have fr3 := fr2.trans (f3.fr PA_s)
        have hi3 := h.fr fr3
        have lo := rq_f isL (Bt (pm t0)) (show b ≤ p by omega)
        have v5 : mI w 10 5 = nI b := by rw [l2.2 10 5 rfl]; exact a5
        have v2 : mI w 10 2 = -1 := by rw [l2.2 10 2 rfl]; exact a2
        have eN : tN (Bt (pm t0)) p a = rq isL (Bt (pm t0)) p b := by unfold tN; rw [if_neg tB', if_pos cL', hb]
        have eC : tC (Bt (pm t0)) p a = if wix (Bt (pm t0)) b (rq isL (Bt (pm t0)) p b) = 12 then 257 else 300 + wix (Bt (pm t0)) b (rq isL (Bt (pm t0)) p b) := by unfold tC; rw [if_neg tB', if_pos cL', hb]
        have fw := f2.tr f3
        generalize rq isL (Bt (pm t0)) p b = e at *
        unfold fRd_readWord_38
        have wl := wd_loop h lo.1 lo.2.1 fr3 v5 l3 (fun t u1 => fRd_readWord_60 t u1) (fun t => fRd_readWord_72 t) 12 0 1000000 (by decide) (by decide) (fun i hi => absurd hi (by omega))
        rw [show (300 : Int32) = nI (300 + 0) from rfl, wl]
        by_cases c12 : wix (Bt (pm t0)) b e = 12
        · rw [if_pos c12] at eC
          rw [if_pos c12]
          simp only [fRd_readWord_72, rc_10 hi3.lay, fail0 hi3.lay v2 v5, bV_rV]
          refine ⟨_, rfl, (fw.st rfl).st rfl, fun q => absurd eC q, by rw [eC]; exact setI_eq rfl rfl, ?_, fun q => by rw [eC] at q; exact absurd q (by decide), ?_⟩
          · rw [setI_I, if_neg (by decide), setI_I, if_neg (by decide), hb]; exact v5
          · rw [if_pos eC, setI_I, if_neg (by decide), hb]; exact setI_eq rfl rfl
        · rw [if_neg c12] at eC
          rw [if_neg c12]
          simp only [fRd_readWord_60, pI_10 hi3.lay, bV_rV]
          refine ⟨_, rfl, fw.st rfl, fun _ => by rw [eN, setI_I, if_neg (by decide)]; exact l3, by rw [eC]; exact setI_eq rfl rfl, ?_, fun q => by omega, ?_⟩
          · rw [setI_I, if_neg (by decide), hb]; exact v5
          · rw [if_neg (by omega), setI_I, if_neg (by decide)]; exact v2
    · have hbp : b = p := by omega
      rw [if_neg c0, if_pos rfl, pI_10 hi2.lay]
      have eC : tC (Bt (pm t0)) p a = 256 := by unfold tC; rw [if_pos (by omega)]
      have eN : tN (Bt (pm t0)) p a = p := by unfold tN; rw [if_pos (by omega)]
      refine ⟨_, rfl, f2.st rfl, fun _ => ?_, by rw [eC]; exact setI_eq rfl rfl, ?_, fun q => by omega, ?_⟩
      · rw [eN, setI_I, if_neg (by decide), ← hbp]; exact a3
      · rw [setI_I, if_neg (by decide), hb]; exact a5
      · rw [if_neg (by omega), setI_I, if_neg (by decide)]; exact a2
  exact go
end
