section
def PL (k j : Nat) : Bool := k == 39 && (j == 32 || (j == 33 || (j == 34 || j == 35)))
theorem PL_s (k j : Nat) (h : PL k j = true) : scrF k j = true := by
  simp only [PL, Bool.and_eq_true, Bool.or_eq_true, beq_iff_eq] at h
  rcases h with ⟨rfl, h⟩
  rcases h with rfl | rfl | rfl | rfl <;> rfl
/-- the class's place of the model's word, and back -/
def mw (k : Nat) : Nat := if k < 3 then k else if k < 9 then k + 3 else k - 6
def wm (j : Nat) : Nat := if j < 3 then j else if j < 6 then j + 6 else if j < 12 then j - 3 else 12
theorem mw_wm : ∀ j, j < 12 → mw (wm j) = j ∧ wm j < 12 := by decide +kernel
theorem wm_mw : ∀ k, k < 12 → wm (mw k) = k ∧ mw k < 12 := by decide +kernel
theorem wd_row : ∀ k, k < 12 → ∀ c, c < 8 → wdL.getD (8 * k + c) 0 = if c < (wd (mw k)).length then (wd (mw k)).getD c 0 else 32 := by decide +kernel
theorem wd_ltr : ∀ j, j < 12 → ∀ c, c < (wd j).length → 97 ≤ (wd j).getD c 0 ∧ (wd j).getD c 0 ≤ 122 := by decide +kernel
theorem wd_l6 : ∀ j, j < 12 → 1 ≤ (wd j).length ∧ (wd j).length ≤ 6 := by decide +kernel
theorem sgn_if {c : Nat} (hc : c < 256) {X Y : OR} : (if nI c = 40 then X else if nI c = 41 then X else if nI c = 59 then X else if nI c = 43 then X else if nI c = 45 then X else if nI c = 42 then X else if nI c = 60 then X else if nI c = 61 then X else Y) = if isS c = true then X else Y := by
  have e : ∀ k : Nat, k < 256 → (nI c = nI k) = (c = k) := fun k hk => propext (nI_eq (by omega) (by omega))
  have e1 := e 40 (by decide); have e2 := e 41 (by decide); have e3 := e 59 (by decide); have e4 := e 43 (by decide)
  have e5 := e 45 (by decide); have e6 := e 42 (by decide); have e7 := e 60 (by decide); have e8 := e 61 (by decide)
  have f1 : (nI c = 40) = (c = 40) := e1
  have f2 : (nI c = 41) = (c = 41) := e2
  have f3 : (nI c = 59) = (c = 59) := e3
  have f4 : (nI c = 43) = (c = 43) := e4
  have f5 : (nI c = 45) = (c = 45) := e5
  have f6 : (nI c = 42) = (c = 42) := e6
  have f7 : (nI c = 60) = (c = 60) := e7
  have f8 : (nI c = 61) = (c = 61) := e8
  simp only [f1, f2, f3, f4, f5, f6, f7, f8]
  unfold isS
  simp only [Bool.or_eq_true, beq_iff_eq]
  by_cases c1 : c = 40
  · simp [c1]
  · by_cases c2 : c = 41
    · simp [c2]
    · by_cases c3 : c = 59
      · simp [c3]
      · by_cases c4 : c = 43
        · simp [c4]
        · by_cases c5 : c = 45
          · simp [c5]
          · by_cases c6 : c = 42
            · simp [c6]
            · by_cases c7 : c = 60
              · simp [c7]
              · by_cases c8 : c = 61
                · simp [c8]
                · simp [c1, c2, c3, c4, c5, c6, c7, c8]
end
section
variable {p : Nat} {B : Nat → Nat} {t0 t u : SM}
/-- what the model reads -/
def MB (B : Nat → Nat) (p : Nat) (u : SM) : Prop := Lay u ∧ mI u 39 17 = nI p ∧ (∀ j, j < p → mI u 50 j = nI (B j) ∧ B j < 256) ∧ (∀ j, j < 96 → mI u 58 j = nI (wdL.getD j 0)) ∧ p ≤ 160
theorem MB.lay (h : MB B p u) : Lay u := h.1
theorem MB.tp (h : MB B p u) : mI u 39 17 = nI p := h.2.1
theorem MB.wds (h : MB B p u) : ∀ j, j < 96 → mI u 58 j = nI (wdL.getD j 0) := h.2.2.2.1
theorem MB.cg (h : MB B p t) (f : FF PL t u) : MB B p u := ⟨f.lay h.1, by rw [f.2 39 17 rfl]; exact h.2.1, fun j hj => by rw [f.2 50 j rfl]; exact h.2.2.1 j hj, fun j hj => by rw [f.2 58 j rfl]; exact h.2.2.2.1 j hj, h.2.2.2.2⟩
theorem mbl (h : MB B p u) {a : Nat} (ha : a < p) : B a < 256 := (h.2.2.1 a ha).2
theorem tp50 (h : MB B p t0) (fr : FF PL t0 u) {a : Nat} (ha : a < p) : mI u 50 a = nI (B a) := ((h.cg fr).2.2.1 a ha).1
theorem mbl_loop (h : MB B p t0) (k52 : SM → OR) : ∀ (d a f : Nat) (u : SM), a + d = p → d < f → FF PL t0 u → mI u 39 32 = nI a → ∃ w, fm_nextToken_l0 k52 f u = k52 w ∧ FF PL u w ∧ mI w 39 32 = nI (rq isBl B p a) := by
  have hr := h.2.2.2.2
  intro d
  induction d with
  | zero =>
    intro a f u hd hf fr ha
    obtain ⟨f, rfl⟩ : ∃ f', f = f' + 1 := ⟨f - 1, by omega⟩
    have hi := h.cg fr
    have e : nI p ≤ nI a := nI_le (by omega) (by omega)
    refine ⟨u, ?_, FF.refl _ _, ?_⟩
    · show fm_nextToken_0 _ _ u = _
      simp only [fm_nextToken_0, gI_39, pI_39, rc_39, al_40, as_40, ln_40, al_41, as_41, ln_41, al_42, as_42, ln_42, al_43, as_43, ln_43, al_44, as_44, ln_44, al_45, as_45, ln_45, al_46, as_46, ln_46, al_47, as_47, ln_47, al_48, as_48, ln_48, al_49, as_49, ln_49, al_50, as_50, ln_50, al_51, as_51, ln_51, al_52, as_52, ln_52, al_53, as_53, ln_53, al_54, as_54, ln_54, al_55, as_55, ln_55, al_56, as_56, ln_56, al_57, as_57, ln_57, al_58, as_58, ln_58, al_59, as_59, ln_59, al_60, as_60, ln_60, al_61, as_61, ln_61, al_62, as_62, ln_62, al_63, as_63, ln_63, al_64, as_64, ln_64, al_65, as_65, ln_65, al_66, as_66, ln_66, al_67, as_67, ln_67, gC_39_4, gC_39_5, gC_39_6, gC_39_7, gC_39_8, gC_39_10, gC_39_11, gC_39_12, gC_39_13, gC_39_15, gC_39_16, gC_39_18, gC_39_19, gC_39_27, gC_39_28, gC_39_29, gC_39_30, gC_39_31, gC_39_36, gC_39_37, gC_39_41, gC_39_42, gC_39_43, gC_39_44, gC_39_46, gC_39_47, gC_39_48, gC_39_49, bI_rI, bV_rV, bQ_rN, bQ_rR, bz_0, bz_1, bz_Z, hZ0, hZ1, Lay_setI, Lay_setA, hi.lay, hi.tp, ha, e, if_true]
    · rw [rq_eq, if_neg (by omega)]; exact ha
  | succ d ih =>
    intro a f u hd hf fr ha
    obtain ⟨f, rfl⟩ : ∃ f', f = f' + 1 := ⟨f - 1, by omega⟩
    have hi := h.cg fr
    have e : ¬ nI p ≤ nI a := nI_ge (by omega) (by omega)
    have hb := mbl h (show a < p by omega)
    have hby := tp50 h fr (show a < p by omega)
    have a160 : a < 160 := by omega
    have e32 : (nI (B a) = 32) = (B a = 32) := propext (nI_eq (b := 32) (by omega) (by decide))
    have e10 : (nI (B a) = 10) = (B a = 10) := propext (nI_eq (b := 10) (by omega) (by decide))
    have stp : ∃ w, fm_nextToken_l0 k52 f (setI u 39 32 (nI (a + 1))) = k52 w ∧ FF PL u w ∧ mI w 39 32 = nI (rq isBl B p (a + 1)) := by
      obtain ⟨w, h1, h2, h3⟩ := ih (a + 1) f (setI u 39 32 (nI (a + 1))) (by omega) (by omega) (fr.st rfl) (setI_eq rfl rfl)
      exact ⟨w, h1, ((FF.refl PL u).st (show PL 39 32 = true from rfl)).tr h2, h3⟩
    rw [rq_eq]
    show ∃ w, fm_nextToken_0 _ _ u = _ ∧ _
    simp only [fm_nextToken_0, gI_39, pI_39, rc_39, al_40, as_40, ln_40, al_41, as_41, ln_41, al_42, as_42, ln_42, al_43, as_43, ln_43, al_44, as_44, ln_44, al_45, as_45, ln_45, al_46, as_46, ln_46, al_47, as_47, ln_47, al_48, as_48, ln_48, al_49, as_49, ln_49, al_50, as_50, ln_50, al_51, as_51, ln_51, al_52, as_52, ln_52, al_53, as_53, ln_53, al_54, as_54, ln_54, al_55, as_55, ln_55, al_56, as_56, ln_56, al_57, as_57, ln_57, al_58, as_58, ln_58, al_59, as_59, ln_59, al_60, as_60, ln_60, al_61, as_61, ln_61, al_62, as_62, ln_62, al_63, as_63, ln_63, al_64, as_64, ln_64, al_65, as_65, ln_65, al_66, as_66, ln_66, al_67, as_67, ln_67, gC_39_4, gC_39_5, gC_39_6, gC_39_7, gC_39_8, gC_39_10, gC_39_11, gC_39_12, gC_39_13, gC_39_15, gC_39_16, gC_39_18, gC_39_19, gC_39_27, gC_39_28, gC_39_29, gC_39_30, gC_39_31, gC_39_36, gC_39_37, gC_39_41, gC_39_42, gC_39_43, gC_39_44, gC_39_46, gC_39_47, gC_39_48, gC_39_49, bI_rI, bV_rV, bQ_rN, bQ_rR, bz_0, bz_1, bz_Z, hZ0, hZ1, Lay_setI, Lay_setA, hi.lay, hi.tp, ha, a160, e, if_false, hby, e32, e10, nI_1]
    by_cases c1 : B a = 32
    · rw [if_pos (⟨by omega, by unfold isBl; rw [c1]; rfl⟩ : a < p ∧ isBl (B a) = true)]
      simp only [if_pos c1]
      exact stp
    · by_cases c2 : B a = 10
      · rw [if_pos (⟨by omega, by unfold isBl; rw [c2]; rfl⟩ : a < p ∧ isBl (B a) = true)]
        simp only [if_neg c1, if_pos c2]
        exact stp
      · rw [if_neg (by unfold isBl; simp [c1, c2] : ¬ (a < p ∧ isBl (B a) = true))]
        simp only [if_neg c1, if_neg c2]
        exact ⟨u, rfl, FF.refl _ _, ha⟩
theorem in_L {c : Nat} (h : c < 256) : (decide ((97 : Int32) ≤ nI c) && decide (nI c ≤ 122)) = isL c := by
  unfold isL
  rw [decide_eq_decide.mpr (show (97 : Int32) ≤ nI c ↔ 97 ≤ c from nI_leI (a := 97) (by decide) (by omega)), decide_eq_decide.mpr (show nI c ≤ 122 ↔ c ≤ 122 from nI_leI (b := 122) (by omega) (by decide))]
theorem in_D {c : Nat} (h : c < 256) : (decide ((48 : Int32) ≤ nI c) && decide (nI c ≤ 57)) = isD c := by
  unfold isD
  rw [decide_eq_decide.mpr (show (48 : Int32) ≤ nI c ↔ 48 ≤ c from nI_leI (a := 48) (by decide) (by omega)), decide_eq_decide.mpr (show nI c ≤ 57 ↔ c ≤ 57 from nI_leI (b := 57) (by omega) (by decide))]
theorem mlt_loop (h : MB B p t0) (k146 : SM → OR) : ∀ (d a f : Nat) (u : SM), a + d = p → d < f → FF PL t0 u → mI u 39 32 = nI a → ∃ w, fm_nextToken_l103 k146 f u = k146 w ∧ FF PL u w ∧ mI w 39 33 = mI u 39 33 ∧ mI w 39 32 = nI (rq isL B p a) := by
  have hr := h.2.2.2.2
  intro d
  induction d with
  | zero =>
    intro a f u hd hf fr ha
    obtain ⟨f, rfl⟩ : ∃ f', f = f' + 1 := ⟨f - 1, by omega⟩
    have hi := h.cg fr
    have e : nI p ≤ nI a := nI_le (by omega) (by omega)
    refine ⟨u, ?_, FF.refl _ _, rfl, ?_⟩
    · show fm_nextToken_103 _ _ u = _
      simp only [fm_nextToken_103, gI_39, pI_39, rc_39, al_40, as_40, ln_40, al_41, as_41, ln_41, al_42, as_42, ln_42, al_43, as_43, ln_43, al_44, as_44, ln_44, al_45, as_45, ln_45, al_46, as_46, ln_46, al_47, as_47, ln_47, al_48, as_48, ln_48, al_49, as_49, ln_49, al_50, as_50, ln_50, al_51, as_51, ln_51, al_52, as_52, ln_52, al_53, as_53, ln_53, al_54, as_54, ln_54, al_55, as_55, ln_55, al_56, as_56, ln_56, al_57, as_57, ln_57, al_58, as_58, ln_58, al_59, as_59, ln_59, al_60, as_60, ln_60, al_61, as_61, ln_61, al_62, as_62, ln_62, al_63, as_63, ln_63, al_64, as_64, ln_64, al_65, as_65, ln_65, al_66, as_66, ln_66, al_67, as_67, ln_67, gC_39_4, gC_39_5, gC_39_6, gC_39_7, gC_39_8, gC_39_10, gC_39_11, gC_39_12, gC_39_13, gC_39_15, gC_39_16, gC_39_18, gC_39_19, gC_39_27, gC_39_28, gC_39_29, gC_39_30, gC_39_31, gC_39_36, gC_39_37, gC_39_41, gC_39_42, gC_39_43, gC_39_44, gC_39_46, gC_39_47, gC_39_48, gC_39_49, bI_rI, bV_rV, bQ_rN, bQ_rR, bz_0, bz_1, bz_Z, hZ0, hZ1, Lay_setI, Lay_setA, hi.lay, hi.tp, ha, e, if_true]
    · rw [rq_eq, if_neg (by omega)]; exact ha
  | succ d ih =>
    intro a f u hd hf fr ha
    obtain ⟨f, rfl⟩ : ∃ f', f = f' + 1 := ⟨f - 1, by omega⟩
    have hi := h.cg fr
    have e : ¬ nI p ≤ nI a := nI_ge (by omega) (by omega)
    have hb := mbl h (show a < p by omega)
    have hby := tp50 h fr (show a < p by omega)
    have a160 : a < 160 := by omega
    rw [rq_eq]
    show ∃ w, fm_nextToken_103 _ _ u = _ ∧ _
    simp only [fm_nextToken_103, gI_39, pI_39, rc_39, al_40, as_40, ln_40, al_41, as_41, ln_41, al_42, as_42, ln_42, al_43, as_43, ln_43, al_44, as_44, ln_44, al_45, as_45, ln_45, al_46, as_46, ln_46, al_47, as_47, ln_47, al_48, as_48, ln_48, al_49, as_49, ln_49, al_50, as_50, ln_50, al_51, as_51, ln_51, al_52, as_52, ln_52, al_53, as_53, ln_53, al_54, as_54, ln_54, al_55, as_55, ln_55, al_56, as_56, ln_56, al_57, as_57, ln_57, al_58, as_58, ln_58, al_59, as_59, ln_59, al_60, as_60, ln_60, al_61, as_61, ln_61, al_62, as_62, ln_62, al_63, as_63, ln_63, al_64, as_64, ln_64, al_65, as_65, ln_65, al_66, as_66, ln_66, al_67, as_67, ln_67, gC_39_4, gC_39_5, gC_39_6, gC_39_7, gC_39_8, gC_39_10, gC_39_11, gC_39_12, gC_39_13, gC_39_15, gC_39_16, gC_39_18, gC_39_19, gC_39_27, gC_39_28, gC_39_29, gC_39_30, gC_39_31, gC_39_36, gC_39_37, gC_39_41, gC_39_42, gC_39_43, gC_39_44, gC_39_46, gC_39_47, gC_39_48, gC_39_49, bI_rI, bV_rV, bQ_rN, bQ_rR, bz_0, bz_1, bz_Z, hZ0, hZ1, Lay_setI, Lay_setA, hi.lay, hi.tp, ha, a160, e, if_false, hby, fm_in_v, in_L hb, nI_1]
    cases c : isL (B a)
    · rw [if_neg (by simp : ¬ (a < p ∧ false = true))]
      exact ⟨u, by simp only [if_true], FF.refl _ _, rfl, ha⟩
    · rw [if_pos (⟨by omega, rfl⟩ : a < p ∧ true = true)]
      obtain ⟨w, h1, h2, h4, h3⟩ := ih (a + 1) f (setI u 39 32 (nI (a + 1))) (by omega) (by omega) (fr.st rfl) (setI_eq rfl rfl)
      refine ⟨w, ?_, ((FF.refl PL u).st (show PL 39 32 = true from rfl)).tr h2, by rw [h4, setI_I, if_neg (by decide)], h3⟩
      simp only [Bool.true_eq_false, if_false]
      exact h1
theorem mnm_loop (h : MB B p t0) (k309 : SM → Int32 → OR) {b : Nat} : ∀ (d a f : Nat) (u : SM), a + d = p → d < f → FF PL t0 u → b ≤ a → mI u 39 32 = nI a → (a - b ≤ 4 → mI u 39 35 = nI (dgv B b (a - b))) → ∃ w, fm_nextToken_l230 k309 f u (nI (a - b)) = k309 w (nI (rq isD B p a - b)) ∧ FF PL u w ∧ mI w 39 33 = mI u 39 33 ∧ mI w 39 32 = nI (rq isD B p a) ∧ (rq isD B p a - b ≤ 4 → mI w 39 35 = nI (dgv B b (rq isD B p a - b))) := by
  have hr := h.2.2.2.2
  intro d
  induction d with
  | zero =>
    intro a f u hd hf fr hba ha hv
    obtain ⟨f, rfl⟩ : ∃ f', f = f' + 1 := ⟨f - 1, by omega⟩
    have hi := h.cg fr
    have e : nI p ≤ nI a := nI_le (by omega) (by omega)
    have er : rq isD B p a = a := by rw [rq_eq, if_neg (by omega)]
    refine ⟨u, ?_, FF.refl _ _, rfl, by rw [er]; exact ha, by rw [er]; exact hv⟩
    show fm_nextToken_230 _ _ u _ = _
    simp only [fm_nextToken_230, gI_39, pI_39, rc_39, al_40, as_40, ln_40, al_41, as_41, ln_41, al_42, as_42, ln_42, al_43, as_43, ln_43, al_44, as_44, ln_44, al_45, as_45, ln_45, al_46, as_46, ln_46, al_47, as_47, ln_47, al_48, as_48, ln_48, al_49, as_49, ln_49, al_50, as_50, ln_50, al_51, as_51, ln_51, al_52, as_52, ln_52, al_53, as_53, ln_53, al_54, as_54, ln_54, al_55, as_55, ln_55, al_56, as_56, ln_56, al_57, as_57, ln_57, al_58, as_58, ln_58, al_59, as_59, ln_59, al_60, as_60, ln_60, al_61, as_61, ln_61, al_62, as_62, ln_62, al_63, as_63, ln_63, al_64, as_64, ln_64, al_65, as_65, ln_65, al_66, as_66, ln_66, al_67, as_67, ln_67, gC_39_4, gC_39_5, gC_39_6, gC_39_7, gC_39_8, gC_39_10, gC_39_11, gC_39_12, gC_39_13, gC_39_15, gC_39_16, gC_39_18, gC_39_19, gC_39_27, gC_39_28, gC_39_29, gC_39_30, gC_39_31, gC_39_36, gC_39_37, gC_39_41, gC_39_42, gC_39_43, gC_39_44, gC_39_46, gC_39_47, gC_39_48, gC_39_49, bI_rI, bV_rV, bQ_rN, bQ_rR, bz_0, bz_1, bz_Z, hZ0, hZ1, Lay_setI, Lay_setA, hi.lay, hi.tp, ha, e, if_true, er]
  | succ d ih =>
    intro a f u hd hf fr hba ha hv
    obtain ⟨f, rfl⟩ : ∃ f', f = f' + 1 := ⟨f - 1, by omega⟩
    have hi := h.cg fr
    have e : ¬ nI p ≤ nI a := nI_ge (by omega) (by omega)
    have hb := mbl h (show a < p by omega)
    have hby := tp50 h fr (show a < p by omega)
    have a160 : a < 160 := by omega
    cases c : isD (B a)
    · have er : rq isD B p a = a := by rw [rq_eq, if_neg (by rw [c]; simp)]
      refine ⟨u, ?_, FF.refl _ _, rfl, by rw [er]; exact ha, by rw [er]; exact hv⟩
      show fm_nextToken_230 _ _ u _ = _
      simp only [fm_nextToken_230, gI_39, pI_39, rc_39, al_40, as_40, ln_40, al_41, as_41, ln_41, al_42, as_42, ln_42, al_43, as_43, ln_43, al_44, as_44, ln_44, al_45, as_45, ln_45, al_46, as_46, ln_46, al_47, as_47, ln_47, al_48, as_48, ln_48, al_49, as_49, ln_49, al_50, as_50, ln_50, al_51, as_51, ln_51, al_52, as_52, ln_52, al_53, as_53, ln_53, al_54, as_54, ln_54, al_55, as_55, ln_55, al_56, as_56, ln_56, al_57, as_57, ln_57, al_58, as_58, ln_58, al_59, as_59, ln_59, al_60, as_60, ln_60, al_61, as_61, ln_61, al_62, as_62, ln_62, al_63, as_63, ln_63, al_64, as_64, ln_64, al_65, as_65, ln_65, al_66, as_66, ln_66, al_67, as_67, ln_67, gC_39_4, gC_39_5, gC_39_6, gC_39_7, gC_39_8, gC_39_10, gC_39_11, gC_39_12, gC_39_13, gC_39_15, gC_39_16, gC_39_18, gC_39_19, gC_39_27, gC_39_28, gC_39_29, gC_39_30, gC_39_31, gC_39_36, gC_39_37, gC_39_41, gC_39_42, gC_39_43, gC_39_44, gC_39_46, gC_39_47, gC_39_48, gC_39_49, bI_rI, bV_rV, bQ_rN, bQ_rR, bz_0, bz_1, bz_Z, hZ0, hZ1, Lay_setI, Lay_setA, hi.lay, hi.tp, ha, a160, e, if_false, hby, fm_in_v, in_D hb, c, if_true, er]
    · have er : rq isD B p a = rq isD B p (a + 1) := by rw [rq_eq, if_pos ⟨by omega, c⟩]
      have cd : 48 ≤ B a := by
        unfold isD at c; simp only [Bool.and_eq_true, decide_eq_true_eq] at c; exact c.1
      have e1 : dgv B b (a + 1 - b) = 10 * dgv B b (a - b) + (B (b + (a - b)) - 48) := by
        rw [show a + 1 - b = (a - b) + 1 by omega]; rfl
      rw [show b + (a - b) = a by omega] at e1
      have e4 : (4 ≤ nI (a - b)) = (4 ≤ a - b) := propext (nI_leI (a := 4) (by decide) (by omega))
      have en : a - b + 1 = a + 1 - b := by omega
      by_cases c4 : 4 ≤ a - b
      · obtain ⟨w, h1, h2, h5, h3, h4⟩ := ih (a + 1) f (setI (setI u 39 35 0) 39 32 (nI (a + 1))) (by omega) (by omega) ((fr.st rfl).st rfl) (by omega) (setI_eq rfl rfl) (fun q => by omega)
        refine ⟨w, ?_, (((FF.refl PL u).st (show PL 39 35 = true from rfl)).st (show PL 39 32 = true from rfl)).tr h2, ?_, by rw [er]; exact h3, by rw [er]; exact h4⟩
        · have a3 : mI (setI u 39 35 0) 39 32 = nI a := by rw [setI_I, if_neg (by decide)]; exact ha
          show fm_nextToken_230 _ _ u _ = _
          simp only [fm_nextToken_230, gI_39, pI_39, rc_39, al_40, as_40, ln_40, al_41, as_41, ln_41, al_42, as_42, ln_42, al_43, as_43, ln_43, al_44, as_44, ln_44, al_45, as_45, ln_45, al_46, as_46, ln_46, al_47, as_47, ln_47, al_48, as_48, ln_48, al_49, as_49, ln_49, al_50, as_50, ln_50, al_51, as_51, ln_51, al_52, as_52, ln_52, al_53, as_53, ln_53, al_54, as_54, ln_54, al_55, as_55, ln_55, al_56, as_56, ln_56, al_57, as_57, ln_57, al_58, as_58, ln_58, al_59, as_59, ln_59, al_60, as_60, ln_60, al_61, as_61, ln_61, al_62, as_62, ln_62, al_63, as_63, ln_63, al_64, as_64, ln_64, al_65, as_65, ln_65, al_66, as_66, ln_66, al_67, as_67, ln_67, gC_39_4, gC_39_5, gC_39_6, gC_39_7, gC_39_8, gC_39_10, gC_39_11, gC_39_12, gC_39_13, gC_39_15, gC_39_16, gC_39_18, gC_39_19, gC_39_27, gC_39_28, gC_39_29, gC_39_30, gC_39_31, gC_39_36, gC_39_37, gC_39_41, gC_39_42, gC_39_43, gC_39_44, gC_39_46, gC_39_47, gC_39_48, gC_39_49, bI_rI, bV_rV, bQ_rN, bQ_rR, bz_0, bz_1, bz_Z, hZ0, hZ1, Lay_setI, Lay_setA, hi.lay, hi.tp, ha, a160, e, if_false, hby, fm_in_v, in_D hb, c, Bool.true_eq_false, e4, if_pos c4, a3, nI_1, en, er]
          exact h1
        · rw [h5, setI_I, if_neg (by decide), setI_I, if_neg (by decide)]
      · have ev : 10 * mI u 39 35 + nI (B a) - 48 = nI (dgv B b (a + 1 - b)) := by
          rw [hv (by omega), e1, show (10 : Int32) * nI (dgv B b (a - b)) = nI (10 * dgv B b (a - b)) from pk_mul 10 _, nI_add, show ∀ v : Nat, 48 ≤ v → nI v - 48 = nI (v - 48) from fun v hv => pk_sub (b := 48) hv]
          · congr 1; omega
          · omega
        obtain ⟨w, h1, h2, h5, h3, h4⟩ := ih (a + 1) f (setI (setI u 39 35 (nI (dgv B b (a + 1 - b)))) 39 32 (nI (a + 1))) (by omega) (by omega) ((fr.st rfl).st rfl) (by omega) (setI_eq rfl rfl) (fun _ => by rw [setI_I, if_neg (by decide)]; exact setI_eq rfl rfl)
        refine ⟨w, ?_, (((FF.refl PL u).st (show PL 39 35 = true from rfl)).st (show PL 39 32 = true from rfl)).tr h2, ?_, by rw [er]; exact h3, by rw [er]; exact h4⟩
        · have a3 : mI (setI u 39 35 (nI (dgv B b (a + 1 - b)))) 39 32 = nI a := by rw [setI_I, if_neg (by decide)]; exact ha
          show fm_nextToken_230 _ _ u _ = _
          simp only [fm_nextToken_230, gI_39, pI_39, rc_39, al_40, as_40, ln_40, al_41, as_41, ln_41, al_42, as_42, ln_42, al_43, as_43, ln_43, al_44, as_44, ln_44, al_45, as_45, ln_45, al_46, as_46, ln_46, al_47, as_47, ln_47, al_48, as_48, ln_48, al_49, as_49, ln_49, al_50, as_50, ln_50, al_51, as_51, ln_51, al_52, as_52, ln_52, al_53, as_53, ln_53, al_54, as_54, ln_54, al_55, as_55, ln_55, al_56, as_56, ln_56, al_57, as_57, ln_57, al_58, as_58, ln_58, al_59, as_59, ln_59, al_60, as_60, ln_60, al_61, as_61, ln_61, al_62, as_62, ln_62, al_63, as_63, ln_63, al_64, as_64, ln_64, al_65, as_65, ln_65, al_66, as_66, ln_66, al_67, as_67, ln_67, gC_39_4, gC_39_5, gC_39_6, gC_39_7, gC_39_8, gC_39_10, gC_39_11, gC_39_12, gC_39_13, gC_39_15, gC_39_16, gC_39_18, gC_39_19, gC_39_27, gC_39_28, gC_39_29, gC_39_30, gC_39_31, gC_39_36, gC_39_37, gC_39_41, gC_39_42, gC_39_43, gC_39_44, gC_39_46, gC_39_47, gC_39_48, gC_39_49, bI_rI, bV_rV, bQ_rN, bQ_rR, bz_0, bz_1, bz_Z, hZ0, hZ1, Lay_setI, Lay_setA, hi.lay, hi.tp, ha, a160, e, if_false, hby, fm_in_v, in_D hb, c, Bool.true_eq_false, e4, if_neg c4, ev, a3, nI_1, en, er]
          exact h1
        · rw [h5, setI_I, if_neg (by decide), setI_I, if_neg (by decide)]
/-! the model's words -/
theorem mwi_loop (h : MB B p t0) (fr : FF PL t0 u) {b e k : Nat} (hk : k < 12) (hbe : b ≤ e) (he : e ≤ p) (k88 : SM → Int32 → Int32 → Int32 → Int32 → OR) : ∀ (d c f : Nat) (l : Bool), c + d = 8 → d < f → ∃ v, fm_wordFrom_l26 k88 f u (nI b) (nI e) (nI k) (bz l) (nI c) = k88 u (nI b) (nI e) (nI k) (bz v) ∧ (v = true ↔ l = true ∧ ∀ i, c ≤ i → i < 8 → wdL.getD (8 * k + i) 0 = if b + i < e then B (b + i) else 32) := by
  have hr := h.2.2.2.2
  have hi := h.cg fr
  intro d
  induction d with
  | zero =>
    intro c f l hd hf
    obtain ⟨f, rfl⟩ : ∃ f', f = f' + 1 := ⟨f - 1, by omega⟩
    obtain rfl : c = 8 := by omega
    refine ⟨l, ?_, ⟨fun hl => ⟨hl, fun i h1 h2 => by omega⟩, fun hh => hh.1⟩⟩
    show fm_wordFrom_26 _ _ u _ _ _ _ (nI 8) = _
    unfold fm_wordFrom_26
    rw [if_pos (show (8 : Int32) ≤ nI 8 from Int32.le_refl _)]
  | succ d ih =>
    intro c f l hd hf
    obtain ⟨f, rfl⟩ : ∃ f', f = f' + 1 := ⟨f - 1, by omega⟩
    show ∃ v, fm_wordFrom_26 _ _ u _ _ _ _ (nI c) = _ ∧ _
    unfold fm_wordFrom_26
    rw [if_neg (show ¬ (8 : Int32) ≤ nI c from nI_ge (b := 8) (by omega) (by decide))]
    cases l
    · rw [if_pos (show bz false = 0 from rfl)]
      exact ⟨false, rfl, ⟨fun hh => absurd hh (by decide), fun hh => absurd hh.1 (by decide)⟩⟩
    · rw [if_neg (show ¬ bz true = 0 by decide)]
      have e58 : mI u 58 (8 * k + c) = nI (wdL.getD (8 * k + c) 0) := by exact hi.wds _ (by omega)
      have hw : ∀ j, j < 96 → wdL.getD j 0 < 256 := by decide +kernel
      have hw' := hw (8 * k + c) (by omega)
      have k96 : 8 * k + c < 96 := by omega
      have e1 : (nI e ≤ nI (b + c)) = (e ≤ b + c) := propext (nI_leI (by omega) (by omega))
      have e8 : (8 : Int32) * nI k = nI (8 * k) := pk_mul 8 k
      have e2 : (nI (wdL.getD (8 * k + c) 0) = 32) = (wdL.getD (8 * k + c) 0 = 32) := propext (nI_eq (b := 32) (by omega) (by decide))
      simp only [gI_39, pI_39, rc_39, al_40, as_40, ln_40, al_41, as_41, ln_41, al_42, as_42, ln_42, al_43, as_43, ln_43, al_44, as_44, ln_44, al_45, as_45, ln_45, al_46, as_46, ln_46, al_47, as_47, ln_47, al_48, as_48, ln_48, al_49, as_49, ln_49, al_50, as_50, ln_50, al_51, as_51, ln_51, al_52, as_52, ln_52, al_53, as_53, ln_53, al_54, as_54, ln_54, al_55, as_55, ln_55, al_56, as_56, ln_56, al_57, as_57, ln_57, al_58, as_58, ln_58, al_59, as_59, ln_59, al_60, as_60, ln_60, al_61, as_61, ln_61, al_62, as_62, ln_62, al_63, as_63, ln_63, al_64, as_64, ln_64, al_65, as_65, ln_65, al_66, as_66, ln_66, al_67, as_67, ln_67, gC_39_4, gC_39_5, gC_39_6, gC_39_7, gC_39_8, gC_39_10, gC_39_11, gC_39_12, gC_39_13, gC_39_15, gC_39_16, gC_39_18, gC_39_19, gC_39_27, gC_39_28, gC_39_29, gC_39_30, gC_39_31, gC_39_36, gC_39_37, gC_39_41, gC_39_42, gC_39_43, gC_39_44, gC_39_46, gC_39_47, gC_39_48, gC_39_49, bI_rI, bV_rV, bQ_rN, bQ_rR, bz_0, bz_1, bz_Z, hZ0, hZ1, Lay_setI, Lay_setA, hi.lay, e8, nI_add, k96, e58, e1, e2, nI_1]
      have fin : ∀ (z : Bool) (y : Int32), bz z = y → (z = true ↔ wdL.getD (8 * k + c) 0 = if b + c < e then B (b + c) else 32) → ∃ v, fm_wordFrom_l26 k88 f u (nI b) (nI e) (nI k) y (nI (c + 1)) = k88 u (nI b) (nI e) (nI k) (bz v) ∧ (v = true ↔ True ∧ ∀ i, c ≤ i → i < 8 → wdL.getD (8 * k + i) 0 = if b + i < e then B (b + i) else 32) := by
        intro z y hy hz
        subst hy
        obtain ⟨v, h1, h2⟩ := ih (c + 1) f z (by omega) (by omega)
        refine ⟨v, h1, h2.trans ⟨fun hh => ⟨trivial, fun i i1 i2 => ?_⟩, fun hh => ⟨hz.mpr (hh.2 c (Nat.le_refl _) (by omega)), fun i i1 i2 => hh.2 i (by omega) i2⟩⟩⟩
        by_cases ei : i = c
        · rw [ei]; exact hz.mp hh.1
        · exact hh.2 i (by omega) i2
      by_cases c1 : e ≤ b + c
      · rw [if_pos c1]
        by_cases c2 : wdL.getD (8 * k + c) 0 = 32
        · rw [if_pos c2]; exact fin true 1 rfl (by rw [if_neg (by omega)]; exact ⟨fun _ => c2, fun _ => rfl⟩)
        · rw [if_neg c2]; exact fin false 0 rfl (by rw [if_neg (by omega)]; exact ⟨fun q => absurd q (by decide), fun q => absurd q c2⟩)
      · rw [if_neg c1]
        have e50 := tp50 h fr (show b + c < p by omega)
        have hbl := mbl h (show b + c < p by omega)
        have b160 : b + c < 160 := by omega
        have e3 : (nI (wdL.getD (8 * k + c) 0) = nI (B (b + c))) = (wdL.getD (8 * k + c) 0 = B (b + c)) := propext (nI_eq (by omega) (by omega))
        simp only [b160, gI_39, pI_39, rc_39, al_40, as_40, ln_40, al_41, as_41, ln_41, al_42, as_42, ln_42, al_43, as_43, ln_43, al_44, as_44, ln_44, al_45, as_45, ln_45, al_46, as_46, ln_46, al_47, as_47, ln_47, al_48, as_48, ln_48, al_49, as_49, ln_49, al_50, as_50, ln_50, al_51, as_51, ln_51, al_52, as_52, ln_52, al_53, as_53, ln_53, al_54, as_54, ln_54, al_55, as_55, ln_55, al_56, as_56, ln_56, al_57, as_57, ln_57, al_58, as_58, ln_58, al_59, as_59, ln_59, al_60, as_60, ln_60, al_61, as_61, ln_61, al_62, as_62, ln_62, al_63, as_63, ln_63, al_64, as_64, ln_64, al_65, as_65, ln_65, al_66, as_66, ln_66, al_67, as_67, ln_67, gC_39_4, gC_39_5, gC_39_6, gC_39_7, gC_39_8, gC_39_10, gC_39_11, gC_39_12, gC_39_13, gC_39_15, gC_39_16, gC_39_18, gC_39_19, gC_39_27, gC_39_28, gC_39_29, gC_39_30, gC_39_31, gC_39_36, gC_39_37, gC_39_41, gC_39_42, gC_39_43, gC_39_44, gC_39_46, gC_39_47, gC_39_48, gC_39_49, bI_rI, bV_rV, bQ_rN, bQ_rR, bz_0, bz_1, bz_Z, hZ0, hZ1, Lay_setI, Lay_setA, hi.lay, e50, e3]
        by_cases c2 : wdL.getD (8 * k + c) 0 = B (b + c)
        · rw [if_pos c2]; exact fin true 1 rfl (by rw [if_pos (by omega)]; exact ⟨fun _ => c2, fun _ => rfl⟩)
        · rw [if_neg c2]; exact fin false 0 rfl (by rw [if_pos (by omega)]; exact ⟨fun q => absurd q (by decide), fun q => absurd q c2⟩)
theorem mword_v (h : MB B p t0) (fr : FF PL t0 u) {b e : Nat} (hbe : b ≤ e) (he : e ≤ p) (hL : ∀ j, b ≤ j → j < e → isL (B j) = true) : ∀ (d k f : Nat), k + d = 12 → d < f → (∀ i, i < k → eqw B b e (mw i) = false) → fm_wordFrom_l2 f u (nI b) (nI e) (nI k) = rI (nI (wm (wix B b e))) u := by
  have hr := h.2.2.2.2
  intro d
  induction d with
  | zero =>
    intro k f hd hf hn
    obtain ⟨f, rfl⟩ : ∃ f', f = f' + 1 := ⟨f - 1, by omega⟩
    obtain rfl : k = 12 := by omega
    have ex : wix B b e = 12 := by
      rcases wix_f B b e with q | q
      · have := hn (wm (wix B b e)) (mw_wm _ q.1).2
        rw [(mw_wm _ q.1).1, q.2] at this; exact absurd this (by decide)
      · exact q.1
    show fm_wordFrom_2 _ u _ _ (nI 12) = _
    unfold fm_wordFrom_2
    rw [if_pos (show (12 : Int32) ≤ nI 12 from Int32.le_refl _), ex]; rfl
  | succ d ih =>
    intro k f hd hf hn
    obtain ⟨f, rfl⟩ : ∃ f', f = f' + 1 := ⟨f - 1, by omega⟩
    have hk : k < 12 := by omega
    have l6 := wd_l6 (mw k) (wm_mw k hk).2
    show fm_wordFrom_2 _ u _ _ (nI k) = _
    unfold fm_wordFrom_2
    have e8 : ((8 : Int32) < nI (e - b)) = (8 < e - b) := propext (nI_ltI (a := 8) (by decide) (by omega))
    rw [if_neg (show ¬ (12 : Int32) ≤ nI k from nI_ge (b := 12) hk (by decide)), pk_sub hbe]
    simp only [e8]
    have ek : (if 8 < e - b then fm_wordFrom_l26 (fun t u1 u2 u3 u4 => fm_wordFrom_88 (fm_wordFrom_l2 f) t u1 u2 u3 u4) 1000000 u (nI b) (nI e) (nI k) 0 0 else fm_wordFrom_l26 (fun t u1 u2 u3 u4 => fm_wordFrom_88 (fm_wordFrom_l2 f) t u1 u2 u3 u4) 1000000 u (nI b) (nI e) (nI k) 1 0) = fm_wordFrom_l26 (fun t u1 u2 u3 u4 => fm_wordFrom_88 (fm_wordFrom_l2 f) t u1 u2 u3 u4) 1000000 u (nI b) (nI e) (nI k) (bz (decide (e - b ≤ 8))) (nI 0) := by
      by_cases c8 : 8 < e - b
      · rw [if_pos c8, decide_eq_false (by omega)]; rfl
      · rw [if_neg c8, decide_eq_true (by omega)]; rfl
    rw [ek]
    obtain ⟨v, h1, h2⟩ := mwi_loop h fr hk hbe he (fun t u1 u2 u3 u4 => fm_wordFrom_88 (fm_wordFrom_l2 f) t u1 u2 u3 u4) 8 0 1000000 (decide (e - b ≤ 8)) (by decide) (by decide)
    rw [h1]
    have ev : v = eqw B b e (mw k) := by
      rw [Bool.eq_iff_iff, h2, eqw_t, decide_eq_true_eq]
      constructor
      · rintro ⟨a1, a2⟩
        have hlen : (wd (mw k)).length = e - b := by
          rcases Nat.lt_trichotomy (wd (mw k)).length (e - b) with q | q | q
          · have := a2 (wd (mw k)).length (Nat.zero_le _) (by omega)
            rw [wd_row k hk _ (by omega), if_neg (by omega), if_pos (by omega)] at this
            have l := hL (b + (wd (mw k)).length) (by omega) (by omega)
            rw [← this] at l; exact absurd l (by decide)
          · exact q
          · have := a2 (e - b) (Nat.zero_le _) (by omega)
            rw [wd_row k hk _ (by omega), if_pos q, if_neg (by omega)] at this
            have := wd_ltr (mw k) (wm_mw k hk).2 (e - b) q
            omega
        refine ⟨hlen, fun i hi2 => ?_⟩
        have := a2 i (Nat.zero_le _) (by omega)
        rw [wd_row k hk _ (by omega), if_pos hi2, if_pos (by omega)] at this
        exact this.symm
      · rintro ⟨a1, a2⟩
        refine ⟨by omega, fun i _ i8 => ?_⟩
        rw [wd_row k hk _ i8]
        by_cases q : i < (wd (mw k)).length
        · rw [if_pos q, if_pos (by omega)]; exact (a2 i q).symm
        · rw [if_neg q, if_neg (by omega)]
    unfold fm_wordFrom_88
    cases c : eqw B b e (mw k)
    · rw [ev, c, if_pos (show bz false = 0 from rfl), nI_1]
      exact ih (k + 1) f (by omega) (by omega) (fun i hi2 => by
        by_cases q : i = k
        · rw [q]; exact c
        · exact hn i (by omega))
    · rw [ev, c, if_neg (show ¬ bz true = 0 by decide), wix_is (wm_mw k hk).2 c, (wm_mw k hk).1]
/-! the model's token at a place -/
def tm (c : Nat) : Int32 := if c = 256 then 0 else if c = 257 then -1 else if c = 258 then 1 else if c < 256 then nI c else if c < 303 then 3 else if c < 306 then nI (c - 299) else 2
def MK (B : Nat → Nat) (p : Nat) (u : SM) (a : Nat) : Prop := mI u 39 32 = nI (tN B p a) ∧ mI u 39 33 = nI (tB B p a) ∧ mI u 39 34 = tm (tC B p a) ∧ (tC B p a = 258 → mI u 39 35 = nI (tV B p a)) ∧ (300 ≤ tC B p a → tC B p a ≤ 302 → mI u 39 35 = nI (tC B p a - 300)) ∧ (306 ≤ tC B p a → mI u 39 35 = nI (tC B p a - 306))
theorem nextToken_v (h : MB B p u) {a : Nat} (ha : a ≤ p) (h3 : mI u 39 32 = nI a) : ∃ w, fm_nextToken u = rV w ∧ FF PL u w ∧ MK B p w a := by
  have hr := h.2.2.2.2
  have fr : FF PL u u := FF.refl _ _
  obtain ⟨w1, q1, q2, q3⟩ := mbl_loop h (fun t => fm_nextToken_52 t) (p - a) a 1000000 u (by omega) (by omega) fr h3
  unfold fm_nextToken
  rw [q1]
  have tb := tB_le (B := B) ha
  generalize hb : tB B p a = b at *
  have fr1 := fr.tr q2
  have hi1 := h.cg fr1
  have q3' : mI w1 39 32 = nI b := by rw [q3, ← hb]; rfl
  have fr2 : FF PL u (setI (setI (setI w1 39 33 (nI b)) 39 34 0) 39 35 0) := ((fr1.st rfl).st rfl).st rfl
  have hi2 := h.cg fr2
  have f2 : FF PL u (setI (setI (setI w1 39 33 (nI b)) 39 34 0) 39 35 0) := ((q2.st rfl).st rfl).st rfl
  have a3 : mI (setI (setI (setI w1 39 33 (nI b)) 39 34 0) 39 35 0) 39 32 = nI b := by rw [setI_I, if_neg (by decide), setI_I, if_neg (by decide), setI_I, if_neg (by decide)]; exact q3'
  have a4 : mI (setI (setI (setI w1 39 33 (nI b)) 39 34 0) 39 35 0) 39 33 = nI b := by rw [setI_I, if_neg (by decide), setI_I, if_neg (by decide)]; exact setI_eq rfl rfl
  have a5 : mI (setI (setI (setI w1 39 33 (nI b)) 39 34 0) 39 35 0) 39 34 = 0 := by rw [setI_I, if_neg (by decide)]; exact setI_eq rfl rfl
  have a6 : mI (setI (setI (setI w1 39 33 (nI b)) 39 34 0) 39 35 0) 39 35 = 0 := setI_eq rfl rfl
  unfold fm_nextToken_52
  simp only [gI_39 hi1.lay, pI_39 hi1.lay, q3', pI_39 (show Lay (setI w1 39 33 (nI b)) from hi1.lay), pI_39 (show Lay (setI (setI w1 39 33 (nI b)) 39 34 0) from hi1.lay)]
  clear q1 q2 q3
  generalize setI (setI (setI w1 39 33 (nI b)) 39 34 0) 39 35 0 = v at *
  have ebp : (nI b = nI p) = (b = p) := propext (nI_eq (by omega) (by omega))
  simp only [gI_39 hi2.lay, a3, hi2.tp, ebp]
  by_cases c0 : b = p
  · rw [if_pos c0]
    have eC : tC B p a = 256 := by unfold tC; rw [if_pos (by omega)]
    have eN : tN B p a = p := by unfold tN; rw [if_pos (by omega)]
    exact ⟨v, rfl, f2, by rw [eN, a3, c0], by rw [hb]; exact a4, by rw [eC]; exact a5, fun q => by omega, fun q _ => by omega, fun q => by omega⟩
  · rw [if_neg c0]
    have hbl := mbl h (show b < p by omega)
    have e50 := tp50 h fr2 (show b < p by omega)
    have b160 : b < 160 := by omega
    have tB' : tB B p a ≠ p := by omega
    simp only [gC_39_16 hi2.lay, gI_39 hi2.lay, a3, al_50 hi2.lay b160, e50, fm_in_v, bI_rI, in_L hbl, in_D hbl, bz_0]
    cases cL : isL (B b)
    · rw [if_pos rfl]
      have cL' : ¬ isL (B (tB B p a)) = true := by rw [hb, cL]; decide
      cases cD : isD (B b)
      · rw [if_pos rfl, sgn_if hbl]
        have cD' : ¬ isD (B (tB B p a)) = true := by rw [hb, cD]; decide
        have eN : tN B p a = b + 1 := by unfold tN; rw [if_neg tB', if_neg cL', if_neg cD', hb]
        cases cS : isS (B b)
        · rw [if_neg (by decide)]
          have eC : tC B p a = 257 := by unfold tC; rw [if_neg tB', if_neg cL', if_neg cD', hb, if_neg (by rw [cS]; decide)]
          have b3 : mI (setI v 39 34 (-1)) 39 32 = nI b := by rw [setI_I, if_neg (by decide)]; exact a3
          simp only [pI_39 hi2.lay, gI_39 (show Lay (setI v 39 34 (-1)) from hi2.lay), pI_39 (show Lay (setI v 39 34 (-1)) from hi2.lay), b3, nI_1]
          refine ⟨_, rfl, (f2.st rfl).st rfl, by rw [eN]; exact setI_eq rfl rfl, ?_, ?_, fun q => by omega, fun q _ => by omega, fun q => by omega⟩
          · rw [setI_I, if_neg (by decide), setI_I, if_neg (by decide), hb]; exact a4
          · rw [setI_I, if_neg (by decide), eC]; exact setI_eq rfl rfl
        · rw [if_pos rfl]
          have eC : tC B p a = B b := by unfold tC; rw [if_neg tB', if_neg cL', if_neg cD', hb, if_pos cS]
          have b3 : mI (setI v 39 34 (nI (B b))) 39 32 = nI b := by rw [setI_I, if_neg (by decide)]; exact a3
          simp only [fm_nextToken_374, pI_39 hi2.lay, gI_39 (show Lay (setI v 39 34 (nI (B b))) from hi2.lay), pI_39 (show Lay (setI v 39 34 (nI (B b))) from hi2.lay), b3, nI_1]
          refine ⟨_, rfl, (f2.st rfl).st rfl, by rw [eN]; exact setI_eq rfl rfl, ?_, ?_, fun q => by omega, fun q _ => by omega, fun q => by omega⟩
          · rw [setI_I, if_neg (by decide), setI_I, if_neg (by decide), hb]; exact a4
          · rw [setI_I, if_neg (by decide), eC, setI_eq rfl rfl]
            unfold tm
            rw [if_neg (by omega), if_neg (by omega), if_neg (by omega), if_pos hbl]
      · rw [if_neg (by decide)]
        have cD' : isD (B (tB B p a)) = true := by rw [hb]; exact cD
        obtain ⟨w, l1, l2, l5, l3, l4⟩ := mnm_loop h (fun t u2 => fm_nextToken_309 t u2) (b := b) (p - b) b 1000000 v (by omega) (by omega) fr2 (Nat.le_refl _) a3 (fun _ => by rw [Nat.sub_self]; exact a6)
        rw [show (0 : Int32) = nI (b - b) by rw [Nat.sub_self]; rfl, l1]
        have hi3 := h.cg (fr2.tr l2)
        have eN : tN B p a = rq isD B p b := by unfold tN; rw [if_neg tB', if_neg cL', if_pos cD', hb]
        have eV : tV B p a = dgv B b (rq isD B p b - b) := by unfold tV; rw [hb]
        have eC : tC B p a = if rq isD B p b - b ≤ 4 then 258 else 257 := by unfold tC; rw [if_neg tB', if_neg cL', if_pos cD', hb]
        have lo := rq_f isD B (show b ≤ p by omega)
        generalize rq isD B p b = e at *
        have e4 : (nI (e - b) ≤ 4) = (e - b ≤ 4) := propext (nI_leI (b := 4) (by omega) (by decide))
        simp only [fm_nextToken_309, e4, pI_39 hi3.lay]
        by_cases c4 : e - b ≤ 4
        · rw [if_pos c4] at eC
          rw [if_pos c4]
          refine ⟨_, rfl, (f2.tr l2).st rfl, ?_, ?_, ?_, fun _ => ?_, fun q _ => by omega, fun q => by omega⟩
          · rw [setI_I, if_neg (by decide), eN]; exact l3
          · rw [setI_I, if_neg (by decide), hb, l5]; exact a4
          · rw [eC]; exact setI_eq rfl rfl
          · rw [setI_I, if_neg (by decide), eV]; exact l4 c4
        · rw [if_neg c4] at eC
          rw [if_neg c4]
          refine ⟨_, rfl, (f2.tr l2).st rfl, ?_, ?_, ?_, fun q => by omega, fun q _ => by omega, fun q => by omega⟩
          · rw [setI_I, if_neg (by decide), eN]; exact l3
          · rw [setI_I, if_neg (by decide), hb, l5]; exact a4
          · rw [eC]; exact setI_eq rfl rfl
    · rw [if_neg (by decide)]
      have cL' : isL (B (tB B p a)) = true := by rw [hb]; exact cL
      obtain ⟨w, l1, l2, l5, l3⟩ := mlt_loop h (fun t => fm_nextToken_146 t) (p - b) b 1000000 v (by omega) (by omega) fr2 a3
      rw [l1]
      have fr3 := fr2.tr l2
      have hi3 := h.cg fr3
      have lo := rq_f isL B (show b ≤ p by omega)
      have eN : tN B p a = rq isL B p b := by unfold tN; rw [if_neg tB', if_pos cL', hb]
      have eC : tC B p a = if wix B b (rq isL B p b) = 12 then 257 else 300 + wix B b (rq isL B p b) := by unfold tC; rw [if_neg tB', if_pos cL', hb]
      rw [a4] at l5
      have fw := f2.tr l2
      generalize rq isL B p b = e at *
      have wv := mword_v h fr3 lo.1 lo.2.1 (fun j j1 j2 => lo.2.2.1 j j1 j2) 12 0 1000000 (by decide) (by decide) (fun i hi => absurd hi (by omega))
      have wl : wix B b e ≤ 12 := by have := wix_f B b e; omega
      generalize wix B b e = j at *
      have fin : ∀ (T V : Int32) (hT : tm (tC B p a) = T) (hV : (300 ≤ tC B p a → tC B p a ≤ 302 → V = nI (tC B p a - 300)) ∧ (306 ≤ tC B p a → V = nI (tC B p a - 306))), MK B p (setI (setI w 39 34 T) 39 35 V) a := by
        intro T V hT hV
        have n258 : tC B p a ≠ 258 := by rw [eC]; split <;> omega
        refine ⟨by rw [setI_I, if_neg (by decide), setI_I, if_neg (by decide), eN]; exact l3, by rw [setI_I, if_neg (by decide), setI_I, if_neg (by decide), hb]; exact l5, by rw [hT, setI_I, if_neg (by decide)]; exact setI_eq rfl rfl, fun q => absurd q n258, fun q1 q2 => ?_, fun q => ?_⟩
        · rw [← hV.1 q1 q2]; exact setI_eq rfl rfl
        · rw [← hV.2 q]; exact setI_eq rfl rfl
      unfold fm_nextToken_146
      simp only [gI_39 hi3.lay, l5, l3, rc_39 hi3.lay]
      unfold fm_wordFrom
      rw [show (0 : Int32) = nI 0 from rfl, wv, bI_rI]
      have k12 : wm j ≤ 12 := by unfold wm; split; omega; split; omega; split <;> omega
      have e3 : (3 ≤ nI (wm j)) = (3 ≤ wm j) := propext (nI_leI (a := 3) (by decide) (by omega))
      have e9 : (9 ≤ nI (wm j)) = (9 ≤ wm j) := propext (nI_leI (a := 9) (by decide) (by omega))
      have e12 : (nI (wm j) = 12) = (wm j = 12) := propext (nI_eq (b := 12) (by omega) (by decide))
      have s3 : 3 ≤ wm j → nI (wm j) - 3 = nI (wm j - 3) := fun q => pk_sub (b := 3) q
      have s9 : 9 ≤ wm j → 4 + nI (wm j) - 9 = nI (wm j - 5) := fun q => by
        rw [show (4 : Int32) + nI (wm j) = nI (4 + wm j) from nI_add 4 _, show nI (4 + wm j) - 9 = nI (4 + wm j - 9) from pk_sub (b := 9) (by omega)]; congr 1; omega
      simp only [e3, e9, e12, pI_39 hi3.lay, pI_39 (show Lay (setI w 39 34 (-1)) from hi3.lay), pI_39 (show Lay (setI w 39 34 (4 + nI (wm j) - 9)) from hi3.lay), pI_39 (show Lay (setI w 39 34 2) from hi3.lay), pI_39 (show Lay (setI w 39 34 3) from hi3.lay)]
      have hj : (j < 3 ∧ wm j = j) ∨ (3 ≤ j ∧ j < 6 ∧ wm j = j + 6) ∨ (6 ≤ j ∧ j < 12 ∧ wm j = j - 3) ∨ (j = 12 ∧ wm j = 12) := by
        unfold wm
        by_cases a : j < 3
        · left; rw [if_pos a]; exact ⟨a, rfl⟩
        · rw [if_neg a]
          by_cases a2 : j < 6
          · right; left; rw [if_pos a2]; omega
          · rw [if_neg a2]
            by_cases a3 : j < 12
            · right; right; left; rw [if_pos a3]; omega
            · rw [if_neg a3]; omega
      rcases hj with q | q | q | q
      · rw [if_neg (by omega)] at eC
        rw [if_neg (by omega), if_neg (by omega)]
        refine ⟨_, rfl, (fw.st rfl).st rfl, fin 3 _ ?_ ⟨fun _ _ => ?_, fun z => by omega⟩⟩
        · rw [eC]; unfold tm; rw [if_neg (by omega), if_neg (by omega), if_neg (by omega), if_neg (by omega), if_pos (by omega)]
        · rw [eC]; exact congrArg nI (by omega)
      · rw [if_neg (by omega)] at eC
        rw [if_pos (by omega), if_pos (by omega), if_neg (by omega), if_pos (by omega)]
        refine ⟨_, rfl, (fw.st rfl).st rfl, fin _ _ ?_ ⟨fun _ z => by omega, fun z => by omega⟩⟩
        rw [eC, s9 (by omega)]; unfold tm; rw [if_neg (by omega), if_neg (by omega), if_neg (by omega), if_neg (by omega), if_neg (by omega), if_pos (by omega)]; exact congrArg nI (by omega)
      · rw [if_neg (by omega)] at eC
        rw [if_pos (by omega), if_neg (by omega), if_pos (by omega)]
        refine ⟨_, rfl, (fw.st rfl).st rfl, fin 2 _ ?_ ⟨fun _ z => by omega, fun z => ?_⟩⟩
        · rw [eC]; unfold tm; rw [if_neg (by omega), if_neg (by omega), if_neg (by omega), if_neg (by omega), if_neg (by omega), if_neg (by omega)]
        · rw [s3 (by omega), eC]; exact congrArg nI (by omega)
      · rw [if_pos (by omega)] at eC
        rw [if_pos (by omega), if_pos (by omega), if_pos (by omega), if_pos (by omega)]
        exact ⟨_, rfl, (fw.st rfl).st rfl, fin (-1) _ (by rw [eC]; rfl) ⟨fun z _ => by omega, fun z => by omega⟩⟩
end
