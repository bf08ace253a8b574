section
variable {n m s g x p : Nat} {t0 t u : SM}
def slt (w c : Int32) : Int32 := w ^^^ ((1 : Int32) <<< (c &&& 31))
def hal (G : GG) (s g : Nat) (w c : Int32) : Int32 := fo (fun i a => a + hrm G s (cN (G 49 i)) w (slt w c)) 0 g
theorem harmOfSlip_v (h : Inv n m s g x p t0) (fr : Fr t0 t) {w : Nat} (hw : w < 2 ^ n) (c : Int32) : QQ t0 (fx_harmOfSlip t (nI w) c) (hal (pm t0) s g (nI w) c) := by
  have hr := h.rng
  unfold fx_harmOfSlip
  refine for_up (β := Int32) (fun f t i b => fx_harmOfSlip_l5 f t (nI w) c b (nI i)) (fun r => QQ t0 r (hal (pm t0) s g (nI w) c)) g
    (fun i u b => Fr t0 u ∧ b = fo (fun i a => a + hrm (pm t0) s (cN (pm t0 49 i)) (nI w) (slt (nI w) c)) 0 i) ?_ ?_ g 0 t 0 1000000 (by omega) ⟨fr, rfl⟩ (by omega)
  · intro f u b ⟨fu, eb⟩
    have hu := h.fr fu
    have e9 : nI g ≤ nI g := Int32.le_refl _
    show QQ t0 (fx_harmOfSlip_5 _ u (nI w) c b (nI g)) _
    simp only [fx_harmOfSlip_5, gI_0, pI_0, rc_0, gI_1, pI_1, rc_1, ln_2, ql_2, al_3, as_3, ln_3, al_4, as_4, ln_4, gI_5, pI_5, rc_5, ln_6, ql_6, al_7, as_7, ln_7, al_8, as_8, ln_8, ln_9, ql_9, gI_10, pI_10, rc_10, al_11, as_11, ln_11, al_12, as_12, ln_12, gI_13, pI_13, rc_13, al_14, as_14, ln_14, ln_15, ql_15, gI_16, pI_16, rc_16, al_17, as_17, ln_17, al_18, as_18, ln_18, al_19, as_19, ln_19, al_20, as_20, ln_20, bl_21, bs_21, ln_21, gI_22, pI_22, rc_22, al_23, as_23, ln_23, al_24, as_24, ln_24, al_25, as_25, ln_25, gI_31, pI_31, rc_31, al_32, as_32, ln_32, gI_33, pI_33, rc_33, al_34, as_34, ln_34, gI_35, pI_35, rc_35, al_36, as_36, ln_36, gI_37, pI_37, rc_37, al_38, as_38, ln_38, gC_0_3, gC_0_4, gC_0_5, gC_0_7, gC_0_10, gC_0_11, gC_0_12, gC_0_13, gC_0_14, gC_0_15, gC_0_16, gC_0_17, gC_1_0, gC_1_2, gC_1_3, gC_5_0, gC_5_2, gC_10_0, gC_10_7, gC_13_5, gC_16_0, gC_16_2, gC_22_0, gC_22_1, gC_22_2, gC_22_3, gC_31_2, gC_33_2, gC_35_2, gC_37_2, bI_rI, bV_rV, bQ_rN, bQ_rR, bz_0, bz_1, bz_Z, hZ0, hZ1, Lay_setI, Lay_setA, hu.lay, hu.go', e9, if_true]
    exact ⟨u, by rw [eb]; rfl, fu⟩
  · intro f u i b hi ⟨fu, eb⟩ ih
    have hu := h.fr fu
    have e9 : ¬ nI g ≤ nI i := nI_ge hi (by omega)
    obtain ⟨v, ev, fv⟩ := harmForOne_v hu hi hw (slt (nI w) c)
    unfold slt at ev
    show QQ t0 (fx_harmOfSlip_5 _ u (nI w) c b (nI i)) _
    simp only [fx_harmOfSlip_5, gI_0, pI_0, rc_0, gI_1, pI_1, rc_1, ln_2, ql_2, al_3, as_3, ln_3, al_4, as_4, ln_4, gI_5, pI_5, rc_5, ln_6, ql_6, al_7, as_7, ln_7, al_8, as_8, ln_8, ln_9, ql_9, gI_10, pI_10, rc_10, al_11, as_11, ln_11, al_12, as_12, ln_12, gI_13, pI_13, rc_13, al_14, as_14, ln_14, ln_15, ql_15, gI_16, pI_16, rc_16, al_17, as_17, ln_17, al_18, as_18, ln_18, al_19, as_19, ln_19, al_20, as_20, ln_20, bl_21, bs_21, ln_21, gI_22, pI_22, rc_22, al_23, as_23, ln_23, al_24, as_24, ln_24, al_25, as_25, ln_25, gI_31, pI_31, rc_31, al_32, as_32, ln_32, gI_33, pI_33, rc_33, al_34, as_34, ln_34, gI_35, pI_35, rc_35, al_36, as_36, ln_36, gI_37, pI_37, rc_37, al_38, as_38, ln_38, gC_0_3, gC_0_4, gC_0_5, gC_0_7, gC_0_10, gC_0_11, gC_0_12, gC_0_13, gC_0_14, gC_0_15, gC_0_16, gC_0_17, gC_1_0, gC_1_2, gC_1_3, gC_5_0, gC_5_2, gC_10_0, gC_10_7, gC_13_5, gC_16_0, gC_16_2, gC_22_0, gC_22_1, gC_22_2, gC_22_3, gC_31_2, gC_33_2, gC_35_2, gC_37_2, bI_rI, bV_rV, bQ_rN, bQ_rR, bz_0, bz_1, bz_Z, hZ0, hZ1, Lay_setI, Lay_setA, hu.lay, hu.go', e9, if_false, ev, nI_1]
    exact ih v _ ⟨fu.trans fv, by rw [eb, fu.2]; rfl⟩
theorem harmAll_v (h : Inv n m s g x p t0) (fr : Fr t0 t) {w : Nat} (hw : w < 2 ^ n) (c : Int32) : QQ t0 (fm_harmAll t (nI w) c) (hal (pm t0) s g (nI w) c) := by
  have hr := h.rng
  unfold fm_harmAll
  refine for_up (β := Int32) (fun f t i b => fm_harmAll_l5 f t (nI w) c b (nI i)) (fun r => QQ t0 r (hal (pm t0) s g (nI w) c)) g
    (fun i u b => Fr t0 u ∧ b = fo (fun i a => a + hrm (pm t0) s (cN (pm t0 49 i)) (nI w) (slt (nI w) c)) 0 i) ?_ ?_ g 0 t 0 1000000 (by omega) ⟨fr, rfl⟩ (by omega)
  · intro f u b ⟨fu, eb⟩
    have hu := h.fr fu
    have e9 : nI g ≤ nI g := Int32.le_refl _
    show QQ t0 (fm_harmAll_5 _ u (nI w) c b (nI g)) _
    simp only [fm_harmAll_5, gI_39, pI_39, rc_39, al_40, as_40, ln_40, al_41, as_41, ln_41, al_42, as_42, ln_42, al_43, as_43, ln_43, al_44, as_44, ln_44, al_45, as_45, ln_45, al_46, as_46, ln_46, al_47, as_47, ln_47, al_48, as_48, ln_48, al_49, as_49, ln_49, al_50, as_50, ln_50, al_51, as_51, ln_51, al_52, as_52, ln_52, al_53, as_53, ln_53, al_54, as_54, ln_54, al_55, as_55, ln_55, al_56, as_56, ln_56, al_57, as_57, ln_57, al_58, as_58, ln_58, al_59, as_59, ln_59, al_60, as_60, ln_60, al_61, as_61, ln_61, al_62, as_62, ln_62, al_63, as_63, ln_63, al_64, as_64, ln_64, al_65, as_65, ln_65, al_66, as_66, ln_66, al_67, as_67, ln_67, gC_39_4, gC_39_5, gC_39_6, gC_39_7, gC_39_8, gC_39_10, gC_39_11, gC_39_12, gC_39_13, gC_39_15, gC_39_16, gC_39_18, gC_39_19, gC_39_27, gC_39_28, gC_39_29, gC_39_30, gC_39_31, gC_39_36, gC_39_37, gC_39_41, gC_39_42, gC_39_43, gC_39_44, gC_39_46, gC_39_47, gC_39_48, gC_39_49, bI_rI, bV_rV, bQ_rN, bQ_rR, bz_0, bz_1, bz_Z, hZ0, hZ1, Lay_setI, Lay_setA, hu.lay, hu.go, e9, if_true]
    exact ⟨u, by rw [eb]; rfl, fu⟩
  · intro f u i b hi ⟨fu, eb⟩ ih
    have hu := h.fr fu
    have e9 : ¬ nI g ≤ nI i := nI_ge hi (by omega)
    obtain ⟨v, ev, fv⟩ := harmOf_v hu hi hw (slt (nI w) c)
    unfold slt at ev
    show QQ t0 (fm_harmAll_5 _ u (nI w) c b (nI i)) _
    simp only [fm_harmAll_5, gI_39, pI_39, rc_39, al_40, as_40, ln_40, al_41, as_41, ln_41, al_42, as_42, ln_42, al_43, as_43, ln_43, al_44, as_44, ln_44, al_45, as_45, ln_45, al_46, as_46, ln_46, al_47, as_47, ln_47, al_48, as_48, ln_48, al_49, as_49, ln_49, al_50, as_50, ln_50, al_51, as_51, ln_51, al_52, as_52, ln_52, al_53, as_53, ln_53, al_54, as_54, ln_54, al_55, as_55, ln_55, al_56, as_56, ln_56, al_57, as_57, ln_57, al_58, as_58, ln_58, al_59, as_59, ln_59, al_60, as_60, ln_60, al_61, as_61, ln_61, al_62, as_62, ln_62, al_63, as_63, ln_63, al_64, as_64, ln_64, al_65, as_65, ln_65, al_66, as_66, ln_66, al_67, as_67, ln_67, gC_39_4, gC_39_5, gC_39_6, gC_39_7, gC_39_8, gC_39_10, gC_39_11, gC_39_12, gC_39_13, gC_39_15, gC_39_16, gC_39_18, gC_39_19, gC_39_27, gC_39_28, gC_39_29, gC_39_30, gC_39_31, gC_39_36, gC_39_37, gC_39_41, gC_39_42, gC_39_43, gC_39_44, gC_39_46, gC_39_47, gC_39_48, gC_39_49, bI_rI, bV_rV, bQ_rN, bQ_rR, bz_0, bz_1, bz_Z, hZ0, hZ1, Lay_setI, Lay_setA, hu.lay, hu.go, e9, if_false, ev, nI_1]
    exact ih v _ ⟨fu.trans fv, by rw [eb, fu.2]; rfl⟩
def s_harm (n s g : Nat) (G : GG) (a c : Int32) : Int32 := if inr a (2 ^ n) = true then (if inr c n = true then hal G s g a c else -5) else -2
theorem ok_harm (h : Inv n m s g x p t) (a c : Int32) : Okk t (fun t => fx_harm t a c) (fun t => fm_harm t a c) := by
  have hr := h.rng
  have hpw := pw_lt (n := n) (by omega)
  refine okq h (v := s_harm n s g (pm t) a c) ?_ (fun u hu e => ?_)
  · unfold s_harm
    simp only [fx_harm, gI_0, pI_0, rc_0, gI_1, pI_1, rc_1, ln_2, ql_2, al_3, as_3, ln_3, al_4, as_4, ln_4, gI_5, pI_5, rc_5, ln_6, ql_6, al_7, as_7, ln_7, al_8, as_8, ln_8, ln_9, ql_9, gI_10, pI_10, rc_10, al_11, as_11, ln_11, al_12, as_12, ln_12, gI_13, pI_13, rc_13, al_14, as_14, ln_14, ln_15, ql_15, gI_16, pI_16, rc_16, al_17, as_17, ln_17, al_18, as_18, ln_18, al_19, as_19, ln_19, al_20, as_20, ln_20, bl_21, bs_21, ln_21, gI_22, pI_22, rc_22, al_23, as_23, ln_23, al_24, as_24, ln_24, al_25, as_25, ln_25, gI_31, pI_31, rc_31, al_32, as_32, ln_32, gI_33, pI_33, rc_33, al_34, as_34, ln_34, gI_35, pI_35, rc_35, al_36, as_36, ln_36, gI_37, pI_37, rc_37, al_38, as_38, ln_38, gC_0_3, gC_0_4, gC_0_5, gC_0_7, gC_0_10, gC_0_11, gC_0_12, gC_0_13, gC_0_14, gC_0_15, gC_0_16, gC_0_17, gC_1_0, gC_1_2, gC_1_3, gC_5_0, gC_5_2, gC_10_0, gC_10_7, gC_13_5, gC_16_0, gC_16_2, gC_22_0, gC_22_1, gC_22_2, gC_22_3, gC_31_2, gC_33_2, gC_35_2, gC_37_2, bI_rI, bV_rV, bQ_rN, bQ_rR, bz_0, bz_1, bz_Z, hZ0, hZ1, Lay_setI, Lay_setA, h.lay, fx_isTown_v h, fx_isChoice_v h]
    cases c1 : inr a (2 ^ n)
    · simp only [if_true]; exact QQ.pure rfl
    · obtain ⟨w, hw, rfl⟩ := inr_t c1 (by omega)
      simp only [if_false, if_true, Bool.true_eq_false]
      cases c2 : inr c n
      · simp only [if_true]; exact QQ.pure rfl
      · obtain ⟨v, ev, fv⟩ := harmOfSlip_v h (Fr.refl t) hw c
        simp only [if_false, if_true, Bool.true_eq_false, ev, bI_rI, bV_rV, bQ_rN, bQ_rR, bz_0, bz_1, bz_Z, hZ0, hZ1, Lay_setI, Lay_setA]
        exact ⟨v, rfl, fv⟩
  · rw [← e]
    unfold s_harm
    simp only [fm_harm, gI_39, pI_39, rc_39, al_40, as_40, ln_40, al_41, as_41, ln_41, al_42, as_42, ln_42, al_43, as_43, ln_43, al_44, as_44, ln_44, al_45, as_45, ln_45, al_46, as_46, ln_46, al_47, as_47, ln_47, al_48, as_48, ln_48, al_49, as_49, ln_49, al_50, as_50, ln_50, al_51, as_51, ln_51, al_52, as_52, ln_52, al_53, as_53, ln_53, al_54, as_54, ln_54, al_55, as_55, ln_55, al_56, as_56, ln_56, al_57, as_57, ln_57, al_58, as_58, ln_58, al_59, as_59, ln_59, al_60, as_60, ln_60, al_61, as_61, ln_61, al_62, as_62, ln_62, al_63, as_63, ln_63, al_64, as_64, ln_64, al_65, as_65, ln_65, al_66, as_66, ln_66, al_67, as_67, ln_67, gC_39_4, gC_39_5, gC_39_6, gC_39_7, gC_39_8, gC_39_10, gC_39_11, gC_39_12, gC_39_13, gC_39_15, gC_39_16, gC_39_18, gC_39_19, gC_39_27, gC_39_28, gC_39_29, gC_39_30, gC_39_31, gC_39_36, gC_39_37, gC_39_41, gC_39_42, gC_39_43, gC_39_44, gC_39_46, gC_39_47, gC_39_48, gC_39_49, bI_rI, bV_rV, bQ_rN, bQ_rR, bz_0, bz_1, bz_Z, hZ0, hZ1, Lay_setI, Lay_setA, hu.lay, fm_isTown_v hu, fm_isChoice_v hu]
    cases c1 : inr a (2 ^ n)
    · simp only [if_true]; exact QQ.pure rfl
    · obtain ⟨w, hw, rfl⟩ := inr_t c1 (by omega)
      simp only [if_false, if_true, Bool.true_eq_false]
      cases c2 : inr c n
      · simp only [if_true]; exact QQ.pure rfl
      · obtain ⟨v, ev, fv⟩ := harmAll_v hu (Fr.refl u) hw c
        simp only [if_false, if_true, Bool.true_eq_false, ev, bI_rI, bV_rV, bQ_rN, bQ_rR, bz_0, bz_1, bz_Z, hZ0, hZ1, Lay_setI, Lay_setA]
        exact ⟨v, rfl, fv⟩
/-- the first of the least -/
def lst (q : Nat → Int32) (k : Nat) : Nat := fo (fun i b => if q b ≤ q (i + 1) then b else i + 1) 0 k
theorem lst_s (q : Nat → Int32) (k : Nat) : lst q (k + 1) = if q (lst q k) ≤ q (k + 1) then lst q k else k + 1 := rfl
def s_put (n s g : Nat) (G : GG) (a b : Int32) : Int32 := if inr a (2 ^ n) = true then (if inr b 2 = true then (if b = 0 then nI (lst (fun i => hal G s g a (nI i)) (n - 1)) else hal G s g a (nI (lst (fun i => hal G s g a (nI i)) (n - 1)))) else -2) else -2
theorem ok_put (h : Inv n m s g x p t) (a b : Int32) : Okk t (fun t => fx_put t a b) (fun t => fm_put t a b) := by
  have hr := h.rng
  have hpw := pw_lt (n := n) (by omega)
  refine okq h (v := s_put n s g (pm t) a b) ?_ (fun u hu e => ?_)
  · unfold s_put
    simp only [fx_put, gI_0, pI_0, rc_0, gI_1, pI_1, rc_1, ln_2, ql_2, al_3, as_3, ln_3, al_4, as_4, ln_4, gI_5, pI_5, rc_5, ln_6, ql_6, al_7, as_7, ln_7, al_8, as_8, ln_8, ln_9, ql_9, gI_10, pI_10, rc_10, al_11, as_11, ln_11, al_12, as_12, ln_12, gI_13, pI_13, rc_13, al_14, as_14, ln_14, ln_15, ql_15, gI_16, pI_16, rc_16, al_17, as_17, ln_17, al_18, as_18, ln_18, al_19, as_19, ln_19, al_20, as_20, ln_20, bl_21, bs_21, ln_21, gI_22, pI_22, rc_22, al_23, as_23, ln_23, al_24, as_24, ln_24, al_25, as_25, ln_25, gI_31, pI_31, rc_31, al_32, as_32, ln_32, gI_33, pI_33, rc_33, al_34, as_34, ln_34, gI_35, pI_35, rc_35, al_36, as_36, ln_36, gI_37, pI_37, rc_37, al_38, as_38, ln_38, gC_0_3, gC_0_4, gC_0_5, gC_0_7, gC_0_10, gC_0_11, gC_0_12, gC_0_13, gC_0_14, gC_0_15, gC_0_16, gC_0_17, gC_1_0, gC_1_2, gC_1_3, gC_5_0, gC_5_2, gC_10_0, gC_10_7, gC_13_5, gC_16_0, gC_16_2, gC_22_0, gC_22_1, gC_22_2, gC_22_3, gC_31_2, gC_33_2, gC_35_2, gC_37_2, bI_rI, bV_rV, bQ_rN, bQ_rR, bz_0, bz_1, bz_Z, hZ0, hZ1, Lay_setI, Lay_setA, h.lay, fx_isTown_v h, fx_isZeroOrOne_v]
    cases c1 : inr a (2 ^ n)
    · simp only [if_true]; exact QQ.pure rfl
    · obtain ⟨w, hw, rfl⟩ := inr_t c1 (by omega)
      simp only [if_false, if_true, Bool.true_eq_false]
      cases c2 : inr b 2
      · simp only [if_true]; exact QQ.pure rfl
      · obtain ⟨v, ev, fv⟩ := harmOfSlip_v h (Fr.refl t) hw 0
        simp only [if_false, if_true, Bool.true_eq_false, ev, bI_rI, bV_rV, bQ_rN, bQ_rR, bz_0, bz_1, bz_Z, hZ0, hZ1, Lay_setI, Lay_setA]
        refine for_up (β := Int32 × Int32) (fun f t i z => fx_put_l31 (fun t u2 u3 u4 => fx_put_69 t u2 u3 u4) f t (nI w) b z.1 z.2 (nI (i + 1))) (fun r => QQ t r (if b = 0 then nI (lst (fun i => hal (pm t) s g (nI w) (nI i)) (n - 1)) else hal (pm t) s g (nI w) (nI (lst (fun i => hal (pm t) s g (nI w) (nI i)) (n - 1))))) (n - 1)
          (fun i u z => Fr t u ∧ z.1 = nI (lst (fun i => hal (pm t) s g (nI w) (nI i)) i) ∧ z.2 = hal (pm t) s g (nI w) (nI (lst (fun i => hal (pm t) s g (nI w) (nI i)) i))) ?_ ?_ (n - 1) 0 v (0, hal (pm t) s g (nI w) 0) 1000000 (by omega) ⟨fv, rfl, rfl⟩ (by omega)
        · intro f u z ⟨fu, e1, e2⟩
          have hu := h.fr fu
          have e9 : nI n ≤ nI (n - 1 + 1) := nI_le (by omega) (by omega)
          show QQ t (fx_put_31 _ _ u (nI w) b z.1 z.2 (nI (n - 1 + 1))) _
          simp only [fx_put_31, gI_0, pI_0, rc_0, gI_1, pI_1, rc_1, ln_2, ql_2, al_3, as_3, ln_3, al_4, as_4, ln_4, gI_5, pI_5, rc_5, ln_6, ql_6, al_7, as_7, ln_7, al_8, as_8, ln_8, ln_9, ql_9, gI_10, pI_10, rc_10, al_11, as_11, ln_11, al_12, as_12, ln_12, gI_13, pI_13, rc_13, al_14, as_14, ln_14, ln_15, ql_15, gI_16, pI_16, rc_16, al_17, as_17, ln_17, al_18, as_18, ln_18, al_19, as_19, ln_19, al_20, as_20, ln_20, bl_21, bs_21, ln_21, gI_22, pI_22, rc_22, al_23, as_23, ln_23, al_24, as_24, ln_24, al_25, as_25, ln_25, gI_31, pI_31, rc_31, al_32, as_32, ln_32, gI_33, pI_33, rc_33, al_34, as_34, ln_34, gI_35, pI_35, rc_35, al_36, as_36, ln_36, gI_37, pI_37, rc_37, al_38, as_38, ln_38, gC_0_3, gC_0_4, gC_0_5, gC_0_7, gC_0_10, gC_0_11, gC_0_12, gC_0_13, gC_0_14, gC_0_15, gC_0_16, gC_0_17, gC_1_0, gC_1_2, gC_1_3, gC_5_0, gC_5_2, gC_10_0, gC_10_7, gC_13_5, gC_16_0, gC_16_2, gC_22_0, gC_22_1, gC_22_2, gC_22_3, gC_31_2, gC_33_2, gC_35_2, gC_37_2, bI_rI, bV_rV, bQ_rN, bQ_rR, bz_0, bz_1, bz_Z, hZ0, hZ1, Lay_setI, Lay_setA, hu.lay, hu.ch', e9, if_true, fx_put_69, e1, e2]
          exact ⟨u, by rw [rI_ite], fu⟩
        · intro f u i z hi ⟨fu, e1, e2⟩ ih
          have hu := h.fr fu
          have e9 : ¬ nI n ≤ nI (i + 1) := nI_ge (by omega) (by omega)
          obtain ⟨y, ey, fy⟩ := harmOfSlip_v h fu hw (nI (i + 1))
          show QQ t (fx_put_31 _ _ u (nI w) b z.1 z.2 (nI (i + 1))) _
          simp only [fx_put_31, gI_0, pI_0, rc_0, gI_1, pI_1, rc_1, ln_2, ql_2, al_3, as_3, ln_3, al_4, as_4, ln_4, gI_5, pI_5, rc_5, ln_6, ql_6, al_7, as_7, ln_7, al_8, as_8, ln_8, ln_9, ql_9, gI_10, pI_10, rc_10, al_11, as_11, ln_11, al_12, as_12, ln_12, gI_13, pI_13, rc_13, al_14, as_14, ln_14, ln_15, ql_15, gI_16, pI_16, rc_16, al_17, as_17, ln_17, al_18, as_18, ln_18, al_19, as_19, ln_19, al_20, as_20, ln_20, bl_21, bs_21, ln_21, gI_22, pI_22, rc_22, al_23, as_23, ln_23, al_24, as_24, ln_24, al_25, as_25, ln_25, gI_31, pI_31, rc_31, al_32, as_32, ln_32, gI_33, pI_33, rc_33, al_34, as_34, ln_34, gI_35, pI_35, rc_35, al_36, as_36, ln_36, gI_37, pI_37, rc_37, al_38, as_38, ln_38, gC_0_3, gC_0_4, gC_0_5, gC_0_7, gC_0_10, gC_0_11, gC_0_12, gC_0_13, gC_0_14, gC_0_15, gC_0_16, gC_0_17, gC_1_0, gC_1_2, gC_1_3, gC_5_0, gC_5_2, gC_10_0, gC_10_7, gC_13_5, gC_16_0, gC_16_2, gC_22_0, gC_22_1, gC_22_2, gC_22_3, gC_31_2, gC_33_2, gC_35_2, gC_37_2, bI_rI, bV_rV, bQ_rN, bQ_rR, bz_0, bz_1, bz_Z, hZ0, hZ1, Lay_setI, Lay_setA, hu.lay, hu.ch', e9, if_false, ey, e1, e2, nI_1]
          by_cases c : hal (pm t) s g (nI w) (nI (lst (fun i => hal (pm t) s g (nI w) (nI i)) i)) ≤ hal (pm t) s g (nI w) (nI (i + 1))
          · rw [if_pos c]
            exact ih y (nI (lst (fun i => hal (pm t) s g (nI w) (nI i)) i), hal (pm t) s g (nI w) (nI (lst (fun i => hal (pm t) s g (nI w) (nI i)) i))) ⟨fy, by rw [lst_s, if_pos c], by rw [lst_s, if_pos c]⟩
          · rw [if_neg c]
            exact ih y (nI (i + 1), hal (pm t) s g (nI w) (nI (i + 1))) ⟨fy, by rw [lst_s, if_neg c], by rw [lst_s, if_neg c]⟩
  · rw [← e]
    unfold s_put
    simp only [fm_put, gI_39, pI_39, rc_39, al_40, as_40, ln_40, al_41, as_41, ln_41, al_42, as_42, ln_42, al_43, as_43, ln_43, al_44, as_44, ln_44, al_45, as_45, ln_45, al_46, as_46, ln_46, al_47, as_47, ln_47, al_48, as_48, ln_48, al_49, as_49, ln_49, al_50, as_50, ln_50, al_51, as_51, ln_51, al_52, as_52, ln_52, al_53, as_53, ln_53, al_54, as_54, ln_54, al_55, as_55, ln_55, al_56, as_56, ln_56, al_57, as_57, ln_57, al_58, as_58, ln_58, al_59, as_59, ln_59, al_60, as_60, ln_60, al_61, as_61, ln_61, al_62, as_62, ln_62, al_63, as_63, ln_63, al_64, as_64, ln_64, al_65, as_65, ln_65, al_66, as_66, ln_66, al_67, as_67, ln_67, gC_39_4, gC_39_5, gC_39_6, gC_39_7, gC_39_8, gC_39_10, gC_39_11, gC_39_12, gC_39_13, gC_39_15, gC_39_16, gC_39_18, gC_39_19, gC_39_27, gC_39_28, gC_39_29, gC_39_30, gC_39_31, gC_39_36, gC_39_37, gC_39_41, gC_39_42, gC_39_43, gC_39_44, gC_39_46, gC_39_47, gC_39_48, gC_39_49, bI_rI, bV_rV, bQ_rN, bQ_rR, bz_0, bz_1, bz_Z, hZ0, hZ1, Lay_setI, Lay_setA, hu.lay, fm_isTown_v hu, fm_in_v, in_2]
    cases c1 : inr a (2 ^ n)
    · simp only [if_true]; exact QQ.pure rfl
    · obtain ⟨w, hw, rfl⟩ := inr_t c1 (by omega)
      simp only [if_false, if_true, Bool.true_eq_false]
      cases c2 : inr b 2
      · simp only [if_true]; exact QQ.pure rfl
      · simp only [if_false, if_true, Bool.true_eq_false]
        refine for_up (β := Int32) (fun f t i z => fm_put_l25 (fun t u1 u2 u3 => fm_put_63 t u1 u2 u3) f t (nI w) b z (nI (i + 1))) (fun r => QQ u r (if b = 0 then nI (lst (fun i => hal (pm u) s g (nI w) (nI i)) (n - 1)) else hal (pm u) s g (nI w) (nI (lst (fun i => hal (pm u) s g (nI w) (nI i)) (n - 1))))) (n - 1)
          (fun i v z => Fr u v ∧ z = nI (lst (fun i => hal (pm u) s g (nI w) (nI i)) i)) ?_ ?_ (n - 1) 0 u 0 1000000 (by omega) ⟨Fr.refl u, rfl⟩ (by omega)
        · intro f v z ⟨fv, e1⟩
          have hv := hu.fr fv
          have e9 : nI n ≤ nI (n - 1 + 1) := nI_le (by omega) (by omega)
          show QQ u (fm_put_25 _ _ v (nI w) b z (nI (n - 1 + 1))) _
          simp only [fm_put_25, gI_39, pI_39, rc_39, al_40, as_40, ln_40, al_41, as_41, ln_41, al_42, as_42, ln_42, al_43, as_43, ln_43, al_44, as_44, ln_44, al_45, as_45, ln_45, al_46, as_46, ln_46, al_47, as_47, ln_47, al_48, as_48, ln_48, al_49, as_49, ln_49, al_50, as_50, ln_50, al_51, as_51, ln_51, al_52, as_52, ln_52, al_53, as_53, ln_53, al_54, as_54, ln_54, al_55, as_55, ln_55, al_56, as_56, ln_56, al_57, as_57, ln_57, al_58, as_58, ln_58, al_59, as_59, ln_59, al_60, as_60, ln_60, al_61, as_61, ln_61, al_62, as_62, ln_62, al_63, as_63, ln_63, al_64, as_64, ln_64, al_65, as_65, ln_65, al_66, as_66, ln_66, al_67, as_67, ln_67, gC_39_4, gC_39_5, gC_39_6, gC_39_7, gC_39_8, gC_39_10, gC_39_11, gC_39_12, gC_39_13, gC_39_15, gC_39_16, gC_39_18, gC_39_19, gC_39_27, gC_39_28, gC_39_29, gC_39_30, gC_39_31, gC_39_36, gC_39_37, gC_39_41, gC_39_42, gC_39_43, gC_39_44, gC_39_46, gC_39_47, gC_39_48, gC_39_49, bI_rI, bV_rV, bQ_rN, bQ_rR, bz_0, bz_1, bz_Z, hZ0, hZ1, Lay_setI, Lay_setA, hv.lay, hv.ch, e9, if_true, fm_put_63, e1]
          obtain ⟨y, ey, fy⟩ := harmAll_v hu fv hw (nI (lst (fun i => hal (pm u) s g (nI w) (nI i)) (n - 1)))
          by_cases cb : b = 0
          · rw [if_pos cb, if_pos cb]; exact ⟨v, rfl, fv⟩
          · rw [if_neg cb, if_neg cb, ey, bI_rI]; exact ⟨y, rfl, fy⟩
        · intro f v i z hi ⟨fv, e1⟩ ih
          have hv := hu.fr fv
          have e9 : ¬ nI n ≤ nI (i + 1) := nI_ge (by omega) (by omega)
          obtain ⟨y, ey, fy⟩ := harmAll_v hu fv hw (nI (i + 1))
          have hy := hu.fr fy
          obtain ⟨y2, ey2, fy2⟩ := harmAll_v hu fy hw (nI (lst (fun i => hal (pm u) s g (nI w) (nI i)) i))
          show QQ u (fm_put_25 _ _ v (nI w) b z (nI (i + 1))) _
          simp only [fm_put_25, gI_39, pI_39, rc_39, al_40, as_40, ln_40, al_41, as_41, ln_41, al_42, as_42, ln_42, al_43, as_43, ln_43, al_44, as_44, ln_44, al_45, as_45, ln_45, al_46, as_46, ln_46, al_47, as_47, ln_47, al_48, as_48, ln_48, al_49, as_49, ln_49, al_50, as_50, ln_50, al_51, as_51, ln_51, al_52, as_52, ln_52, al_53, as_53, ln_53, al_54, as_54, ln_54, al_55, as_55, ln_55, al_56, as_56, ln_56, al_57, as_57, ln_57, al_58, as_58, ln_58, al_59, as_59, ln_59, al_60, as_60, ln_60, al_61, as_61, ln_61, al_62, as_62, ln_62, al_63, as_63, ln_63, al_64, as_64, ln_64, al_65, as_65, ln_65, al_66, as_66, ln_66, al_67, as_67, ln_67, gC_39_4, gC_39_5, gC_39_6, gC_39_7, gC_39_8, gC_39_10, gC_39_11, gC_39_12, gC_39_13, gC_39_15, gC_39_16, gC_39_18, gC_39_19, gC_39_27, gC_39_28, gC_39_29, gC_39_30, gC_39_31, gC_39_36, gC_39_37, gC_39_41, gC_39_42, gC_39_43, gC_39_44, gC_39_46, gC_39_47, gC_39_48, gC_39_49, bI_rI, bV_rV, bQ_rN, bQ_rR, bz_0, bz_1, bz_Z, hZ0, hZ1, Lay_setI, Lay_setA, hv.lay, hv.ch, e9, if_false, ey, hy.lay, e1, ey2, nI_1]
          by_cases c : hal (pm u) s g (nI w) (nI (lst (fun i => hal (pm u) s g (nI w) (nI i)) i)) ≤ hal (pm u) s g (nI w) (nI (i + 1))
          · rw [if_pos c]; exact ih y2 _ ⟨fy2, by rw [lst_s, if_pos c]⟩
          · rw [if_neg c]; exact ih y2 _ ⟨fy2, by rw [lst_s, if_neg c]⟩
/-- the first of the most -/
def mst (q : Nat → Int32) (k : Nat) : Nat := fo (fun i b => if q (i + 1) ≤ q b then b else i + 1) 0 k
theorem mst_s (q : Nat → Int32) (k : Nat) : mst q (k + 1) = if q (k + 1) ≤ q (mst q k) then mst q k else k + 1 := rfl
def hr1 (G : GG) (s : Nat) (i : Nat) (w : Int32) (c : Nat) : Int32 := hrm G s (cN (G 49 i)) w (slt w (nI c))
def s_trick (n s g : Nat) (G : GG) (a b c : Int32) : Int32 := if inr a (2 ^ n) = true then (if inr c 2 = true then (if inr b g = true then (if c = 0 then nI (mst (hr1 G s (cN b) a) (n - 1)) else hr1 G s (cN b) a (mst (hr1 G s (cN b) a) (n - 1))) else -5) else -2) else -2
theorem slt_0 (w : Int32) : slt w (nI 0) = w ^^^ 1 := rfl
theorem ok_trick (h : Inv n m s g x p t) (a b c : Int32) : Okk t (fun t => fx_trick t a b c) (fun t => fm_trick t a b c) := by
  have hr := h.rng
  have hpw := pw_lt (n := n) (by omega)
  refine okq h (v := s_trick n s g (pm t) a b c) ?_ (fun u hu e => ?_)
  · unfold s_trick
    simp only [fx_trick, gI_0, pI_0, rc_0, gI_1, pI_1, rc_1, ln_2, ql_2, al_3, as_3, ln_3, al_4, as_4, ln_4, gI_5, pI_5, rc_5, ln_6, ql_6, al_7, as_7, ln_7, al_8, as_8, ln_8, ln_9, ql_9, gI_10, pI_10, rc_10, al_11, as_11, ln_11, al_12, as_12, ln_12, gI_13, pI_13, rc_13, al_14, as_14, ln_14, ln_15, ql_15, gI_16, pI_16, rc_16, al_17, as_17, ln_17, al_18, as_18, ln_18, al_19, as_19, ln_19, al_20, as_20, ln_20, bl_21, bs_21, ln_21, gI_22, pI_22, rc_22, al_23, as_23, ln_23, al_24, as_24, ln_24, al_25, as_25, ln_25, gI_31, pI_31, rc_31, al_32, as_32, ln_32, gI_33, pI_33, rc_33, al_34, as_34, ln_34, gI_35, pI_35, rc_35, al_36, as_36, ln_36, gI_37, pI_37, rc_37, al_38, as_38, ln_38, gC_0_3, gC_0_4, gC_0_5, gC_0_7, gC_0_10, gC_0_11, gC_0_12, gC_0_13, gC_0_14, gC_0_15, gC_0_16, gC_0_17, gC_1_0, gC_1_2, gC_1_3, gC_5_0, gC_5_2, gC_10_0, gC_10_7, gC_13_5, gC_16_0, gC_16_2, gC_22_0, gC_22_1, gC_22_2, gC_22_3, gC_31_2, gC_33_2, gC_35_2, gC_37_2, bI_rI, bV_rV, bQ_rN, bQ_rR, bz_0, bz_1, bz_Z, hZ0, hZ1, Lay_setI, Lay_setA, h.lay, fx_isTown_v h, fx_isZeroOrOne_v, h.go', if_in3 b g rfl]
    cases c1 : inr a (2 ^ n)
    · simp only [if_true]; exact QQ.pure rfl
    · obtain ⟨w, hw, rfl⟩ := inr_t c1 (by omega)
      simp only [if_false, if_true, Bool.true_eq_false]
      cases c2 : inr c 2
      · simp only [if_true]; exact QQ.pure rfl
      · simp only [if_false, if_true, Bool.true_eq_false]
        cases c3 : inr b g
        · exact QQ.pure rfl
        · obtain ⟨j, hj, rfl⟩ := inr_t c3 (by omega)
          obtain ⟨v, ev, fv⟩ := harmForOne_v h hj hw (nI w ^^^ 1)
          simp only [if_true, ev, bI_rI, bV_rV, bQ_rN, bQ_rR, bz_0, bz_1, bz_Z, hZ0, hZ1, Lay_setI, Lay_setA, cN_i (show j < 2 ^ 31 by omega)]
          have h0 : hrm (pm t) s (cN (pm t 49 j)) (nI w) (nI w ^^^ 1) = hr1 (pm t) s j (nI w) (mst (hr1 (pm t) s j (nI w)) 0) := by
            rw [show mst (hr1 (pm t) s j (nI w)) 0 = 0 from rfl]; unfold hr1; rw [slt_0]
          refine for_up (β := Int32 × Int32) (fun f t i z => fx_trick_l50 (fun t u3 u4 u5 => fx_trick_94 t u3 u4 u5) f t (nI w) (nI j) c z.1 z.2 (nI (i + 1))) (fun r => QQ t r (if c = 0 then nI (mst (hr1 (pm t) s j (nI w)) (n - 1)) else hr1 (pm t) s j (nI w) (mst (hr1 (pm t) s j (nI w)) (n - 1)))) (n - 1)
            (fun i u z => Fr t u ∧ z.1 = nI (mst (hr1 (pm t) s j (nI w)) i) ∧ z.2 = hr1 (pm t) s j (nI w) (mst (hr1 (pm t) s j (nI w)) i)) ?_ ?_ (n - 1) 0 v (0, hrm (pm t) s (cN (pm t 49 j)) (nI w) (nI w ^^^ 1)) 1000000 (by omega) ⟨fv, rfl, h0⟩ (by omega)
          · intro f u z ⟨fu, e1, e2⟩
            have hu := h.fr fu
            have e9 : nI n ≤ nI (n - 1 + 1) := nI_le (by omega) (by omega)
            show QQ t (fx_trick_50 _ _ u (nI w) (nI j) c z.1 z.2 (nI (n - 1 + 1))) _
            simp only [fx_trick_50, gI_0, pI_0, rc_0, gI_1, pI_1, rc_1, ln_2, ql_2, al_3, as_3, ln_3, al_4, as_4, ln_4, gI_5, pI_5, rc_5, ln_6, ql_6, al_7, as_7, ln_7, al_8, as_8, ln_8, ln_9, ql_9, gI_10, pI_10, rc_10, al_11, as_11, ln_11, al_12, as_12, ln_12, gI_13, pI_13, rc_13, al_14, as_14, ln_14, ln_15, ql_15, gI_16, pI_16, rc_16, al_17, as_17, ln_17, al_18, as_18, ln_18, al_19, as_19, ln_19, al_20, as_20, ln_20, bl_21, bs_21, ln_21, gI_22, pI_22, rc_22, al_23, as_23, ln_23, al_24, as_24, ln_24, al_25, as_25, ln_25, gI_31, pI_31, rc_31, al_32, as_32, ln_32, gI_33, pI_33, rc_33, al_34, as_34, ln_34, gI_35, pI_35, rc_35, al_36, as_36, ln_36, gI_37, pI_37, rc_37, al_38, as_38, ln_38, gC_0_3, gC_0_4, gC_0_5, gC_0_7, gC_0_10, gC_0_11, gC_0_12, gC_0_13, gC_0_14, gC_0_15, gC_0_16, gC_0_17, gC_1_0, gC_1_2, gC_1_3, gC_5_0, gC_5_2, gC_10_0, gC_10_7, gC_13_5, gC_16_0, gC_16_2, gC_22_0, gC_22_1, gC_22_2, gC_22_3, gC_31_2, gC_33_2, gC_35_2, gC_37_2, bI_rI, bV_rV, bQ_rN, bQ_rR, bz_0, bz_1, bz_Z, hZ0, hZ1, Lay_setI, Lay_setA, hu.lay, hu.ch', e9, if_true, fx_trick_94, e1, e2]
            exact ⟨u, by rw [rI_ite], fu⟩
          · intro f u i z hi ⟨fu, e1, e2⟩ ih
            have hu := h.fr fu
            have e9 : ¬ nI n ≤ nI (i + 1) := nI_ge (by omega) (by omega)
            obtain ⟨y, ey, fy⟩ := harmForOne_v hu hj hw (slt (nI w) (nI (i + 1)))
            rw [fu.2] at ey
            have ey' : fx_harmForOne u (nI j) (nI w) (nI w ^^^ ((1 : Int32) <<< (nI (i + 1) &&& 31))) = rI (hr1 (pm t) s j (nI w) (i + 1)) y := ey
            show QQ t (fx_trick_50 _ _ u (nI w) (nI j) c z.1 z.2 (nI (i + 1))) _
            simp only [fx_trick_50, gI_0, pI_0, rc_0, gI_1, pI_1, rc_1, ln_2, ql_2, al_3, as_3, ln_3, al_4, as_4, ln_4, gI_5, pI_5, rc_5, ln_6, ql_6, al_7, as_7, ln_7, al_8, as_8, ln_8, ln_9, ql_9, gI_10, pI_10, rc_10, al_11, as_11, ln_11, al_12, as_12, ln_12, gI_13, pI_13, rc_13, al_14, as_14, ln_14, ln_15, ql_15, gI_16, pI_16, rc_16, al_17, as_17, ln_17, al_18, as_18, ln_18, al_19, as_19, ln_19, al_20, as_20, ln_20, bl_21, bs_21, ln_21, gI_22, pI_22, rc_22, al_23, as_23, ln_23, al_24, as_24, ln_24, al_25, as_25, ln_25, gI_31, pI_31, rc_31, al_32, as_32, ln_32, gI_33, pI_33, rc_33, al_34, as_34, ln_34, gI_35, pI_35, rc_35, al_36, as_36, ln_36, gI_37, pI_37, rc_37, al_38, as_38, ln_38, gC_0_3, gC_0_4, gC_0_5, gC_0_7, gC_0_10, gC_0_11, gC_0_12, gC_0_13, gC_0_14, gC_0_15, gC_0_16, gC_0_17, gC_1_0, gC_1_2, gC_1_3, gC_5_0, gC_5_2, gC_10_0, gC_10_7, gC_13_5, gC_16_0, gC_16_2, gC_22_0, gC_22_1, gC_22_2, gC_22_3, gC_31_2, gC_33_2, gC_35_2, gC_37_2, bI_rI, bV_rV, bQ_rN, bQ_rR, bz_0, bz_1, bz_Z, hZ0, hZ1, Lay_setI, Lay_setA, hu.lay, hu.ch', e9, if_false, ey', e1, e2, nI_1]
            by_cases cc : hr1 (pm t) s j (nI w) (i + 1) ≤ hr1 (pm t) s j (nI w) (mst (hr1 (pm t) s j (nI w)) i)
            · rw [if_pos cc]
              exact ih y (nI (mst (hr1 (pm t) s j (nI w)) i), hr1 (pm t) s j (nI w) (mst (hr1 (pm t) s j (nI w)) i)) ⟨fu.trans fy, by rw [mst_s, if_pos cc], by rw [mst_s, if_pos cc]⟩
            · rw [if_neg cc]
              exact ih y (nI (i + 1), hr1 (pm t) s j (nI w) (i + 1)) ⟨fu.trans fy, by rw [mst_s, if_neg cc], by rw [mst_s, if_neg cc]⟩
  · rw [← e]
    unfold s_trick
    simp only [fm_trick, gI_39, pI_39, rc_39, al_40, as_40, ln_40, al_41, as_41, ln_41, al_42, as_42, ln_42, al_43, as_43, ln_43, al_44, as_44, ln_44, al_45, as_45, ln_45, al_46, as_46, ln_46, al_47, as_47, ln_47, al_48, as_48, ln_48, al_49, as_49, ln_49, al_50, as_50, ln_50, al_51, as_51, ln_51, al_52, as_52, ln_52, al_53, as_53, ln_53, al_54, as_54, ln_54, al_55, as_55, ln_55, al_56, as_56, ln_56, al_57, as_57, ln_57, al_58, as_58, ln_58, al_59, as_59, ln_59, al_60, as_60, ln_60, al_61, as_61, ln_61, al_62, as_62, ln_62, al_63, as_63, ln_63, al_64, as_64, ln_64, al_65, as_65, ln_65, al_66, as_66, ln_66, al_67, as_67, ln_67, gC_39_4, gC_39_5, gC_39_6, gC_39_7, gC_39_8, gC_39_10, gC_39_11, gC_39_12, gC_39_13, gC_39_15, gC_39_16, gC_39_18, gC_39_19, gC_39_27, gC_39_28, gC_39_29, gC_39_30, gC_39_31, gC_39_36, gC_39_37, gC_39_41, gC_39_42, gC_39_43, gC_39_44, gC_39_46, gC_39_47, gC_39_48, gC_39_49, bI_rI, bV_rV, bQ_rN, bQ_rR, bz_0, bz_1, bz_Z, hZ0, hZ1, Lay_setI, Lay_setA, hu.lay, fm_isTown_v hu, fm_in_v, in_2, hu.go, inr_in (show g < 2 ^ 30 by omega)]
    cases c1 : inr a (2 ^ n)
    · simp only [if_true]; exact QQ.pure rfl
    · obtain ⟨w, hw, rfl⟩ := inr_t c1 (by omega)
      simp only [if_false, if_true, Bool.true_eq_false]
      cases c2 : inr c 2
      · simp only [if_true]; exact QQ.pure rfl
      · simp only [if_false, if_true, Bool.true_eq_false]
        cases c3 : inr b g
        · simp only [if_true]; exact QQ.pure rfl
        · obtain ⟨j, hj, rfl⟩ := inr_t c3 (by omega)
          simp only [if_false, if_true, Bool.true_eq_false, cN_i (show j < 2 ^ 31 by omega)]
          refine for_up (β := Int32) (fun f t i z => fm_trick_l43 (fun t u1 u2 u3 u4 => fm_trick_94 t u1 u2 u3 u4) f t (nI w) (nI j) c z (nI (i + 1))) (fun r => QQ u r (if c = 0 then nI (mst (hr1 (pm u) s j (nI w)) (n - 1)) else hr1 (pm u) s j (nI w) (mst (hr1 (pm u) s j (nI w)) (n - 1)))) (n - 1)
            (fun i v z => Fr u v ∧ z = nI (mst (hr1 (pm u) s j (nI w)) i)) ?_ ?_ (n - 1) 0 u 0 1000000 (by omega) ⟨Fr.refl u, rfl⟩ (by omega)
          · intro f v z ⟨fv, e1⟩
            have hv := hu.fr fv
            have e9 : nI n ≤ nI (n - 1 + 1) := nI_le (by omega) (by omega)
            show QQ u (fm_trick_43 _ _ v (nI w) (nI j) c z (nI (n - 1 + 1))) _
            simp only [fm_trick_43, gI_39, pI_39, rc_39, al_40, as_40, ln_40, al_41, as_41, ln_41, al_42, as_42, ln_42, al_43, as_43, ln_43, al_44, as_44, ln_44, al_45, as_45, ln_45, al_46, as_46, ln_46, al_47, as_47, ln_47, al_48, as_48, ln_48, al_49, as_49, ln_49, al_50, as_50, ln_50, al_51, as_51, ln_51, al_52, as_52, ln_52, al_53, as_53, ln_53, al_54, as_54, ln_54, al_55, as_55, ln_55, al_56, as_56, ln_56, al_57, as_57, ln_57, al_58, as_58, ln_58, al_59, as_59, ln_59, al_60, as_60, ln_60, al_61, as_61, ln_61, al_62, as_62, ln_62, al_63, as_63, ln_63, al_64, as_64, ln_64, al_65, as_65, ln_65, al_66, as_66, ln_66, al_67, as_67, ln_67, gC_39_4, gC_39_5, gC_39_6, gC_39_7, gC_39_8, gC_39_10, gC_39_11, gC_39_12, gC_39_13, gC_39_15, gC_39_16, gC_39_18, gC_39_19, gC_39_27, gC_39_28, gC_39_29, gC_39_30, gC_39_31, gC_39_36, gC_39_37, gC_39_41, gC_39_42, gC_39_43, gC_39_44, gC_39_46, gC_39_47, gC_39_48, gC_39_49, bI_rI, bV_rV, bQ_rN, bQ_rR, bz_0, bz_1, bz_Z, hZ0, hZ1, Lay_setI, Lay_setA, hv.lay, hv.ch, e9, if_true, fm_trick_94, e1]
            obtain ⟨y, ey, fy⟩ := harmOf_v hv hj hw (slt (nI w) (nI (mst (hr1 (pm u) s j (nI w)) (n - 1))))
            rw [fv.2] at ey
            have ey' : fm_harmOf v (nI j) (nI w) (nI w ^^^ ((1 : Int32) <<< (nI (mst (hr1 (pm u) s j (nI w)) (n - 1)) &&& 31))) = rI (hr1 (pm u) s j (nI w) (mst (hr1 (pm u) s j (nI w)) (n - 1))) y := ey
            by_cases cb : c = 0
            · rw [if_pos cb, if_pos cb]; exact ⟨v, rfl, fv⟩
            · rw [if_neg cb, if_neg cb, ey', bI_rI]; exact ⟨y, rfl, fv.trans fy⟩
          · intro f v i z hi ⟨fv, e1⟩ ih
            have hv := hu.fr fv
            have e9 : ¬ nI n ≤ nI (i + 1) := nI_ge (by omega) (by omega)
            obtain ⟨y, ey, fy⟩ := harmOf_v hv hj hw (slt (nI w) (nI (i + 1)))
            have hy := hv.fr fy
            obtain ⟨y2, ey2, fy2⟩ := harmOf_v hy hj hw (slt (nI w) (nI (mst (hr1 (pm u) s j (nI w)) i)))
            rw [fy.2, fv.2] at ey2
            rw [fv.2] at ey
            have ey' : fm_harmOf v (nI j) (nI w) (nI w ^^^ ((1 : Int32) <<< (nI (i + 1) &&& 31))) = rI (hr1 (pm u) s j (nI w) (i + 1)) y := ey
            have ey2' : fm_harmOf y (nI j) (nI w) (nI w ^^^ ((1 : Int32) <<< (nI (mst (hr1 (pm u) s j (nI w)) i) &&& 31))) = rI (hr1 (pm u) s j (nI w) (mst (hr1 (pm u) s j (nI w)) i)) y2 := ey2
            show QQ u (fm_trick_43 _ _ v (nI w) (nI j) c z (nI (i + 1))) _
            simp only [fm_trick_43, gI_39, pI_39, rc_39, al_40, as_40, ln_40, al_41, as_41, ln_41, al_42, as_42, ln_42, al_43, as_43, ln_43, al_44, as_44, ln_44, al_45, as_45, ln_45, al_46, as_46, ln_46, al_47, as_47, ln_47, al_48, as_48, ln_48, al_49, as_49, ln_49, al_50, as_50, ln_50, al_51, as_51, ln_51, al_52, as_52, ln_52, al_53, as_53, ln_53, al_54, as_54, ln_54, al_55, as_55, ln_55, al_56, as_56, ln_56, al_57, as_57, ln_57, al_58, as_58, ln_58, al_59, as_59, ln_59, al_60, as_60, ln_60, al_61, as_61, ln_61, al_62, as_62, ln_62, al_63, as_63, ln_63, al_64, as_64, ln_64, al_65, as_65, ln_65, al_66, as_66, ln_66, al_67, as_67, ln_67, gC_39_4, gC_39_5, gC_39_6, gC_39_7, gC_39_8, gC_39_10, gC_39_11, gC_39_12, gC_39_13, gC_39_15, gC_39_16, gC_39_18, gC_39_19, gC_39_27, gC_39_28, gC_39_29, gC_39_30, gC_39_31, gC_39_36, gC_39_37, gC_39_41, gC_39_42, gC_39_43, gC_39_44, gC_39_46, gC_39_47, gC_39_48, gC_39_49, bI_rI, bV_rV, bQ_rN, bQ_rR, bz_0, bz_1, bz_Z, hZ0, hZ1, Lay_setI, Lay_setA, hv.lay, hv.ch, e9, if_false, ey', hy.lay, e1, ey2', nI_1]
            have frr := (fv.trans fy).trans fy2
            by_cases cc : hr1 (pm u) s j (nI w) (i + 1) ≤ hr1 (pm u) s j (nI w) (mst (hr1 (pm u) s j (nI w)) i)
            · rw [if_pos cc]; exact ih y2 _ ⟨frr, by rw [mst_s, if_pos cc]⟩
            · rw [if_neg cc]; exact ih y2 _ ⟨frr, by rw [mst_s, if_neg cc]⟩
end
