section
variable {n m s g x p : Nat} {t0 t u : SM}
/-! enough -/
theorem WL_all {G : GG} {S : Int32} {q : Nat → Bool} : (WL n m G S).all q = true ↔ ∀ j, j < 2 ^ n → wp G m S (nI j) = true → q j = true := by
  rw [List.all_eq_true]
  constructor
  · intro h j hj hw; exact h j (wls_mem.mpr ⟨hj, hw⟩)
  · intro h j hj
    have := wls_mem.mp hj
    exact h j this.1 this.2
def enP (n m : Nat) (G : GG) (c k : Nat) : Bool := (WL n m G (nI k)).all (fun w => w.testBit c) || (WL n m G (nI k)).all (fun w => !w.testBit c)
theorem tl_with {G : GG} {S c : Nat} (hm : m ≤ 8) (hn : n ≤ 9) (hS : S < 2 ^ m) (hc : c < 31) : tlf G n m ((1 : Int32) <<< (nI c &&& 31)) m S = cnt (fun j => wp G m (nI S) (nI j) && j.testBit c) (2 ^ n) := by
  have hpw := pw_lt (n := n) hn
  unfold tlf
  refine cnt_cg _ (fun j hj => ?_)
  obtain ⟨ea, la⟩ := agN_eq G hm (nI j)
  have e1 : decide ((nI j &&& ((1 : Int32) <<< (nI c &&& 31))) = ((1 : Int32) <<< (nI c &&& 31))) = j.testBit c := by
    rw [Bool.eq_iff_iff, decide_eq_true_eq, b_sub]
    constructor
    · intro h
      have := h c (by omega) (by rw [b_one hc (by omega)]; simp)
      rw [b_ni _ _ (by omega)] at this; exact this
    · intro h i hi hb
      rw [b_one hc hi, decide_eq_true_eq] at hb
      rw [hb, b_ni _ _ (by omega)]; exact h
  rw [e1, rl_m hm la hS, ← ea]
  unfold wp
  cases j.testBit c <;> cases act G (nI j) <;> simp
theorem en_eq {G : GG} {S c : Nat} (hm : m ≤ 8) (hn : n ≤ 9) (hS : S < 2 ^ m) (hc : c < 31) :
    (decide (tlf G n m ((1 : Int32) <<< (nI c &&& 31)) m S = 0) || decide (tlf G n m ((1 : Int32) <<< (nI c &&& 31)) m S = tlf G n m 0 m S)) = enP n m G c S := by
  rw [tl_with hm hn hS hc, tl_len hm hS]
  have e1 : decide (cnt (fun j => wp G m (nI S) (nI j) && j.testBit c) (2 ^ n) = 0) = (WL n m G (nI S)).all (fun w => !w.testBit c) := by
    rw [Bool.eq_iff_iff, decide_eq_true_eq, cnt_no, WL_all]
    constructor
    · intro h j hj hw
      have := h j hj
      rw [hw, Bool.true_and] at this
      rw [this]; rfl
    · intro h j hj
      cases hw : wp G m (nI S) (nI j)
      · rfl
      · have := h j hj hw
        simpa using this
  have e2 : decide (cnt (fun j => wp G m (nI S) (nI j) && j.testBit c) (2 ^ n) = (WL n m G (nI S)).length) = (WL n m G (nI S)).all (fun w => w.testBit c) := by
    rw [Bool.eq_iff_iff, decide_eq_true_eq, WL_all]
    unfold WL
    rw [wls_len]
    exact cnt_all (2 ^ n)
  rw [e1, e2]
  unfold enP
  exact Bool.or_comm _ _
def s_enough (n m : Nat) (G : GG) (a : Int32) : Int32 := if inr a n = true then (if WL n m G (evB m) = [] then -3 else fw (enP n m G (cN a)) (2 ^ m)) else -5
theorem xq_enough (h : Inv n m s g x p t) (a : Int32) : QQ t (fx_enough t a) (s_enough n m (pm t) a) := by
  have hr := h.rng
  have hpm := Nat.pow_le_pow_right (n := 2) (by decide) (show m ≤ 8 by omega)
  have hm0 := Nat.two_pow_pos m
  have hl := WL_le (m := m) (show n ≤ 9 by omega) (pm t) (evB m)
  unfold fx_enough s_enough
  rw [rc_0 h.lay, fx_isChoice_v h, bI_rI]
  simp only [bz_0]
  cases c1 : inr a n
  · simp only [if_true]; exact QQ.pure rfl
  · obtain ⟨c, hc, rfl⟩ := inr_t c1 (by omega)
    obtain ⟨u, eu, fu, gu⟩ := fx_tally_v h (k := 19) (by decide) rfl (fun _ => rfl) 0
    have hu := h.fr fu.1
    have ev : fx_numberAt u 19 (nI (2 ^ m - 1)) = rI (mI u 19 (2 ^ m - 1)) u := L_nai hu.lay (by decide) (rfl : layF 19 = (20, 256)) (by omega)
    have e0 : (mI u 19 (2 ^ m - 1) = 0) = (WL n m (pm t) (evB m) = []) := by
      rw [gu _ (show 2 ^ m - 1 < 2 ^ m by omega), tl_len (show m ≤ 8 by omega) (show 2 ^ m - 1 < 2 ^ m by omega), len_0 _ hl]
    simp only [if_false, if_true, Bool.true_eq_false, gI_0, pI_0, rc_0, gI_1, pI_1, rc_1, ln_2, ql_2, al_3, as_3, ln_3, al_4, as_4, ln_4, gI_5, pI_5, rc_5, ln_6, ql_6, al_7, as_7, ln_7, al_8, as_8, ln_8, ln_9, ql_9, gI_10, pI_10, rc_10, al_11, as_11, ln_11, al_12, as_12, ln_12, gI_13, pI_13, rc_13, al_14, as_14, ln_14, ln_15, ql_15, gI_16, pI_16, rc_16, al_17, as_17, ln_17, al_18, as_18, ln_18, al_19, as_19, ln_19, al_20, as_20, ln_20, bl_21, bs_21, ln_21, gI_22, pI_22, rc_22, al_23, as_23, ln_23, al_24, as_24, ln_24, al_25, as_25, ln_25, gI_31, pI_31, rc_31, al_32, as_32, ln_32, gI_33, pI_33, rc_33, al_34, as_34, ln_34, gI_35, pI_35, rc_35, al_36, as_36, ln_36, gI_37, pI_37, rc_37, al_38, as_38, ln_38, gC_0_3, gC_0_4, gC_0_5, gC_0_7, gC_0_10, gC_0_11, gC_0_12, gC_0_13, gC_0_14, gC_0_15, gC_0_16, gC_0_17, gC_1_0, gC_1_2, gC_1_3, gC_5_0, gC_5_2, gC_10_0, gC_10_7, gC_13_5, gC_16_0, gC_16_2, gC_22_0, gC_22_1, gC_22_2, gC_22_3, gC_31_2, gC_33_2, gC_35_2, gC_37_2, bI_rI, bV_rV, bQ_rN, bQ_rR, bz_0, bz_1, bz_Z, hZ0, hZ1, Lay_setI, Lay_setA, h.lay, eu, hu.lay, fAt_everyMap_v hu, ev, e0, cN_i (show c < 2 ^ 31 by omega)]
    by_cases c0 : WL n m (pm t) (evB m) = []
    · rw [if_pos c0, if_pos c0]; exact ⟨u, rfl, fu.1⟩
    · rw [if_neg c0, if_neg c0]
      obtain ⟨v, ew, fv, gv⟩ := fx_tally_v hu (k := 20) (by decide) rfl (fun _ => rfl) ((1 : Int32) <<< (nI c &&& 31))
      rw [ew, bV_rV]
      have frv := fu.1.trans fv.1
      have w19 : ∀ j, mI v 19 j = mI u 19 j := fv.row 19 rfl (by decide)
      refine for_up (β := Unit) (fun f t k _ => fx_enough_l53 (fun t => fx_enough_101 t) f t (nI k)) (fun r => QQ t r (fw (enP n m (pm t) c) (2 ^ m))) 256
        (fun k w _ => Fr t w ∧ (∀ j, mI w 19 j = mI u 19 j) ∧ (∀ j, mI w 20 j = mI v 20 j) ∧ ∀ j, j < k → mI w 21 j = bz (decide (mI v 20 j = 0) || decide (mI v 20 j = mI u 19 j))) ?_ ?_ 256 0 v () 1000000 (by omega) ⟨frv, w19, fun _ => rfl, fun j hj => absurd hj (by omega)⟩ (by omega)
      · intro f w _ ⟨fw1, w1, w3, w2⟩
        have hw := h.fr fw1
        have e1 : (256 : Int32) ≤ nI 256 := Int32.le_refl _
        show QQ t (fx_enough_53 _ _ w (nI 256)) _
        simp only [fx_enough_53, e1, if_true, fx_enough_101, gI_0, pI_0, rc_0, gI_1, pI_1, rc_1, ln_2, ql_2, al_3, as_3, ln_3, al_4, as_4, ln_4, gI_5, pI_5, rc_5, ln_6, ql_6, al_7, as_7, ln_7, al_8, as_8, ln_8, ln_9, ql_9, gI_10, pI_10, rc_10, al_11, as_11, ln_11, al_12, as_12, ln_12, gI_13, pI_13, rc_13, al_14, as_14, ln_14, ln_15, ql_15, gI_16, pI_16, rc_16, al_17, as_17, ln_17, al_18, as_18, ln_18, al_19, as_19, ln_19, al_20, as_20, ln_20, bl_21, bs_21, ln_21, gI_22, pI_22, rc_22, al_23, as_23, ln_23, al_24, as_24, ln_24, al_25, as_25, ln_25, gI_31, pI_31, rc_31, al_32, as_32, ln_32, gI_33, pI_33, rc_33, al_34, as_34, ln_34, gI_35, pI_35, rc_35, al_36, as_36, ln_36, gI_37, pI_37, rc_37, al_38, as_38, ln_38, gC_0_3, gC_0_4, gC_0_5, gC_0_7, gC_0_10, gC_0_11, gC_0_12, gC_0_13, gC_0_14, gC_0_15, gC_0_16, gC_0_17, gC_1_0, gC_1_2, gC_1_3, gC_5_0, gC_5_2, gC_10_0, gC_10_7, gC_13_5, gC_16_0, gC_16_2, gC_22_0, gC_22_1, gC_22_2, gC_22_3, gC_31_2, gC_33_2, gC_35_2, gC_37_2, bI_rI, bV_rV, bQ_rN, bQ_rR, bz_0, bz_1, bz_Z, hZ0, hZ1, Lay_setI, Lay_setA, hw.lay, fewest_v hw (fun k => decide (mI v 20 k = 0) || decide (mI v 20 k = mI u 19 k)) w2]
        refine ⟨w, ?_, fw1⟩
        congr 1
        refine fw_cg _ (fun k hk => ?_)
        have z1 : tlf (pm t) n m ((1 : Int32) <<< (nI c &&& 31)) m k < 2 ^ 31 := by
          have := cnt_le (fun j => (decide ((nI j &&& ((1 : Int32) <<< (nI c &&& 31))) = ((1 : Int32) <<< (nI c &&& 31))) && act (pm t) (nI j)) && rl m (agN (pm t) m (nI j)) k) (2 ^ n)
          have := pw_lt (n := n) (by omega)
          unfold tlf; omega
        have z2 : tlf (pm t) n m 0 m k < 2 ^ 31 := by rw [tl_len (show m ≤ 8 by omega) hk]; exact wl512 (by omega) _ _
        rw [← en_eq (show m ≤ 8 by omega) (show n ≤ 9 by omega) hk (show c < 31 by omega), gu k hk, gv k hk, fu.1.2]
        congr 1
        · rw [decide_eq_decide, nI_z z1]
        · rw [decide_eq_decide]; exact nI_eq z1 z2
      · intro f w k _ hk ⟨fw1, w1, w3, w2⟩ ih
        have hw := h.fr fw1
        have e1 : ¬ (256 : Int32) ≤ nI k := nI_ge (b := 256) hk (by decide)
        have z0 : (0 : Int32) = 0 ∨ (0 : Int32) = 1 := Or.inl rfl
        have z1 : (1 : Int32) = 0 ∨ (1 : Int32) = 1 := Or.inr rfl
        show QQ t (fx_enough_53 _ _ w (nI k)) _
        simp only [fx_enough_53, e1, if_false, gI_0, pI_0, rc_0, gI_1, pI_1, rc_1, ln_2, ql_2, al_3, as_3, ln_3, al_4, as_4, ln_4, gI_5, pI_5, rc_5, ln_6, ql_6, al_7, as_7, ln_7, al_8, as_8, ln_8, ln_9, ql_9, gI_10, pI_10, rc_10, al_11, as_11, ln_11, al_12, as_12, ln_12, gI_13, pI_13, rc_13, al_14, as_14, ln_14, ln_15, ql_15, gI_16, pI_16, rc_16, al_17, as_17, ln_17, al_18, as_18, ln_18, al_19, as_19, ln_19, al_20, as_20, ln_20, bl_21, bs_21, ln_21, gI_22, pI_22, rc_22, al_23, as_23, ln_23, al_24, as_24, ln_24, al_25, as_25, ln_25, gI_31, pI_31, rc_31, al_32, as_32, ln_32, gI_33, pI_33, rc_33, al_34, as_34, ln_34, gI_35, pI_35, rc_35, al_36, as_36, ln_36, gI_37, pI_37, rc_37, al_38, as_38, ln_38, gC_0_3, gC_0_4, gC_0_5, gC_0_7, gC_0_10, gC_0_11, gC_0_12, gC_0_13, gC_0_14, gC_0_15, gC_0_16, gC_0_17, gC_1_0, gC_1_2, gC_1_3, gC_5_0, gC_5_2, gC_10_0, gC_10_7, gC_13_5, gC_16_0, gC_16_2, gC_22_0, gC_22_1, gC_22_2, gC_22_3, gC_31_2, gC_33_2, gC_35_2, gC_37_2, bI_rI, bV_rV, bQ_rN, bQ_rR, bz_0, bz_1, bz_Z, hZ0, hZ1, Lay_setI, Lay_setA, hw.lay, hk, nI_1, w1, w3]
        have step : ∀ b, b = bz (decide (mI v 20 k = 0) || decide (mI v 20 k = mI u 19 k)) → QQ t (fx_enough_l53 (fun t => fx_enough_101 t) f (setI w 21 k b) (nI (k + 1))) (fw (enP n m (pm t) c) (2 ^ m)) := by
          intro b hb
          refine ih _ () ⟨fw1.trans (Fr.setF rfl), fun j => by rw [setI_ne (by decide)]; exact w1 j, fun j => by rw [setI_ne (by decide)]; exact w3 j, fun j hj => ?_⟩
          by_cases e : j = k
          · rw [setI_eq rfl e, hb, e]
          · rw [setI_I, if_neg (by omega)]; exact w2 j (by omega)
        by_cases ca : mI v 20 k = 0
        · rw [if_pos ca, bs_21 hw.lay hk z1]; exact step 1 (by rw [decide_eq_true ca]; rfl)
        · rw [if_neg ca]
          by_cases cb : mI v 20 k = mI u 19 k
          · rw [if_pos cb, bs_21 hw.lay hk z1]; exact step 1 (by rw [decide_eq_true cb, Bool.or_true]; rfl)
          · rw [if_neg cb, bs_21 hw.lay hk z0]; exact step 0 (by rw [decide_eq_false ca, decide_eq_false cb]; rfl)
theorem mq_enough (h : Inv n m s g x p t) (a : Int32) : QQ t (fm_enough t a) (s_enough n m (pm t) a) := by
  have hr := h.rng
  have hpm := Nat.pow_le_pow_right (n := 2) (by decide) (show m ≤ 8 by omega)
  have hm0 := Nat.two_pow_pos m
  have hl := WL_le (m := m) (show n ≤ 9 by omega) (pm t) (evB m)
  obtain ⟨u, eu, fu, gu, gf⟩ := fm_findsWorlds_v h
  have hu := h.fr fu.1
  have gu' : Agd (pm u) n m u := by rw [fu.1.2]; exact gu
  unfold s_enough
  simp only [fm_enough, gI_39, pI_39, rc_39, al_40, as_40, ln_40, al_41, as_41, ln_41, al_42, as_42, ln_42, al_43, as_43, ln_43, al_44, as_44, ln_44, al_45, as_45, ln_45, al_46, as_46, ln_46, al_47, as_47, ln_47, al_48, as_48, ln_48, al_49, as_49, ln_49, al_50, as_50, ln_50, al_51, as_51, ln_51, al_52, as_52, ln_52, al_53, as_53, ln_53, al_54, as_54, ln_54, al_55, as_55, ln_55, al_56, as_56, ln_56, al_57, as_57, ln_57, al_58, as_58, ln_58, al_59, as_59, ln_59, al_60, as_60, ln_60, al_61, as_61, ln_61, al_62, as_62, ln_62, al_63, as_63, ln_63, al_64, as_64, ln_64, al_65, as_65, ln_65, al_66, as_66, ln_66, al_67, as_67, ln_67, gC_39_4, gC_39_5, gC_39_6, gC_39_7, gC_39_8, gC_39_10, gC_39_11, gC_39_12, gC_39_13, gC_39_15, gC_39_16, gC_39_18, gC_39_19, gC_39_27, gC_39_28, gC_39_29, gC_39_30, gC_39_31, gC_39_36, gC_39_37, gC_39_41, gC_39_42, gC_39_43, gC_39_44, gC_39_46, gC_39_47, gC_39_48, gC_39_49, bI_rI, bV_rV, bQ_rN, bQ_rR, bz_0, bz_1, bz_Z, hZ0, hZ1, Lay_setI, Lay_setA, h.lay, fm_isChoice_v h, eu, hu.lay, gf.1, len_0 _ hl]
  cases c1 : inr a n
  · simp only [if_true]; exact QQ.pure rfl
  · obtain ⟨c, hc, rfl⟩ := inr_t c1 (by omega)
    simp only [if_false, if_true, Bool.true_eq_false, cN_i (show c < 2 ^ 31 by omega)]
    by_cases c0 : WL n m (pm t) (evB m) = []
    · rw [if_pos c0, if_pos c0]; exact ⟨u, rfl, fu.1⟩
    · rw [if_neg c0, if_neg c0]
      refine ⟨u, ?_, fu.1⟩
      rw [← fu.1.2]
      refine for_up (β := Int32) (fun f t k b => fm_enough_l29 f t (nI c) b (nI k)) (fun r => r = rI (fw (enP n m (pm u) c) (2 ^ m)) u) (2 ^ m)
        (fun k w b => w = u ∧ b = fw (enP n m (pm u) c) k) ?_ ?_ (2 ^ m) 0 u (-1) 1000000 (by omega) ⟨rfl, rfl⟩ (by omega)
      · intro f w b ⟨e, eb⟩
        subst e
        have e1 : nI (2 ^ m - 1) < nI (2 ^ m) := nI_lt (by omega) (by omega)
        show fm_enough_29 _ w _ b (nI (2 ^ m)) = _
        simp only [fm_enough_29, gI_39, pI_39, rc_39, al_40, as_40, ln_40, al_41, as_41, ln_41, al_42, as_42, ln_42, al_43, as_43, ln_43, al_44, as_44, ln_44, al_45, as_45, ln_45, al_46, as_46, ln_46, al_47, as_47, ln_47, al_48, as_48, ln_48, al_49, as_49, ln_49, al_50, as_50, ln_50, al_51, as_51, ln_51, al_52, as_52, ln_52, al_53, as_53, ln_53, al_54, as_54, ln_54, al_55, as_55, ln_55, al_56, as_56, ln_56, al_57, as_57, ln_57, al_58, as_58, ln_58, al_59, as_59, ln_59, al_60, as_60, ln_60, al_61, as_61, ln_61, al_62, as_62, ln_62, al_63, as_63, ln_63, al_64, as_64, ln_64, al_65, as_65, ln_65, al_66, as_66, ln_66, al_67, as_67, ln_67, gC_39_4, gC_39_5, gC_39_6, gC_39_7, gC_39_8, gC_39_10, gC_39_11, gC_39_12, gC_39_13, gC_39_15, gC_39_16, gC_39_18, gC_39_19, gC_39_27, gC_39_28, gC_39_29, gC_39_30, gC_39_31, gC_39_36, gC_39_37, gC_39_41, gC_39_42, gC_39_43, gC_39_44, gC_39_46, gC_39_47, gC_39_48, gC_39_49, bI_rI, bV_rV, bQ_rN, bQ_rR, bz_0, bz_1, bz_Z, hZ0, hZ1, Lay_setI, Lay_setA, hu.lay, fm_allMaps_v hu, e1, if_true, eb]
      · intro f w k b hk ⟨e, eb⟩ ih
        subst e
        have e1 : ¬ nI (2 ^ m - 1) < nI k := nI_nlt (by omega) (by omega)
        have ec : bt (allB (WL n m (pm w) (nI k)) n ||| nonB (WL n m (pm w) (nI k)) n) c = enP n m (pm w) c k := by
          unfold allB nonB enP
          rw [b_or, bt_orf _ n (by omega) c (by omega), bt_orf _ n (by omega) c (by omega)]
          simp [hc]
        show fm_enough_29 _ w _ b (nI k) = _
        simp only [fm_enough_29, fm_enough_53, gI_39, pI_39, rc_39, al_40, as_40, ln_40, al_41, as_41, ln_41, al_42, as_42, ln_42, al_43, as_43, ln_43, al_44, as_44, ln_44, al_45, as_45, ln_45, al_46, as_46, ln_46, al_47, as_47, ln_47, al_48, as_48, ln_48, al_49, as_49, ln_49, al_50, as_50, ln_50, al_51, as_51, ln_51, al_52, as_52, ln_52, al_53, as_53, ln_53, al_54, as_54, ln_54, al_55, as_55, ln_55, al_56, as_56, ln_56, al_57, as_57, ln_57, al_58, as_58, ln_58, al_59, as_59, ln_59, al_60, as_60, ln_60, al_61, as_61, ln_61, al_62, as_62, ln_62, al_63, as_63, ln_63, al_64, as_64, ln_64, al_65, as_65, ln_65, al_66, as_66, ln_66, al_67, as_67, ln_67, gC_39_4, gC_39_5, gC_39_6, gC_39_7, gC_39_8, gC_39_10, gC_39_11, gC_39_12, gC_39_13, gC_39_15, gC_39_16, gC_39_18, gC_39_19, gC_39_27, gC_39_28, gC_39_29, gC_39_30, gC_39_31, gC_39_36, gC_39_37, gC_39_41, gC_39_42, gC_39_43, gC_39_44, gC_39_46, gC_39_47, gC_39_48, gC_39_49, bI_rI, bV_rV, bQ_rN, bQ_rR, bz_0, bz_1, bz_Z, hZ0, hZ1, Lay_setI, Lay_setA, hu.lay, fm_allMaps_v hu, e1, if_false, fm_allSo_v hu gu', fm_noneSo_v hu gu', fm_ones_v, b_bit _ (show c < 32 by omega), ec, nI_1]
        have goal2 : ∀ b2, b2 = fws (enP n m (pm w) c) k b → fm_enough_l29 f w (nI c) b2 (nI (k + 1)) = rI (fw (enP n m (pm w) c) (2 ^ m)) w := fun b2 hb2 => ih w b2 ⟨rfl, by rw [fw_s, ← eb]; exact hb2⟩
        rcases fw_is (enP n m (pm w) c) k with hb | ⟨j, hj, hb⟩
        · rw [← eb] at hb
          rw [if_pos hb]
          cases c : enP n m (pm w) c k
          · rw [if_neg (by decide)]; exact goal2 b (by rw [fws_a hb, c]; rfl)
          · rw [if_pos rfl]; exact goal2 _ (by rw [fws_a hb, c]; rfl)
        · rw [← eb] at hb
          have hn : ¬ b = -1 := by rw [hb]; intro e; have := nI_pos (n := j) (by omega); rw [e] at this; exact this (by decide)
          rw [if_neg hn]
          by_cases cc : onc b ≤ onc (nI k)
          · rw [if_pos cc]; exact goal2 b (by rw [fws_b hb (by omega), if_pos cc])
          · rw [if_neg cc]
            cases c : enP n m (pm w) c k
            · rw [if_neg (by decide)]; exact goal2 b (by rw [fws_b hb (by omega), if_neg cc, c]; rfl)
            · rw [if_pos rfl]; exact goal2 _ (by rw [fws_b hb (by omega), if_neg cc, c]; rfl)
theorem ok_enough (h : Inv n m s g x p t) (a : Int32) : Okk t (fun t => fx_enough t a) (fun t => fm_enough t a) := okq h (xq_enough h a) (fun u hu e => e ▸ mq_enough hu a)
/-! buy -/
def cst (G : GG) (m : Nat) (S : Int32) : Int32 := fo (fun i a => if bt S i = true then a + G 44 i else a) 0 m
theorem fAt_costOf_v (h : Inv n m s g x p t) (S : Int32) : fAt_costOf t S = rI (cst (pm t) m S) t := by
  have hr := h.rng
  have := for_fo (fun f k b => fAt_costOf_l4 f t S b (nI k)) m (fun k b => if bt S k = true then b + pm t 44 k else b) (fun b => rI b t)
    (fun f b => by
      have e9 : nI m ≤ nI m := Int32.le_refl _
      show fAt_costOf_4 _ t S b (nI m) = _
      simp only [fAt_costOf_4, gI_0, pI_0, rc_0, gI_1, pI_1, rc_1, ln_2, ql_2, al_3, as_3, ln_3, al_4, as_4, ln_4, gI_5, pI_5, rc_5, ln_6, ql_6, al_7, as_7, ln_7, al_8, as_8, ln_8, ln_9, ql_9, gI_10, pI_10, rc_10, al_11, as_11, ln_11, al_12, as_12, ln_12, gI_13, pI_13, rc_13, al_14, as_14, ln_14, ln_15, ql_15, gI_16, pI_16, rc_16, al_17, as_17, ln_17, al_18, as_18, ln_18, al_19, as_19, ln_19, al_20, as_20, ln_20, bl_21, bs_21, ln_21, gI_22, pI_22, rc_22, al_23, as_23, ln_23, al_24, as_24, ln_24, al_25, as_25, ln_25, gI_31, pI_31, rc_31, al_32, as_32, ln_32, gI_33, pI_33, rc_33, al_34, as_34, ln_34, gI_35, pI_35, rc_35, al_36, as_36, ln_36, gI_37, pI_37, rc_37, al_38, as_38, ln_38, gC_0_3, gC_0_4, gC_0_5, gC_0_7, gC_0_10, gC_0_11, gC_0_12, gC_0_13, gC_0_14, gC_0_15, gC_0_16, gC_0_17, gC_1_0, gC_1_2, gC_1_3, gC_5_0, gC_5_2, gC_10_0, gC_10_7, gC_13_5, gC_16_0, gC_16_2, gC_22_0, gC_22_1, gC_22_2, gC_22_3, gC_31_2, gC_33_2, gC_35_2, gC_37_2, bI_rI, bV_rV, bQ_rN, bQ_rR, bz_0, bz_1, bz_Z, hZ0, hZ1, Lay_setI, Lay_setA, h.lay, h.mp', e9, if_true])
    (fun f k b hk => by
      have e9 : ¬ nI m ≤ nI k := nI_ge hk (by omega)
      obtain ⟨q, e1, _, hc⟩ := chartAt_in h hk
      show fAt_costOf_4 _ t S b (nI k) = fAt_costOf_l4 f t S (if bt S k = true then b + pm t 44 k else b) (nI (k + 1))
      simp only [fAt_costOf_4, gI_0, pI_0, rc_0, gI_1, pI_1, rc_1, ln_2, ql_2, al_3, as_3, ln_3, al_4, as_4, ln_4, gI_5, pI_5, rc_5, ln_6, ql_6, al_7, as_7, ln_7, al_8, as_8, ln_8, ln_9, ql_9, gI_10, pI_10, rc_10, al_11, as_11, ln_11, al_12, as_12, ln_12, gI_13, pI_13, rc_13, al_14, as_14, ln_14, ln_15, ql_15, gI_16, pI_16, rc_16, al_17, as_17, ln_17, al_18, as_18, ln_18, al_19, as_19, ln_19, al_20, as_20, ln_20, bl_21, bs_21, ln_21, gI_22, pI_22, rc_22, al_23, as_23, ln_23, al_24, as_24, ln_24, al_25, as_25, ln_25, gI_31, pI_31, rc_31, al_32, as_32, ln_32, gI_33, pI_33, rc_33, al_34, as_34, ln_34, gI_35, pI_35, rc_35, al_36, as_36, ln_36, gI_37, pI_37, rc_37, al_38, as_38, ln_38, gC_0_3, gC_0_4, gC_0_5, gC_0_7, gC_0_10, gC_0_11, gC_0_12, gC_0_13, gC_0_14, gC_0_15, gC_0_16, gC_0_17, gC_1_0, gC_1_2, gC_1_3, gC_5_0, gC_5_2, gC_10_0, gC_10_7, gC_13_5, gC_16_0, gC_16_2, gC_22_0, gC_22_1, gC_22_2, gC_22_3, gC_31_2, gC_33_2, gC_35_2, gC_37_2, bI_rI, bV_rV, bQ_rN, bQ_rR, bz_0, bz_1, bz_Z, hZ0, hZ1, Lay_setI, Lay_setA, h.lay, h.mp', e9, if_false, e1, hc.i5, b_bit _ (show k < 32 by omega), nI_1]
      cases bt S k <;> rfl)
    0 m 0 1000000 (by omega) (by omega)
  exact this
theorem fm_costOf_v (h : Inv n m s g x p t) (S : Int32) : fm_costOf t S = rI (cst (pm t) m S) t := by
  have hr := h.rng
  have := for_fo (fun f k b => fm_costOf_l4 f t S b (nI k)) m (fun k b => if bt S k = true then b + pm t 44 k else b) (fun b => rI b t)
    (fun f b => by
      have e9 : nI m ≤ nI m := Int32.le_refl _
      show fm_costOf_4 _ t S b (nI m) = _
      simp only [fm_costOf_4, gI_39, pI_39, rc_39, al_40, as_40, ln_40, al_41, as_41, ln_41, al_42, as_42, ln_42, al_43, as_43, ln_43, al_44, as_44, ln_44, al_45, as_45, ln_45, al_46, as_46, ln_46, al_47, as_47, ln_47, al_48, as_48, ln_48, al_49, as_49, ln_49, al_50, as_50, ln_50, al_51, as_51, ln_51, al_52, as_52, ln_52, al_53, as_53, ln_53, al_54, as_54, ln_54, al_55, as_55, ln_55, al_56, as_56, ln_56, al_57, as_57, ln_57, al_58, as_58, ln_58, al_59, as_59, ln_59, al_60, as_60, ln_60, al_61, as_61, ln_61, al_62, as_62, ln_62, al_63, as_63, ln_63, al_64, as_64, ln_64, al_65, as_65, ln_65, al_66, as_66, ln_66, al_67, as_67, ln_67, gC_39_4, gC_39_5, gC_39_6, gC_39_7, gC_39_8, gC_39_10, gC_39_11, gC_39_12, gC_39_13, gC_39_15, gC_39_16, gC_39_18, gC_39_19, gC_39_27, gC_39_28, gC_39_29, gC_39_30, gC_39_31, gC_39_36, gC_39_37, gC_39_41, gC_39_42, gC_39_43, gC_39_44, gC_39_46, gC_39_47, gC_39_48, gC_39_49, bI_rI, bV_rV, bQ_rN, bQ_rR, bz_0, bz_1, bz_Z, hZ0, hZ1, Lay_setI, Lay_setA, h.lay, h.mp, e9, if_true])
    (fun f k b hk => by
      have e9 : ¬ nI m ≤ nI k := nI_ge hk (by omega)
      have k8 : k < 8 := by omega
      show fm_costOf_4 _ t S b (nI k) = fm_costOf_l4 f t S (if bt S k = true then b + pm t 44 k else b) (nI (k + 1))
      simp only [fm_costOf_4, gI_39, pI_39, rc_39, al_40, as_40, ln_40, al_41, as_41, ln_41, al_42, as_42, ln_42, al_43, as_43, ln_43, al_44, as_44, ln_44, al_45, as_45, ln_45, al_46, as_46, ln_46, al_47, as_47, ln_47, al_48, as_48, ln_48, al_49, as_49, ln_49, al_50, as_50, ln_50, al_51, as_51, ln_51, al_52, as_52, ln_52, al_53, as_53, ln_53, al_54, as_54, ln_54, al_55, as_55, ln_55, al_56, as_56, ln_56, al_57, as_57, ln_57, al_58, as_58, ln_58, al_59, as_59, ln_59, al_60, as_60, ln_60, al_61, as_61, ln_61, al_62, as_62, ln_62, al_63, as_63, ln_63, al_64, as_64, ln_64, al_65, as_65, ln_65, al_66, as_66, ln_66, al_67, as_67, ln_67, gC_39_4, gC_39_5, gC_39_6, gC_39_7, gC_39_8, gC_39_10, gC_39_11, gC_39_12, gC_39_13, gC_39_15, gC_39_16, gC_39_18, gC_39_19, gC_39_27, gC_39_28, gC_39_29, gC_39_30, gC_39_31, gC_39_36, gC_39_37, gC_39_41, gC_39_42, gC_39_43, gC_39_44, gC_39_46, gC_39_47, gC_39_48, gC_39_49, bI_rI, bV_rV, bQ_rN, bQ_rR, bz_0, bz_1, bz_Z, hZ0, hZ1, Lay_setI, Lay_setA, h.lay, h.mp, e9, if_false, k8, rp_3, rp_8, rp_11, rp_14, rp_32, rp_34, rp_36, rp_38, rp_40, rp_41, rp_42, rp_43, rp_44, rp_45, rp_46, rp_47, rp_48, rp_49, rp_50, rp_51, rp_52, rp_53, rp_54, rp_55, rp_56, rp_57, rp_58, b_bit _ (show k < 32 by omega), nI_1, Int32.add_zero]
      cases bt S k <;> rfl)
    0 m 0 1000000 (by omega) (by omega)
  exact this
def byst (n m : Nat) (G : GG) (coin : Int32) (k b : Nat) : Nat :=
  if ¬ coin < cst G m (nI k) ∧ ((WL n m G (nI k)).length < (WL n m G (nI b)).length ∨ ((WL n m G (nI k)).length = (WL n m G (nI b)).length ∧ ¬ cst G m (nI b) ≤ cst G m (nI k))) then k else b
def bys (n m : Nat) (G : GG) (coin : Int32) (k : Nat) : Nat := fo (fun i b => byst n m G coin (i + 1) b) 0 k
theorem bys_s (n m : Nat) (G : GG) (coin : Int32) (k : Nat) : bys n m G coin (k + 1) = byst n m G coin (k + 1) (bys n m G coin k) := rfl
theorem bys_le (n m : Nat) (G : GG) (coin : Int32) : ∀ k, bys n m G coin k ≤ k := by
  intro k
  induction k with
  | zero => exact Nat.le_refl 0
  | succ k ih => rw [bys_s]; unfold byst; split <;> omega
def s_buy (n m : Nat) (G : GG) (a b : Int32) : Int32 := if inr a 10000 = true then (if inr b 2 = true then (if b = 0 then nI (bys n m G a (2 ^ m - 1)) else nI (WL n m G (nI (bys n m G a (2 ^ m - 1)))).length) else -2) else -2
theorem xq_buy (h : Inv n m s g x p t) (a b : Int32) : QQ t (fx_buy t a b) (s_buy n m (pm t) a b) := by
  have hr := h.rng
  have hpm := Nat.pow_le_pow_right (n := 2) (by decide) (show m ≤ 8 by omega)
  have hm0 := Nat.two_pow_pos m
  unfold fx_buy s_buy
  rw [if_in2 (M := 9999) a 10000 (by decide) (by decide) rfl, fx_isZeroOrOne_v, bI_rI]
  simp only [bz_0]
  cases c1 : inr a 10000
  · exact QQ.pure rfl
  · rw [if_pos rfl, if_pos rfl]
    cases c2 : inr b 2
    · simp only [if_true]; exact QQ.pure rfl
    · obtain ⟨u, eu, fu, gu⟩ := fx_tally_v h (k := 19) (by decide) rfl (fun _ => rfl) 0
      have hu := h.fr fu.1
      have gl : ∀ S, S < 2 ^ m → mI u 19 S = nI (WL n m (pm u) (nI S)).length := fun S hS => by rw [gu S hS, tl_len (show m ≤ 8 by omega) hS, fu.1.2]
      simp only [if_false, if_true, Bool.true_eq_false, gI_0, pI_0, rc_0, gI_1, pI_1, rc_1, ln_2, ql_2, al_3, as_3, ln_3, al_4, as_4, ln_4, gI_5, pI_5, rc_5, ln_6, ql_6, al_7, as_7, ln_7, al_8, as_8, ln_8, ln_9, ql_9, gI_10, pI_10, rc_10, al_11, as_11, ln_11, al_12, as_12, ln_12, gI_13, pI_13, rc_13, al_14, as_14, ln_14, ln_15, ql_15, gI_16, pI_16, rc_16, al_17, as_17, ln_17, al_18, as_18, ln_18, al_19, as_19, ln_19, al_20, as_20, ln_20, bl_21, bs_21, ln_21, gI_22, pI_22, rc_22, al_23, as_23, ln_23, al_24, as_24, ln_24, al_25, as_25, ln_25, gI_31, pI_31, rc_31, al_32, as_32, ln_32, gI_33, pI_33, rc_33, al_34, as_34, ln_34, gI_35, pI_35, rc_35, al_36, as_36, ln_36, gI_37, pI_37, rc_37, al_38, as_38, ln_38, gC_0_3, gC_0_4, gC_0_5, gC_0_7, gC_0_10, gC_0_11, gC_0_12, gC_0_13, gC_0_14, gC_0_15, gC_0_16, gC_0_17, gC_1_0, gC_1_2, gC_1_3, gC_5_0, gC_5_2, gC_10_0, gC_10_7, gC_13_5, gC_16_0, gC_16_2, gC_22_0, gC_22_1, gC_22_2, gC_22_3, gC_31_2, gC_33_2, gC_35_2, gC_37_2, bI_rI, bV_rV, bQ_rN, bQ_rR, bz_0, bz_1, bz_Z, hZ0, hZ1, Lay_setI, Lay_setA, h.lay, eu]
      refine ⟨u, ?_, fu.1⟩
      rw [← fu.1.2]
      refine for_up (β := Int32) (fun f t k z => fx_buy_l35 (fun t u2 u3 => fx_buy_79 t u2 u3) f t a b z (nI (k + 1))) (fun r => r = rI (if b = 0 then nI (bys n m (pm u) a (2 ^ m - 1)) else nI (WL n m (pm u) (nI (bys n m (pm u) a (2 ^ m - 1)))).length) u) (2 ^ m - 1)
        (fun k w z => w = u ∧ z = nI (bys n m (pm u) a k)) ?_ ?_ (2 ^ m - 1) 0 u 0 1000000 (by omega) ⟨rfl, rfl⟩ (by omega)
      · intro f w z ⟨e, ez⟩
        subst e
        have hlt : bys n m (pm w) a (2 ^ m - 1) < 2 ^ m := by have := bys_le n m (pm w) a (2 ^ m - 1); omega
        have e1 : nI (2 ^ m - 1) < nI (2 ^ m - 1 + 1) := nI_lt (by omega) (by omega)
        show fx_buy_35 _ _ w a b z (nI (2 ^ m - 1 + 1)) = _
        simp only [fx_buy_35, gI_0, pI_0, rc_0, gI_1, pI_1, rc_1, ln_2, ql_2, al_3, as_3, ln_3, al_4, as_4, ln_4, gI_5, pI_5, rc_5, ln_6, ql_6, al_7, as_7, ln_7, al_8, as_8, ln_8, ln_9, ql_9, gI_10, pI_10, rc_10, al_11, as_11, ln_11, al_12, as_12, ln_12, gI_13, pI_13, rc_13, al_14, as_14, ln_14, ln_15, ql_15, gI_16, pI_16, rc_16, al_17, as_17, ln_17, al_18, as_18, ln_18, al_19, as_19, ln_19, al_20, as_20, ln_20, bl_21, bs_21, ln_21, gI_22, pI_22, rc_22, al_23, as_23, ln_23, al_24, as_24, ln_24, al_25, as_25, ln_25, gI_31, pI_31, rc_31, al_32, as_32, ln_32, gI_33, pI_33, rc_33, al_34, as_34, ln_34, gI_35, pI_35, rc_35, al_36, as_36, ln_36, gI_37, pI_37, rc_37, al_38, as_38, ln_38, gC_0_3, gC_0_4, gC_0_5, gC_0_7, gC_0_10, gC_0_11, gC_0_12, gC_0_13, gC_0_14, gC_0_15, gC_0_16, gC_0_17, gC_1_0, gC_1_2, gC_1_3, gC_5_0, gC_5_2, gC_10_0, gC_10_7, gC_13_5, gC_16_0, gC_16_2, gC_22_0, gC_22_1, gC_22_2, gC_22_3, gC_31_2, gC_33_2, gC_35_2, gC_37_2, bI_rI, bV_rV, bQ_rN, bQ_rR, bz_0, bz_1, bz_Z, hZ0, hZ1, Lay_setI, Lay_setA, hu.lay, fAt_everyMap_v hu, e1, if_true, fx_buy_79, ez, L_nai hu.lay (by decide : 19 < 68) (rfl : layF 19 = (20, 256)) (show bys n m (pm w) a (2 ^ m - 1) < 256 by omega), gl _ hlt, rI_ite]
      · intro f w k z hk ⟨e, ez⟩ ih
        subst e
        have hle := bys_le n m (pm w) a k
        have e1 : ¬ nI (2 ^ m - 1) < nI (k + 1) := nI_nlt (by omega) (by omega)
        have q1 : fx_numberAt w 19 (nI (k + 1)) = rI (nI (WL n m (pm w) (nI (k + 1))).length) w := by
          rw [L_nai hu.lay (by decide : 19 < 68) (rfl : layF 19 = (20, 256)) (show k + 1 < 256 by omega), gl _ (by omega)]
        have q2 : fx_numberAt w 19 (nI (bys n m (pm w) a k)) = rI (nI (WL n m (pm w) (nI (bys n m (pm w) a k))).length) w := by
          rw [L_nai hu.lay (by decide : 19 < 68) (rfl : layF 19 = (20, 256)) (show bys n m (pm w) a k < 256 by omega), gl _ (by omega)]
        have q3 : (nI (WL n m (pm w) (nI (k + 1))).length < nI (WL n m (pm w) (nI (bys n m (pm w) a k))).length) = ((WL n m (pm w) (nI (k + 1))).length < (WL n m (pm w) (nI (bys n m (pm w) a k))).length) := propext (nI_ltI (wl512 (by omega) _ _) (wl512 (by omega) _ _))
        have q4 : (nI (WL n m (pm w) (nI (k + 1))).length = nI (WL n m (pm w) (nI (bys n m (pm w) a k))).length) = ((WL n m (pm w) (nI (k + 1))).length = (WL n m (pm w) (nI (bys n m (pm w) a k))).length) := propext (nI_eq (wl512 (by omega) _ _) (wl512 (by omega) _ _))
        show fx_buy_35 _ _ w a b z (nI (k + 1)) = _
        simp only [fx_buy_35, gI_0, pI_0, rc_0, gI_1, pI_1, rc_1, ln_2, ql_2, al_3, as_3, ln_3, al_4, as_4, ln_4, gI_5, pI_5, rc_5, ln_6, ql_6, al_7, as_7, ln_7, al_8, as_8, ln_8, ln_9, ql_9, gI_10, pI_10, rc_10, al_11, as_11, ln_11, al_12, as_12, ln_12, gI_13, pI_13, rc_13, al_14, as_14, ln_14, ln_15, ql_15, gI_16, pI_16, rc_16, al_17, as_17, ln_17, al_18, as_18, ln_18, al_19, as_19, ln_19, al_20, as_20, ln_20, bl_21, bs_21, ln_21, gI_22, pI_22, rc_22, al_23, as_23, ln_23, al_24, as_24, ln_24, al_25, as_25, ln_25, gI_31, pI_31, rc_31, al_32, as_32, ln_32, gI_33, pI_33, rc_33, al_34, as_34, ln_34, gI_35, pI_35, rc_35, al_36, as_36, ln_36, gI_37, pI_37, rc_37, al_38, as_38, ln_38, gC_0_3, gC_0_4, gC_0_5, gC_0_7, gC_0_10, gC_0_11, gC_0_12, gC_0_13, gC_0_14, gC_0_15, gC_0_16, gC_0_17, gC_1_0, gC_1_2, gC_1_3, gC_5_0, gC_5_2, gC_10_0, gC_10_7, gC_13_5, gC_16_0, gC_16_2, gC_22_0, gC_22_1, gC_22_2, gC_22_3, gC_31_2, gC_33_2, gC_35_2, gC_37_2, bI_rI, bV_rV, bQ_rN, bQ_rR, bz_0, bz_1, bz_Z, hZ0, hZ1, Lay_setI, Lay_setA, hu.lay, fAt_everyMap_v hu, e1, if_false, fAt_costOf_v hu, fx_isBetterBuy, ez, q1, q2, q3, q4, nI_1]
        have goal2 : ∀ z2, z2 = byst n m (pm w) a (k + 1) (bys n m (pm w) a k) → fx_buy_l35 (fun t u2 u3 => fx_buy_79 t u2 u3) f w a b (nI z2) (nI (k + 1 + 1)) = rI (if b = 0 then nI (bys n m (pm w) a (2 ^ m - 1)) else nI (WL n m (pm w) (nI (bys n m (pm w) a (2 ^ m - 1)))).length) w := fun z2 hz => ih w (nI z2) ⟨rfl, by rw [hz, bys_s]⟩
        by_cases d1 : a < cst (pm w) m (nI (k + 1))
        · rw [if_pos d1]; exact goal2 _ (by unfold byst; rw [if_neg (fun e => e.1 d1)])
        · rw [if_neg d1]
          by_cases d2 : (WL n m (pm w) (nI (k + 1))).length < (WL n m (pm w) (nI (bys n m (pm w) a k))).length
          · rw [if_pos d2, bI_rI, if_neg (by decide)]; exact goal2 _ (by unfold byst; rw [if_pos ⟨d1, Or.inl d2⟩])
          · rw [if_neg d2]
            by_cases d3 : (WL n m (pm w) (nI (k + 1))).length = (WL n m (pm w) (nI (bys n m (pm w) a k))).length
            · rw [if_pos d3]
              by_cases d4 : cst (pm w) m (nI (bys n m (pm w) a k)) ≤ cst (pm w) m (nI (k + 1))
              · rw [if_pos d4, bI_rI, if_pos rfl]; exact goal2 _ (by unfold byst; rw [if_neg (fun e => by rcases e.2 with e | e; exact d2 e; exact e.2 d4)])
              · rw [if_neg d4, bI_rI, if_neg (by decide)]; exact goal2 _ (by unfold byst; rw [if_pos ⟨d1, Or.inr ⟨d3, d4⟩⟩])
            · rw [if_neg d3, bI_rI, if_pos rfl]; exact goal2 _ (by unfold byst; rw [if_neg (fun e => by rcases e.2 with e | e; exact d2 e; exact d3 e.1)])
theorem mq_buy (h : Inv n m s g x p t) (a b : Int32) : QQ t (fm_buy t a b) (s_buy n m (pm t) a b) := by
  have hr := h.rng
  have hpm := Nat.pow_le_pow_right (n := 2) (by decide) (show m ≤ 8 by omega)
  have hm0 := Nat.two_pow_pos m
  have in_s : (decide ((0 : Int32) ≤ a) && decide (a ≤ 9999)) = inr a 10000 := inr_in (N := 10000) (by decide)
  obtain ⟨u, eu, fu, gu⟩ := agrees_in h
  have hu := h.fr fu.1
  have gu' : Agd (pm u) n m u := by rw [fu.1.2]; exact gu
  have cl : ∀ S, nI (cnt (fun j => wp (pm u) m S (nI j)) (2 ^ n)) = nI (WL n m (pm u) S).length := fun S => by unfold WL; rw [wls_len]
  unfold s_buy
  simp only [fm_buy, fm_in_v, in_s, in_2, gI_39, pI_39, rc_39, al_40, as_40, ln_40, al_41, as_41, ln_41, al_42, as_42, ln_42, al_43, as_43, ln_43, al_44, as_44, ln_44, al_45, as_45, ln_45, al_46, as_46, ln_46, al_47, as_47, ln_47, al_48, as_48, ln_48, al_49, as_49, ln_49, al_50, as_50, ln_50, al_51, as_51, ln_51, al_52, as_52, ln_52, al_53, as_53, ln_53, al_54, as_54, ln_54, al_55, as_55, ln_55, al_56, as_56, ln_56, al_57, as_57, ln_57, al_58, as_58, ln_58, al_59, as_59, ln_59, al_60, as_60, ln_60, al_61, as_61, ln_61, al_62, as_62, ln_62, al_63, as_63, ln_63, al_64, as_64, ln_64, al_65, as_65, ln_65, al_66, as_66, ln_66, al_67, as_67, ln_67, gC_39_4, gC_39_5, gC_39_6, gC_39_7, gC_39_8, gC_39_10, gC_39_11, gC_39_12, gC_39_13, gC_39_15, gC_39_16, gC_39_18, gC_39_19, gC_39_27, gC_39_28, gC_39_29, gC_39_30, gC_39_31, gC_39_36, gC_39_37, gC_39_41, gC_39_42, gC_39_43, gC_39_44, gC_39_46, gC_39_47, gC_39_48, gC_39_49, bI_rI, bV_rV, bQ_rN, bQ_rR, bz_0, bz_1, bz_Z, hZ0, hZ1, Lay_setI, Lay_setA, h.lay, eu, hu.lay, fm_countBy_v hu gu', cl]
  cases c1 : inr a 10000
  · simp only [if_true]; exact QQ.pure rfl
  · simp only [if_false, if_true, Bool.true_eq_false]
    cases c2 : inr b 2
    · simp only [if_true]; exact QQ.pure rfl
    · simp only [if_false, if_true, Bool.true_eq_false]
      refine ⟨u, ?_, fu.1⟩
      rw [← fu.1.2]
      refine for_up (β := Int32 × Int32) (fun f t k z => fm_buy_l39 (fun t u2 u3 u4 => fm_buy_107 t u2 u3 u4) f t a b z.1 z.2 (nI (k + 1))) (fun r => r = rI (if b = 0 then nI (bys n m (pm u) a (2 ^ m - 1)) else nI (WL n m (pm u) (nI (bys n m (pm u) a (2 ^ m - 1)))).length) u) (2 ^ m - 1)
        (fun k w z => w = u ∧ z.1 = nI (bys n m (pm u) a k) ∧ z.2 = nI (WL n m (pm u) (nI (bys n m (pm u) a k))).length) ?_ ?_ (2 ^ m - 1) 0 u (0, nI (WL n m (pm u) 0).length) 1000000 (by omega) ⟨rfl, rfl, rfl⟩ (by omega)
      · intro f w z ⟨e, ez, ez2⟩
        subst e
        have e1 : nI (2 ^ m - 1) < nI (2 ^ m - 1 + 1) := nI_lt (by omega) (by omega)
        show fm_buy_39 _ _ w a b z.1 z.2 (nI (2 ^ m - 1 + 1)) = _
        simp only [fm_buy_39, gI_39, pI_39, rc_39, al_40, as_40, ln_40, al_41, as_41, ln_41, al_42, as_42, ln_42, al_43, as_43, ln_43, al_44, as_44, ln_44, al_45, as_45, ln_45, al_46, as_46, ln_46, al_47, as_47, ln_47, al_48, as_48, ln_48, al_49, as_49, ln_49, al_50, as_50, ln_50, al_51, as_51, ln_51, al_52, as_52, ln_52, al_53, as_53, ln_53, al_54, as_54, ln_54, al_55, as_55, ln_55, al_56, as_56, ln_56, al_57, as_57, ln_57, al_58, as_58, ln_58, al_59, as_59, ln_59, al_60, as_60, ln_60, al_61, as_61, ln_61, al_62, as_62, ln_62, al_63, as_63, ln_63, al_64, as_64, ln_64, al_65, as_65, ln_65, al_66, as_66, ln_66, al_67, as_67, ln_67, gC_39_4, gC_39_5, gC_39_6, gC_39_7, gC_39_8, gC_39_10, gC_39_11, gC_39_12, gC_39_13, gC_39_15, gC_39_16, gC_39_18, gC_39_19, gC_39_27, gC_39_28, gC_39_29, gC_39_30, gC_39_31, gC_39_36, gC_39_37, gC_39_41, gC_39_42, gC_39_43, gC_39_44, gC_39_46, gC_39_47, gC_39_48, gC_39_49, bI_rI, bV_rV, bQ_rN, bQ_rR, bz_0, bz_1, bz_Z, hZ0, hZ1, Lay_setI, Lay_setA, hu.lay, fm_allMaps_v hu, e1, if_true, fm_buy_107, ez, ez2, rI_ite]
      · intro f w k z hk ⟨e, ez, ez2⟩ ih
        subst e
        have hle := bys_le n m (pm w) a k
        have e1 : ¬ nI (2 ^ m - 1) < nI (k + 1) := nI_nlt (by omega) (by omega)
        have q3 : (nI (WL n m (pm w) (nI (k + 1))).length < nI (WL n m (pm w) (nI (bys n m (pm w) a k))).length) = ((WL n m (pm w) (nI (k + 1))).length < (WL n m (pm w) (nI (bys n m (pm w) a k))).length) := propext (nI_ltI (wl512 (by omega) _ _) (wl512 (by omega) _ _))
        have q4 : (nI (WL n m (pm w) (nI (k + 1))).length = nI (WL n m (pm w) (nI (bys n m (pm w) a k))).length) = ((WL n m (pm w) (nI (k + 1))).length = (WL n m (pm w) (nI (bys n m (pm w) a k))).length) := propext (nI_eq (wl512 (by omega) _ _) (wl512 (by omega) _ _))
        show fm_buy_39 _ _ w a b z.1 z.2 (nI (k + 1)) = _
        simp only [fm_buy_39, gI_39, pI_39, rc_39, al_40, as_40, ln_40, al_41, as_41, ln_41, al_42, as_42, ln_42, al_43, as_43, ln_43, al_44, as_44, ln_44, al_45, as_45, ln_45, al_46, as_46, ln_46, al_47, as_47, ln_47, al_48, as_48, ln_48, al_49, as_49, ln_49, al_50, as_50, ln_50, al_51, as_51, ln_51, al_52, as_52, ln_52, al_53, as_53, ln_53, al_54, as_54, ln_54, al_55, as_55, ln_55, al_56, as_56, ln_56, al_57, as_57, ln_57, al_58, as_58, ln_58, al_59, as_59, ln_59, al_60, as_60, ln_60, al_61, as_61, ln_61, al_62, as_62, ln_62, al_63, as_63, ln_63, al_64, as_64, ln_64, al_65, as_65, ln_65, al_66, as_66, ln_66, al_67, as_67, ln_67, gC_39_4, gC_39_5, gC_39_6, gC_39_7, gC_39_8, gC_39_10, gC_39_11, gC_39_12, gC_39_13, gC_39_15, gC_39_16, gC_39_18, gC_39_19, gC_39_27, gC_39_28, gC_39_29, gC_39_30, gC_39_31, gC_39_36, gC_39_37, gC_39_41, gC_39_42, gC_39_43, gC_39_44, gC_39_46, gC_39_47, gC_39_48, gC_39_49, bI_rI, bV_rV, bQ_rN, bQ_rR, bz_0, bz_1, bz_Z, hZ0, hZ1, Lay_setI, Lay_setA, hu.lay, fm_allMaps_v hu, e1, if_false, fm_costOf_v hu, fm_countBy_v hu gu', cl, ez, ez2, q3, q4, nI_1]
        have goal2 : ∀ z2, z2 = byst n m (pm w) a (k + 1) (bys n m (pm w) a k) → fm_buy_l39 (fun t u2 u3 u4 => fm_buy_107 t u2 u3 u4) f w a b (nI z2) (nI (WL n m (pm w) (nI z2)).length) (nI (k + 1 + 1)) = rI (if b = 0 then nI (bys n m (pm w) a (2 ^ m - 1)) else nI (WL n m (pm w) (nI (bys n m (pm w) a (2 ^ m - 1)))).length) w := fun z2 hz => ih w (nI z2, nI (WL n m (pm w) (nI z2)).length) ⟨rfl, by rw [hz, bys_s], by rw [hz, bys_s]⟩
        by_cases d1 : a < cst (pm w) m (nI (k + 1))
        · rw [if_pos d1]; exact goal2 _ (by unfold byst; rw [if_neg (fun e => e.1 d1)])
        · rw [if_neg d1]
          by_cases d2 : (WL n m (pm w) (nI (k + 1))).length < (WL n m (pm w) (nI (bys n m (pm w) a k))).length
          · rw [if_pos d2]; exact goal2 _ (by unfold byst; rw [if_pos ⟨d1, Or.inl d2⟩])
          · rw [if_neg d2]
            by_cases d3 : (WL n m (pm w) (nI (k + 1))).length = (WL n m (pm w) (nI (bys n m (pm w) a k))).length
            · rw [if_pos d3]
              by_cases d4 : cst (pm w) m (nI (bys n m (pm w) a k)) ≤ cst (pm w) m (nI (k + 1))
              · rw [if_pos d4]; exact goal2 _ (by unfold byst; rw [if_neg (fun e => by rcases e.2 with e | e; exact d2 e; exact e.2 d4)])
              · rw [if_neg d4]; exact goal2 _ (by unfold byst; rw [if_pos ⟨d1, Or.inr ⟨d3, d4⟩⟩])
            · rw [if_neg d3]; exact goal2 _ (by unfold byst; rw [if_neg (fun e => by rcases e.2 with e | e; exact d2 e; exact d3 e.1)])
theorem ok_buy (h : Inv n m s g x p t) (a b : Int32) : Okk t (fun t => fx_buy t a b) (fun t => fm_buy t a b) := okq h (xq_buy h a b) (fun u hu e => e ▸ mq_buy hu a b)
end
