section
variable {n m s g x p : Nat} {t u : SM}
theorem pm_of {q j : Nat} (e : u.2 = t.2) (h : mI u q j = mI t q j) : pm u q j = pm t q j := by
  unfold pm mT; rw [e, h]
theorem pm_rw {q : Nat} (e : u.2 = t.2) (h : mI u q = mI t q) : pm u q = pm t q := funext fun j => pm_of e (by rw [h])
theorem Lay.of (hl : Lay t) (e : u.2 = t.2) : Lay u := by unfold Lay mT mR mN at *; rw [e]; exact hl
/-! feed -/
def byt (w : Int64) (i : Nat) : Int32 := (Int64.toInt32 (w >>> (Int32.toInt64 (8 * nI i) &&& 63))) &&& 255
theorem byt_m (w : Int64) (i : Nat) : Int64.toInt32 ((w >>> (Int32.toInt64 (8 * nI i) &&& 63)) &&& 255) = byt w i := by
  unfold byt; rw [Int64.toInt32_and]; rfl
theorem byt_is (w : Int64) (i : Nat) : ∃ r, r < 256 ∧ byt w i = nI r := by
  obtain ⟨r, h1, h2⟩ := nI_small (v := byt w i) (n := 8) (by decide) (fun k hk h8 => by
    unfold byt
    rw [b_and, show (255 : Int32) = nI (2 ^ 8 - 1) from rfl, bt_mask (by decide), decide_eq_false (by omega), Bool.and_false])
  exact ⟨r, h1, h2⟩
def fdR (t : SM) (w : Int64) (k i : Nat) (c a b : Nat) (p : Nat) (u : SM) : Prop := u.2 = t.2 ∧ (∀ q, q ≠ c → q ≠ a → mI u q = mI t q) ∧ (∀ j, j ≠ b → mI u a j = mI t a j) ∧ mI u a b = nI (p + i) ∧ ∀ j, mI u c j = if p ≤ j ∧ j < p + i then byt w (k - 1 - (j - p)) else mI t c j
theorem fdR.step {w : Int64} {k i c a b : Nat} (h : fdR t w k i c a b p u) (hca : c ≠ a) (hi : i < k) : fdR t w k (i + 1) c a b p (setI (setI u c (p + i) (byt w (k - 1 - i))) a b (nI (p + i + 1))) := by
  obtain ⟨h1, h2, h3, h4, h5⟩ := h
  refine ⟨h1, fun q a1 a2 => by rw [setI_ne a2, setI_ne a1]; exact h2 q a1 a2, fun j hj => by rw [setI_I, if_neg (fun z => hj z.2), setI_ne (Ne.symm hca)]; exact h3 j hj, setI_eq rfl rfl, fun j => ?_⟩
  rw [setI_ne hca]
  by_cases e : j = p + i
  · rw [setI_eq rfl e, if_pos (by omega), e, Nat.add_sub_cancel_left]
  · rw [setI_I, if_neg (fun z => e z.2), h5]
    by_cases c1 : p ≤ j ∧ j < p + i
    · rw [if_pos c1, if_pos (by omega)]
    · rw [if_neg c1, if_neg (by omega)]
theorem feedx_v (hl : Lay t) (h1 : mI t 10 1 = nI p) (w : Int64) {k : Nat} (hk : k ≤ 8) (hp : p + k ≤ 160) : ∃ u, fx_feed_l37 (fun t => fx_feed_67 t) 1000000 t w (nI k + (-1)) = rI (nI (p + k)) u ∧ fdR t w k k 11 10 1 p u := by
  refine for_up (β := Unit) (fun f t i _ => fx_feed_l37 (fun t => fx_feed_67 t) f t w (nI (k - i) + (-1))) (fun r => ∃ u, r = rI (nI (p + k)) u ∧ fdR t w k k 11 10 1 p u) k
    (fun i u _ => fdR t w k i 11 10 1 p u) ?_ ?_ k 0 t () 1000000 (by omega) ⟨rfl, fun _ _ _ => rfl, fun _ _ => rfl, h1, fun j => by rw [if_neg (by omega)]⟩ (by omega)
  · intro f u _ hu
    have lu := hl.of hu.1
    show ∃ z, fx_feed_37 _ _ u w (nI (k - k) + (-1)) = _ ∧ _
    rw [Nat.sub_self]
    refine ⟨u, ?_, hu⟩
    unfold fx_feed_37
    rw [if_pos m1_neg]
    simp only [fx_feed_67, gI_0, pI_0, rc_0, gI_1, pI_1, rc_1, ln_2, ql_2, al_3, as_3, ln_3, al_4, as_4, ln_4, gI_5, pI_5, rc_5, ln_6, ql_6, al_7, as_7, ln_7, al_8, as_8, ln_8, ln_9, ql_9, gI_10, pI_10, rc_10, al_11, as_11, ln_11, al_12, as_12, ln_12, gI_13, pI_13, rc_13, al_14, as_14, ln_14, ln_15, ql_15, gI_16, pI_16, rc_16, al_17, as_17, ln_17, al_18, as_18, ln_18, al_19, as_19, ln_19, al_20, as_20, ln_20, bl_21, bs_21, ln_21, gI_22, pI_22, rc_22, al_23, as_23, ln_23, al_24, as_24, ln_24, al_25, as_25, ln_25, gI_31, pI_31, rc_31, al_32, as_32, ln_32, gI_33, pI_33, rc_33, al_34, as_34, ln_34, gI_35, pI_35, rc_35, al_36, as_36, ln_36, gI_37, pI_37, rc_37, al_38, as_38, ln_38, gC_0_3, gC_0_4, gC_0_5, gC_0_7, gC_0_10, gC_0_11, gC_0_12, gC_0_13, gC_0_14, gC_0_15, gC_0_16, gC_0_17, gC_1_0, gC_1_2, gC_1_3, gC_5_0, gC_5_2, gC_10_0, gC_10_7, gC_13_5, gC_16_0, gC_16_2, gC_22_0, gC_22_1, gC_22_2, gC_22_3, gC_31_2, gC_33_2, gC_35_2, gC_37_2, bI_rI, bV_rV, bQ_rN, bQ_rR, bz_0, bz_1, bz_Z, hZ0, hZ1, Lay_setI, Lay_setA, lu, hu.2.2.2.1]
  · intro f u i _ hi hu ih
    have lu := hl.of hu.1
    obtain ⟨d, hd⟩ : ∃ d, k - i = d + 1 := ⟨k - i - 1, by omega⟩
    have hd2 : k - 1 - i = d := by omega
    have hd3 : k - (i + 1) = d := by omega
    have n1 : ¬ nI d < 0 := nI_pos (by omega)
    have n2 : ¬ nI (p + i) < 0 := nI_pos (by omega)
    have n3 : ¬ nI 160 ≤ nI (p + i) := nI_ge (by omega) (by decide)
    have l160 : p + i < 160 := by omega
    have st := hu.step (c := 11) (a := 10) (b := 1) (by decide) hi
    rw [hd2] at st
    have q1 : mI (setI u 11 (p + i) (byt w d)) 10 1 = nI (p + i) := by rw [setI_ne (by decide)]; exact hu.2.2.2.1
    show ∃ z, fx_feed_37 _ _ u w (nI (k - i) + (-1)) = _ ∧ _
    rw [hd, pk_m1]
    have := ih _ () st
    rw [hd3] at this
    have eb : (Int64.toInt32 (w >>> (Int32.toInt64 (8 * nI d) &&& 63))) &&& 255 = byt w d := rfl
    simp only [fx_feed_37, n1, if_false, fRd_add, gI_0, pI_0, rc_0, gI_1, pI_1, rc_1, ln_2, ql_2, al_3, as_3, ln_3, al_4, as_4, ln_4, gI_5, pI_5, rc_5, ln_6, ql_6, al_7, as_7, ln_7, al_8, as_8, ln_8, ln_9, ql_9, gI_10, pI_10, rc_10, al_11, as_11, ln_11, al_12, as_12, ln_12, gI_13, pI_13, rc_13, al_14, as_14, ln_14, ln_15, ql_15, gI_16, pI_16, rc_16, al_17, as_17, ln_17, al_18, as_18, ln_18, al_19, as_19, ln_19, al_20, as_20, ln_20, bl_21, bs_21, ln_21, gI_22, pI_22, rc_22, al_23, as_23, ln_23, al_24, as_24, ln_24, al_25, as_25, ln_25, gI_31, pI_31, rc_31, al_32, as_32, ln_32, gI_33, pI_33, rc_33, al_34, as_34, ln_34, gI_35, pI_35, rc_35, al_36, as_36, ln_36, gI_37, pI_37, rc_37, al_38, as_38, ln_38, gC_0_3, gC_0_4, gC_0_5, gC_0_7, gC_0_10, gC_0_11, gC_0_12, gC_0_13, gC_0_14, gC_0_15, gC_0_16, gC_0_17, gC_1_0, gC_1_2, gC_1_3, gC_5_0, gC_5_2, gC_10_0, gC_10_7, gC_13_5, gC_16_0, gC_16_2, gC_22_0, gC_22_1, gC_22_2, gC_22_3, gC_31_2, gC_33_2, gC_35_2, gC_37_2, bI_rI, bV_rV, bQ_rN, bQ_rR, bz_0, bz_1, bz_Z, hZ0, hZ1, Lay_setI, Lay_setA, lu, hu.2.2.2.1, n2, n3, l160, eb, q1, nI_1]
    exact this
theorem feedm_v (hl : Lay t) (h1 : mI t 39 17 = nI p) (w : Int64) {k : Nat} (hk : k ≤ 8) (hp : p + k ≤ 160) : ∃ u, fm_feed_l33 (fun t => fm_feed_75 t) 1000000 t w (nI k + (-1)) = rI (nI (p + k)) u ∧ fdR t w k k 50 39 17 p u := by
  refine for_up (β := Unit) (fun f t i _ => fm_feed_l33 (fun t => fm_feed_75 t) f t w (nI (k - i) + (-1))) (fun r => ∃ u, r = rI (nI (p + k)) u ∧ fdR t w k k 50 39 17 p u) k
    (fun i u _ => fdR t w k i 50 39 17 p u) ?_ ?_ k 0 t () 1000000 (by omega) ⟨rfl, fun _ _ _ => rfl, fun _ _ => rfl, h1, fun j => by rw [if_neg (by omega)]⟩ (by omega)
  · intro f u _ hu
    have lu := hl.of hu.1
    show ∃ z, fm_feed_33 _ _ u w (nI (k - k) + (-1)) = _ ∧ _
    rw [Nat.sub_self]
    refine ⟨u, ?_, hu⟩
    unfold fm_feed_33
    rw [if_pos m1_neg]
    simp only [fm_feed_75, gI_39, pI_39, rc_39, al_40, as_40, ln_40, al_41, as_41, ln_41, al_42, as_42, ln_42, al_43, as_43, ln_43, al_44, as_44, ln_44, al_45, as_45, ln_45, al_46, as_46, ln_46, al_47, as_47, ln_47, al_48, as_48, ln_48, al_49, as_49, ln_49, al_50, as_50, ln_50, al_51, as_51, ln_51, al_52, as_52, ln_52, al_53, as_53, ln_53, al_54, as_54, ln_54, al_55, as_55, ln_55, al_56, as_56, ln_56, al_57, as_57, ln_57, al_58, as_58, ln_58, al_59, as_59, ln_59, al_60, as_60, ln_60, al_61, as_61, ln_61, al_62, as_62, ln_62, al_63, as_63, ln_63, al_64, as_64, ln_64, al_65, as_65, ln_65, al_66, as_66, ln_66, al_67, as_67, ln_67, gC_39_4, gC_39_5, gC_39_6, gC_39_7, gC_39_8, gC_39_10, gC_39_11, gC_39_12, gC_39_13, gC_39_15, gC_39_16, gC_39_18, gC_39_19, gC_39_27, gC_39_28, gC_39_29, gC_39_30, gC_39_31, gC_39_36, gC_39_37, gC_39_41, gC_39_42, gC_39_43, gC_39_44, gC_39_46, gC_39_47, gC_39_48, gC_39_49, bI_rI, bV_rV, bQ_rN, bQ_rR, bz_0, bz_1, bz_Z, hZ0, hZ1, Lay_setI, Lay_setA, lu, hu.2.2.2.1]
  · intro f u i _ hi hu ih
    have lu := hl.of hu.1
    obtain ⟨d, hd⟩ : ∃ d, k - i = d + 1 := ⟨k - i - 1, by omega⟩
    have hd2 : k - 1 - i = d := by omega
    have hd3 : k - (i + 1) = d := by omega
    have n1 : ¬ nI d < 0 := nI_pos (by omega)
    have l160 : p + i < 160 := by omega
    have st := hu.step (c := 50) (a := 39) (b := 17) (by decide) hi
    rw [hd2] at st
    have q1 : mI (setI u 50 (p + i) (byt w d)) 39 17 = nI (p + i) := by rw [setI_ne (by decide)]; exact hu.2.2.2.1
    show ∃ z, fm_feed_33 _ _ u w (nI (k - i) + (-1)) = _ ∧ _
    rw [hd, pk_m1]
    have := ih _ () st
    rw [hd3] at this
    simp only [fm_feed_33, n1, if_false, gI_39, pI_39, rc_39, al_40, as_40, ln_40, al_41, as_41, ln_41, al_42, as_42, ln_42, al_43, as_43, ln_43, al_44, as_44, ln_44, al_45, as_45, ln_45, al_46, as_46, ln_46, al_47, as_47, ln_47, al_48, as_48, ln_48, al_49, as_49, ln_49, al_50, as_50, ln_50, al_51, as_51, ln_51, al_52, as_52, ln_52, al_53, as_53, ln_53, al_54, as_54, ln_54, al_55, as_55, ln_55, al_56, as_56, ln_56, al_57, as_57, ln_57, al_58, as_58, ln_58, al_59, as_59, ln_59, al_60, as_60, ln_60, al_61, as_61, ln_61, al_62, as_62, ln_62, al_63, as_63, ln_63, al_64, as_64, ln_64, al_65, as_65, ln_65, al_66, as_66, ln_66, al_67, as_67, ln_67, gC_39_4, gC_39_5, gC_39_6, gC_39_7, gC_39_8, gC_39_10, gC_39_11, gC_39_12, gC_39_13, gC_39_15, gC_39_16, gC_39_18, gC_39_19, gC_39_27, gC_39_28, gC_39_29, gC_39_30, gC_39_31, gC_39_36, gC_39_37, gC_39_41, gC_39_42, gC_39_43, gC_39_44, gC_39_46, gC_39_47, gC_39_48, gC_39_49, bI_rI, bV_rV, bQ_rN, bQ_rR, bz_0, bz_1, bz_Z, hZ0, hZ1, Lay_setI, Lay_setA, lu, hu.2.2.2.1, l160, byt_m, q1, nI_1]
    exact this
theorem ok_feed (h : Inv n m s g x p t) (w : Int64) (b : Int32) : Okk t (fun t => fx_feed t w b) (fun t => fm_feed t w b) := by
  have hr := h.rng
  have hl := h.lay
  by_cases e1 : b < 1
  · refine okr h (v := -2) ?_ ?_
    · simp only [fx_feed, e1, if_true]
    · simp only [fm_feed, fm_in_v, decide_eq_false (Int32.not_le.mpr e1), Bool.false_and, bI_rI, bz_0, if_true]
  · by_cases e2 : b ≤ 8
    · obtain ⟨k, hk, rfl⟩ := nI_of (ge1 e1)
      have k8 : k ≤ 8 := (nI_leI (b := 8) hk (by decide)).mp e2
      have ein : (decide ((1 : Int32) ≤ nI k) && decide (nI k ≤ 8)) = true := by rw [decide_eq_true (Int32.not_lt.mp e1), decide_eq_true e2]; rfl
      have z1 : (nI (p + k) ≤ 160) = (p + k ≤ 160) := propext (nI_leI (b := 160) (by omega) (by decide))
      by_cases c : p + k ≤ 160
      · obtain ⟨t1, f1, d1⟩ := feedx_v hl h.tp' w k8 c
        have l1 := hl.of d1.1
        obtain ⟨t2, f2, d2⟩ := feedm_v l1 (p := p) (by rw [d1.2.1 39 (by decide) (by decide)]; exact h.tp) w k8 c
        have f1' : fx_feed t w (nI k) = rI (nI (p + k)) t1 := by
          simp only [fx_feed, e1, e2, if_true, if_false, gI_0, pI_0, rc_0, gI_1, pI_1, rc_1, ln_2, ql_2, al_3, as_3, ln_3, al_4, as_4, ln_4, gI_5, pI_5, rc_5, ln_6, ql_6, al_7, as_7, ln_7, al_8, as_8, ln_8, ln_9, ql_9, gI_10, pI_10, rc_10, al_11, as_11, ln_11, al_12, as_12, ln_12, gI_13, pI_13, rc_13, al_14, as_14, ln_14, ln_15, ql_15, gI_16, pI_16, rc_16, al_17, as_17, ln_17, al_18, as_18, ln_18, al_19, as_19, ln_19, al_20, as_20, ln_20, bl_21, bs_21, ln_21, gI_22, pI_22, rc_22, al_23, as_23, ln_23, al_24, as_24, ln_24, al_25, as_25, ln_25, gI_31, pI_31, rc_31, al_32, as_32, ln_32, gI_33, pI_33, rc_33, al_34, as_34, ln_34, gI_35, pI_35, rc_35, al_36, as_36, ln_36, gI_37, pI_37, rc_37, al_38, as_38, ln_38, gC_0_3, gC_0_4, gC_0_5, gC_0_7, gC_0_10, gC_0_11, gC_0_12, gC_0_13, gC_0_14, gC_0_15, gC_0_16, gC_0_17, gC_1_0, gC_1_2, gC_1_3, gC_5_0, gC_5_2, gC_10_0, gC_10_7, gC_13_5, gC_16_0, gC_16_2, gC_22_0, gC_22_1, gC_22_2, gC_22_3, gC_31_2, gC_33_2, gC_35_2, gC_37_2, bI_rI, bV_rV, bQ_rN, bQ_rR, bz_0, bz_1, bz_Z, hZ0, hZ1, Lay_setI, Lay_setA, hl, h.tp', nI_add, z1, c, sub1]; exact f1
        have f2' : fm_feed t1 w (nI k) = rI (nI (p + k)) t2 := by
          have t17 : mI t1 39 17 = nI p := by rw [d1.2.1 39 (by decide) (by decide)]; exact h.tp
          simp only [fm_feed, fm_in_v, ein, if_true, if_false, Bool.true_eq_false, gI_39, pI_39, rc_39, al_40, as_40, ln_40, al_41, as_41, ln_41, al_42, as_42, ln_42, al_43, as_43, ln_43, al_44, as_44, ln_44, al_45, as_45, ln_45, al_46, as_46, ln_46, al_47, as_47, ln_47, al_48, as_48, ln_48, al_49, as_49, ln_49, al_50, as_50, ln_50, al_51, as_51, ln_51, al_52, as_52, ln_52, al_53, as_53, ln_53, al_54, as_54, ln_54, al_55, as_55, ln_55, al_56, as_56, ln_56, al_57, as_57, ln_57, al_58, as_58, ln_58, al_59, as_59, ln_59, al_60, as_60, ln_60, al_61, as_61, ln_61, al_62, as_62, ln_62, al_63, as_63, ln_63, al_64, as_64, ln_64, al_65, as_65, ln_65, al_66, as_66, ln_66, al_67, as_67, ln_67, gC_39_4, gC_39_5, gC_39_6, gC_39_7, gC_39_8, gC_39_10, gC_39_11, gC_39_12, gC_39_13, gC_39_15, gC_39_16, gC_39_18, gC_39_19, gC_39_27, gC_39_28, gC_39_29, gC_39_30, gC_39_31, gC_39_36, gC_39_37, gC_39_41, gC_39_42, gC_39_43, gC_39_44, gC_39_46, gC_39_47, gC_39_48, gC_39_49, bI_rI, bV_rV, bQ_rN, bQ_rR, bz_0, bz_1, bz_Z, hZ0, hZ1, Lay_setI, Lay_setA, l1, t17, nI_add, z1, c, sub1]; exact f2
        have ee : t2.2 = t.2 := d2.1.trans d1.1
        have rows : ∀ q, q ∉ [10, 11, 39, 50] → mI t2 q = mI t q := fun q hq => by
          simp at hq
          rw [d2.2.1 q (by omega) (by omega), d1.2.1 q (by omega) (by omega)]
        have r1 : SR [10, 11, 39, 50] (pm t) (pm t2) := fun q hq => pm_rw ee (rows q hq)
        have w39 : ∀ j, j ≠ 17 → pm t2 39 j = pm t 39 j := fun j hj => pm_of ee (by rw [d2.2.2.1 j hj, d1.2.1 39 (by decide) (by decide)])
        have w10 : ∀ j, j ≠ 1 → pm t2 10 j = pm t 10 j := fun j hj => pm_of ee (by rw [d2.2.1 10 (by decide) (by decide), d1.2.2.1 j hj])
        have l2 := hl.of ee
        have v17 : pm t2 39 17 = nI (p + k) := by rw [← pm_fx l2 rfl rfl]; exact d2.2.2.2.1
        have v10 : pm t2 10 1 = nI (p + k) := by rw [← pm_fx l2 rfl rfl, d2.2.1 10 (by decide) (by decide)]; exact d1.2.2.2.1
        obtain ⟨_, ⟨a1, a2⟩, ⟨b1, b2⟩, ⟨c1, c2⟩, ⟨d3, d4⟩, ⟨e3, e4⟩, ⟨g1, g2⟩, g3, g4, g5, gl1, gl2, gl3⟩ := h.num
        have q0 := r1 0 (by decide); have q1 := r1 1 (by decide); have q5 := r1 5 (by decide); have q13 := r1 13 (by decide); have q14 := r1 14 (by decide); have q53 := r1 53 (by decide)
        obtain ⟨i1, i2, i3, i4, i5, i6, ik, il, j1, j2, j3, j4, j5, j6⟩ := h.img
        refine okc f1' f2' l1 (n' := n) (m' := m) (s' := s) (g' := g) (x' := x) (p' := p + k) ?_ (by unfold mN; rw [ee]) (by unfold mZ; rw [ee])
        refine h.asm ee (r1.up (by decide)) (IvN.mk ⟨hr.1, hr.2.1, hr.2.2.1, hr.2.2.2.1, hr.2.2.2.2.1, c⟩ ?_ ?_ ?_ ?_ ?_ ?_ ?_ ?_ ?_ ?_ v17 v10 ?_ ?_ ?_ ⟨gl1, gl2, by rw [w39 21 (by decide), gl3]⟩) (h.gos.c r1 (by decide) (by decide)) ?_ ?_ (h.shs.c r1 (fun k a b hm => by simp at hm; omega) (by decide) (by decide) (by decide))
        · rw [w39 0 (by decide), a1]
        · rw [q0, a2]
        · rw [w39 3 (by decide), b1]
        · rw [q1, b2]
        · rw [w39 9 (by decide), c1]
        · rw [q5, c2]
        · rw [w39 14 (by decide), d3]
        · rw [q0, d4]
        · rw [w39 20 (by decide), e3]
        · rw [q0, e4]
        · rw [w39 1 (by decide), q0, g3]
        · rw [w39 2 (by decide), q0, g4]
        · rw [w39 21 (by decide), q0, g5]
        · intro i hi
          have m11 : pm t2 11 i = mI t1 11 i := by rw [← rp_11 l2, d2.2.1 11 (by decide) (by decide)]
          have m50 : pm t2 50 i = mI t2 50 i := (rp_50 l2).symm
          rw [m11, m50, d1.2.2.2.2, d2.2.2.2.2, d1.2.1 50 (by decide) (by decide)]
          by_cases ci : p ≤ i ∧ i < p + k
          · rw [if_pos ci, if_pos ci]; exact ⟨rfl, byt_is _ _⟩
          · rw [if_neg ci, if_neg ci, rp_11 hl, rp_50 hl]
            exact h.tap i (by omega)
        · unfold IvI
          rw [q13, q14, q53, w39 22 (by decide), w39 23 (by decide), w39 24 (by decide), w39 25 (by decide), w39 26 (by decide)]
          exact h.img
      · refine okr h (v := -4) ?_ ?_
        · simp only [fx_feed, e1, e2, if_true, if_false, gI_0, pI_0, rc_0, gI_1, pI_1, rc_1, ln_2, ql_2, al_3, as_3, ln_3, al_4, as_4, ln_4, gI_5, pI_5, rc_5, ln_6, ql_6, al_7, as_7, ln_7, al_8, as_8, ln_8, ln_9, ql_9, gI_10, pI_10, rc_10, al_11, as_11, ln_11, al_12, as_12, ln_12, gI_13, pI_13, rc_13, al_14, as_14, ln_14, ln_15, ql_15, gI_16, pI_16, rc_16, al_17, as_17, ln_17, al_18, as_18, ln_18, al_19, as_19, ln_19, al_20, as_20, ln_20, bl_21, bs_21, ln_21, gI_22, pI_22, rc_22, al_23, as_23, ln_23, al_24, as_24, ln_24, al_25, as_25, ln_25, gI_31, pI_31, rc_31, al_32, as_32, ln_32, gI_33, pI_33, rc_33, al_34, as_34, ln_34, gI_35, pI_35, rc_35, al_36, as_36, ln_36, gI_37, pI_37, rc_37, al_38, as_38, ln_38, gC_0_3, gC_0_4, gC_0_5, gC_0_7, gC_0_10, gC_0_11, gC_0_12, gC_0_13, gC_0_14, gC_0_15, gC_0_16, gC_0_17, gC_1_0, gC_1_2, gC_1_3, gC_5_0, gC_5_2, gC_10_0, gC_10_7, gC_13_5, gC_16_0, gC_16_2, gC_22_0, gC_22_1, gC_22_2, gC_22_3, gC_31_2, gC_33_2, gC_35_2, gC_37_2, bI_rI, bV_rV, bQ_rN, bQ_rR, bz_0, bz_1, bz_Z, hZ0, hZ1, Lay_setI, Lay_setA, hl, h.tp', nI_add, z1, c]
        · simp only [fm_feed, fm_in_v, ein, if_true, if_false, Bool.true_eq_false, gI_39, pI_39, rc_39, al_40, as_40, ln_40, al_41, as_41, ln_41, al_42, as_42, ln_42, al_43, as_43, ln_43, al_44, as_44, ln_44, al_45, as_45, ln_45, al_46, as_46, ln_46, al_47, as_47, ln_47, al_48, as_48, ln_48, al_49, as_49, ln_49, al_50, as_50, ln_50, al_51, as_51, ln_51, al_52, as_52, ln_52, al_53, as_53, ln_53, al_54, as_54, ln_54, al_55, as_55, ln_55, al_56, as_56, ln_56, al_57, as_57, ln_57, al_58, as_58, ln_58, al_59, as_59, ln_59, al_60, as_60, ln_60, al_61, as_61, ln_61, al_62, as_62, ln_62, al_63, as_63, ln_63, al_64, as_64, ln_64, al_65, as_65, ln_65, al_66, as_66, ln_66, al_67, as_67, ln_67, gC_39_4, gC_39_5, gC_39_6, gC_39_7, gC_39_8, gC_39_10, gC_39_11, gC_39_12, gC_39_13, gC_39_15, gC_39_16, gC_39_18, gC_39_19, gC_39_27, gC_39_28, gC_39_29, gC_39_30, gC_39_31, gC_39_36, gC_39_37, gC_39_41, gC_39_42, gC_39_43, gC_39_44, gC_39_46, gC_39_47, gC_39_48, gC_39_49, bI_rI, bV_rV, bQ_rN, bQ_rR, bz_0, bz_1, bz_Z, hZ0, hZ1, Lay_setI, Lay_setA, hl, h.tp, nI_add, z1, c]
    · refine okr h (v := -2) ?_ ?_
      · simp only [fx_feed, e1, if_false, e2]
      · simp only [fm_feed, fm_in_v, decide_eq_false e2, Bool.and_false, bI_rI, bz_0, if_true]
/-! price -/
theorem ok_price (h : Inv n m s g x p t) (a b : Int32) : Okk t (fun t => fx_price t a b) (fun t => fm_price t a b) := by
  have hr := h.rng
  have hl := h.lay
  cases c : inr a m
  · refine okr h (v := -1) ?_ ?_
    · simp only [fx_price, gI_0, pI_0, rc_0, gI_1, pI_1, rc_1, ln_2, ql_2, al_3, as_3, ln_3, al_4, as_4, ln_4, gI_5, pI_5, rc_5, ln_6, ql_6, al_7, as_7, ln_7, al_8, as_8, ln_8, ln_9, ql_9, gI_10, pI_10, rc_10, al_11, as_11, ln_11, al_12, as_12, ln_12, gI_13, pI_13, rc_13, al_14, as_14, ln_14, ln_15, ql_15, gI_16, pI_16, rc_16, al_17, as_17, ln_17, al_18, as_18, ln_18, al_19, as_19, ln_19, al_20, as_20, ln_20, bl_21, bs_21, ln_21, gI_22, pI_22, rc_22, al_23, as_23, ln_23, al_24, as_24, ln_24, al_25, as_25, ln_25, gI_31, pI_31, rc_31, al_32, as_32, ln_32, gI_33, pI_33, rc_33, al_34, as_34, ln_34, gI_35, pI_35, rc_35, al_36, as_36, ln_36, gI_37, pI_37, rc_37, al_38, as_38, ln_38, gC_0_3, gC_0_4, gC_0_5, gC_0_7, gC_0_10, gC_0_11, gC_0_12, gC_0_13, gC_0_14, gC_0_15, gC_0_16, gC_0_17, gC_1_0, gC_1_2, gC_1_3, gC_5_0, gC_5_2, gC_10_0, gC_10_7, gC_13_5, gC_16_0, gC_16_2, gC_22_0, gC_22_1, gC_22_2, gC_22_3, gC_31_2, gC_33_2, gC_35_2, gC_37_2, bI_rI, bV_rV, bQ_rN, bQ_rR, bz_0, bz_1, bz_Z, hZ0, hZ1, Lay_setI, Lay_setA, hl, chartAt_no h c]
    · simp only [fm_price, gI_39, pI_39, rc_39, al_40, as_40, ln_40, al_41, as_41, ln_41, al_42, as_42, ln_42, al_43, as_43, ln_43, al_44, as_44, ln_44, al_45, as_45, ln_45, al_46, as_46, ln_46, al_47, as_47, ln_47, al_48, as_48, ln_48, al_49, as_49, ln_49, al_50, as_50, ln_50, al_51, as_51, ln_51, al_52, as_52, ln_52, al_53, as_53, ln_53, al_54, as_54, ln_54, al_55, as_55, ln_55, al_56, as_56, ln_56, al_57, as_57, ln_57, al_58, as_58, ln_58, al_59, as_59, ln_59, al_60, as_60, ln_60, al_61, as_61, ln_61, al_62, as_62, ln_62, al_63, as_63, ln_63, al_64, as_64, ln_64, al_65, as_65, ln_65, al_66, as_66, ln_66, al_67, as_67, ln_67, gC_39_4, gC_39_5, gC_39_6, gC_39_7, gC_39_8, gC_39_10, gC_39_11, gC_39_12, gC_39_13, gC_39_15, gC_39_16, gC_39_18, gC_39_19, gC_39_27, gC_39_28, gC_39_29, gC_39_30, gC_39_31, gC_39_36, gC_39_37, gC_39_41, gC_39_42, gC_39_43, gC_39_44, gC_39_46, gC_39_47, gC_39_48, gC_39_49, bI_rI, bV_rV, bQ_rN, bQ_rR, bz_0, bz_1, bz_Z, hZ0, hZ1, Lay_setI, Lay_setA, hl, fm_isMap_v h, c, if_true]
  · obtain ⟨i, hi, rfl⟩ := inr_t c (by omega)
    obtain ⟨q, eq1, hq, hc⟩ := chartAt_in h hi
    have i8 : i < 8 := by omega
    have in100 : (decide ((0 : Int32) ≤ b) && decide (b ≤ 99)) = inr b 100 := inr_in (N := 100) (by decide)
    cases cb : inr b 100
    · refine okr h (v := -2) ?_ ?_
      · simp only [fx_price, gI_0, pI_0, rc_0, gI_1, pI_1, rc_1, ln_2, ql_2, al_3, as_3, ln_3, al_4, as_4, ln_4, gI_5, pI_5, rc_5, ln_6, ql_6, al_7, as_7, ln_7, al_8, as_8, ln_8, ln_9, ql_9, gI_10, pI_10, rc_10, al_11, as_11, ln_11, al_12, as_12, ln_12, gI_13, pI_13, rc_13, al_14, as_14, ln_14, ln_15, ql_15, gI_16, pI_16, rc_16, al_17, as_17, ln_17, al_18, as_18, ln_18, al_19, as_19, ln_19, al_20, as_20, ln_20, bl_21, bs_21, ln_21, gI_22, pI_22, rc_22, al_23, as_23, ln_23, al_24, as_24, ln_24, al_25, as_25, ln_25, gI_31, pI_31, rc_31, al_32, as_32, ln_32, gI_33, pI_33, rc_33, al_34, as_34, ln_34, gI_35, pI_35, rc_35, al_36, as_36, ln_36, gI_37, pI_37, rc_37, al_38, as_38, ln_38, gC_0_3, gC_0_4, gC_0_5, gC_0_7, gC_0_10, gC_0_11, gC_0_12, gC_0_13, gC_0_14, gC_0_15, gC_0_16, gC_0_17, gC_1_0, gC_1_2, gC_1_3, gC_5_0, gC_5_2, gC_10_0, gC_10_7, gC_13_5, gC_16_0, gC_16_2, gC_22_0, gC_22_1, gC_22_2, gC_22_3, gC_31_2, gC_33_2, gC_35_2, gC_37_2, bI_rI, bV_rV, bQ_rN, bQ_rR, bz_0, bz_1, bz_Z, hZ0, hZ1, Lay_setI, Lay_setA, hl, eq1]
        rw [if_in (M := 99) b 100 (by decide) (by decide) rfl, cb]; rfl
      · simp only [fm_price, fm_in_v, in100, gI_39, pI_39, rc_39, al_40, as_40, ln_40, al_41, as_41, ln_41, al_42, as_42, ln_42, al_43, as_43, ln_43, al_44, as_44, ln_44, al_45, as_45, ln_45, al_46, as_46, ln_46, al_47, as_47, ln_47, al_48, as_48, ln_48, al_49, as_49, ln_49, al_50, as_50, ln_50, al_51, as_51, ln_51, al_52, as_52, ln_52, al_53, as_53, ln_53, al_54, as_54, ln_54, al_55, as_55, ln_55, al_56, as_56, ln_56, al_57, as_57, ln_57, al_58, as_58, ln_58, al_59, as_59, ln_59, al_60, as_60, ln_60, al_61, as_61, ln_61, al_62, as_62, ln_62, al_63, as_63, ln_63, al_64, as_64, ln_64, al_65, as_65, ln_65, al_66, as_66, ln_66, al_67, as_67, ln_67, gC_39_4, gC_39_5, gC_39_6, gC_39_7, gC_39_8, gC_39_10, gC_39_11, gC_39_12, gC_39_13, gC_39_15, gC_39_16, gC_39_18, gC_39_19, gC_39_27, gC_39_28, gC_39_29, gC_39_30, gC_39_31, gC_39_36, gC_39_37, gC_39_41, gC_39_42, gC_39_43, gC_39_44, gC_39_46, gC_39_47, gC_39_48, gC_39_49, bI_rI, bV_rV, bQ_rN, bQ_rR, bz_0, bz_1, bz_Z, hZ0, hZ1, Lay_setI, Lay_setA, hl, fm_isMap_v h, c, cb, if_false, if_true, Bool.true_eq_false]
    · have hpt : ∀ c : SM → OR, hPutI t 2 q 5 b c = c (setI t q 5 b) := fun c => if_pos hc.2.1
      have f1 : fx_price t (nI i) b = rI (pm t 44 i) (setI t q 5 b) := by
        simp only [fx_price, gI_0, pI_0, rc_0, gI_1, pI_1, rc_1, ln_2, ql_2, al_3, as_3, ln_3, al_4, as_4, ln_4, gI_5, pI_5, rc_5, ln_6, ql_6, al_7, as_7, ln_7, al_8, as_8, ln_8, ln_9, ql_9, gI_10, pI_10, rc_10, al_11, as_11, ln_11, al_12, as_12, ln_12, gI_13, pI_13, rc_13, al_14, as_14, ln_14, ln_15, ql_15, gI_16, pI_16, rc_16, al_17, as_17, ln_17, al_18, as_18, ln_18, al_19, as_19, ln_19, al_20, as_20, ln_20, bl_21, bs_21, ln_21, gI_22, pI_22, rc_22, al_23, as_23, ln_23, al_24, as_24, ln_24, al_25, as_25, ln_25, gI_31, pI_31, rc_31, al_32, as_32, ln_32, gI_33, pI_33, rc_33, al_34, as_34, ln_34, gI_35, pI_35, rc_35, al_36, as_36, ln_36, gI_37, pI_37, rc_37, al_38, as_38, ln_38, gC_0_3, gC_0_4, gC_0_5, gC_0_7, gC_0_10, gC_0_11, gC_0_12, gC_0_13, gC_0_14, gC_0_15, gC_0_16, gC_0_17, gC_1_0, gC_1_2, gC_1_3, gC_5_0, gC_5_2, gC_10_0, gC_10_7, gC_13_5, gC_16_0, gC_16_2, gC_22_0, gC_22_1, gC_22_2, gC_22_3, gC_31_2, gC_33_2, gC_35_2, gC_37_2, bI_rI, bV_rV, bQ_rN, bQ_rR, bz_0, bz_1, bz_Z, hZ0, hZ1, Lay_setI, Lay_setA, hl, eq1]
        rw [if_in (M := 99) b 100 (by decide) (by decide) rfl, cb, if_pos rfl, hc.i5, hpt]
      have q68 := hc.1.1
      have l1 : Lay (setI t q 5 b) := hl
      have c39 : mI (setI t q 5 b) 39 = mI t 39 := setI_ne (by omega)
      have c44 : mI (setI t q 5 b) 44 i = pm t 44 i := by rw [setI_ne (by omega)]; exact rp_44 hl
      have f2 : fm_price (setI t q 5 b) (nI i) b = rI (pm t 44 i) (setI (setI t q 5 b) 44 i b) := by
        simp only [fm_price, fm_isMap, fm_in_v, in100, gI_39, pI_39, rc_39, al_40, as_40, ln_40, al_41, as_41, ln_41, al_42, as_42, ln_42, al_43, as_43, ln_43, al_44, as_44, ln_44, al_45, as_45, ln_45, al_46, as_46, ln_46, al_47, as_47, ln_47, al_48, as_48, ln_48, al_49, as_49, ln_49, al_50, as_50, ln_50, al_51, as_51, ln_51, al_52, as_52, ln_52, al_53, as_53, ln_53, al_54, as_54, ln_54, al_55, as_55, ln_55, al_56, as_56, ln_56, al_57, as_57, ln_57, al_58, as_58, ln_58, al_59, as_59, ln_59, al_60, as_60, ln_60, al_61, as_61, ln_61, al_62, as_62, ln_62, al_63, as_63, ln_63, al_64, as_64, ln_64, al_65, as_65, ln_65, al_66, as_66, ln_66, al_67, as_67, ln_67, gC_39_4, gC_39_5, gC_39_6, gC_39_7, gC_39_8, gC_39_10, gC_39_11, gC_39_12, gC_39_13, gC_39_15, gC_39_16, gC_39_18, gC_39_19, gC_39_27, gC_39_28, gC_39_29, gC_39_30, gC_39_31, gC_39_36, gC_39_37, gC_39_41, gC_39_42, gC_39_43, gC_39_44, gC_39_46, gC_39_47, gC_39_48, gC_39_49, bI_rI, bV_rV, bQ_rN, bQ_rR, bz_0, bz_1, bz_Z, hZ0, hZ1, Lay_setI, Lay_setA, l1, c39, h.mp, inr_in (show m < 2 ^ 30 by omega), c, cb, if_false, Bool.true_eq_false, i8, c44]
      have sq : scr (mT t) q 5 = false := by
        unfold scr
        rw [scrF_hi q68, hc.2.1]
        simp [hc.2.2.1]
      have w : ∀ z j, pm (setI (setI t q 5 b) 44 i b) z j = if z = 44 ∧ j = i then b else if z = q ∧ j = 5 then b else pm t z j := by
        intro z j
        rw [pmI_44_r l1, pm_set sq]
      have r1 : SR [q, 44] (pm t) (pm (setI (setI t q 5 b) 44 i b)) := ((SR.refl _ _).st (by simp)).st (by simp)
      have nq : ∀ k, k < 68 → k ≠ 44 → k ∉ [q, 44] := fun k h1 h2 hm => by simp at hm; omega
      refine okc f1 f2 hl (n' := n) (m' := m) (s' := s) (g' := g) (x' := x) (p' := p) ⟨hl, ?_⟩ rfl rfl
      have e0 := r1 0 (nq 0 (by decide) (by decide)); have e39 := r1 39 (nq 39 (by decide) (by decide)); have e1 := r1 1 (nq 1 (by decide) (by decide)); have e5 := r1 5 (nq 5 (by decide) (by decide)); have e10 := r1 10 (nq 10 (by decide) (by decide)); have e13 := r1 13 (nq 13 (by decide) (by decide)); have e14 := r1 14 (nq 14 (by decide) (by decide)); have e53 := r1 53 (nq 53 (by decide) (by decide))
      refine ⟨?_, h.gos.c r1 (nq _ (by decide) (by decide)) (nq _ (by decide) (by decide)), h.tap.c r1 (nq _ (by decide) (by decide)) (nq _ (by decide) (by decide)), ?_, h.shs.c r1 (fun k a b => nq k (by omega) (by omega)) (nq _ (by decide) (by decide)) (nq _ (by decide) (by decide)) (nq _ (by decide) (by decide)),
        h.mps.c r1 (nq _ (by decide) (by decide)) (nq _ (by decide) (by decide)) (nq _ (by decide) (by decide)) (nq _ (by decide) (by decide)), ⟨?_, h.chs.2⟩, h.agg.c r1 (nq _ (by decide) (by decide)) (nq _ (by decide) (by decide)) (nq _ (by decide) (by decide)) (nq _ (by decide) (by decide)) (nq _ (by decide) (by decide)), ?_, ?_, h.tgs, h.wds.c r1 (nq _ (by decide) (by decide))⟩
      · have := h.num
        unfold IvN at *
        rw [e0, e39, e1, e5, e10]; exact this
      · have := h.img
        unfold IvI at *
        rw [e13, e39, e14, e53]; exact this
      · intro j hj
        obtain ⟨q', hq', hc'⟩ := h.chs.1 j hj
        have h68' := hc'.1.1
        refine ⟨q', hq', hc'.1, hc'.2.1, hc'.2.2.1, ?_, ?_, ?_, ?_, ?_, ?_⟩
        · rw [w, w, if_neg (by omega), if_neg (by omega), if_neg (by omega), if_neg (by omega)]; exact hc'.2.2.2.1
        · rw [w, w, if_neg (by omega), if_neg (by omega), if_neg (by omega), if_neg (by omega)]; exact hc'.2.2.2.2.1
        · rw [w, w, if_neg (by omega), if_neg (by omega), if_neg (by omega), if_neg (by omega)]; exact hc'.2.2.2.2.2.1
        · rw [w, w, if_neg (by omega), if_neg (by omega), if_neg (by omega), if_neg (by omega)]; exact hc'.2.2.2.2.2.2.1
        · rw [r1 40 (nq _ (by decide) (by decide)), r1 41 (nq _ (by decide) (by decide)), r1 43 (nq _ (by decide) (by decide)), w, if_neg (by omega), if_neg (by omega)]; exact hc'.2.2.2.2.2.2.2.1
        · have h68 := hc'.1.1
          by_cases e : j = i
          · subst e
            rw [hq] at hq'
            obtain rfl := Option.some.inj hq'
            rw [w, w, if_neg (by omega), if_pos ⟨rfl, rfl⟩, if_pos ⟨rfl, rfl⟩]
          · have : q' ≠ q := fun e2 => e (h.chs.2 j i q hj hi (by rw [← e2]; exact hq') hq)
            rw [w, w, if_neg (by omega), if_neg (fun z => this z.1), if_neg (fun z => e z.2), if_neg (by omega)]; exact hc'.2.2.2.2.2.2.2.2
      · intro j hj
        obtain ⟨v1, q', hq', hc'⟩ := h.sts j hj
        have h68 := hc'.1.1
        have hne : q' ≠ q := fun e => by
          have a1 := hc'.2.1; have a2 := hc.2.1
          rw [e, a2] at a1; exact absurd a1 (by decide)
        refine ⟨by unfold StV; rw [r1 45 (nq _ (by decide) (by decide)), r1 46 (nq _ (by decide) (by decide)), r1 47 (nq _ (by decide) (by decide)), r1 48 (nq _ (by decide) (by decide))]; exact v1, q', hq', ?_⟩
        unfold StA
        rw [r1 q' (fun hm => by simp at hm; omega), r1 45 (nq _ (by decide) (by decide)), r1 46 (nq _ (by decide) (by decide)), r1 47 (nq _ (by decide) (by decide)), r1 48 (nq _ (by decide) (by decide))]
        exact hc'
      · intro j hj
        obtain ⟨q', hq', a, b', c', d, e, f, gg⟩ := h.txs j hj
        have tq : (mT t q).1 = 2 := hc.2.1
        have ne1 : q' ≠ q := fun e => by rw [e, tq] at b'; exact absurd b' (by decide)
        refine ⟨q', hq', a, b', c', d, e, fun z hz => ?_, fun z hz => ?_⟩
        · obtain ⟨f1, b1, d1, f2, f3, f4, f5, f6, f7, f8⟩ := f z hz
          have ne2 : q' - 3 + z ≠ q := fun e => by rw [e] at f6; have := congrArg Prod.fst f6; rw [tq] at this; exact absurd (show (2 : Nat) = 20 from this) (by decide)
          have ha := a.1
          refine ⟨f1, b1, d1, f2, f3, by rw [r1 52 (nq _ (by decide) (by decide))]; exact f4, by rw [r1 52 (nq _ (by decide) (by decide))]; exact f5, f6, fun k hk2 => ?_, by rw [cds_c r1 (nq _ (by decide) (by decide)) (nq _ (by decide) (by decide))]; exact f8⟩
          obtain ⟨cc, g1, g2, g3⟩ := f7 k hk2
          exact ⟨cc, g1, by rw [r1 51 (nq _ (by decide) (by decide))]; exact g2, by rw [r1 _ (fun hm => by simp at hm; omega)]; exact g3⟩
        · have ha := a.1
          rw [r1 q' (fun hm => by simp at hm; omega), cds_c r1 (nq _ (by decide) (by decide)) (nq _ (by decide) (by decide))]; exact gg z hz
end
