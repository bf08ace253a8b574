section
variable {n m s g x p : Nat} {t u : SM} {G : GG}
theorem r6 (a : Int32) : inr a 6 = true ↔ ¬ a < 0 ∧ ¬ 5 < a := by
  rw [← (inr_in (N := 6) (v := a) (by decide)), Bool.and_eq_true, decide_eq_true_eq, decide_eq_true_eq, Int32.not_lt, Int32.not_lt]; exact Iff.rfl
theorem r10 (a : Int32) : inr a 10 = true ↔ ¬ a < 0 ∧ ¬ 9 < a := by
  rw [← (inr_in (N := 10) (v := a) (by decide)), Bool.and_eq_true, decide_eq_true_eq, decide_eq_true_eq, Int32.not_lt, Int32.not_lt]; exact Iff.rfl
theorem CI.town (h : CI n m G t) (v : Int32) : fx_isTown t v = rI (bz (inr v (2 ^ n))) t := by
  have := h.2.2.1
  simp only [fx_isTown, gI_0, pI_0, rc_0, gI_1, pI_1, rc_1, ln_2, ql_2, al_3, as_3, ln_3, al_4, as_4, ln_4, gI_5, pI_5, rc_5, ln_6, ql_6, al_7, as_7, ln_7, al_8, as_8, ln_8, ln_9, ql_9, gI_10, pI_10, rc_10, al_11, as_11, ln_11, al_12, as_12, ln_12, gI_13, pI_13, rc_13, al_14, as_14, ln_14, ln_15, ql_15, gI_16, pI_16, rc_16, al_17, as_17, ln_17, al_18, as_18, ln_18, al_19, as_19, ln_19, al_20, as_20, ln_20, bl_21, bs_21, ln_21, gI_22, pI_22, rc_22, al_23, as_23, ln_23, al_24, as_24, ln_24, al_25, as_25, ln_25, gI_31, pI_31, rc_31, al_32, as_32, ln_32, gI_33, pI_33, rc_33, al_34, as_34, ln_34, gI_35, pI_35, rc_35, al_36, as_36, ln_36, gI_37, pI_37, rc_37, al_38, as_38, ln_38, gC_0_3, gC_0_4, gC_0_5, gC_0_7, gC_0_10, gC_0_11, gC_0_12, gC_0_13, gC_0_14, gC_0_15, gC_0_16, gC_0_17, gC_1_0, gC_1_2, gC_1_3, gC_5_0, gC_5_2, gC_10_0, gC_10_7, gC_13_5, gC_16_0, gC_16_2, gC_22_0, gC_22_1, gC_22_2, gC_22_3, gC_31_2, gC_33_2, gC_35_2, gC_37_2, bI_rI, bV_rV, bQ_rN, bQ_rR, bz_0, bz_1, bz_Z, hZ0, hZ1, Lay_setI, Lay_setA, h.1, h.2.1.1, b_pow n (by omega), inr_c]
theorem rm (h : m ≤ 8) {d : Int32} (hd : inr d 10 = true) : (d < nI m) = (inr d m = true) := by
  have := ((r10 d).mp hd).1
  unfold inr
  rw [decide_eq_true (Int32.not_lt.mp this), Bool.true_and, decide_eq_true_eq]
def mv (n m : Nat) (a b c d : Int32) : Bool := inr a 6 && (inr b (2 ^ n) && (inr c (2 ^ n) && (inr d 10 && (decide (¬ a = 1) || inr d m))))
theorem fx_map_e (h : CI n m G t) (a b c d : Int32) : fx_map t a b c d = if mv n m a b c d = true then bI (fAt_add t a b c d) (fun v w => rI v w) else rI (-2) t := by
  have hm := h.2.2.1.2
  unfold mv
  cases ca : inr a 6
  · rw [if_neg (by simp)]
    unfold fx_map
    by_cases e1 : a < 0
    · rw [if_pos e1]
    · rw [if_neg e1, if_pos]
      by_cases e2 : 5 < a
      · exact e2
      · have := (r6 a).mpr ⟨e1, e2⟩
        rw [ca] at this; exact absurd this (by decide)
  · have ha := (r6 a).mp ca
    simp only [fx_map, ha.1, ha.2, if_false, gI_0, pI_0, rc_0, gI_1, pI_1, rc_1, ln_2, ql_2, al_3, as_3, ln_3, al_4, as_4, ln_4, gI_5, pI_5, rc_5, ln_6, ql_6, al_7, as_7, ln_7, al_8, as_8, ln_8, ln_9, ql_9, gI_10, pI_10, rc_10, al_11, as_11, ln_11, al_12, as_12, ln_12, gI_13, pI_13, rc_13, al_14, as_14, ln_14, ln_15, ql_15, gI_16, pI_16, rc_16, al_17, as_17, ln_17, al_18, as_18, ln_18, al_19, as_19, ln_19, al_20, as_20, ln_20, bl_21, bs_21, ln_21, gI_22, pI_22, rc_22, al_23, as_23, ln_23, al_24, as_24, ln_24, al_25, as_25, ln_25, gI_31, pI_31, rc_31, al_32, as_32, ln_32, gI_33, pI_33, rc_33, al_34, as_34, ln_34, gI_35, pI_35, rc_35, al_36, as_36, ln_36, gI_37, pI_37, rc_37, al_38, as_38, ln_38, gC_0_3, gC_0_4, gC_0_5, gC_0_7, gC_0_10, gC_0_11, gC_0_12, gC_0_13, gC_0_14, gC_0_15, gC_0_16, gC_0_17, gC_1_0, gC_1_2, gC_1_3, gC_5_0, gC_5_2, gC_10_0, gC_10_7, gC_13_5, gC_16_0, gC_16_2, gC_22_0, gC_22_1, gC_22_2, gC_22_3, gC_31_2, gC_33_2, gC_35_2, gC_37_2, bI_rI, bV_rV, bQ_rN, bQ_rR, bz_0, bz_1, bz_Z, hZ0, hZ1, Lay_setI, Lay_setA, h.1, h.town, Bool.true_and]
    cases cb : inr b (2 ^ n)
    · simp only [if_true, Bool.false_and, Bool.false_eq_true, if_false]
    · cases cc : inr c (2 ^ n)
      · simp only [if_true, Bool.false_and, Bool.true_and, Bool.false_eq_true, Bool.true_eq_false, if_false]
      · simp only [Bool.true_and, Bool.true_eq_false, if_false]
        cases cd : inr d 10
        · simp only [Bool.false_and, Bool.false_eq_true, if_false]
          by_cases e1 : d < 0
          · rw [if_pos e1]
          · rw [if_neg e1, if_pos]
            by_cases e2 : 9 < d
            · exact e2
            · have := (r10 d).mpr ⟨e1, e2⟩
              rw [cd] at this; exact absurd this (by decide)
        · have hd := (r10 d).mp cd
          simp only [hd.1, hd.2, if_false, Bool.true_and, h.2.1.2, rm hm cd]
          by_cases e1 : a = 1
          · rw [if_pos e1, decide_eq_false (not_not_intro e1), Bool.false_or]
          · rw [if_neg e1, decide_eq_true e1, Bool.true_or, if_pos rfl]
theorem add_map (h : CI n m G t) (hm : m < 8) {a b c d : Nat} (ha : a < 6) (hb : b < 2 ^ n) (hc : c < 2 ^ n) (hd : d ≤ 9) (h1 : a = 1 → d < m) : ∃ u, fAt_add t (nI a) (nI b) (nI c) (nI d) = rI (nI m) u ∧ CI n (m + 1) (vg G m (nI a) (nI b) (nI c) (nI d)) u ∧ CF t u 1 := by
  have hl := h.1
  have h68 := hl.1
  have h11 := h.2.1.2
  have e1 : ¬ nI m < 0 := nI_pos (by omega)
  have e2 : nI m < nI 8 := nI_lt hm (by decide)
  have z1 : (nI a = 1) = (a = 1) := propext (nI_eq (a := a) (b := 1) (by omega) (by decide))
  have rc : ∀ c : OR, hRecv (mPush t 2 0 6) 2 (mN t) c = c := fun c => if_pos (by rw [mPush_T, if_pos rfl])
  have lc : ∀ e, Lay (chT t (nI a) (nI b) (nI c) (nI d) e) := fun e => Lay_push (t := t) (gg := 2) (l := 0) (z := 6) hl
  have c11 : ∀ e, mI (chT t (nI a) (nI b) (nI c) (nI d) e) 1 1 = nI m := fun e => by
    rw [chT_I, if_neg (by omega), if_neg (by omega), if_neg (by omega), if_neg (by omega), if_neg (by omega), if_neg (by omega), if_neg (by omega)]; exact h11
  have e50 : fAt_add_50 t (nI a) (nI b) (nI c) (nI d) = fAt_add_l80 (fun t u7 => fAt_add_139 t u7) 1000000 (chT t (nI a) (nI b) (nI c) (nI d) 0) (mN t) ((1 : Int32) <<< (nI m &&& 31)) 0 := by
    simp only [fAt_add_50, hNew, rc, ch_init, bV_rV, gI_0, pI_0, rc_0, gI_1, pI_1, rc_1, ln_2, ql_2, al_3, as_3, ln_3, al_4, as_4, ln_4, gI_5, pI_5, rc_5, ln_6, ql_6, al_7, as_7, ln_7, al_8, as_8, ln_8, ln_9, ql_9, gI_10, pI_10, rc_10, al_11, as_11, ln_11, al_12, as_12, ln_12, gI_13, pI_13, rc_13, al_14, as_14, ln_14, ln_15, ql_15, gI_16, pI_16, rc_16, al_17, as_17, ln_17, al_18, as_18, ln_18, al_19, as_19, ln_19, al_20, as_20, ln_20, bl_21, bs_21, ln_21, gI_22, pI_22, rc_22, al_23, as_23, ln_23, al_24, as_24, ln_24, al_25, as_25, ln_25, gI_31, pI_31, rc_31, al_32, as_32, ln_32, gI_33, pI_33, rc_33, al_34, as_34, ln_34, gI_35, pI_35, rc_35, al_36, as_36, ln_36, gI_37, pI_37, rc_37, al_38, as_38, ln_38, gC_0_3, gC_0_4, gC_0_5, gC_0_7, gC_0_10, gC_0_11, gC_0_12, gC_0_13, gC_0_14, gC_0_15, gC_0_16, gC_0_17, gC_1_0, gC_1_2, gC_1_3, gC_5_0, gC_5_2, gC_10_0, gC_10_7, gC_13_5, gC_16_0, gC_16_2, gC_22_0, gC_22_1, gC_22_2, gC_22_3, gC_31_2, gC_33_2, gC_35_2, gC_37_2, bI_rI, bV_rV, bQ_rN, bQ_rR, bz_0, bz_1, bz_Z, hZ0, hZ1, Lay_setI, Lay_setA, lc, c11]
  by_cases ea : a = 1
  · have hdm := h1 ea
    obtain ⟨q, hq, hcc⟩ := h.2.2.2.2.1.1 d hdm
    have i1 : ∀ c : Int32 → OR, hGetI t 2 q 1 c = c (G 41 d) := fun c => by unfold hGetI; rw [if_pos hcc.2.1, hcc.2.2.2.2.1]
    obtain ⟨u, f1, f2, f3⟩ := add_50 h hm ha hb hc hd h1 (e := G 41 d ^^^ nI b) (fun _ => rfl)
    refine ⟨u, ?_, f2, f3⟩
    simp only [fAt_add, gI_0, pI_0, rc_0, gI_1, pI_1, rc_1, ln_2, ql_2, al_3, as_3, ln_3, al_4, as_4, ln_4, gI_5, pI_5, rc_5, ln_6, ql_6, al_7, as_7, ln_7, al_8, as_8, ln_8, ln_9, ql_9, gI_10, pI_10, rc_10, al_11, as_11, ln_11, al_12, as_12, ln_12, gI_13, pI_13, rc_13, al_14, as_14, ln_14, ln_15, ql_15, gI_16, pI_16, rc_16, al_17, as_17, ln_17, al_18, as_18, ln_18, al_19, as_19, ln_19, al_20, as_20, ln_20, bl_21, bs_21, ln_21, gI_22, pI_22, rc_22, al_23, as_23, ln_23, al_24, as_24, ln_24, al_25, as_25, ln_25, gI_31, pI_31, rc_31, al_32, as_32, ln_32, gI_33, pI_33, rc_33, al_34, as_34, ln_34, gI_35, pI_35, rc_35, al_36, as_36, ln_36, gI_37, pI_37, rc_37, al_38, as_38, ln_38, gC_0_3, gC_0_4, gC_0_5, gC_0_7, gC_0_10, gC_0_11, gC_0_12, gC_0_13, gC_0_14, gC_0_15, gC_0_16, gC_0_17, gC_1_0, gC_1_2, gC_1_3, gC_5_0, gC_5_2, gC_10_0, gC_10_7, gC_13_5, gC_16_0, gC_16_2, gC_22_0, gC_22_1, gC_22_2, gC_22_3, gC_31_2, gC_33_2, gC_35_2, gC_37_2, bI_rI, bV_rV, bQ_rN, bQ_rR, bz_0, bz_1, bz_Z, hZ0, hZ1, Lay_setI, Lay_setA, hl, h11, e1, e2, if_true, if_false, chart_in hl h11 (by omega) hdm hq, z1, if_pos ea, i1, hNew, rc, ch_init, lc, c11]
    exact f1
  · obtain ⟨u, f1, f2, f3⟩ := add_50 h hm ha hb hc hd h1 (e := 0) (fun z => absurd z ea)
    refine ⟨u, ?_, f2, f3⟩
    have en : ∀ o : Option Nat, o = o := fun _ => rfl
    cases cd : inr (nI d) m
    · simp only [fAt_add, gI_0, pI_0, rc_0, gI_1, pI_1, rc_1, ln_2, ql_2, al_3, as_3, ln_3, al_4, as_4, ln_4, gI_5, pI_5, rc_5, ln_6, ql_6, al_7, as_7, ln_7, al_8, as_8, ln_8, ln_9, ql_9, gI_10, pI_10, rc_10, al_11, as_11, ln_11, al_12, as_12, ln_12, gI_13, pI_13, rc_13, al_14, as_14, ln_14, ln_15, ql_15, gI_16, pI_16, rc_16, al_17, as_17, ln_17, al_18, as_18, ln_18, al_19, as_19, ln_19, al_20, as_20, ln_20, bl_21, bs_21, ln_21, gI_22, pI_22, rc_22, al_23, as_23, ln_23, al_24, as_24, ln_24, al_25, as_25, ln_25, gI_31, pI_31, rc_31, al_32, as_32, ln_32, gI_33, pI_33, rc_33, al_34, as_34, ln_34, gI_35, pI_35, rc_35, al_36, as_36, ln_36, gI_37, pI_37, rc_37, al_38, as_38, ln_38, gC_0_3, gC_0_4, gC_0_5, gC_0_7, gC_0_10, gC_0_11, gC_0_12, gC_0_13, gC_0_14, gC_0_15, gC_0_16, gC_0_17, gC_1_0, gC_1_2, gC_1_3, gC_5_0, gC_5_2, gC_10_0, gC_10_7, gC_13_5, gC_16_0, gC_16_2, gC_22_0, gC_22_1, gC_22_2, gC_22_3, gC_31_2, gC_33_2, gC_35_2, gC_37_2, bI_rI, bV_rV, bQ_rN, bQ_rR, bz_0, bz_1, bz_Z, hZ0, hZ1, Lay_setI, Lay_setA, hl, h11, e1, e2, if_true, if_false, chart_no hl h11 cd, z1, if_neg ea, e50]
      exact f1
    · obtain ⟨d', hd', ed⟩ := inr_t cd (by omega)
      obtain ⟨q, hq, hcc⟩ := h.2.2.2.2.1.1 d' hd'
      have ci : fAt_chartAt t (nI d) = rR q t := by rw [ed]; exact chart_in hl h11 (by omega) hd' hq
      simp only [fAt_add, gI_0, pI_0, rc_0, gI_1, pI_1, rc_1, ln_2, ql_2, al_3, as_3, ln_3, al_4, as_4, ln_4, gI_5, pI_5, rc_5, ln_6, ql_6, al_7, as_7, ln_7, al_8, as_8, ln_8, ln_9, ql_9, gI_10, pI_10, rc_10, al_11, as_11, ln_11, al_12, as_12, ln_12, gI_13, pI_13, rc_13, al_14, as_14, ln_14, ln_15, ql_15, gI_16, pI_16, rc_16, al_17, as_17, ln_17, al_18, as_18, ln_18, al_19, as_19, ln_19, al_20, as_20, ln_20, bl_21, bs_21, ln_21, gI_22, pI_22, rc_22, al_23, as_23, ln_23, al_24, as_24, ln_24, al_25, as_25, ln_25, gI_31, pI_31, rc_31, al_32, as_32, ln_32, gI_33, pI_33, rc_33, al_34, as_34, ln_34, gI_35, pI_35, rc_35, al_36, as_36, ln_36, gI_37, pI_37, rc_37, al_38, as_38, ln_38, gC_0_3, gC_0_4, gC_0_5, gC_0_7, gC_0_10, gC_0_11, gC_0_12, gC_0_13, gC_0_14, gC_0_15, gC_0_16, gC_0_17, gC_1_0, gC_1_2, gC_1_3, gC_5_0, gC_5_2, gC_10_0, gC_10_7, gC_13_5, gC_16_0, gC_16_2, gC_22_0, gC_22_1, gC_22_2, gC_22_3, gC_31_2, gC_33_2, gC_35_2, gC_37_2, bI_rI, bV_rV, bQ_rN, bQ_rR, bz_0, bz_1, bz_Z, hZ0, hZ1, Lay_setI, Lay_setA, hl, h11, e1, e2, if_true, if_false, ci, z1, if_neg ea, e50]
      exact f1
theorem add_full (h : CI n 8 G t) (a b c d : Int32) : fAt_add t a b c d = rI (-4) t := by
  have e1 : ¬ nI 8 < 0 := by decide
  have e2 : ¬ nI 8 < nI 8 := by decide
  simp only [fAt_add, gI_0, pI_0, rc_0, gI_1, pI_1, rc_1, ln_2, ql_2, al_3, as_3, ln_3, al_4, as_4, ln_4, gI_5, pI_5, rc_5, ln_6, ql_6, al_7, as_7, ln_7, al_8, as_8, ln_8, ln_9, ql_9, gI_10, pI_10, rc_10, al_11, as_11, ln_11, al_12, as_12, ln_12, gI_13, pI_13, rc_13, al_14, as_14, ln_14, ln_15, ql_15, gI_16, pI_16, rc_16, al_17, as_17, ln_17, al_18, as_18, ln_18, al_19, as_19, ln_19, al_20, as_20, ln_20, bl_21, bs_21, ln_21, gI_22, pI_22, rc_22, al_23, as_23, ln_23, al_24, as_24, ln_24, al_25, as_25, ln_25, gI_31, pI_31, rc_31, al_32, as_32, ln_32, gI_33, pI_33, rc_33, al_34, as_34, ln_34, gI_35, pI_35, rc_35, al_36, as_36, ln_36, gI_37, pI_37, rc_37, al_38, as_38, ln_38, gC_0_3, gC_0_4, gC_0_5, gC_0_7, gC_0_10, gC_0_11, gC_0_12, gC_0_13, gC_0_14, gC_0_15, gC_0_16, gC_0_17, gC_1_0, gC_1_2, gC_1_3, gC_5_0, gC_5_2, gC_10_0, gC_10_7, gC_13_5, gC_16_0, gC_16_2, gC_22_0, gC_22_1, gC_22_2, gC_22_3, gC_31_2, gC_33_2, gC_35_2, gC_37_2, bI_rI, bV_rV, bQ_rN, bQ_rR, bz_0, bz_1, bz_Z, hZ0, hZ1, Lay_setI, Lay_setA, h.1, h.2.1.2, e1, e2, if_false]
end
