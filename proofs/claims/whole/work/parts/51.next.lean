section
variable {n m s g x p : Nat} {t0 t u : SM}
/-! years -/
def yn (G : GG) (i w : Nat) : Nat := cn9 (G 41 i ^^^ nI w) - 1
def ylo (G : GG) (i : Nat) (L : List Nat) : Nat := L.foldl (fun a w => if yn G i w < a then yn G i w else a) 9
def yhi (G : GG) (i : Nat) (L : List Nat) : Nat := L.foldl (fun a w => if a < yn G i w then yn G i w else a) 0
theorem mx1 : ∀ c, c ≤ 9 → (if (0 : Int32) < nI c - 1 then nI c - 1 else 0) = nI (c - 1) ∧ ((0 : Int32) ≤ nI c - 1) = (1 ≤ c) := by
  intro c hc
  have : c = 0 ∨ c = 1 ∨ c = 2 ∨ c = 3 ∨ c = 4 ∨ c = 5 ∨ c = 6 ∨ c = 7 ∨ c = 8 ∨ c = 9 := by omega
  rcases this with rfl | rfl | rfl | rfl | rfl | rfl | rfl | rfl | rfl | rfl <;> decide
theorem yn_le (G : GG) (i w : Nat) : yn G i w ≤ 8 := by unfold yn; have := cn9_le (G 41 i ^^^ nI w); omega
theorem ylo_le (G : GG) (i : Nat) : ∀ (L : List Nat) (a : Nat), a ≤ 9 → L.foldl (fun a w => if yn G i w < a then yn G i w else a) a ≤ 9 := by
  intro L
  induction L with
  | nil => intro a h; exact h
  | cons w L ih => intro a h; exact ih _ (by have := yn_le G i w; show ite _ _ _ ≤ 9; split <;> omega)
theorem yhi_le (G : GG) (i : Nat) : ∀ (L : List Nat) (a : Nat), a ≤ 9 → L.foldl (fun a w => if a < yn G i w then yn G i w else a) a ≤ 9 := by
  intro L
  induction L with
  | nil => intro a h; exact h
  | cons w L ih => intro a h; exact ih _ (by have := yn_le G i w; show ite _ _ _ ≤ 9; split <;> omega)
theorem ylo_s (G : GG) (i : Nat) (L : List Nat) (w : Nat) : ylo G i (L ++ [w]) = if yn G i w < ylo G i L then yn G i w else ylo G i L := by unfold ylo; rw [List.foldl_append]; rfl
theorem yhi_s (G : GG) (i : Nat) (L : List Nat) (w : Nat) : yhi G i (L ++ [w]) = if yhi G i L < yn G i w then yn G i w else yhi G i L := by unfold yhi; rw [List.foldl_append]; rfl
theorem take_s {L : List Nat} {k : Nat} (h : k < L.length) : L.take (k + 1) = L.take k ++ [L.getD k 0] := by
  rw [List.take_succ, List.getD_eq_getElem?_getD, List.getElem?_eq_getElem h]; rfl
theorem getD_mem {L : List Nat} {k : Nat} (h : k < L.length) : L.getD k 0 ∈ L := by
  rw [List.getD_eq_getElem?_getD, List.getElem?_eq_getElem h]; exact List.getElem_mem h
def s_years (n m : Nat) (G : GG) (a b : Int32) : Int32 := if inr a m = true then (if inr b 2 = true then (if WL n m G (oth m a) = [] then -1 else if b = 0 then nI (ylo G (cN a) (WL n m G (oth m a))) else nI (yhi G (cN a) (WL n m G (oth m a)))) else -7) else -5
theorem yr_loop {L : List Nat} {i q : Nat} (hu : Inv n m s g x p u) (gu : FdC L u) (hl : L.length ≤ 512) (hL : ∀ w, w ∈ L → w < 2 ^ n) (hc' : ChA (pm u) (mT u) (mN u) i q) (hi : i < m) (b : Int32) :
    fx_years_l58 (fun t u2 u4 u5 => fx_years_119 t u2 u4 u5) 1000000 u b q 9 0 0 = rI (if b = 0 then nI (ylo (pm u) i L) else nI (yhi (pm u) i L)) u := by
  have hr := hu.rng
  have hpw := pw_lt (n := n) (by omega)
  obtain ⟨_, ⟨a1, ha1, f1⟩, _, _⟩ := hu.mps i hi
  refine for_up (β := Int32 × Int32) (fun f t k b' => fx_years_l58 (fun t u2 u4 u5 => fx_years_119 t u2 u4 u5) f t b q b'.1 b'.2 (nI k)) (fun r => r = rI (if b = 0 then nI (ylo (pm u) i L) else nI (yhi (pm u) i L)) u) L.length
    (fun k w b' => w = u ∧ b'.1 = nI (ylo (pm u) i (L.take k)) ∧ b'.2 = nI (yhi (pm u) i (L.take k))) ?_ ?_ L.length 0 u (9, 0) 1000000 (by omega) ⟨rfl, rfl, rfl⟩ (by omega)
  · intro f w b' ⟨ew, e1, e2⟩
    subst ew
    have e9 : nI L.length ≤ nI L.length := Int32.le_refl _
    show fx_years_58 _ _ w b q _ _ (nI L.length) = _
    simp only [fx_years_58, gI_0, pI_0, rc_0, gI_1, pI_1, rc_1, ln_2, ql_2, al_3, as_3, ln_3, al_4, as_4, ln_4, gI_5, pI_5, rc_5, ln_6, ql_6, al_7, as_7, ln_7, al_8, as_8, ln_8, ln_9, ql_9, gI_10, pI_10, rc_10, al_11, as_11, ln_11, al_12, as_12, ln_12, gI_13, pI_13, rc_13, al_14, as_14, ln_14, ln_15, ql_15, gI_16, pI_16, rc_16, al_17, as_17, ln_17, al_18, as_18, ln_18, al_19, as_19, ln_19, al_20, as_20, ln_20, bl_21, bs_21, ln_21, gI_22, pI_22, rc_22, al_23, as_23, ln_23, al_24, as_24, ln_24, al_25, as_25, ln_25, gI_31, pI_31, rc_31, al_32, as_32, ln_32, gI_33, pI_33, rc_33, al_34, as_34, ln_34, gI_35, pI_35, rc_35, al_36, as_36, ln_36, gI_37, pI_37, rc_37, al_38, as_38, ln_38, gC_0_3, gC_0_4, gC_0_5, gC_0_7, gC_0_10, gC_0_11, gC_0_12, gC_0_13, gC_0_14, gC_0_15, gC_0_16, gC_0_17, gC_1_0, gC_1_2, gC_1_3, gC_5_0, gC_5_2, gC_10_0, gC_10_7, gC_13_5, gC_16_0, gC_16_2, gC_22_0, gC_22_1, gC_22_2, gC_22_3, gC_31_2, gC_33_2, gC_35_2, gC_37_2, bI_rI, bV_rV, bQ_rN, bQ_rR, bz_0, bz_1, bz_Z, hZ0, hZ1, Lay_setI, Lay_setA, hu.lay, gu.1, e9, if_true, fx_years_119, e1, e2, List.take_length, rI_ite]
  · intro f w k b' hk ⟨ew, e1, e2⟩ ih
    subst ew
    have e9 : ¬ nI L.length ≤ nI k := nI_ge hk (by omega)
    have hw := hL _ (getD_mem hk)
    have ex : ∃ r, r < 512 ∧ pm w 41 i ^^^ nI (L.getD k 0) = nI r := by
      obtain ⟨r, h1, h2⟩ := nI_small (v := pm w 41 i ^^^ nI (L.getD k 0)) (n := n) (by omega) (fun j hj hn => by rw [b_xor, f1, bt_lt ha1 (by omega) hn, bt_lt hw (by omega) hn]; rfl)
      exact ⟨r, by omega, h2⟩
    obtain ⟨r, hr1, hr2⟩ := ex
    have ey : cn9 (nI r) - 1 = yn (pm w) i (L.getD k 0) := by unfold yn; rw [← hr2]
    have hc9 := cn9_le (nI r)
    have l1 : ylo (pm w) i (L.take k) ≤ 9 := ylo_le _ _ _ _ (Nat.le_refl 9)
    have l2 : yhi (pm w) i (L.take k) ≤ 9 := yhi_le _ _ _ _ (Nat.zero_le 9)
    have hy := yn_le (pm w) i (L.getD k 0)
    show fx_years_58 _ _ w b q _ _ (nI k) = _
    simp only [fx_years_58, gI_0, pI_0, rc_0, gI_1, pI_1, rc_1, ln_2, ql_2, al_3, as_3, ln_3, al_4, as_4, ln_4, gI_5, pI_5, rc_5, ln_6, ql_6, al_7, as_7, ln_7, al_8, as_8, ln_8, ln_9, ql_9, gI_10, pI_10, rc_10, al_11, as_11, ln_11, al_12, as_12, ln_12, gI_13, pI_13, rc_13, al_14, as_14, ln_14, ln_15, ql_15, gI_16, pI_16, rc_16, al_17, as_17, ln_17, al_18, as_18, ln_18, al_19, as_19, ln_19, al_20, as_20, ln_20, bl_21, bs_21, ln_21, gI_22, pI_22, rc_22, al_23, as_23, ln_23, al_24, as_24, ln_24, al_25, as_25, ln_25, gI_31, pI_31, rc_31, al_32, as_32, ln_32, gI_33, pI_33, rc_33, al_34, as_34, ln_34, gI_35, pI_35, rc_35, al_36, as_36, ln_36, gI_37, pI_37, rc_37, al_38, as_38, ln_38, gC_0_3, gC_0_4, gC_0_5, gC_0_7, gC_0_10, gC_0_11, gC_0_12, gC_0_13, gC_0_14, gC_0_15, gC_0_16, gC_0_17, gC_1_0, gC_1_2, gC_1_3, gC_5_0, gC_5_2, gC_10_0, gC_10_7, gC_13_5, gC_16_0, gC_16_2, gC_22_0, gC_22_1, gC_22_2, gC_22_3, gC_31_2, gC_33_2, gC_35_2, gC_37_2, bI_rI, bV_rV, bQ_rN, bQ_rR, bz_0, bz_1, bz_Z, hZ0, hZ1, Lay_setI, Lay_setA, hu.lay, gu.1, e9, if_false, hc'.i1, fWd_townAt_v hu.lay gu hl, twn_i hk hl, hr2, bc_on w hr1, onc_nI, fjM_max_v, fjM_min_v, (mx1 _ hc9).1, ey, nI_1, e1, e2]
    have q1 : (if nI (yn (pm w) i (L.getD k 0)) < nI (ylo (pm w) i (L.take k)) then nI (yn (pm w) i (L.getD k 0)) else nI (ylo (pm w) i (L.take k))) = nI (ylo (pm w) i (L.take (k + 1))) := by
      rw [take_s hk, ylo_s]
      by_cases c : yn (pm w) i (L.getD k 0) < ylo (pm w) i (L.take k)
      · rw [if_pos c, if_pos (nI_lt c (by omega))]
      · rw [if_neg c, if_neg (nI_nlt (by omega) (by omega))]
    have q2 : (if nI (yhi (pm w) i (L.take k)) < nI (yn (pm w) i (L.getD k 0)) then nI (yn (pm w) i (L.getD k 0)) else nI (yhi (pm w) i (L.take k))) = nI (yhi (pm w) i (L.take (k + 1))) := by
      rw [take_s hk, yhi_s]
      by_cases c : yhi (pm w) i (L.take k) < yn (pm w) i (L.getD k 0)
      · rw [if_pos c, if_pos (nI_lt c (by omega))]
      · rw [if_neg c, if_neg (nI_nlt (by omega) (by omega))]
    rw [q1, q2]
    exact ih w (nI (ylo (pm w) i (L.take (k + 1))), nI (yhi (pm w) i (L.take (k + 1)))) ⟨rfl, rfl, rfl⟩
theorem xq_years (h : Inv n m s g x p t) (a b : Int32) : QQ t (fx_years t a b) (s_years n m (pm t) a b) := by
  have hr := h.rng
  have hpw := pw_lt (n := n) (by omega)
  unfold s_years
  cases c1 : inr a m
  · simp only [fx_years, gI_0, pI_0, rc_0, gI_1, pI_1, rc_1, ln_2, ql_2, al_3, as_3, ln_3, al_4, as_4, ln_4, gI_5, pI_5, rc_5, ln_6, ql_6, al_7, as_7, ln_7, al_8, as_8, ln_8, ln_9, ql_9, gI_10, pI_10, rc_10, al_11, as_11, ln_11, al_12, as_12, ln_12, gI_13, pI_13, rc_13, al_14, as_14, ln_14, ln_15, ql_15, gI_16, pI_16, rc_16, al_17, as_17, ln_17, al_18, as_18, ln_18, al_19, as_19, ln_19, al_20, as_20, ln_20, bl_21, bs_21, ln_21, gI_22, pI_22, rc_22, al_23, as_23, ln_23, al_24, as_24, ln_24, al_25, as_25, ln_25, gI_31, pI_31, rc_31, al_32, as_32, ln_32, gI_33, pI_33, rc_33, al_34, as_34, ln_34, gI_35, pI_35, rc_35, al_36, as_36, ln_36, gI_37, pI_37, rc_37, al_38, as_38, ln_38, gC_0_3, gC_0_4, gC_0_5, gC_0_7, gC_0_10, gC_0_11, gC_0_12, gC_0_13, gC_0_14, gC_0_15, gC_0_16, gC_0_17, gC_1_0, gC_1_2, gC_1_3, gC_5_0, gC_5_2, gC_10_0, gC_10_7, gC_13_5, gC_16_0, gC_16_2, gC_22_0, gC_22_1, gC_22_2, gC_22_3, gC_31_2, gC_33_2, gC_35_2, gC_37_2, bI_rI, bV_rV, bQ_rN, bQ_rR, bz_0, bz_1, bz_Z, hZ0, hZ1, Lay_setI, Lay_setA, h.lay, chartAt_no h c1]; exact QQ.pure rfl
  · obtain ⟨i, hi, rfl⟩ := inr_t c1 (by omega)
    obtain ⟨q, e1, _, hc⟩ := chartAt_in h hi
    obtain ⟨u, eu, fu, gu⟩ := fx_findWorlds_v h (oth m (nI i))
    have hu := h.fr fu.1
    have hl := WL_le (m := m) (show n ≤ 9 by omega) (pm t) (oth m (nI i))
    have hc' : ChA (pm u) (mT u) (mN u) i q := by rw [fu.1.2, fu.1.T, fu.1.N]; exact hc
    simp only [fx_years, gI_0, pI_0, rc_0, gI_1, pI_1, rc_1, ln_2, ql_2, al_3, as_3, ln_3, al_4, as_4, ln_4, gI_5, pI_5, rc_5, ln_6, ql_6, al_7, as_7, ln_7, al_8, as_8, ln_8, ln_9, ql_9, gI_10, pI_10, rc_10, al_11, as_11, ln_11, al_12, as_12, ln_12, gI_13, pI_13, rc_13, al_14, as_14, ln_14, ln_15, ql_15, gI_16, pI_16, rc_16, al_17, as_17, ln_17, al_18, as_18, ln_18, al_19, as_19, ln_19, al_20, as_20, ln_20, bl_21, bs_21, ln_21, gI_22, pI_22, rc_22, al_23, as_23, ln_23, al_24, as_24, ln_24, al_25, as_25, ln_25, gI_31, pI_31, rc_31, al_32, as_32, ln_32, gI_33, pI_33, rc_33, al_34, as_34, ln_34, gI_35, pI_35, rc_35, al_36, as_36, ln_36, gI_37, pI_37, rc_37, al_38, as_38, ln_38, gC_0_3, gC_0_4, gC_0_5, gC_0_7, gC_0_10, gC_0_11, gC_0_12, gC_0_13, gC_0_14, gC_0_15, gC_0_16, gC_0_17, gC_1_0, gC_1_2, gC_1_3, gC_5_0, gC_5_2, gC_10_0, gC_10_7, gC_13_5, gC_16_0, gC_16_2, gC_22_0, gC_22_1, gC_22_2, gC_22_3, gC_31_2, gC_33_2, gC_35_2, gC_37_2, bI_rI, bV_rV, bQ_rN, bQ_rR, bz_0, bz_1, bz_Z, hZ0, hZ1, Lay_setI, Lay_setA, h.lay, e1, fx_isZeroOrOne_v, if_true, fAt_everyMap_v h, eu, len_0 _ hl, cN_i (show i < 2 ^ 31 by omega)]
    cases c2 : inr b 2
    · simp only [if_true]; exact QQ.pure rfl
    · simp only [if_false, if_true, Bool.true_eq_false]
      by_cases c0 : WL n m (pm t) (oth m (nI i)) = []
      · rw [if_pos c0, if_pos c0]; exact ⟨u, rfl, fu.1⟩
      · rw [if_neg c0, if_neg c0]
        refine ⟨u, ?_, fu.1⟩
        rw [← fu.1.2] at hl gu c0 ⊢
        exact yr_loop hu gu hl (WL_lt _ _) hc' hi b
theorem mq_years {u : SM} (hu : Inv n m s g x p u) (a b : Int32) : QQ u (fm_years u a b) (s_years n m (pm u) a b) := by
  have hr := hu.rng
  have hpw := pw_lt (n := n) (by omega)
  unfold s_years
  simp only [fm_years, gI_39, pI_39, rc_39, al_40, as_40, ln_40, al_41, as_41, ln_41, al_42, as_42, ln_42, al_43, as_43, ln_43, al_44, as_44, ln_44, al_45, as_45, ln_45, al_46, as_46, ln_46, al_47, as_47, ln_47, al_48, as_48, ln_48, al_49, as_49, ln_49, al_50, as_50, ln_50, al_51, as_51, ln_51, al_52, as_52, ln_52, al_53, as_53, ln_53, al_54, as_54, ln_54, al_55, as_55, ln_55, al_56, as_56, ln_56, al_57, as_57, ln_57, al_58, as_58, ln_58, al_59, as_59, ln_59, al_60, as_60, ln_60, al_61, as_61, ln_61, al_62, as_62, ln_62, al_63, as_63, ln_63, al_64, as_64, ln_64, al_65, as_65, ln_65, al_66, as_66, ln_66, al_67, as_67, ln_67, gC_39_4, gC_39_5, gC_39_6, gC_39_7, gC_39_8, gC_39_10, gC_39_11, gC_39_12, gC_39_13, gC_39_15, gC_39_16, gC_39_18, gC_39_19, gC_39_27, gC_39_28, gC_39_29, gC_39_30, gC_39_31, gC_39_36, gC_39_37, gC_39_41, gC_39_42, gC_39_43, gC_39_44, gC_39_46, gC_39_47, gC_39_48, gC_39_49, bI_rI, bV_rV, bQ_rN, bQ_rR, bz_0, bz_1, bz_Z, hZ0, hZ1, Lay_setI, Lay_setA, hu.lay, fm_isMap_v hu, fm_in_v, in_2]
  cases c1 : inr a m
  · simp only [if_true]; exact QQ.pure rfl
  · obtain ⟨i, hi, rfl⟩ := inr_t c1 (by omega)
    simp only [if_false, if_true, Bool.true_eq_false, cN_i (show i < 2 ^ 31 by omega)]
    cases c2 : inr b 2
    · simp only [if_true]; exact QQ.pure rfl
    · obtain ⟨w, ew, fw, gw⟩ := agrees_in hu
      have hw := hu.fr fw.1
      have i8 : i < 8 := by omega
      simp only [if_false, if_true, Bool.true_eq_false, ew, gI_39, pI_39, rc_39, al_40, as_40, ln_40, al_41, as_41, ln_41, al_42, as_42, ln_42, al_43, as_43, ln_43, al_44, as_44, ln_44, al_45, as_45, ln_45, al_46, as_46, ln_46, al_47, as_47, ln_47, al_48, as_48, ln_48, al_49, as_49, ln_49, al_50, as_50, ln_50, al_51, as_51, ln_51, al_52, as_52, ln_52, al_53, as_53, ln_53, al_54, as_54, ln_54, al_55, as_55, ln_55, al_56, as_56, ln_56, al_57, as_57, ln_57, al_58, as_58, ln_58, al_59, as_59, ln_59, al_60, as_60, ln_60, al_61, as_61, ln_61, al_62, as_62, ln_62, al_63, as_63, ln_63, al_64, as_64, ln_64, al_65, as_65, ln_65, al_66, as_66, ln_66, al_67, as_67, ln_67, gC_39_4, gC_39_5, gC_39_6, gC_39_7, gC_39_8, gC_39_10, gC_39_11, gC_39_12, gC_39_13, gC_39_15, gC_39_16, gC_39_18, gC_39_19, gC_39_27, gC_39_28, gC_39_29, gC_39_30, gC_39_31, gC_39_36, gC_39_37, gC_39_41, gC_39_42, gC_39_43, gC_39_44, gC_39_46, gC_39_47, gC_39_48, gC_39_49, bI_rI, bV_rV, bQ_rN, bQ_rR, bz_0, bz_1, bz_Z, hZ0, hZ1, Lay_setI, Lay_setA, hw.lay, fm_allMaps_v hw]
      refine ⟨w, ?_, fw.1⟩
      refine for_up (β := Int32) (fun f t k b' => fm_years_l44 f t (nI i) b (oth m (nI i)) b' (nI k)) (fun r => r = rI (if WL n m (pm u) (oth m (nI i)) = [] then -1 else if b = 0 then nI (ylo (pm u) i (WL n m (pm u) (oth m (nI i)))) else nI (yhi (pm u) i (WL n m (pm u) (oth m (nI i))))) w) (2 ^ n)
        (fun k v b' => v = w ∧ b' = if wls (fun j => wp (pm u) m (oth m (nI i)) (nI j)) k = [] then -1 else if b = 0 then nI (ylo (pm u) i (wls (fun j => wp (pm u) m (oth m (nI i)) (nI j)) k)) else nI (yhi (pm u) i (wls (fun j => wp (pm u) m (oth m (nI i)) (nI j)) k)))
        ?_ ?_ (2 ^ n) 0 w (-1) 1000000 (by omega) ⟨rfl, rfl⟩ (by omega)
      · intro f v b' ⟨e0, e1⟩
        subst e0
        have e9 : nI (2 ^ n) ≤ nI (2 ^ n) := Int32.le_refl _
        show fm_years_44 _ v (nI i) b _ b' (nI (2 ^ n)) = _
        simp only [fm_years_44, gI_39, pI_39, rc_39, al_40, as_40, ln_40, al_41, as_41, ln_41, al_42, as_42, ln_42, al_43, as_43, ln_43, al_44, as_44, ln_44, al_45, as_45, ln_45, al_46, as_46, ln_46, al_47, as_47, ln_47, al_48, as_48, ln_48, al_49, as_49, ln_49, al_50, as_50, ln_50, al_51, as_51, ln_51, al_52, as_52, ln_52, al_53, as_53, ln_53, al_54, as_54, ln_54, al_55, as_55, ln_55, al_56, as_56, ln_56, al_57, as_57, ln_57, al_58, as_58, ln_58, al_59, as_59, ln_59, al_60, as_60, ln_60, al_61, as_61, ln_61, al_62, as_62, ln_62, al_63, as_63, ln_63, al_64, as_64, ln_64, al_65, as_65, ln_65, al_66, as_66, ln_66, al_67, as_67, ln_67, gC_39_4, gC_39_5, gC_39_6, gC_39_7, gC_39_8, gC_39_10, gC_39_11, gC_39_12, gC_39_13, gC_39_15, gC_39_16, gC_39_18, gC_39_19, gC_39_27, gC_39_28, gC_39_29, gC_39_30, gC_39_31, gC_39_36, gC_39_37, gC_39_41, gC_39_42, gC_39_43, gC_39_44, gC_39_46, gC_39_47, gC_39_48, gC_39_49, bI_rI, bV_rV, bQ_rN, bQ_rR, bz_0, bz_1, bz_Z, hZ0, hZ1, Lay_setI, Lay_setA, hw.lay, hw.ch, b_pow n (show n < 31 by omega), e9, if_true]
        rw [e1]; rfl
      · intro f v k b' hk ⟨e0, e1⟩ ih
        subst e0
        have e9 : ¬ nI (2 ^ n) ≤ nI k := nI_ge hk (by omega)
        have k512 : k < 512 := by omega
        have hc9 := cn9_le (pm u 41 i ^^^ nI k)
        show fm_years_44 _ v (nI i) b _ b' (nI k) = _
        simp only [fm_years_44, gI_39, pI_39, rc_39, al_40, as_40, ln_40, al_41, as_41, ln_41, al_42, as_42, ln_42, al_43, as_43, ln_43, al_44, as_44, ln_44, al_45, as_45, ln_45, al_46, as_46, ln_46, al_47, as_47, ln_47, al_48, as_48, ln_48, al_49, as_49, ln_49, al_50, as_50, ln_50, al_51, as_51, ln_51, al_52, as_52, ln_52, al_53, as_53, ln_53, al_54, as_54, ln_54, al_55, as_55, ln_55, al_56, as_56, ln_56, al_57, as_57, ln_57, al_58, as_58, ln_58, al_59, as_59, ln_59, al_60, as_60, ln_60, al_61, as_61, ln_61, al_62, as_62, ln_62, al_63, as_63, ln_63, al_64, as_64, ln_64, al_65, as_65, ln_65, al_66, as_66, ln_66, al_67, as_67, ln_67, gC_39_4, gC_39_5, gC_39_6, gC_39_7, gC_39_8, gC_39_10, gC_39_11, gC_39_12, gC_39_13, gC_39_15, gC_39_16, gC_39_18, gC_39_19, gC_39_27, gC_39_28, gC_39_29, gC_39_30, gC_39_31, gC_39_36, gC_39_37, gC_39_41, gC_39_42, gC_39_43, gC_39_44, gC_39_46, gC_39_47, gC_39_48, gC_39_49, bI_rI, bV_rV, bQ_rN, bQ_rR, bz_0, bz_1, bz_Z, hZ0, hZ1, Lay_setI, Lay_setA, hw.lay, hw.ch, b_pow n (show n < 31 by omega), e9, if_false, k512, gw k hk, agv_neg (pm u) m (nI k) (show m ≤ 8 by omega), i8, rp_3, rp_8, rp_11, rp_14, rp_32, rp_34, rp_36, rp_38, rp_40, rp_41, rp_42, rp_43, rp_44, rp_45, rp_46, rp_47, rp_48, rp_49, rp_50, rp_51, rp_52, rp_53, rp_54, rp_55, rp_56, rp_57, rp_58, fm_ones_v, fw.1.2, onc_nI, (mx1 _ hc9).2, nI_1]
        cases ca : act (pm u) (nI k)
        · simp only [if_true]
          refine ih v b' ⟨rfl, ?_⟩
          rw [show wls (fun j => wp (pm u) m (oth m (nI i)) (nI j)) (k + 1) = wls (fun j => wp (pm u) m (oth m (nI i)) (nI j)) k by rw [wls_s, if_neg (by simp [wp, ca])]]; exact e1
        · simp only [if_false, Bool.true_eq_false, agv_t ca]
          by_cases cb : (agB (pm u) m (nI k) &&& oth m (nI i)) = oth m (nI i)
          · rw [if_pos cb]
            have hst : wls (fun j => wp (pm u) m (oth m (nI i)) (nI j)) (k + 1) = wls (fun j => wp (pm u) m (oth m (nI i)) (nI j)) k ++ [k] := by rw [wls_s, if_pos (by simp [wp, ca, cb])]
            generalize wls (fun j => wp (pm u) m (oth m (nI i)) (nI j)) k = L at *
            have hne : L ++ [k] ≠ [] := by simp
            have hy := yn_le (pm u) i k
            have l1 := ylo_le (pm u) i L 9 (Nat.le_refl 9)
            have l2 := yhi_le (pm u) i L 0 (Nat.zero_le 9)
            have ey : cn9 (pm u 41 i ^^^ nI k) - 1 = yn (pm u) i k := rfl
            have goal2 : ∀ b2, b2 = (if b = 0 then nI (ylo (pm u) i (L ++ [k])) else nI (yhi (pm u) i (L ++ [k]))) → fm_years_l44 f v (nI i) b (oth m (nI i)) b2 (nI (k + 1)) = rI (if WL n m (pm u) (oth m (nI i)) = [] then -1 else if b = 0 then nI (ylo (pm u) i (WL n m (pm u) (oth m (nI i)))) else nI (yhi (pm u) i (WL n m (pm u) (oth m (nI i))))) v := by
              intro b2 hb2
              exact ih v b2 ⟨rfl, by rw [hst, if_neg hne]; exact hb2⟩
            have hz : (if 1 ≤ cn9 (pm u 41 i ^^^ nI k) then nI (cn9 (pm u 41 i ^^^ nI k)) - 1 else 0) = nI (yn (pm u) i k) := by
              rw [← ey]
              by_cases c : 1 ≤ cn9 (pm u 41 i ^^^ nI k)
              · rw [if_pos c]; exact pk_sub (b := 1) c
              · rw [if_neg c, show cn9 (pm u 41 i ^^^ nI k) - 1 = 0 by omega]; rfl
            have hz2 : ∀ A : Int32 → OR, (if 1 ≤ cn9 (pm u 41 i ^^^ nI k) then A (nI (cn9 (pm u 41 i ^^^ nI k)) - 1) else A 0) = A (nI (yn (pm u) i k)) := by
              intro A; rw [← hz]; split <;> rfl
            rw [hz2 (fun z => if b' = -1 then fm_years_l44 f v (nI i) b (oth m (nI i)) z (nI (k + 1)) else if b = 0 then if b' ≤ z then fm_years_l44 f v (nI i) b (oth m (nI i)) b' (nI (k + 1)) else fm_years_l44 f v (nI i) b (oth m (nI i)) z (nI (k + 1)) else if z ≤ b' then fm_years_l44 f v (nI i) b (oth m (nI i)) b' (nI (k + 1)) else fm_years_l44 f v (nI i) b (oth m (nI i)) z (nI (k + 1)))]
            by_cases cl : L = []
            · rw [if_pos cl] at e1
              rw [if_pos e1]
              refine goal2 _ ?_
              rw [cl, ylo_s, yhi_s]
              show _ = if b = 0 then nI (if yn (pm u) i k < 9 then yn (pm u) i k else 9) else nI (if 0 < yn (pm u) i k then yn (pm u) i k else 0)
              rw [if_pos (show yn (pm u) i k < 9 by omega)]
              have : (if 0 < yn (pm u) i k then yn (pm u) i k else 0) = yn (pm u) i k := by split <;> omega
              rw [this]
              split <;> rfl
            · rw [if_neg cl] at e1
              by_cases cz : b = 0
              · rw [if_pos cz] at e1
                have en : ¬ b' = -1 := by
                  rw [e1]; intro e; have := nI_pos (n := ylo (pm u) i L) (by unfold ylo; omega); rw [e] at this; exact this (by decide)
                rw [if_neg en, if_pos cz]
                by_cases cc : yn (pm u) i k < ylo (pm u) i L
                · rw [e1, if_neg (nI_ge cc (by unfold ylo; omega))]
                  exact goal2 _ (by rw [if_pos cz, ylo_s, if_pos cc])
                · rw [e1, if_pos (nI_le (by omega) (by omega))]
                  exact goal2 _ (by rw [if_pos cz, ylo_s, if_neg cc])
              · rw [if_neg cz] at e1
                have en : ¬ b' = -1 := by
                  rw [e1]; intro e; have := nI_pos (n := yhi (pm u) i L) (by unfold yhi; omega); rw [e] at this; exact this (by decide)
                rw [if_neg en, if_neg cz]
                by_cases cc : yhi (pm u) i L < yn (pm u) i k
                · rw [e1, if_neg (nI_ge cc (by omega))]
                  exact goal2 _ (by rw [if_neg cz, yhi_s, if_pos cc])
                · rw [e1, if_pos (nI_le (by omega) (by unfold yhi; omega))]
                  exact goal2 _ (by rw [if_neg cz, yhi_s, if_neg cc])
          · rw [if_neg cb]
            refine ih v b' ⟨rfl, ?_⟩
            rw [show wls (fun j => wp (pm u) m (oth m (nI i)) (nI j)) (k + 1) = wls (fun j => wp (pm u) m (oth m (nI i)) (nI j)) k by rw [wls_s, if_neg (by simp [wp, cb])]]; exact e1
theorem ok_years (h : Inv n m s g x p t) (a b : Int32) : Okk t (fun t => fx_years t a b) (fun t => fm_years t a b) := okq h (xq_years h a b) (fun u hu e => e ▸ mq_years hu a b)
end
