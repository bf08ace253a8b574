section
variable {n m s g x p : Nat} {t0 t u : SM}
/-! next -/
def hm (L : List Nat) (c : Nat) : Nat := L.foldl (fun a w => a + (if w.testBit c = true then 1 else 0)) 0
theorem hm_s (L : List Nat) (w c : Nat) : hm (L ++ [w]) c = hm L c + (if w.testBit c = true then 1 else 0) := by unfold hm; rw [List.foldl_append]; rfl
theorem hm_acc (c : Nat) : ∀ (L : List Nat) (a : Nat), L.foldl (fun a w => a + (if w.testBit c = true then 1 else 0)) a ≤ a + L.length := by
  intro L
  induction L with
  | nil => intro a; exact Nat.le_refl _
  | cons w L ih =>
    intro a
    have := ih (a + (if w.testBit c = true then 1 else 0))
    rw [List.foldl_cons, List.length_cons]
    have h2 : (if w.testBit c = true then 1 else 0) ≤ 1 := by split <;> omega
    omega
theorem hm_le (L : List Nat) (c : Nat) : hm L c ≤ L.length := by have := hm_acc c L 0; unfold hm; omega
theorem nI_bz (a : Nat) (b : Bool) : nI a + bz b = nI (a + (if b = true then 1 else 0)) := by
  cases b
  · simp [bz]
  · simp only [bz, if_true]; exact nI_1 a
theorem howManyHave_v {L : List Nat} (h : Lay u) (hf : FdC L u) (hl : L.length ≤ 512) (hb : ∀ w, w ∈ L → w < 512) {c : Nat} (hc : c < 9) : fWd_howManyHave u (nI c) = rI (nI (hm L c)) u := by
  unfold fWd_howManyHave
  refine for_up (β := Int32) (fun f t i a => fWd_howManyHave_l4 f t (nI c) a (nI i)) (fun r => r = rI (nI (hm L c)) u) L.length
    (fun i w a => w = u ∧ a = nI (hm (L.take i) c)) ?_ ?_ L.length 0 u 0 1000000 (by omega) ⟨rfl, rfl⟩ (by omega)
  · intro f w a ⟨e, ea⟩
    subst e
    have e1 : nI L.length ≤ nI L.length := Int32.le_refl _
    show fWd_howManyHave_4 _ w (nI c) a (nI L.length) = _
    simp only [fWd_howManyHave_4, gI_0, pI_0, rc_0, gI_1, pI_1, rc_1, ln_2, ql_2, al_3, as_3, ln_3, al_4, as_4, ln_4, gI_5, pI_5, rc_5, ln_6, ql_6, al_7, as_7, ln_7, al_8, as_8, ln_8, ln_9, ql_9, gI_10, pI_10, rc_10, al_11, as_11, ln_11, al_12, as_12, ln_12, gI_13, pI_13, rc_13, al_14, as_14, ln_14, ln_15, ql_15, gI_16, pI_16, rc_16, al_17, as_17, ln_17, al_18, as_18, ln_18, al_19, as_19, ln_19, al_20, as_20, ln_20, bl_21, bs_21, ln_21, gI_22, pI_22, rc_22, al_23, as_23, ln_23, al_24, as_24, ln_24, al_25, as_25, ln_25, gI_31, pI_31, rc_31, al_32, as_32, ln_32, gI_33, pI_33, rc_33, al_34, as_34, ln_34, gI_35, pI_35, rc_35, al_36, as_36, ln_36, gI_37, pI_37, rc_37, al_38, as_38, ln_38, gC_0_3, gC_0_4, gC_0_5, gC_0_7, gC_0_10, gC_0_11, gC_0_12, gC_0_13, gC_0_14, gC_0_15, gC_0_16, gC_0_17, gC_1_0, gC_1_2, gC_1_3, gC_5_0, gC_5_2, gC_10_0, gC_10_7, gC_13_5, gC_16_0, gC_16_2, gC_22_0, gC_22_1, gC_22_2, gC_22_3, gC_31_2, gC_33_2, gC_35_2, gC_37_2, bI_rI, bV_rV, bQ_rN, bQ_rR, bz_0, bz_1, bz_Z, hZ0, hZ1, Lay_setI, Lay_setA, h, hf.1, e1, if_true, ea, List.take_length]
  · intro f w i a hi ⟨e, ea⟩ ih
    subst e
    have e1 : ¬ nI L.length ≤ nI i := nI_ge hi (by omega)
    have hw := hb _ (getD_mem hi)
    show fWd_howManyHave_4 _ w (nI c) a (nI i) = _
    simp only [fWd_howManyHave_4, gI_0, pI_0, rc_0, gI_1, pI_1, rc_1, ln_2, ql_2, al_3, as_3, ln_3, al_4, as_4, ln_4, gI_5, pI_5, rc_5, ln_6, ql_6, al_7, as_7, ln_7, al_8, as_8, ln_8, ln_9, ql_9, gI_10, pI_10, rc_10, al_11, as_11, ln_11, al_12, as_12, ln_12, gI_13, pI_13, rc_13, al_14, as_14, ln_14, ln_15, ql_15, gI_16, pI_16, rc_16, al_17, as_17, ln_17, al_18, as_18, ln_18, al_19, as_19, ln_19, al_20, as_20, ln_20, bl_21, bs_21, ln_21, gI_22, pI_22, rc_22, al_23, as_23, ln_23, al_24, as_24, ln_24, al_25, as_25, ln_25, gI_31, pI_31, rc_31, al_32, as_32, ln_32, gI_33, pI_33, rc_33, al_34, as_34, ln_34, gI_35, pI_35, rc_35, al_36, as_36, ln_36, gI_37, pI_37, rc_37, al_38, as_38, ln_38, gC_0_3, gC_0_4, gC_0_5, gC_0_7, gC_0_10, gC_0_11, gC_0_12, gC_0_13, gC_0_14, gC_0_15, gC_0_16, gC_0_17, gC_1_0, gC_1_2, gC_1_3, gC_5_0, gC_5_2, gC_10_0, gC_10_7, gC_13_5, gC_16_0, gC_16_2, gC_22_0, gC_22_1, gC_22_2, gC_22_3, gC_31_2, gC_33_2, gC_35_2, gC_37_2, bI_rI, bV_rV, bQ_rN, bQ_rR, bz_0, bz_1, bz_Z, hZ0, hZ1, Lay_setI, Lay_setA, h, hf.1, e1, if_false, fWd_townAt_v h hf hl, twn_i hi hl, nI_1, ea, b_bit _ (show c < 32 by omega), b_ni _ _ (show L.getD i 0 < 2 ^ 32 by omega), nI_bz]
    exact ih w _ ⟨rfl, by rw [take_s hi, hm_s]⟩
def mxh (L : List Nat) (c : Nat) : Nat := if hm L c < L.length - hm L c then L.length - hm L c else hm L c
def nxs (L : List Nat) : Nat → Nat × Int32 → Nat × Int32 := fun c z => if mxh L c < z.1 then (mxh L c, nI c) else z
def nxt (L : List Nat) (n : Nat) : Nat × Int32 := fo (nxs L) (L.length, -1) n
theorem nxt_s (L : List Nat) (c : Nat) : nxt L (c + 1) = if mxh L c < (nxt L c).1 then (mxh L c, nI c) else nxt L c := rfl
theorem nxt_le (L : List Nat) : ∀ c, (nxt L c).1 ≤ L.length := by
  intro c
  induction c with
  | zero => exact Nat.le_refl _
  | succ c ih =>
    rw [nxt_s]
    by_cases hh : mxh L c < (nxt L c).1
    · rw [if_pos hh]; exact Nat.le_trans (Nat.le_of_lt hh) ih
    · rw [if_neg hh]; exact ih
theorem mxh_le (L : List Nat) (c : Nat) : mxh L c ≤ L.length := by have := hm_le L c; unfold mxh; split <;> omega
def s_next (n m : Nat) (G : GG) (a : Int32) : Int32 := if inr a 2 = true then (if WL n m G (evB m) = [] then -3 else if a = 0 then (nxt (WL n m G (evB m)) n).2 else nI (nxt (WL n m G (evB m)) n).1) else -2
theorem nx_loop {L : List Nat} (hu : Inv n m s g x p u) (gu : FdC L u) (hl : L.length ≤ 512) (hL : ∀ w, w ∈ L → w < 512) (a : Int32) :
    fx_next_l34 (fun t u1 u2 u3 => fx_next_89 t u1 u2 u3) 1000000 u a (nI L.length) (-1) 0 = rI (if a = 0 then (nxt L n).2 else nI (nxt L n).1) u := by
  have hr := hu.rng
  refine for_up (β := Int32 × Int32) (fun f t k b' => fx_next_l34 (fun t u1 u2 u3 => fx_next_89 t u1 u2 u3) f t a b'.1 b'.2 (nI k)) (fun r => r = rI (if a = 0 then (nxt L n).2 else nI (nxt L n).1) u) n
    (fun k w b' => w = u ∧ b'.1 = nI (nxt L k).1 ∧ b'.2 = (nxt L k).2) ?_ ?_ n 0 u (nI L.length, -1) 1000000 (by omega) ⟨rfl, rfl, rfl⟩ (by omega)
  · intro f w b' ⟨ew, e1, e2⟩
    subst ew
    have e9 : nI n ≤ nI n := Int32.le_refl _
    show fx_next_34 _ _ w a _ _ (nI n) = _
    simp only [fx_next_34, gI_0, pI_0, rc_0, gI_1, pI_1, rc_1, ln_2, ql_2, al_3, as_3, ln_3, al_4, as_4, ln_4, gI_5, pI_5, rc_5, ln_6, ql_6, al_7, as_7, ln_7, al_8, as_8, ln_8, ln_9, ql_9, gI_10, pI_10, rc_10, al_11, as_11, ln_11, al_12, as_12, ln_12, gI_13, pI_13, rc_13, al_14, as_14, ln_14, ln_15, ql_15, gI_16, pI_16, rc_16, al_17, as_17, ln_17, al_18, as_18, ln_18, al_19, as_19, ln_19, al_20, as_20, ln_20, bl_21, bs_21, ln_21, gI_22, pI_22, rc_22, al_23, as_23, ln_23, al_24, as_24, ln_24, al_25, as_25, ln_25, gI_31, pI_31, rc_31, al_32, as_32, ln_32, gI_33, pI_33, rc_33, al_34, as_34, ln_34, gI_35, pI_35, rc_35, al_36, as_36, ln_36, gI_37, pI_37, rc_37, al_38, as_38, ln_38, gC_0_3, gC_0_4, gC_0_5, gC_0_7, gC_0_10, gC_0_11, gC_0_12, gC_0_13, gC_0_14, gC_0_15, gC_0_16, gC_0_17, gC_1_0, gC_1_2, gC_1_3, gC_5_0, gC_5_2, gC_10_0, gC_10_7, gC_13_5, gC_16_0, gC_16_2, gC_22_0, gC_22_1, gC_22_2, gC_22_3, gC_31_2, gC_33_2, gC_35_2, gC_37_2, bI_rI, bV_rV, bQ_rN, bQ_rR, bz_0, bz_1, bz_Z, hZ0, hZ1, Lay_setI, Lay_setA, hu.lay, hu.ch', e9, if_true, fx_next_89, e1, e2, rI_ite]
  · intro f w k b' hk ⟨ew, e1, e2⟩ ih
    subst ew
    have e9 : ¬ nI n ≤ nI k := nI_ge hk (by omega)
    have h1 := hm_le L k
    have h2 := mxh_le L k
    have h3 := nxt_le L k
    have q1 : (if nI (hm L k) < nI (L.length - hm L k) then nI (L.length - hm L k) else nI (hm L k)) = nI (mxh L k) := by
      unfold mxh
      by_cases c : hm L k < L.length - hm L k
      · rw [if_pos c, if_pos (nI_lt c (by omega))]
      · rw [if_neg c, if_neg (nI_nlt (by omega) (by omega))]
    show fx_next_34 _ _ w a _ _ (nI k) = _
    simp only [fx_next_34, gI_0, pI_0, rc_0, gI_1, pI_1, rc_1, ln_2, ql_2, al_3, as_3, ln_3, al_4, as_4, ln_4, gI_5, pI_5, rc_5, ln_6, ql_6, al_7, as_7, ln_7, al_8, as_8, ln_8, ln_9, ql_9, gI_10, pI_10, rc_10, al_11, as_11, ln_11, al_12, as_12, ln_12, gI_13, pI_13, rc_13, al_14, as_14, ln_14, ln_15, ql_15, gI_16, pI_16, rc_16, al_17, as_17, ln_17, al_18, as_18, ln_18, al_19, as_19, ln_19, al_20, as_20, ln_20, bl_21, bs_21, ln_21, gI_22, pI_22, rc_22, al_23, as_23, ln_23, al_24, as_24, ln_24, al_25, as_25, ln_25, gI_31, pI_31, rc_31, al_32, as_32, ln_32, gI_33, pI_33, rc_33, al_34, as_34, ln_34, gI_35, pI_35, rc_35, al_36, as_36, ln_36, gI_37, pI_37, rc_37, al_38, as_38, ln_38, gC_0_3, gC_0_4, gC_0_5, gC_0_7, gC_0_10, gC_0_11, gC_0_12, gC_0_13, gC_0_14, gC_0_15, gC_0_16, gC_0_17, gC_1_0, gC_1_2, gC_1_3, gC_5_0, gC_5_2, gC_10_0, gC_10_7, gC_13_5, gC_16_0, gC_16_2, gC_22_0, gC_22_1, gC_22_2, gC_22_3, gC_31_2, gC_33_2, gC_35_2, gC_37_2, bI_rI, bV_rV, bQ_rN, bQ_rR, bz_0, bz_1, bz_Z, hZ0, hZ1, Lay_setI, Lay_setA, hu.lay, hu.ch', e9, if_false, howManyHave_v hu.lay gu hl hL (show k < 9 by omega), gu.1, pk_sub h1, fjM_max_v, q1, e1, e2, nI_1]
    by_cases c : mxh L k < (nxt L k).1
    · rw [if_neg (nI_ge c (by omega))]
      exact ih w (nI (mxh L k), nI k) ⟨rfl, by rw [nxt_s, if_pos c], by rw [nxt_s, if_pos c]⟩
    · rw [if_pos (nI_le (show (nxt L k).1 ≤ mxh L k by omega) (by omega))]
      exact ih w (nI (nxt L k).1, (nxt L k).2) ⟨rfl, by rw [nxt_s, if_neg c], by rw [nxt_s, if_neg c]⟩
theorem xq_next (h : Inv n m s g x p t) (a : Int32) : QQ t (fx_next t a) (s_next n m (pm t) a) := by
  have hr := h.rng
  have hpw := pw_lt (n := n) (by omega)
  unfold s_next
  obtain ⟨u, eu, fu, gu⟩ := fx_findWorlds_v h (evB m)
  have hu := h.fr fu.1
  have hl := WL_le (m := m) (show n ≤ 9 by omega) (pm t) (evB m)
  have hL : ∀ w, w ∈ WL n m (pm t) (evB m) → w < 512 := fun w hw => Nat.lt_of_lt_of_le (WL_lt _ _ w hw) hpw
  simp only [fx_next, fx_isZeroOrOne_v, gI_0, pI_0, rc_0, gI_1, pI_1, rc_1, ln_2, ql_2, al_3, as_3, ln_3, al_4, as_4, ln_4, gI_5, pI_5, rc_5, ln_6, ql_6, al_7, as_7, ln_7, al_8, as_8, ln_8, ln_9, ql_9, gI_10, pI_10, rc_10, al_11, as_11, ln_11, al_12, as_12, ln_12, gI_13, pI_13, rc_13, al_14, as_14, ln_14, ln_15, ql_15, gI_16, pI_16, rc_16, al_17, as_17, ln_17, al_18, as_18, ln_18, al_19, as_19, ln_19, al_20, as_20, ln_20, bl_21, bs_21, ln_21, gI_22, pI_22, rc_22, al_23, as_23, ln_23, al_24, as_24, ln_24, al_25, as_25, ln_25, gI_31, pI_31, rc_31, al_32, as_32, ln_32, gI_33, pI_33, rc_33, al_34, as_34, ln_34, gI_35, pI_35, rc_35, al_36, as_36, ln_36, gI_37, pI_37, rc_37, al_38, as_38, ln_38, gC_0_3, gC_0_4, gC_0_5, gC_0_7, gC_0_10, gC_0_11, gC_0_12, gC_0_13, gC_0_14, gC_0_15, gC_0_16, gC_0_17, gC_1_0, gC_1_2, gC_1_3, gC_5_0, gC_5_2, gC_10_0, gC_10_7, gC_13_5, gC_16_0, gC_16_2, gC_22_0, gC_22_1, gC_22_2, gC_22_3, gC_31_2, gC_33_2, gC_35_2, gC_37_2, bI_rI, bV_rV, bQ_rN, bQ_rR, bz_0, bz_1, bz_Z, hZ0, hZ1, Lay_setI, Lay_setA, h.lay, fAt_everyMap_v h, eu, len_0 _ hl]
  cases c2 : inr a 2
  · simp only [if_true]; exact QQ.pure rfl
  · simp only [if_false, if_true, Bool.true_eq_false]
    by_cases c0 : WL n m (pm t) (evB m) = []
    · rw [if_pos c0, if_pos c0]; exact ⟨u, rfl, fu.1⟩
    · rw [if_neg c0, if_neg c0]
      exact ⟨u, nx_loop hu gu hl hL a, fu.1⟩
theorem nx83 {L : List Nat} (h : Lay u) (hw : mI u 39 45 = nI L.length) (hl : L.length ≤ 512) (r : SM → Int32 → Int32 → Int32 → Int32 → OR) (a best : Int32) {lo c : Nat} (hlo : lo ≤ L.length) :
    fm_next_83 r u a best (nI lo) (nI c) (nI (hm L c)) = r u a (if mxh L c < lo then nI c else best) (nI (if mxh L c < lo then mxh L c else lo)) (nI (c + 1)) := by
  have h1 := hm_le L c
  have h2 := mxh_le L c
  have e1 : (nI (hm L c) ≤ nI (L.length - hm L c)) = (hm L c ≤ L.length - hm L c) := propext (nI_leI (by omega) (by omega))
  have e2 : (nI lo ≤ nI (L.length - hm L c)) = (lo ≤ L.length - hm L c) := propext (nI_leI (by omega) (by omega))
  have e3 : (nI lo ≤ nI (hm L c)) = (lo ≤ hm L c) := propext (nI_leI (by omega) (by omega))
  simp only [fm_next_83, gI_39, pI_39, rc_39, al_40, as_40, ln_40, al_41, as_41, ln_41, al_42, as_42, ln_42, al_43, as_43, ln_43, al_44, as_44, ln_44, al_45, as_45, ln_45, al_46, as_46, ln_46, al_47, as_47, ln_47, al_48, as_48, ln_48, al_49, as_49, ln_49, al_50, as_50, ln_50, al_51, as_51, ln_51, al_52, as_52, ln_52, al_53, as_53, ln_53, al_54, as_54, ln_54, al_55, as_55, ln_55, al_56, as_56, ln_56, al_57, as_57, ln_57, al_58, as_58, ln_58, al_59, as_59, ln_59, al_60, as_60, ln_60, al_61, as_61, ln_61, al_62, as_62, ln_62, al_63, as_63, ln_63, al_64, as_64, ln_64, al_65, as_65, ln_65, al_66, as_66, ln_66, al_67, as_67, ln_67, gC_39_4, gC_39_5, gC_39_6, gC_39_7, gC_39_8, gC_39_10, gC_39_11, gC_39_12, gC_39_13, gC_39_15, gC_39_16, gC_39_18, gC_39_19, gC_39_27, gC_39_28, gC_39_29, gC_39_30, gC_39_31, gC_39_36, gC_39_37, gC_39_41, gC_39_42, gC_39_43, gC_39_44, gC_39_46, gC_39_47, gC_39_48, gC_39_49, bI_rI, bV_rV, bQ_rN, bQ_rR, bz_0, bz_1, bz_Z, hZ0, hZ1, Lay_setI, Lay_setA, h, hw, pk_sub h1, e1, e2, e3, nI_1]
  by_cases c1 : hm L c ≤ L.length - hm L c
  · have em : mxh L c = L.length - hm L c := by unfold mxh; split <;> omega
    rw [if_pos c1, em]
    by_cases c2 : lo ≤ L.length - hm L c
    · rw [if_pos c2, if_pos c2, if_neg (by omega), if_neg (by omega)]
    · rw [if_neg c2, if_neg c2, if_pos (by omega), if_pos (by omega)]
  · have em : mxh L c = hm L c := by unfold mxh; split <;> omega
    rw [if_neg c1, em]
    by_cases c2 : lo ≤ hm L c
    · rw [if_pos c2, if_pos c2, if_neg (by omega), if_neg (by omega)]
    · rw [if_neg c2, if_neg c2, if_pos (by omega), if_pos (by omega)]
theorem mnx_loop {L : List Nat} (hu : Inv n m s g x p u) (gu : FdM L u) (hl : L.length ≤ 512) (hL : ∀ w, w ∈ L → w < 512) (a : Int32) :
    fm_next_l36 (fun t u1 u2 u3 => fm_next_141 t u1 u2 u3) 1000000 u a (-1) (nI L.length) 0 = rI (if a = 0 then (nxt L n).2 else nI (nxt L n).1) u := by
  have hr := hu.rng
  refine for_up (β := Int32 × Int32) (fun f t k b' => fm_next_l36 (fun t u1 u2 u3 => fm_next_141 t u1 u2 u3) f t a b'.2 b'.1 (nI k)) (fun r => r = rI (if a = 0 then (nxt L n).2 else nI (nxt L n).1) u) n
    (fun k w b' => w = u ∧ b'.1 = nI (nxt L k).1 ∧ b'.2 = (nxt L k).2) ?_ ?_ n 0 u (nI L.length, -1) 1000000 (by omega) ⟨rfl, rfl, rfl⟩ (by omega)
  · intro f w b' ⟨ew, e1, e2⟩
    subst ew
    have e9 : nI n ≤ nI n := Int32.le_refl _
    show fm_next_36 _ _ w a _ _ (nI n) = _
    simp only [fm_next_36, gI_39, pI_39, rc_39, al_40, as_40, ln_40, al_41, as_41, ln_41, al_42, as_42, ln_42, al_43, as_43, ln_43, al_44, as_44, ln_44, al_45, as_45, ln_45, al_46, as_46, ln_46, al_47, as_47, ln_47, al_48, as_48, ln_48, al_49, as_49, ln_49, al_50, as_50, ln_50, al_51, as_51, ln_51, al_52, as_52, ln_52, al_53, as_53, ln_53, al_54, as_54, ln_54, al_55, as_55, ln_55, al_56, as_56, ln_56, al_57, as_57, ln_57, al_58, as_58, ln_58, al_59, as_59, ln_59, al_60, as_60, ln_60, al_61, as_61, ln_61, al_62, as_62, ln_62, al_63, as_63, ln_63, al_64, as_64, ln_64, al_65, as_65, ln_65, al_66, as_66, ln_66, al_67, as_67, ln_67, gC_39_4, gC_39_5, gC_39_6, gC_39_7, gC_39_8, gC_39_10, gC_39_11, gC_39_12, gC_39_13, gC_39_15, gC_39_16, gC_39_18, gC_39_19, gC_39_27, gC_39_28, gC_39_29, gC_39_30, gC_39_31, gC_39_36, gC_39_37, gC_39_41, gC_39_42, gC_39_43, gC_39_44, gC_39_46, gC_39_47, gC_39_48, gC_39_49, bI_rI, bV_rV, bQ_rN, bQ_rR, bz_0, bz_1, bz_Z, hZ0, hZ1, Lay_setI, Lay_setA, hu.lay, hu.ch, e9, if_true, fm_next_141, e1, e2, rI_ite]
  · intro f w k b' hk ⟨ew, e1, e2⟩ ih
    subst ew
    have e9 : ¬ nI n ≤ nI k := nI_ge hk (by omega)
    show fm_next_36 _ _ w a _ _ (nI k) = _
    simp only [fm_next_36, gI_39, pI_39, rc_39, al_40, as_40, ln_40, al_41, as_41, ln_41, al_42, as_42, ln_42, al_43, as_43, ln_43, al_44, as_44, ln_44, al_45, as_45, ln_45, al_46, as_46, ln_46, al_47, as_47, ln_47, al_48, as_48, ln_48, al_49, as_49, ln_49, al_50, as_50, ln_50, al_51, as_51, ln_51, al_52, as_52, ln_52, al_53, as_53, ln_53, al_54, as_54, ln_54, al_55, as_55, ln_55, al_56, as_56, ln_56, al_57, as_57, ln_57, al_58, as_58, ln_58, al_59, as_59, ln_59, al_60, as_60, ln_60, al_61, as_61, ln_61, al_62, as_62, ln_62, al_63, as_63, ln_63, al_64, as_64, ln_64, al_65, as_65, ln_65, al_66, as_66, ln_66, al_67, as_67, ln_67, gC_39_4, gC_39_5, gC_39_6, gC_39_7, gC_39_8, gC_39_10, gC_39_11, gC_39_12, gC_39_13, gC_39_15, gC_39_16, gC_39_18, gC_39_19, gC_39_27, gC_39_28, gC_39_29, gC_39_30, gC_39_31, gC_39_36, gC_39_37, gC_39_41, gC_39_42, gC_39_43, gC_39_44, gC_39_46, gC_39_47, gC_39_48, gC_39_49, bI_rI, bV_rV, bQ_rN, bQ_rR, bz_0, bz_1, bz_Z, hZ0, hZ1, Lay_setI, Lay_setA, hu.lay, hu.ch, e9, if_false, e1, e2]
    refine for_up (β := Int32) (fun f' t i z => fm_next_l51 (fun t u1 u2 u3 u4 u5 => fm_next_83 (fm_next_l36 (fun t u1 u2 u3 => fm_next_141 t u1 u2 u3) f) t u1 u2 u3 u4 u5) f' t a (nxt L k).2 (nI (nxt L k).1) (nI k) z (nI i)) (fun r => r = rI (if a = 0 then (nxt L n).2 else nI (nxt L n).1) w) L.length
      (fun i v z => v = w ∧ z = nI (hm (L.take i) k)) ?_ ?_ L.length 0 w 0 1000000 (by omega) ⟨rfl, rfl⟩ (by omega)
    · intro f' v z ⟨e, ea⟩
      subst e
      have e1 : nI L.length ≤ nI L.length := Int32.le_refl _
      show fm_next_51 _ _ v a _ _ (nI k) z (nI L.length) = _
      simp only [fm_next_51, gI_39, pI_39, rc_39, al_40, as_40, ln_40, al_41, as_41, ln_41, al_42, as_42, ln_42, al_43, as_43, ln_43, al_44, as_44, ln_44, al_45, as_45, ln_45, al_46, as_46, ln_46, al_47, as_47, ln_47, al_48, as_48, ln_48, al_49, as_49, ln_49, al_50, as_50, ln_50, al_51, as_51, ln_51, al_52, as_52, ln_52, al_53, as_53, ln_53, al_54, as_54, ln_54, al_55, as_55, ln_55, al_56, as_56, ln_56, al_57, as_57, ln_57, al_58, as_58, ln_58, al_59, as_59, ln_59, al_60, as_60, ln_60, al_61, as_61, ln_61, al_62, as_62, ln_62, al_63, as_63, ln_63, al_64, as_64, ln_64, al_65, as_65, ln_65, al_66, as_66, ln_66, al_67, as_67, ln_67, gC_39_4, gC_39_5, gC_39_6, gC_39_7, gC_39_8, gC_39_10, gC_39_11, gC_39_12, gC_39_13, gC_39_15, gC_39_16, gC_39_18, gC_39_19, gC_39_27, gC_39_28, gC_39_29, gC_39_30, gC_39_31, gC_39_36, gC_39_37, gC_39_41, gC_39_42, gC_39_43, gC_39_44, gC_39_46, gC_39_47, gC_39_48, gC_39_49, bI_rI, bV_rV, bQ_rN, bQ_rR, bz_0, bz_1, bz_Z, hZ0, hZ1, Lay_setI, Lay_setA, hu.lay, gu.1, e1, if_true, ea, List.take_length, nx83 hu.lay gu.1 hl _ a _ (nxt_le L k)]
      refine ih v (nI (if mxh L k < (nxt L k).1 then mxh L k else (nxt L k).1), if mxh L k < (nxt L k).1 then nI k else (nxt L k).2) ⟨rfl, ?_, ?_⟩
      · rw [nxt_s]; split <;> rfl
      · rw [nxt_s]; split <;> rfl
    · intro f' v i z hi ⟨e, ea⟩ ih2
      subst e
      have e1 : ¬ nI L.length ≤ nI i := nI_ge hi (by omega)
      have i512 : i < 512 := by omega
      have hw := hL _ (getD_mem hi)
      show fm_next_51 _ _ v a _ _ (nI k) z (nI i) = _
      simp only [fm_next_51, gI_39, pI_39, rc_39, al_40, as_40, ln_40, al_41, as_41, ln_41, al_42, as_42, ln_42, al_43, as_43, ln_43, al_44, as_44, ln_44, al_45, as_45, ln_45, al_46, as_46, ln_46, al_47, as_47, ln_47, al_48, as_48, ln_48, al_49, as_49, ln_49, al_50, as_50, ln_50, al_51, as_51, ln_51, al_52, as_52, ln_52, al_53, as_53, ln_53, al_54, as_54, ln_54, al_55, as_55, ln_55, al_56, as_56, ln_56, al_57, as_57, ln_57, al_58, as_58, ln_58, al_59, as_59, ln_59, al_60, as_60, ln_60, al_61, as_61, ln_61, al_62, as_62, ln_62, al_63, as_63, ln_63, al_64, as_64, ln_64, al_65, as_65, ln_65, al_66, as_66, ln_66, al_67, as_67, ln_67, gC_39_4, gC_39_5, gC_39_6, gC_39_7, gC_39_8, gC_39_10, gC_39_11, gC_39_12, gC_39_13, gC_39_15, gC_39_16, gC_39_18, gC_39_19, gC_39_27, gC_39_28, gC_39_29, gC_39_30, gC_39_31, gC_39_36, gC_39_37, gC_39_41, gC_39_42, gC_39_43, gC_39_44, gC_39_46, gC_39_47, gC_39_48, gC_39_49, bI_rI, bV_rV, bQ_rN, bQ_rR, bz_0, bz_1, bz_Z, hZ0, hZ1, Lay_setI, Lay_setA, hu.lay, gu.1, e1, if_false, i512, gu.2 i hi, nI_1, ea, b_bit _ (show k < 32 by omega), b_ni _ _ (show L.getD i 0 < 2 ^ 32 by omega), nI_bz]
      exact ih2 v _ ⟨rfl, by rw [take_s hi, hm_s]⟩
theorem mq_next (h : Inv n m s g x p t) (a : Int32) : QQ t (fm_next t a) (s_next n m (pm t) a) := by
  have hr := h.rng
  have hpw := pw_lt (n := n) (by omega)
  unfold s_next
  obtain ⟨u, eu, fu, _, gu⟩ := fm_findsWorlds_v h
  have hu := h.fr fu.1
  have hl := WL_le (m := m) (show n ≤ 9 by omega) (pm t) (evB m)
  have hL : ∀ w, w ∈ WL n m (pm t) (evB m) → w < 512 := fun w hw => Nat.lt_of_lt_of_le (WL_lt _ _ w hw) hpw
  simp only [fm_next, fm_in_v, in_2, gI_39, pI_39, rc_39, al_40, as_40, ln_40, al_41, as_41, ln_41, al_42, as_42, ln_42, al_43, as_43, ln_43, al_44, as_44, ln_44, al_45, as_45, ln_45, al_46, as_46, ln_46, al_47, as_47, ln_47, al_48, as_48, ln_48, al_49, as_49, ln_49, al_50, as_50, ln_50, al_51, as_51, ln_51, al_52, as_52, ln_52, al_53, as_53, ln_53, al_54, as_54, ln_54, al_55, as_55, ln_55, al_56, as_56, ln_56, al_57, as_57, ln_57, al_58, as_58, ln_58, al_59, as_59, ln_59, al_60, as_60, ln_60, al_61, as_61, ln_61, al_62, as_62, ln_62, al_63, as_63, ln_63, al_64, as_64, ln_64, al_65, as_65, ln_65, al_66, as_66, ln_66, al_67, as_67, ln_67, gC_39_4, gC_39_5, gC_39_6, gC_39_7, gC_39_8, gC_39_10, gC_39_11, gC_39_12, gC_39_13, gC_39_15, gC_39_16, gC_39_18, gC_39_19, gC_39_27, gC_39_28, gC_39_29, gC_39_30, gC_39_31, gC_39_36, gC_39_37, gC_39_41, gC_39_42, gC_39_43, gC_39_44, gC_39_46, gC_39_47, gC_39_48, gC_39_49, bI_rI, bV_rV, bQ_rN, bQ_rR, bz_0, bz_1, bz_Z, hZ0, hZ1, Lay_setI, Lay_setA, h.lay, eu, hu.lay, gu.1, len_0 _ hl]
  cases c2 : inr a 2
  · simp only [if_true]; exact QQ.pure rfl
  · simp only [if_false, if_true, Bool.true_eq_false]
    by_cases c0 : WL n m (pm t) (evB m) = []
    · rw [if_pos c0, if_pos c0]; exact ⟨u, rfl, fu.1⟩
    · rw [if_neg c0, if_neg c0]
      exact ⟨u, mnx_loop hu gu hl hL a, fu.1⟩
theorem ok_next (h : Inv n m s g x p t) (a : Int32) : Okk t (fun t => fx_next t a) (fun t => fm_next t a) := okq h (xq_next h a) (fun u hu e => e ▸ mq_next hu a)
/-! drawn by a seed -/
def lt1 (k : Nat) : Nat := (k + 1) * 48271 % 2147483647
def lt2 (k : Nat) : Nat := lt1 k * 48271 % 2147483647
def drv (n : Nat) (L : List Nat) (k : Nat) (b : Int32) : Int32 := if b = 0 then nI (L.getD (lt1 k % L.length) 0) else if b = 1 then nI (L.getD (lt1 k % L.length) 0) ^^^ ((1 : Int32) <<< (nI (lt2 k % n) &&& 31)) else nI (lt2 k % n)
def s_drawn (n m : Nat) (G : GG) (a b : Int32) : Int32 := if inr a 100000 = true then (if inr b 3 = true then (if WL n m G (evB m) = [] then -3 else drv n (WL n m G (evB m)) (cN a) b) else -2) else -2
theorem lot1 {k : Nat} (h : k < 100000) : lN (k + 1) * 48271 - lN (k + 1) * 48271 / 2147483647 * 2147483647 = lN (lt1 k) := by
  rw [show (48271 : Int64) = lN 48271 from rfl, show (2147483647 : Int64) = lN 2147483647 from rfl, lN_mul]
  exact pk_lRem (by omega) (by decide) (by decide)
theorem lot2 (k : Nat) : lN (lt1 k) * 48271 - lN (lt1 k) * 48271 / 2147483647 * 2147483647 = lN (lt2 k) := by
  have : lt1 k < 2147483647 := Nat.mod_lt _ (by decide)
  rw [show (48271 : Int64) = lN 48271 from rfl, show (2147483647 : Int64) = lN 2147483647 from rfl, lN_mul]
  exact pk_lRem (by omega) (by decide) (by decide)
theorem lotm {a b : Nat} (ha : a < 2147483647) (h0 : 0 < b) (hb : b < 2 ^ 31) : lN a - lN a / lN b * lN b = lN (a % b) := pk_lRem (by omega) h0 (by omega)
theorem xq_drawn (h : Inv n m s g x p t) (a b : Int32) : QQ t (fx_drawn t a b) (s_drawn n m (pm t) a b) := by
  have hr := h.rng
  obtain ⟨u, eu, fu, gu⟩ := fx_findWorlds_v h (evB m)
  have hu := h.fr fu.1
  have hl := WL_le (m := m) (show n ≤ 9 by omega) (pm t) (evB m)
  unfold fx_drawn s_drawn
  rw [if_in2 (M := 99999) a 100000 (by decide) (by decide) rfl]
  cases c1 : inr a 100000
  · exact QQ.pure rfl
  · obtain ⟨k, hk, rfl⟩ := inr_t c1 (by decide)
    rw [if_pos rfl, if_in (M := 2) b 3 (by decide) (by decide) rfl]
    cases c2 : inr b 3
    · exact QQ.pure rfl
    · rw [if_pos rfl, cN_i (by omega)]
      simp only [gI_0, pI_0, rc_0, gI_1, pI_1, rc_1, ln_2, ql_2, al_3, as_3, ln_3, al_4, as_4, ln_4, gI_5, pI_5, rc_5, ln_6, ql_6, al_7, as_7, ln_7, al_8, as_8, ln_8, ln_9, ql_9, gI_10, pI_10, rc_10, al_11, as_11, ln_11, al_12, as_12, ln_12, gI_13, pI_13, rc_13, al_14, as_14, ln_14, ln_15, ql_15, gI_16, pI_16, rc_16, al_17, as_17, ln_17, al_18, as_18, ln_18, al_19, as_19, ln_19, al_20, as_20, ln_20, bl_21, bs_21, ln_21, gI_22, pI_22, rc_22, al_23, as_23, ln_23, al_24, as_24, ln_24, al_25, as_25, ln_25, gI_31, pI_31, rc_31, al_32, as_32, ln_32, gI_33, pI_33, rc_33, al_34, as_34, ln_34, gI_35, pI_35, rc_35, al_36, as_36, ln_36, gI_37, pI_37, rc_37, al_38, as_38, ln_38, gC_0_3, gC_0_4, gC_0_5, gC_0_7, gC_0_10, gC_0_11, gC_0_12, gC_0_13, gC_0_14, gC_0_15, gC_0_16, gC_0_17, gC_1_0, gC_1_2, gC_1_3, gC_5_0, gC_5_2, gC_10_0, gC_10_7, gC_13_5, gC_16_0, gC_16_2, gC_22_0, gC_22_1, gC_22_2, gC_22_3, gC_31_2, gC_33_2, gC_35_2, gC_37_2, bI_rI, bV_rV, bQ_rN, bQ_rR, bz_0, bz_1, bz_Z, hZ0, hZ1, Lay_setI, Lay_setA, h.lay, fAt_everyMap_v h, eu, len_0 _ hl, if_true]
      by_cases c0 : WL n m (pm t) (evB m) = []
      · rw [if_pos c0, if_pos c0]; exact ⟨u, rfl, fu.1⟩
      · rw [if_neg c0, if_neg c0]
        have hl0 : 0 < (WL n m (pm t) (evB m)).length := List.length_pos_iff.mpr c0
        generalize WL n m (pm t) (evB m) = L at *
        have e1 : (1 : Int32) ≤ nI L.length := nI_le (a := 1) hl0 (by omega)
        have e2 : (1 : Int32) ≤ nI n := nI_le (a := 1) (by omega) (by omega)
        have f1 : lt1 k < 2147483647 := Nat.mod_lt _ (by decide)
        have f2 : lt2 k < 2147483647 := Nat.mod_lt _ (by decide)
        have z1 : ∀ c : OR, hNZL (lN L.length) c = c := fun c => if_neg (fun e => by have := (lN_eq (b := 0) (by omega) (by decide)).mp e; omega)
        have z2 : ∀ c : OR, hNZL (lN n) c = c := fun c => if_neg (fun e => by have := (lN_eq (b := 0) (by omega) (by decide)).mp e; omega)
        simp only [gI_0, pI_0, rc_0, gI_1, pI_1, rc_1, ln_2, ql_2, al_3, as_3, ln_3, al_4, as_4, ln_4, gI_5, pI_5, rc_5, ln_6, ql_6, al_7, as_7, ln_7, al_8, as_8, ln_8, ln_9, ql_9, gI_10, pI_10, rc_10, al_11, as_11, ln_11, al_12, as_12, ln_12, gI_13, pI_13, rc_13, al_14, as_14, ln_14, ln_15, ql_15, gI_16, pI_16, rc_16, al_17, as_17, ln_17, al_18, as_18, ln_18, al_19, as_19, ln_19, al_20, as_20, ln_20, bl_21, bs_21, ln_21, gI_22, pI_22, rc_22, al_23, as_23, ln_23, al_24, as_24, ln_24, al_25, as_25, ln_25, gI_31, pI_31, rc_31, al_32, as_32, ln_32, gI_33, pI_33, rc_33, al_34, as_34, ln_34, gI_35, pI_35, rc_35, al_36, as_36, ln_36, gI_37, pI_37, rc_37, al_38, as_38, ln_38, gC_0_3, gC_0_4, gC_0_5, gC_0_7, gC_0_10, gC_0_11, gC_0_12, gC_0_13, gC_0_14, gC_0_15, gC_0_16, gC_0_17, gC_1_0, gC_1_2, gC_1_3, gC_5_0, gC_5_2, gC_10_0, gC_10_7, gC_13_5, gC_16_0, gC_16_2, gC_22_0, gC_22_1, gC_22_2, gC_22_3, gC_31_2, gC_33_2, gC_35_2, gC_37_2, bI_rI, bV_rV, bQ_rN, bQ_rR, bz_0, bz_1, bz_Z, hZ0, hZ1, Lay_setI, Lay_setA, hu.lay, gu.1, e1, if_true, nI_1, nI_l (show L.length < 2 ^ 31 by omega), nI_l (show n < 2 ^ 31 by omega), nI_l (show k + 1 < 2 ^ 31 by omega), z1, z2, lot1 hk, lot2, lotm f1 hl0 (show L.length < 2 ^ 31 by omega), lotm f2 (show 0 < n by omega) (show n < 2 ^ 31 by omega), lN_i, hu.ch', e2, fWd_townAt_v hu.lay gu hl, twn_i (Nat.mod_lt _ hl0) hl]
        refine ⟨u, ?_, fu.1⟩
        unfold drv
        rw [rI_ite, rI_ite]
theorem mq_drawn (h : Inv n m s g x p t) (a b : Int32) : QQ t (fm_drawn t a b) (s_drawn n m (pm t) a b) := by
  have hr := h.rng
  obtain ⟨u, eu, fu, _, gu⟩ := fm_findsWorlds_v h
  have hu := h.fr fu.1
  have hl := WL_le (m := m) (show n ≤ 9 by omega) (pm t) (evB m)
  have in_s : (decide ((0 : Int32) ≤ a) && decide (a ≤ 99999)) = inr a 100000 := inr_in (N := 100000) (by decide)
  unfold s_drawn
  simp only [fm_drawn, fm_in_v, in_s, in_3, bI_rI, bz_0]
  cases c1 : inr a 100000
  · simp only [if_true]; exact QQ.pure rfl
  · obtain ⟨k, hk, rfl⟩ := inr_t c1 (by decide)
    simp only [if_false, if_true, Bool.true_eq_false]
    cases c2 : inr b 3
    · simp only [if_true]; exact QQ.pure rfl
    · simp only [if_false, if_true, Bool.true_eq_false, gI_39, pI_39, rc_39, al_40, as_40, ln_40, al_41, as_41, ln_41, al_42, as_42, ln_42, al_43, as_43, ln_43, al_44, as_44, ln_44, al_45, as_45, ln_45, al_46, as_46, ln_46, al_47, as_47, ln_47, al_48, as_48, ln_48, al_49, as_49, ln_49, al_50, as_50, ln_50, al_51, as_51, ln_51, al_52, as_52, ln_52, al_53, as_53, ln_53, al_54, as_54, ln_54, al_55, as_55, ln_55, al_56, as_56, ln_56, al_57, as_57, ln_57, al_58, as_58, ln_58, al_59, as_59, ln_59, al_60, as_60, ln_60, al_61, as_61, ln_61, al_62, as_62, ln_62, al_63, as_63, ln_63, al_64, as_64, ln_64, al_65, as_65, ln_65, al_66, as_66, ln_66, al_67, as_67, ln_67, gC_39_4, gC_39_5, gC_39_6, gC_39_7, gC_39_8, gC_39_10, gC_39_11, gC_39_12, gC_39_13, gC_39_15, gC_39_16, gC_39_18, gC_39_19, gC_39_27, gC_39_28, gC_39_29, gC_39_30, gC_39_31, gC_39_36, gC_39_37, gC_39_41, gC_39_42, gC_39_43, gC_39_44, gC_39_46, gC_39_47, gC_39_48, gC_39_49, bI_rI, bV_rV, bQ_rN, bQ_rR, bz_0, bz_1, bz_Z, hZ0, hZ1, Lay_setI, Lay_setA, h.lay, eu, hu.lay, gu.1, len_0 _ hl, cN_i (show k < 2 ^ 31 by omega)]
      by_cases c0 : WL n m (pm t) (evB m) = []
      · rw [if_pos c0, if_pos c0]; exact ⟨u, rfl, fu.1⟩
      · rw [if_neg c0, if_neg c0]
        have hl0 : 0 < (WL n m (pm t) (evB m)).length := List.length_pos_iff.mpr c0
        generalize WL n m (pm t) (evB m) = L at *
        have f1 : lt1 k < 2147483647 := Nat.mod_lt _ (by decide)
        have f2 : lt2 k < 2147483647 := Nat.mod_lt _ (by decide)
        have z1 : ∀ c : OR, hNZL (lN L.length) c = c := fun c => if_neg (fun e => by have := (lN_eq (b := 0) (by omega) (by decide)).mp e; omega)
        have z2 : ∀ c : OR, hNZL (lN n) c = c := fun c => if_neg (fun e => by have := (lN_eq (b := 0) (by omega) (by decide)).mp e; omega)
        have hm1 : lt1 k % L.length < L.length := Nat.mod_lt _ hl0
        have hm2 : lt1 k % L.length < 512 := by omega
        simp only [nI_l (show L.length < 2 ^ 31 by omega), nI_l (show n < 2 ^ 31 by omega), nI_l (show k < 2 ^ 31 by omega), lN_1, z1, lot1 hk, lot2, lotm f1 hl0 (show L.length < 2 ^ 31 by omega), lotm f2 (show 0 < n by omega) (show n < 2 ^ 31 by omega), lN_i, gI_39, pI_39, rc_39, al_40, as_40, ln_40, al_41, as_41, ln_41, al_42, as_42, ln_42, al_43, as_43, ln_43, al_44, as_44, ln_44, al_45, as_45, ln_45, al_46, as_46, ln_46, al_47, as_47, ln_47, al_48, as_48, ln_48, al_49, as_49, ln_49, al_50, as_50, ln_50, al_51, as_51, ln_51, al_52, as_52, ln_52, al_53, as_53, ln_53, al_54, as_54, ln_54, al_55, as_55, ln_55, al_56, as_56, ln_56, al_57, as_57, ln_57, al_58, as_58, ln_58, al_59, as_59, ln_59, al_60, as_60, ln_60, al_61, as_61, ln_61, al_62, as_62, ln_62, al_63, as_63, ln_63, al_64, as_64, ln_64, al_65, as_65, ln_65, al_66, as_66, ln_66, al_67, as_67, ln_67, gC_39_4, gC_39_5, gC_39_6, gC_39_7, gC_39_8, gC_39_10, gC_39_11, gC_39_12, gC_39_13, gC_39_15, gC_39_16, gC_39_18, gC_39_19, gC_39_27, gC_39_28, gC_39_29, gC_39_30, gC_39_31, gC_39_36, gC_39_37, gC_39_41, gC_39_42, gC_39_43, gC_39_44, gC_39_46, gC_39_47, gC_39_48, gC_39_49, bI_rI, bV_rV, bQ_rN, bQ_rR, bz_0, bz_1, bz_Z, hZ0, hZ1, Lay_setI, Lay_setA, hu.lay, hu.ch, hm2, gu.2 _ hm1, z2]
        refine ⟨u, ?_, fu.1⟩
        unfold drv
        rw [rI_ite, rI_ite]
theorem ok_drawn (h : Inv n m s g x p t) (a b : Int32) : Okk t (fun t => fx_drawn t a b) (fun t => fm_drawn t a b) := okq h (xq_drawn h a b) (fun u hu e => e ▸ mq_drawn hu a b)
/-! taken -/
def s_taken (m s : Nat) (G : GG) (a b : Int32) : Int32 := if inr b 7 = true then (if inr a 20 = true then (if inr a 12 = true then (if inr a s = true then (if b = 6 then G 48 (cN a) else -13) else -11) else if inr (a - 12) m = true then (if b = 6 then -13 else if isO (G 40 (cN (a - 12))) b = true then a - 12 else -13) else -11) else -12) else -2
theorem fm_isUnder_v (t : SM) (k b : Int32) : fm_isUnder t k b = rI (bz (isO k b)) t := by
  simp only [fm_isUnder, isO]
  by_cases c1 : b = 0
  · simp [c1, bz]
  · by_cases c2 : k = b
    · simp [c1, c2, bz]
    · have c2' : ¬ b = k := fun e => c2 e.symm
      by_cases c3 : b = 2
      · by_cases c4 : k = 3
        · simp [c3, c4, bz]
        · subst c3; simp [c2, c2', c4, bz]
      · simp [c1, c2, c2', c3, bz]
theorem ok_taken (h : Inv n m s g x p t) (a b : Int32) : Okk t (fun t => fx_taken t a b) (fun t => fm_taken t a b) := by
  have hr := h.rng
  refine okq h (v := s_taken m s (pm t) a b) (QQ.pure ?_) (fun u hu e => QQ.pure ?_)
  · unfold fx_taken s_taken
    rw [if_in (M := 6) b 7 (by decide) (by decide) rfl]
    cases c1 : inr b 7
    · rfl
    · obtain ⟨j, hj, rfl⟩ := inr_t c1 (by decide)
      rw [if_pos rfl, if_in3 (M := 20) a 20 rfl]
      cases c2 : inr a 20
      · rfl
      · obtain ⟨i, hi, rfl⟩ := inr_t c2 (by decide)
        rw [if_pos rfl]
        have e5 : (nI j ≤ 5) = ¬ (nI j = 6) := propext ⟨fun l e => by rw [e] at l; exact absurd l (by decide), fun ne => nI_le (b := 5) (by
          have : j ≠ 6 := fun e => ne (by rw [e]; rfl)
          omega) (by decide)⟩
        have e12 : ((12 : Int32) ≤ nI i) = (12 ≤ i) := propext (nI_leI (a := 12) (by decide) (by omega))
        simp only [e5, e12, gI_0, pI_0, rc_0, gI_1, pI_1, rc_1, ln_2, ql_2, al_3, as_3, ln_3, al_4, as_4, ln_4, gI_5, pI_5, rc_5, ln_6, ql_6, al_7, as_7, ln_7, al_8, as_8, ln_8, ln_9, ql_9, gI_10, pI_10, rc_10, al_11, as_11, ln_11, al_12, as_12, ln_12, gI_13, pI_13, rc_13, al_14, as_14, ln_14, ln_15, ql_15, gI_16, pI_16, rc_16, al_17, as_17, ln_17, al_18, as_18, ln_18, al_19, as_19, ln_19, al_20, as_20, ln_20, bl_21, bs_21, ln_21, gI_22, pI_22, rc_22, al_23, as_23, ln_23, al_24, as_24, ln_24, al_25, as_25, ln_25, gI_31, pI_31, rc_31, al_32, as_32, ln_32, gI_33, pI_33, rc_33, al_34, as_34, ln_34, gI_35, pI_35, rc_35, al_36, as_36, ln_36, gI_37, pI_37, rc_37, al_38, as_38, ln_38, gC_0_3, gC_0_4, gC_0_5, gC_0_7, gC_0_10, gC_0_11, gC_0_12, gC_0_13, gC_0_14, gC_0_15, gC_0_16, gC_0_17, gC_1_0, gC_1_2, gC_1_3, gC_5_0, gC_5_2, gC_10_0, gC_10_7, gC_13_5, gC_16_0, gC_16_2, gC_22_0, gC_22_1, gC_22_2, gC_22_3, gC_31_2, gC_33_2, gC_35_2, gC_37_2, bI_rI, bV_rV, bQ_rN, bQ_rR, bz_0, bz_1, bz_Z, hZ0, hZ1, Lay_setI, Lay_setA, h.lay, if_true]
        by_cases ci : 12 ≤ i
        · have n12 : inr (nI i) 12 = false := by unfold inr; rw [decide_eq_false (nI_nlt ci (by omega)), Bool.and_false]
          have es : nI i - 12 = nI (i - 12) := pk_sub (b := 12) ci
          simp only [ci, if_true, n12, es]
          cases c3 : inr (nI (i - 12)) m
          · simp only [chartAt_no h c3, bI_rI, bV_rV, bQ_rN, bQ_rR, bz_0, bz_1, bz_Z, hZ0, hZ1, Lay_setI, Lay_setA]
            split <;> rfl
          · obtain ⟨k, hk, ek⟩ := inr_t c3 (by omega)
            have : i - 12 = k := (nI_eq (by omega) (by omega)).mp ek
            obtain ⟨q, e1, _, hc⟩ := chartAt_in h (show i - 12 < m by omega)
            simp only [e1, bI_rI, bV_rV, bQ_rN, bQ_rR, bz_0, bz_1, bz_Z, hZ0, hZ1, Lay_setI, Lay_setA, hc.rc, fCh_isOne_v hc, if_true, cN_i (show i - 12 < 2 ^ 31 by omega)]
            by_cases c6 : nI j = 6
            · simp [c6]
            · simp only [c6, if_false, not_false_eq_true, if_true]
              cases isO (pm t 40 (i - 12)) (nI j) <;> simp
        · have n12 : inr (nI i) 12 = true := inr_i (by omega) (by decide)
          simp only [ci, if_false, n12, if_true]
          cases c3 : inr (nI i) s
          · simp only [streetAt_no h c3, bI_rI, bV_rV, bQ_rN, bQ_rR, bz_0, bz_1, bz_Z, hZ0, hZ1, Lay_setI, Lay_setA]
            split <;> rfl
          · obtain ⟨k, hk, ek⟩ := inr_t c3 (by omega)
            have : i = k := (nI_eq (by omega) (by omega)).mp ek
            obtain ⟨q, e1, _, hc⟩ := streetAt_in h (show i < s by omega)
            simp only [e1, bI_rI, bV_rV, bQ_rN, bQ_rR, bz_0, bz_1, bz_Z, hZ0, hZ1, Lay_setI, Lay_setA, hc.i3, if_true, cN_i (show i < 2 ^ 31 by omega)]
            by_cases c6 : nI j = 6
            · simp [c6]
            · simp [c6]
  · have in_7 : (decide ((0 : Int32) ≤ b) && decide (b ≤ 6)) = inr b 7 := inr_in (N := 7) (by decide)
    have in_20 : (decide ((0 : Int32) ≤ a) && decide (a ≤ 19)) = inr a 20 := inr_in (N := 20) (by decide)
    rw [← e]
    unfold s_taken
    simp only [fm_taken, fm_in_v, in_7, in_20, gI_39, pI_39, rc_39, al_40, as_40, ln_40, al_41, as_41, ln_41, al_42, as_42, ln_42, al_43, as_43, ln_43, al_44, as_44, ln_44, al_45, as_45, ln_45, al_46, as_46, ln_46, al_47, as_47, ln_47, al_48, as_48, ln_48, al_49, as_49, ln_49, al_50, as_50, ln_50, al_51, as_51, ln_51, al_52, as_52, ln_52, al_53, as_53, ln_53, al_54, as_54, ln_54, al_55, as_55, ln_55, al_56, as_56, ln_56, al_57, as_57, ln_57, al_58, as_58, ln_58, al_59, as_59, ln_59, al_60, as_60, ln_60, al_61, as_61, ln_61, al_62, as_62, ln_62, al_63, as_63, ln_63, al_64, as_64, ln_64, al_65, as_65, ln_65, al_66, as_66, ln_66, al_67, as_67, ln_67, gC_39_4, gC_39_5, gC_39_6, gC_39_7, gC_39_8, gC_39_10, gC_39_11, gC_39_12, gC_39_13, gC_39_15, gC_39_16, gC_39_18, gC_39_19, gC_39_27, gC_39_28, gC_39_29, gC_39_30, gC_39_31, gC_39_36, gC_39_37, gC_39_41, gC_39_42, gC_39_43, gC_39_44, gC_39_46, gC_39_47, gC_39_48, gC_39_49, bI_rI, bV_rV, bQ_rN, bQ_rR, bz_0, bz_1, bz_Z, hZ0, hZ1, Lay_setI, Lay_setA, hu.lay, hu.mp, hu.st]
    cases c1 : inr b 7
    · simp only [if_true]; rfl
    · obtain ⟨j, hj, rfl⟩ := inr_t c1 (by decide)
      simp only [if_false, if_true, Bool.true_eq_false]
      cases c2 : inr a 20
      · simp
      · obtain ⟨i, hi, rfl⟩ := inr_t c2 (by decide)
        simp only [if_false, if_true, Bool.true_eq_false]
        have e6 : ((6 : Int32) ≤ nI j) = (nI j = 6) := propext ⟨fun l => by
          have := (nI_leI (a := 6) (by decide) (by omega)).mp l
          rw [show j = 6 by omega]; rfl, fun e => by rw [e]; decide⟩
        have e12 : ((12 : Int32) ≤ nI i) = (12 ≤ i) := propext (nI_leI (a := 12) (by decide) (by omega))
        simp only [e6, e12]
        by_cases ci : 12 ≤ i
        · have n12 : inr (nI i) 12 = false := by unfold inr; rw [decide_eq_false (nI_nlt ci (by omega)), Bool.and_false]
          have es : nI i - 12 = nI (i - 12) := pk_sub (b := 12) ci
          simp only [ci, if_true, n12, es]
          cases c3 : inr (nI (i - 12)) m
          · have : ¬ nI (i - 12) < nI m := fun l => by
              have := inr_i ((nI_ltI (by omega) (by omega)).mp l) (show m < 2 ^ 31 by omega)
              rw [c3] at this; exact absurd this (by decide)
            simp [this]
          · obtain ⟨k, hk, ek⟩ := inr_t c3 (by omega)
            have ik : i - 12 = k := (nI_eq (by omega) (by omega)).mp ek
            have l1 : nI (i - 12) < nI m := nI_lt (by omega) (by omega)
            have i8 : i - 12 < 8 := by omega
            simp only [l1, if_true, i8, gI_39, pI_39, rc_39, al_40, as_40, ln_40, al_41, as_41, ln_41, al_42, as_42, ln_42, al_43, as_43, ln_43, al_44, as_44, ln_44, al_45, as_45, ln_45, al_46, as_46, ln_46, al_47, as_47, ln_47, al_48, as_48, ln_48, al_49, as_49, ln_49, al_50, as_50, ln_50, al_51, as_51, ln_51, al_52, as_52, ln_52, al_53, as_53, ln_53, al_54, as_54, ln_54, al_55, as_55, ln_55, al_56, as_56, ln_56, al_57, as_57, ln_57, al_58, as_58, ln_58, al_59, as_59, ln_59, al_60, as_60, ln_60, al_61, as_61, ln_61, al_62, as_62, ln_62, al_63, as_63, ln_63, al_64, as_64, ln_64, al_65, as_65, ln_65, al_66, as_66, ln_66, al_67, as_67, ln_67, gC_39_4, gC_39_5, gC_39_6, gC_39_7, gC_39_8, gC_39_10, gC_39_11, gC_39_12, gC_39_13, gC_39_15, gC_39_16, gC_39_18, gC_39_19, gC_39_27, gC_39_28, gC_39_29, gC_39_30, gC_39_31, gC_39_36, gC_39_37, gC_39_41, gC_39_42, gC_39_43, gC_39_44, gC_39_46, gC_39_47, gC_39_48, gC_39_49, bI_rI, bV_rV, bQ_rN, bQ_rR, bz_0, bz_1, bz_Z, hZ0, hZ1, Lay_setI, Lay_setA, hu.lay, rp_3, rp_8, rp_11, rp_14, rp_32, rp_34, rp_36, rp_38, rp_40, rp_41, rp_42, rp_43, rp_44, rp_45, rp_46, rp_47, rp_48, rp_49, rp_50, rp_51, rp_52, rp_53, rp_54, rp_55, rp_56, rp_57, rp_58, fm_isUnder_v, cN_i (show i - 12 < 2 ^ 31 by omega)]
            by_cases c6 : nI j = 6
            · simp [c6]
            · simp only [c6, if_false]
              cases isO (pm u 40 (i - 12)) (nI j) <;> simp
        · have n12 : inr (nI i) 12 = true := inr_i (by omega) (by decide)
          simp only [ci, if_false, n12, if_true]
          cases c3 : inr (nI i) s
          · have : ¬ nI i < nI s := fun l => by
              have := inr_i ((nI_ltI (by omega) (by omega)).mp l) (show s < 2 ^ 31 by omega)
              rw [c3] at this; exact absurd this (by decide)
            simp [this]
          · obtain ⟨k, hk, ek⟩ := inr_t c3 (by omega)
            have ik : i = k := (nI_eq (by omega) (by omega)).mp ek
            have l1 : nI i < nI s := nI_lt (by omega) (by omega)
            have i12 : i < 12 := by omega
            simp only [l1, if_true, i12, gI_39, pI_39, rc_39, al_40, as_40, ln_40, al_41, as_41, ln_41, al_42, as_42, ln_42, al_43, as_43, ln_43, al_44, as_44, ln_44, al_45, as_45, ln_45, al_46, as_46, ln_46, al_47, as_47, ln_47, al_48, as_48, ln_48, al_49, as_49, ln_49, al_50, as_50, ln_50, al_51, as_51, ln_51, al_52, as_52, ln_52, al_53, as_53, ln_53, al_54, as_54, ln_54, al_55, as_55, ln_55, al_56, as_56, ln_56, al_57, as_57, ln_57, al_58, as_58, ln_58, al_59, as_59, ln_59, al_60, as_60, ln_60, al_61, as_61, ln_61, al_62, as_62, ln_62, al_63, as_63, ln_63, al_64, as_64, ln_64, al_65, as_65, ln_65, al_66, as_66, ln_66, al_67, as_67, ln_67, gC_39_4, gC_39_5, gC_39_6, gC_39_7, gC_39_8, gC_39_10, gC_39_11, gC_39_12, gC_39_13, gC_39_15, gC_39_16, gC_39_18, gC_39_19, gC_39_27, gC_39_28, gC_39_29, gC_39_30, gC_39_31, gC_39_36, gC_39_37, gC_39_41, gC_39_42, gC_39_43, gC_39_44, gC_39_46, gC_39_47, gC_39_48, gC_39_49, bI_rI, bV_rV, bQ_rN, bQ_rR, bz_0, bz_1, bz_Z, hZ0, hZ1, Lay_setI, Lay_setA, hu.lay, rp_3, rp_8, rp_11, rp_14, rp_32, rp_34, rp_36, rp_38, rp_40, rp_41, rp_42, rp_43, rp_44, rp_45, rp_46, rp_47, rp_48, rp_49, rp_50, rp_51, rp_52, rp_53, rp_54, rp_55, rp_56, rp_57, rp_58, cN_i (show i < 2 ^ 31 by omega)]
            by_cases c6 : nI j = 6
            · simp [c6]
            · simp [c6]
end
