section
variable {n m s g x p : Nat} {t0 t u : SM}
theorem ini_mil {E : Nat → Nat → Nat → Bool} {K e S p : Nat} {T : Nat → NN} (hT : ∀ S p, T S p ≤ 1000000) : ini E K e T S p ≤ 1000000 := by
  unfold ini
  split
  · omega
  · split
    · omega
    · exact wmax_le K (fun w _ _ => hT _ _)
theorem stl_mil {G : GG} {o : Nat → Nat → Bool} {E : Nat → Nat → Nat → Bool} {s K e S p : Nat} {T : Nat → NN} (hT : ∀ S p, T S p ≤ 1000000) : stl G o s E K e T S p ≤ 1000000 := by
  unfold stl
  have := itr_dec (sw := swd G (o (fsN S)) (dcd E K e S) s) (d0 := ini E K e T S) (fun d p => swd_le d s p) 0 6 p
  rw [Nat.zero_add] at this
  exact Nat.le_trans this (ini_mil hT)
theorem CTb_mil {G : GG} {o : Nat → Nat → Bool} {E : Nat → Nat → Nat → Bool} {s K e : Nat} : ∀ k S p, CTb G o s E K e k S p ≤ 1000000 := by
  intro k
  induction k with
  | zero => intro S p; exact Nat.zero_le _
  | succ k ih =>
    intro S p
    show (if S = k then _ else CTb G o s E K e k S) p ≤ _
    split
    · exact stl_mil ih
    · exact ih S p
theorem LK_S {K S w p : Nat} (hK : K ≤ 7) {E : Nat → Nat → Nat → Bool} (hS : S < 2 ^ K) : (nI (LK E K S w p) = nI S) = (LK E K S w p = S) := by
  have := pw7 hK hS
  have h2 := LK_le (E := E) (S := S) (w := w) (p := p) hK
  exact propext (nI_eq (by omega) (by omega))
theorem orf_s (q : Nat → Bool) (k : Nat) : orf q (k + 1) = if q k = true then orf q k ||| ((1 : Int32) <<< (nI k &&& 31)) else orf q k := rfl
theorem settle_v {S e K : Nat} {L : List Nat} {T : Nat → NN} (h : Inv n m s g x p t0) (hl : FS [22, 23, 24, 25] t0 t) (hsee : SEE (pm t0) s L t) (hK : K ≤ 7) (hS : S < 2 ^ K) (h1 : 1 ≤ S) (he : e < 6) (hg : mI t 22 5 = nI e) (hr : RW 23 t T S) (hT : ∀ S p, T S p ≤ 1000000) :
    ∃ u, fAW_settle t (nI S) = rV u ∧ FW S t u ∧ RowS u S (stl (pm t0) (oL (pm t0) L) s (EL (pm t0) s L) K e T S) 6 := by
  have hrg := h.rng
  have hS7 := pw7 hK hS
  obtain ⟨f1, f2, f3, _⟩ := fsN_f S hS7 h1
  unfold fAW_settle
  rw [fx_firstOf_v, bI_rI, f1]
  refine for_up (β := Int32) (fun f w p D => fAW_settle_l10 (fun t u1 u2 u3 => fAW_settle_112 t u1 u2 u3) f w (nI S) (nI (fsN S)) D (nI p)) (fun r => ∃ u, r = rV u ∧ FW S t u ∧ RowS u S (stl (pm t0) (oL (pm t0) L) s (EL (pm t0) s L) K e T S) 6) 6
    (fun p w D => FW S t w ∧ RowS w S (ini (EL (pm t0) s L) K e T S) p ∧ D = orf (dcd (EL (pm t0) s L) K e S) p) ?_ ?_ 6 0 t 0 1000000 (by omega) ⟨FW.refl _ _, fun p hp => by omega, rfl⟩ (by omega)
  · intro f w D ⟨fw, hw, hD⟩
    have hwl := hl.tu fw.1 (by decide)
    obtain ⟨u, e1, f2', r2⟩ := rounds_v (dc := dcd (EL (pm t0) s L) K e S) h hwl (fw.see hsee) f3 (D := D) (fun p hp => by rw [hD, bt_orf _ _ (by omega) p (by omega), decide_eq_true hp, Bool.true_and]) hw (fun p => ini_mil hT) hS7
    refine ⟨u, ?_, fw.tr f2', r2⟩
    show fAW_settle_10 _ _ w (nI S) (nI (fsN S)) D (nI 6) = _
    unfold fAW_settle_10
    rw [if_pos (show (6 : Int32) ≤ nI 6 from Int32.le_refl _)]
    exact e1
  · intro f w p D hp ⟨fw, hw, hD⟩ ih
    have hwl := hl.tu fw.1 (by decide)
    have hi := h.fr hwl.1
    have hsw := fw.see hsee
    have hgw : mI w 22 5 = nI e := (fw.1.row 22 rfl (by decide) 5).trans hg
    have ee : (nI p = nI e) = (p = e) := propext (nI_eq (by omega) (by omega))
    have e8 : ¬ (6 : Int32) ≤ nI p := nI_ge (b := 6) hp (by decide)
    have fin : ∀ v D', ini (EL (pm t0) s L) K e T S p = v → D' = orf (dcd (EL (pm t0) s L) K e S) (p + 1) → ∃ u, fAW_settle_l10 (fun t u1 u2 u3 => fAW_settle_112 t u1 u2 u3) f (setI w 23 (128 * p + S) (nI v)) (nI S) (nI (fsN S)) D' (nI (p + 1)) = rV u ∧ FW S t u ∧ RowS u S (stl (pm t0) (oL (pm t0) L) s (EL (pm t0) s L) K e T S) 6 := by
      intro v D' hv hD'
      refine ih _ D' ⟨fw.st hS7, fun q hq => ?_, hD'⟩
      rw [setI_I]
      by_cases c : q = p
      · subst c; rw [if_pos ⟨rfl, rfl⟩, hv]
      · rw [if_neg (fun e => by omega)]; exact hw q (by omega)
    have sl : ∀ v, fx_setNumber w 23 ((nI p * 128) + nI S) v = rV (setI w 23 (128 * p + S) v) := fun v => setLong_v hi.lay hp hS7 v
    have g5 : ∀ v, mI (setI w 23 (128 * p + S) v) 22 5 = nI e := fun v => by rw [setI_ne (by decide)]; exact hgw
    show ∃ u, fAW_settle_10 _ _ w (nI S) (nI (fsN S)) D (nI p) = _ ∧ _
    simp only [fAW_settle_10, gI_0, pI_0, rc_0, gI_1, pI_1, rc_1, ln_2, ql_2, al_3, as_3, ln_3, al_4, as_4, ln_4, gI_5, pI_5, rc_5, ln_6, ql_6, al_7, as_7, ln_7, al_8, as_8, ln_8, ln_9, ql_9, gI_10, pI_10, rc_10, al_11, as_11, ln_11, al_12, as_12, ln_12, gI_13, pI_13, rc_13, al_14, as_14, ln_14, ln_15, ql_15, gI_16, pI_16, rc_16, al_17, as_17, ln_17, al_18, as_18, ln_18, al_19, as_19, ln_19, al_20, as_20, ln_20, bl_21, bs_21, ln_21, gI_22, pI_22, rc_22, al_23, as_23, ln_23, al_24, as_24, ln_24, al_25, as_25, ln_25, gI_31, pI_31, rc_31, al_32, as_32, ln_32, gI_33, pI_33, rc_33, al_34, as_34, ln_34, gI_35, pI_35, rc_35, al_36, as_36, ln_36, gI_37, pI_37, rc_37, al_38, as_38, ln_38, gC_0_3, gC_0_4, gC_0_5, gC_0_7, gC_0_10, gC_0_11, gC_0_12, gC_0_13, gC_0_14, gC_0_15, gC_0_16, gC_0_17, gC_1_0, gC_1_2, gC_1_3, gC_5_0, gC_5_2, gC_10_0, gC_10_7, gC_13_5, gC_16_0, gC_16_2, gC_22_0, gC_22_1, gC_22_2, gC_22_3, gC_31_2, gC_33_2, gC_35_2, gC_37_2, bI_rI, bV_rV, bQ_rN, bQ_rR, bz_0, bz_1, bz_Z, hZ0, hZ1, Lay_setI, Lay_setA, hi.lay, e8, if_false, lookingLike_v hi.lay (show s ≤ 12 by omega) hsw hp f3 hK hS, LK_S hK hS, hgw, ee, sl, g5, nI_1]
    by_cases cp : p = e
    · have d1 : dcd (EL (pm t0) s L) K e S p = true := by unfold dcd; rw [decide_eq_true cp]; rfl
      have dD : (D ||| ((1 : Int32) <<< (nI p &&& 31))) = orf (dcd (EL (pm t0) s L) K e S) (p + 1) := by rw [orf_s, d1, if_pos rfl, hD]
      have iv : ini (EL (pm t0) s L) K e T S p = 0 := if_pos cp
      simp only [cp, if_true] at fin iv dD ⊢
      split
      · exact fin 0 _ iv dD
      · exact fin 0 _ iv dD
    · simp only [cp, if_false]
      by_cases cl : LK (EL (pm t0) s L) K S (fsN S) p = S
      · rw [if_pos cl]
        have d1 : dcd (EL (pm t0) s L) K e S p = false := dcd_f cp cl
        exact fin 1000000 D (by unfold ini; rw [if_neg cp, if_pos cl]) (by rw [orf_s, d1, if_neg (by decide), hD])
      · rw [if_neg cl]
        have d1 : dcd (EL (pm t0) s L) K e S p = true := by unfold dcd; rw [decide_eq_false cl]; simp
        have hwp := worstOfParts_v hi.lay (show s ≤ 12 by omega) hsw hp hK hS h1 (fw.rw hr hS7) hT cl
        simp only [hwp, bI_rI, gI_0, pI_0, rc_0, gI_1, pI_1, rc_1, ln_2, ql_2, al_3, as_3, ln_3, al_4, as_4, ln_4, gI_5, pI_5, rc_5, ln_6, ql_6, al_7, as_7, ln_7, al_8, as_8, ln_8, ln_9, ql_9, gI_10, pI_10, rc_10, al_11, as_11, ln_11, al_12, as_12, ln_12, gI_13, pI_13, rc_13, al_14, as_14, ln_14, ln_15, ql_15, gI_16, pI_16, rc_16, al_17, as_17, ln_17, al_18, as_18, ln_18, al_19, as_19, ln_19, al_20, as_20, ln_20, bl_21, bs_21, ln_21, gI_22, pI_22, rc_22, al_23, as_23, ln_23, al_24, as_24, ln_24, al_25, as_25, ln_25, gI_31, pI_31, rc_31, al_32, as_32, ln_32, gI_33, pI_33, rc_33, al_34, as_34, ln_34, gI_35, pI_35, rc_35, al_36, as_36, ln_36, gI_37, pI_37, rc_37, al_38, as_38, ln_38, gC_0_3, gC_0_4, gC_0_5, gC_0_7, gC_0_10, gC_0_11, gC_0_12, gC_0_13, gC_0_14, gC_0_15, gC_0_16, gC_0_17, gC_1_0, gC_1_2, gC_1_3, gC_5_0, gC_5_2, gC_10_0, gC_10_7, gC_13_5, gC_16_0, gC_16_2, gC_22_0, gC_22_1, gC_22_2, gC_22_3, gC_31_2, gC_33_2, gC_35_2, gC_37_2, bI_rI, bV_rV, bQ_rN, bQ_rR, bz_0, bz_1, bz_Z, hZ0, hZ1, Lay_setI, Lay_setA, hi.lay, sl, bV_rV, g5, ee, cp, if_false]
        exact fin _ _ (by unfold ini; rw [if_neg cp, if_neg cl]) (by rw [orf_s, d1, if_pos rfl, hD])
theorem max0 {L : List Nat} (hl : L.length ≤ 7) (hb : ∀ w, w ∈ L → w < 512) {w : Nat} (hw : w < 7) : (if (0 : Int32) < twn L (nI w) then twn L (nI w) else 0) = nI (L.getD w 0) := by
  by_cases c : w < L.length
  · have := hb _ (getD_mem c)
    rw [twn_i c (by omega)]
    by_cases z : L.getD w 0 = 0
    · rw [z]; rfl
    · have e0 : (0 : Int32) < nI (L.getD w 0) := nI_lt (a := 0) (by omega) (by omega)
      rw [if_pos e0]
  · have e1 : twn L (nI w) = -1 := by
      unfold twn
      have : inr (nI w) L.length = false := by
        unfold inr
        rw [decide_eq_false (nI_nlt (by omega) (by omega)), Bool.and_false]
      rw [this]; rfl
    have e2 : L.getD w 0 = 0 := by rw [List.getD_eq_getElem?_getD, List.getElem?_eq_none (by omega)]; rfl
    rw [e1, e2]; rfl
theorem study_v {e : Nat} {L : List Nat} (h : Inv n m s g x p t0) (hf : FdC L t0) (hl : L.length ≤ 7) (h1 : 1 ≤ L.length) (hb : ∀ w, w ∈ L → w < 512) (he : e < 6) :
    ∃ u, fAW_study t0 (nI e) = rV u ∧ FS [22, 23, 24, 25] t0 u ∧ mI u 22 5 = nI e ∧ mI u 22 4 = nI (2 ^ L.length - 1) ∧ SEE (pm t0) s L u ∧ RW 23 u (CW (pm t0) (oL (pm t0) L) s (EL (pm t0) s L) L.length e) (2 ^ L.length) := by
  have hrg := h.rng
  have e7 : ¬ (7 : Int32) < nI L.length := nI_nlt (a := 7) hl (by decide)
  have h7 : 2 ^ L.length ≤ 2 ^ 7 := Nat.pow_le_pow_right (by decide) hl
  have hp1 := Nat.two_pow_pos L.length
  have hf1 : mI (setI t0 22 5 (nI e)) 16 1 = nI L.length := by rw [setI_ne (by decide)]; exact hf.1
  unfold fAW_study
  simp only [gI_0, pI_0, rc_0, gI_1, pI_1, rc_1, ln_2, ql_2, al_3, as_3, ln_3, al_4, as_4, ln_4, gI_5, pI_5, rc_5, ln_6, ql_6, al_7, as_7, ln_7, al_8, as_8, ln_8, ln_9, ql_9, gI_10, pI_10, rc_10, al_11, as_11, ln_11, al_12, as_12, ln_12, gI_13, pI_13, rc_13, al_14, as_14, ln_14, ln_15, ql_15, gI_16, pI_16, rc_16, al_17, as_17, ln_17, al_18, as_18, ln_18, al_19, as_19, ln_19, al_20, as_20, ln_20, bl_21, bs_21, ln_21, gI_22, pI_22, rc_22, al_23, as_23, ln_23, al_24, as_24, ln_24, al_25, as_25, ln_25, gI_31, pI_31, rc_31, al_32, as_32, ln_32, gI_33, pI_33, rc_33, al_34, as_34, ln_34, gI_35, pI_35, rc_35, al_36, as_36, ln_36, gI_37, pI_37, rc_37, al_38, as_38, ln_38, gC_0_3, gC_0_4, gC_0_5, gC_0_7, gC_0_10, gC_0_11, gC_0_12, gC_0_13, gC_0_14, gC_0_15, gC_0_16, gC_0_17, gC_1_0, gC_1_2, gC_1_3, gC_5_0, gC_5_2, gC_10_0, gC_10_7, gC_13_5, gC_16_0, gC_16_2, gC_22_0, gC_22_1, gC_22_2, gC_22_3, gC_31_2, gC_33_2, gC_35_2, gC_37_2, bI_rI, bV_rV, bQ_rN, bQ_rR, bz_0, bz_1, bz_Z, hZ0, hZ1, Lay_setI, Lay_setA, h.lay, hf1, fjM_min_v, if_neg e7, b_mask L.length (show L.length < 31 by omega)]
  have f0 : FS [22, 23, 24, 25] t0 (setI (setI t0 22 5 (nI e)) 22 4 (nI (2 ^ L.length - 1))) := ((FS.refl _ _).st rfl (by decide)).st rfl (by decide)
  have g5 : mI (setI (setI t0 22 5 (nI e)) 22 4 (nI (2 ^ L.length - 1))) 22 5 = nI e := by rw [setI_I, if_neg (by decide)]; exact setI_eq rfl rfl
  have g4 : mI (setI (setI t0 22 5 (nI e)) 22 4 (nI (2 ^ L.length - 1))) 22 4 = nI (2 ^ L.length - 1) := setI_eq rfl rfl
  generalize setI (setI t0 22 5 (nI e)) 22 4 (nI (2 ^ L.length - 1)) = t1 at f0 g5 g4
  -- what is open in each world
  refine for_up (β := Unit) (fun f w k _ => fAW_study_l24 (fun t => fAW_study_61 t) f w (nI k)) (fun r => ∃ u, r = rV u ∧ FS [22, 23, 24, 25] t0 u ∧ mI u 22 5 = nI e ∧ mI u 22 4 = nI (2 ^ L.length - 1) ∧ SEE (pm t0) s L u ∧ RW 23 u (CW (pm t0) (oL (pm t0) L) s (EL (pm t0) s L) L.length e) (2 ^ L.length)) 7
    (fun k w _ => FS [22, 23, 24, 25] t0 w ∧ mI w 22 5 = nI e ∧ mI w 22 4 = nI (2 ^ L.length - 1) ∧ ∀ i, i < k → mI w 24 i = orf (oL (pm t0) L i) s) ?_ ?_ 7 0 t1 () 1000000 (by omega) ⟨f0, g5, g4, fun i hi => by omega⟩ (by omega)
  · intro f w _ ⟨fw, w5, w4, w24⟩
    have hi := h.fr fw.1
    have e9 : nI 7 ≤ nI 7 := Int32.le_refl _
    show ∃ u, fAW_study_24 _ _ w (nI 7) = _ ∧ _
    simp only [fAW_study_24, gI_0, pI_0, rc_0, gI_1, pI_1, rc_1, ln_2, ql_2, al_3, as_3, ln_3, al_4, as_4, ln_4, gI_5, pI_5, rc_5, ln_6, ql_6, al_7, as_7, ln_7, al_8, as_8, ln_8, ln_9, ql_9, gI_10, pI_10, rc_10, al_11, as_11, ln_11, al_12, as_12, ln_12, gI_13, pI_13, rc_13, al_14, as_14, ln_14, ln_15, ql_15, gI_16, pI_16, rc_16, al_17, as_17, ln_17, al_18, as_18, ln_18, al_19, as_19, ln_19, al_20, as_20, ln_20, bl_21, bs_21, ln_21, gI_22, pI_22, rc_22, al_23, as_23, ln_23, al_24, as_24, ln_24, al_25, as_25, ln_25, gI_31, pI_31, rc_31, al_32, as_32, ln_32, gI_33, pI_33, rc_33, al_34, as_34, ln_34, gI_35, pI_35, rc_35, al_36, as_36, ln_36, gI_37, pI_37, rc_37, al_38, as_38, ln_38, gC_0_3, gC_0_4, gC_0_5, gC_0_7, gC_0_10, gC_0_11, gC_0_12, gC_0_13, gC_0_14, gC_0_15, gC_0_16, gC_0_17, gC_1_0, gC_1_2, gC_1_3, gC_5_0, gC_5_2, gC_10_0, gC_10_7, gC_13_5, gC_16_0, gC_16_2, gC_22_0, gC_22_1, gC_22_2, gC_22_3, gC_31_2, gC_33_2, gC_35_2, gC_37_2, bI_rI, bV_rV, bQ_rN, bQ_rR, bz_0, bz_1, bz_Z, hZ0, hZ1, Lay_setI, Lay_setA, hi.lay, e9, if_true, fAW_study_61]
    refine for_up (β := Unit) (fun f w k _ => fAW_study_l63 (fun t => fAW_study_92 t) f w (nI k)) (fun r => ∃ u, r = rV u ∧ FS [22, 23, 24, 25] t0 u ∧ mI u 22 5 = nI e ∧ mI u 22 4 = nI (2 ^ L.length - 1) ∧ SEE (pm t0) s L u ∧ RW 23 u (CW (pm t0) (oL (pm t0) L) s (EL (pm t0) s L) L.length e) (2 ^ L.length)) 6
      (fun k w _ => FS [22, 23, 24, 25] t0 w ∧ mI w 22 5 = nI e ∧ mI w 22 4 = nI (2 ^ L.length - 1) ∧ (∀ i, i < 7 → mI w 24 i = orf (oL (pm t0) L i) s) ∧ ∀ q, q < k → mI w 25 q = orf (fun i => tch (pm t0) i q) s) ?_ ?_ 6 0 w () 1000000 (by omega) ⟨fw, w5, w4, w24, fun i hi => by omega⟩ (by omega)
    · intro f w _ ⟨fw, w5, w4, w24, w25⟩
      have hi := h.fr fw.1
      have e9 : nI 6 ≤ nI 6 := Int32.le_refl _
      show ∃ u, fAW_study_63 _ _ w (nI 6) = _ ∧ _
      simp only [fAW_study_63, gI_0, pI_0, rc_0, gI_1, pI_1, rc_1, ln_2, ql_2, al_3, as_3, ln_3, al_4, as_4, ln_4, gI_5, pI_5, rc_5, ln_6, ql_6, al_7, as_7, ln_7, al_8, as_8, ln_8, ln_9, ql_9, gI_10, pI_10, rc_10, al_11, as_11, ln_11, al_12, as_12, ln_12, gI_13, pI_13, rc_13, al_14, as_14, ln_14, ln_15, ql_15, gI_16, pI_16, rc_16, al_17, as_17, ln_17, al_18, as_18, ln_18, al_19, as_19, ln_19, al_20, as_20, ln_20, bl_21, bs_21, ln_21, gI_22, pI_22, rc_22, al_23, as_23, ln_23, al_24, as_24, ln_24, al_25, as_25, ln_25, gI_31, pI_31, rc_31, al_32, as_32, ln_32, gI_33, pI_33, rc_33, al_34, as_34, ln_34, gI_35, pI_35, rc_35, al_36, as_36, ln_36, gI_37, pI_37, rc_37, al_38, as_38, ln_38, gC_0_3, gC_0_4, gC_0_5, gC_0_7, gC_0_10, gC_0_11, gC_0_12, gC_0_13, gC_0_14, gC_0_15, gC_0_16, gC_0_17, gC_1_0, gC_1_2, gC_1_3, gC_5_0, gC_5_2, gC_10_0, gC_10_7, gC_13_5, gC_16_0, gC_16_2, gC_22_0, gC_22_1, gC_22_2, gC_22_3, gC_31_2, gC_33_2, gC_35_2, gC_37_2, bI_rI, bV_rV, bQ_rN, bQ_rR, bz_0, bz_1, bz_Z, hZ0, hZ1, Lay_setI, Lay_setA, hi.lay, e9, if_true, fAW_study_92]
      have hsee : SEE (pm t0) s L w := ⟨w24, w25⟩
      refine for_up (β := Unit) (fun f w S _ => fAW_study_l94 f w (nI S)) (fun r => ∃ u, r = rV u ∧ FS [22, 23, 24, 25] t0 u ∧ mI u 22 5 = nI e ∧ mI u 22 4 = nI (2 ^ L.length - 1) ∧ SEE (pm t0) s L u ∧ RW 23 u (CW (pm t0) (oL (pm t0) L) s (EL (pm t0) s L) L.length e) (2 ^ L.length)) (2 ^ L.length)
        (fun S w _ => 1 ≤ S ∧ FS [22, 23, 24, 25] t0 w ∧ mI w 22 5 = nI e ∧ mI w 22 4 = nI (2 ^ L.length - 1) ∧ SEE (pm t0) s L w ∧ RW 23 w (CTb (pm t0) (oL (pm t0) L) s (EL (pm t0) s L) L.length e S) S) ?_ ?_ (2 ^ L.length - 1) 1 w () 1000000 (by omega) ⟨Nat.le_refl _, fw, w5, w4, hsee, fun S q a b => by omega⟩ (by omega)
      · intro f w _ ⟨_, fw, w5, w4, hsee, hw⟩
        have hi := h.fr fw.1
        have e1 : nI (2 ^ L.length - 1) < nI (2 ^ L.length) := nI_lt (by omega) (by omega)
        refine ⟨w, ?_, fw, w5, w4, hsee, fun S q a b c => ?_⟩
        · show fAW_study_94 _ w (nI (2 ^ L.length)) = _
          simp only [fAW_study_94, gI_0, pI_0, rc_0, gI_1, pI_1, rc_1, ln_2, ql_2, al_3, as_3, ln_3, al_4, as_4, ln_4, gI_5, pI_5, rc_5, ln_6, ql_6, al_7, as_7, ln_7, al_8, as_8, ln_8, ln_9, ql_9, gI_10, pI_10, rc_10, al_11, as_11, ln_11, al_12, as_12, ln_12, gI_13, pI_13, rc_13, al_14, as_14, ln_14, ln_15, ql_15, gI_16, pI_16, rc_16, al_17, as_17, ln_17, al_18, as_18, ln_18, al_19, as_19, ln_19, al_20, as_20, ln_20, bl_21, bs_21, ln_21, gI_22, pI_22, rc_22, al_23, as_23, ln_23, al_24, as_24, ln_24, al_25, as_25, ln_25, gI_31, pI_31, rc_31, al_32, as_32, ln_32, gI_33, pI_33, rc_33, al_34, as_34, ln_34, gI_35, pI_35, rc_35, al_36, as_36, ln_36, gI_37, pI_37, rc_37, al_38, as_38, ln_38, gC_0_3, gC_0_4, gC_0_5, gC_0_7, gC_0_10, gC_0_11, gC_0_12, gC_0_13, gC_0_14, gC_0_15, gC_0_16, gC_0_17, gC_1_0, gC_1_2, gC_1_3, gC_5_0, gC_5_2, gC_10_0, gC_10_7, gC_13_5, gC_16_0, gC_16_2, gC_22_0, gC_22_1, gC_22_2, gC_22_3, gC_31_2, gC_33_2, gC_35_2, gC_37_2, bI_rI, bV_rV, bQ_rN, bQ_rR, bz_0, bz_1, bz_Z, hZ0, hZ1, Lay_setI, Lay_setA, hi.lay, w4, e1, if_true]
        · rw [hw S q a b c, CTb_lt _ b]
      · intro f w S _ hS ⟨S1, fw, w5, w4, hsee, hw⟩ ih
        have hi := h.fr fw.1
        have e1 : ¬ nI (2 ^ L.length - 1) < nI S := nI_nlt (by omega) (by omega)
        obtain ⟨u, eu, fu, ru⟩ := settle_v h fw hsee hl hS S1 he w5 hw (CTb_mil S)
        show ∃ u, fAW_study_94 _ w (nI S) = _ ∧ _
        simp only [fAW_study_94, gI_0, pI_0, rc_0, gI_1, pI_1, rc_1, ln_2, ql_2, al_3, as_3, ln_3, al_4, as_4, ln_4, gI_5, pI_5, rc_5, ln_6, ql_6, al_7, as_7, ln_7, al_8, as_8, ln_8, ln_9, ql_9, gI_10, pI_10, rc_10, al_11, as_11, ln_11, al_12, as_12, ln_12, gI_13, pI_13, rc_13, al_14, as_14, ln_14, ln_15, ql_15, gI_16, pI_16, rc_16, al_17, as_17, ln_17, al_18, as_18, ln_18, al_19, as_19, ln_19, al_20, as_20, ln_20, bl_21, bs_21, ln_21, gI_22, pI_22, rc_22, al_23, as_23, ln_23, al_24, as_24, ln_24, al_25, as_25, ln_25, gI_31, pI_31, rc_31, al_32, as_32, ln_32, gI_33, pI_33, rc_33, al_34, as_34, ln_34, gI_35, pI_35, rc_35, al_36, as_36, ln_36, gI_37, pI_37, rc_37, al_38, as_38, ln_38, gC_0_3, gC_0_4, gC_0_5, gC_0_7, gC_0_10, gC_0_11, gC_0_12, gC_0_13, gC_0_14, gC_0_15, gC_0_16, gC_0_17, gC_1_0, gC_1_2, gC_1_3, gC_5_0, gC_5_2, gC_10_0, gC_10_7, gC_13_5, gC_16_0, gC_16_2, gC_22_0, gC_22_1, gC_22_2, gC_22_3, gC_31_2, gC_33_2, gC_35_2, gC_37_2, bI_rI, bV_rV, bQ_rN, bQ_rR, bz_0, bz_1, bz_Z, hZ0, hZ1, Lay_setI, Lay_setA, hi.lay, w4, e1, if_false, eu, nI_1]
        refine ih u () ⟨by omega, fw.tu fu.1 (by decide), (fu.1.row 22 rfl (by decide) 5).trans w5, (fu.1.row 22 rfl (by decide) 4).trans w4, fu.see hsee, fun S' q a b c => ?_⟩
        show _ = nI ((if S' = S then _ else CTb _ _ _ _ _ _ S S') q)
        by_cases d : S' = S
        · subst d; rw [if_pos rfl]; exact ru q c
        · rw [if_neg d, fu.2 S' q (by omega) c d]; exact hw S' q a (by omega) c
    · intro f w k _ hk ⟨fw, w5, w4, w24, w25⟩ ih
      have hi := h.fr fw.1
      have e9 : ¬ nI 6 ≤ nI k := nI_ge hk (by decide)
      show ∃ u, fAW_study_63 _ _ w (nI k) = _ ∧ _
      simp only [fAW_study_63, gI_0, pI_0, rc_0, gI_1, pI_1, rc_1, ln_2, ql_2, al_3, as_3, ln_3, al_4, as_4, ln_4, gI_5, pI_5, rc_5, ln_6, ql_6, al_7, as_7, ln_7, al_8, as_8, ln_8, ln_9, ql_9, gI_10, pI_10, rc_10, al_11, as_11, ln_11, al_12, as_12, ln_12, gI_13, pI_13, rc_13, al_14, as_14, ln_14, ln_15, ql_15, gI_16, pI_16, rc_16, al_17, as_17, ln_17, al_18, as_18, ln_18, al_19, as_19, ln_19, al_20, as_20, ln_20, bl_21, bs_21, ln_21, gI_22, pI_22, rc_22, al_23, as_23, ln_23, al_24, as_24, ln_24, al_25, as_25, ln_25, gI_31, pI_31, rc_31, al_32, as_32, ln_32, gI_33, pI_33, rc_33, al_34, as_34, ln_34, gI_35, pI_35, rc_35, al_36, as_36, ln_36, gI_37, pI_37, rc_37, al_38, as_38, ln_38, gC_0_3, gC_0_4, gC_0_5, gC_0_7, gC_0_10, gC_0_11, gC_0_12, gC_0_13, gC_0_14, gC_0_15, gC_0_16, gC_0_17, gC_1_0, gC_1_2, gC_1_3, gC_5_0, gC_5_2, gC_10_0, gC_10_7, gC_13_5, gC_16_0, gC_16_2, gC_22_0, gC_22_1, gC_22_2, gC_22_3, gC_31_2, gC_33_2, gC_35_2, gC_37_2, bI_rI, bV_rV, bQ_rN, bQ_rR, bz_0, bz_1, bz_Z, hZ0, hZ1, Lay_setI, Lay_setA, hi.lay, e9, if_false, touching_v hi hk, hk, nI_1, fw.1.2]
      refine ih _ () ⟨fw.st rfl (by decide), by rw [setI_ne (by decide)]; exact w5, by rw [setI_ne (by decide)]; exact w4, fun i hi => by rw [setI_ne (by decide)]; exact w24 i hi, fun q hq => ?_⟩
      rw [setI_I]
      by_cases c : q = k
      · subst c; rw [if_pos ⟨rfl, rfl⟩]
      · rw [if_neg (fun e => c e.2)]; exact w25 q (by omega)
  · intro f w k _ hk ⟨fw, w5, w4, w24⟩ ih
    have hi := h.fr fw.1
    have e9 : ¬ nI 7 ≤ nI k := nI_ge hk (by decide)
    have hf' : FdC L w := ⟨(fw.row 16 rfl (by decide) 1).trans hf.1, fun k hk => (fw.row 17 rfl (by decide) k).trans (hf.2 k hk)⟩
    show ∃ u, fAW_study_24 _ _ w (nI k) = _ ∧ _
    simp only [fAW_study_24, gI_0, pI_0, rc_0, gI_1, pI_1, rc_1, ln_2, ql_2, al_3, as_3, ln_3, al_4, as_4, ln_4, gI_5, pI_5, rc_5, ln_6, ql_6, al_7, as_7, ln_7, al_8, as_8, ln_8, ln_9, ql_9, gI_10, pI_10, rc_10, al_11, as_11, ln_11, al_12, as_12, ln_12, gI_13, pI_13, rc_13, al_14, as_14, ln_14, ln_15, ql_15, gI_16, pI_16, rc_16, al_17, as_17, ln_17, al_18, as_18, ln_18, al_19, as_19, ln_19, al_20, as_20, ln_20, bl_21, bs_21, ln_21, gI_22, pI_22, rc_22, al_23, as_23, ln_23, al_24, as_24, ln_24, al_25, as_25, ln_25, gI_31, pI_31, rc_31, al_32, as_32, ln_32, gI_33, pI_33, rc_33, al_34, as_34, ln_34, gI_35, pI_35, rc_35, al_36, as_36, ln_36, gI_37, pI_37, rc_37, al_38, as_38, ln_38, gC_0_3, gC_0_4, gC_0_5, gC_0_7, gC_0_10, gC_0_11, gC_0_12, gC_0_13, gC_0_14, gC_0_15, gC_0_16, gC_0_17, gC_1_0, gC_1_2, gC_1_3, gC_5_0, gC_5_2, gC_10_0, gC_10_7, gC_13_5, gC_16_0, gC_16_2, gC_22_0, gC_22_1, gC_22_2, gC_22_3, gC_31_2, gC_33_2, gC_35_2, gC_37_2, bI_rI, bV_rV, bQ_rN, bQ_rR, bz_0, bz_1, bz_Z, hZ0, hZ1, Lay_setI, Lay_setA, hi.lay, e9, if_false, fWd_townAt_v hi.lay hf' (show L.length ≤ 512 by omega), fjM_max_v, max0 hl hb hk, openIn_v hi, hk, nI_1, fw.1.2]
    refine ih _ () ⟨fw.st rfl (by decide), by rw [setI_ne (by decide)]; exact w5, by rw [setI_ne (by decide)]; exact w4, fun i hi => ?_⟩
    rw [setI_I]
    by_cases c : i = k
    · subst c; rw [if_pos ⟨rfl, rfl⟩]
    · rw [if_neg (fun e => c e.2)]; exact w24 i (by omega)
end
