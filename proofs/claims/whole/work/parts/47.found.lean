section
variable {n m s g x p : Nat} {t0 t u : SM}
/-! a call of both -/
def QQ (t : SM) (r : OR) (v : Int32) : Prop := ∃ u, r = rI v u ∧ Fr t u
def IvE (t : SM) : Prop := ∃ n m s g x p, Inv n m s g x p t
def Okk (t : SM) (fx fm : SM → OR) : Prop := ∃ v t1 t2, fx t = rI v t1 ∧ fm t1 = rI v t2 ∧ IvE t2 ∧ mN t2 ≤ mN t + 24 ∧ mZ t2 ≤ mZ t + 1000 ∧ Lay t1
theorem okq (h : Inv n m s g x p t) {fx fm : SM → OR} {v : Int32} (hx : QQ t (fx t) v) (hm : ∀ u, Inv n m s g x p u → pm u = pm t → QQ u (fm u) v) : Okk t fx fm := by
  obtain ⟨u, e1, f1⟩ := hx
  obtain ⟨w, e2, f2⟩ := hm u (h.fr f1) f1.2
  exact ⟨v, u, w, e1, e2, ⟨n, m, s, g, x, p, (h.fr f1).fr f2⟩, by rw [f2.N, f1.N]; omega, by rw [f2.Z, f1.Z]; omega, (h.fr f1).lay⟩
theorem QQ.pure {v : Int32} {r : OR} (h : r = rI v t) : QQ t r v := ⟨t, h, Fr.refl t⟩
theorem QQ.ofIS {S : List Nat} {v : Int32} {r : OR} {P : SM → Prop} (h : IS S t r v P) : QQ t r v := by
  obtain ⟨u, e, f, _⟩ := h
  exact ⟨u, e, f.1⟩
theorem QQ.ofQS {S : List Nat} {v : Int32} {r : OR} (h : QS S t r v) : QQ t r v := by
  obtain ⟨u, e, f⟩ := h
  exact ⟨u, e, f.1⟩
/-! worlds -/
abbrev evB (m : Nat) : Int32 := nI (2 ^ m - 1)
def WL (n m : Nat) (G : GG) (set : Int32) : List Nat := wls (fun j => wp G m set (nI j)) (2 ^ n)
theorem WL_le (hn : n ≤ 9) (G : GG) (set : Int32) : (WL n m G set).length ≤ 512 := by
  unfold WL; rw [wls_len]; exact Nat.le_trans (cnt_le _ _) (pw_lt hn)
theorem WL_get (G : GG) (set : Int32) {k : Nat} (h : k < (WL n m G set).length) : (WL n m G set).getD k 0 < 2 ^ n := (wls_get h).1
def FdC (L : List Nat) (u : SM) : Prop := mI u 16 1 = nI L.length ∧ RwL (mI u 17) L
def FdM (L : List Nat) (u : SM) : Prop := mI u 39 45 = nI L.length ∧ RwL (mI u 63) L
def twn (L : List Nat) (v : Int32) : Int32 := if inr v L.length = true then nI (L.getD (cN v) 0) else -1
theorem agB_every (G : GG) (m : Nat) (w : Int32) (h : m ≤ 8) : (agB G m w &&& evB m) = agB G m w := by
  apply b_ext
  intro i hi
  rw [b_and, bt_agB h hi, bt_mask (by omega)]
  cases decide (i < m) <;> simp
theorem wp_every (G : GG) (m : Nat) (w : Int32) (h : m ≤ 8) : (agv G m w = evB m) = (wp G m (evB m) w = true) := by
  unfold agv wp
  rw [agB_every G m w h]
  cases c : act G w
  · have := Nat.pow_le_pow_right (n := 2) (by decide) h
    have e : nI (2 ^ m - 1) ≠ -1 := by
      intro e
      have := nI_pos (n := 2 ^ m - 1) (by omega)
      rw [e] at this
      exact this (by decide)
    simp [Ne.symm e]
  · simp
theorem fWd_add_v {L : List Nat} {w : Nat} (h : Lay u) (hf : FdC L u) (hl : L.length < 512) : fWd_add u (nI w) = rV (setI (setI u 17 L.length (nI w)) 16 1 (nI (L.length + 1))) := by
  have e1 : ¬ nI L.length < 0 := nI_pos (by omega)
  have e2 : ¬ nI 512 ≤ nI L.length := nI_ge hl (by decide)
  have e3 : mI (setI u 17 L.length (nI w)) 16 1 = nI L.length := by rw [setI_ne (by decide)]; exact hf.1
  simp only [fWd_add, gI_0, pI_0, rc_0, gI_1, pI_1, rc_1, ln_2, ql_2, al_3, as_3, ln_3, al_4, as_4, ln_4, gI_5, pI_5, rc_5, ln_6, ql_6, al_7, as_7, ln_7, al_8, as_8, ln_8, ln_9, ql_9, gI_10, pI_10, rc_10, al_11, as_11, ln_11, al_12, as_12, ln_12, gI_13, pI_13, rc_13, al_14, as_14, ln_14, ln_15, ql_15, gI_16, pI_16, rc_16, al_17, as_17, ln_17, al_18, as_18, ln_18, al_19, as_19, ln_19, al_20, as_20, ln_20, bl_21, bs_21, ln_21, gI_22, pI_22, rc_22, al_23, as_23, ln_23, al_24, as_24, ln_24, al_25, as_25, ln_25, gI_31, pI_31, rc_31, al_32, as_32, ln_32, gI_33, pI_33, rc_33, al_34, as_34, ln_34, gI_35, pI_35, rc_35, al_36, as_36, ln_36, gI_37, pI_37, rc_37, al_38, as_38, ln_38, gC_0_3, gC_0_4, gC_0_5, gC_0_7, gC_0_10, gC_0_11, gC_0_12, gC_0_13, gC_0_14, gC_0_15, gC_0_16, gC_0_17, gC_1_0, gC_1_2, gC_1_3, gC_5_0, gC_5_2, gC_10_0, gC_10_7, gC_13_5, gC_16_0, gC_16_2, gC_22_0, gC_22_1, gC_22_2, gC_22_3, gC_31_2, gC_33_2, gC_35_2, gC_37_2, bI_rI, bV_rV, bQ_rN, bQ_rR, bz_0, bz_1, bz_Z, hZ0, hZ1, Lay_setI, Lay_setA, h, hf.1, e1, e2, if_false, hl, e3, nI_1]
theorem FdC.snoc {L : List Nat} {w : Nat} (hf : FdC L u) : FdC (L ++ [w]) (setI (setI u 17 L.length (nI w)) 16 1 (nI (L.length + 1))) := by
  refine ⟨by rw [setI_eq rfl rfl, List.length_append, List.length_singleton], ?_⟩
  rw [setI_ne (by decide)]
  exact hf.2.snoc (fun k hk => by rw [setI_I, if_neg (by omega)]) (setI_eq rfl rfl)
theorem FdM.snoc {L : List Nat} {w : Nat} (hf : FdM L u) : FdM (L ++ [w]) (setI (setI u 63 L.length (nI w)) 39 45 (nI (L.length + 1))) := by
  refine ⟨by rw [setI_eq rfl rfl, List.length_append, List.length_singleton], ?_⟩
  rw [setI_ne (by decide)]
  exact hf.2.snoc (fun k hk => by rw [setI_I, if_neg (by omega)]) (setI_eq rfl rfl)
theorem fx_findWorlds_v (h : Inv n m s g x p t0) (set : Int32) : IS [16, 17] t0 (fx_findWorlds t0 set) (nI (WL n m (pm t0) set).length) (FdC (WL n m (pm t0) set)) := by
  have hr := h.rng
  have hpw := pw_lt (n := n) (by omega)
  simp only [fx_findWorlds, gI_0, pI_0, rc_0, gI_1, pI_1, rc_1, ln_2, ql_2, al_3, as_3, ln_3, al_4, as_4, ln_4, gI_5, pI_5, rc_5, ln_6, ql_6, al_7, as_7, ln_7, al_8, as_8, ln_8, ln_9, ql_9, gI_10, pI_10, rc_10, al_11, as_11, ln_11, al_12, as_12, ln_12, gI_13, pI_13, rc_13, al_14, as_14, ln_14, ln_15, ql_15, gI_16, pI_16, rc_16, al_17, as_17, ln_17, al_18, as_18, ln_18, al_19, as_19, ln_19, al_20, as_20, ln_20, bl_21, bs_21, ln_21, gI_22, pI_22, rc_22, al_23, as_23, ln_23, al_24, as_24, ln_24, al_25, as_25, ln_25, gI_31, pI_31, rc_31, al_32, as_32, ln_32, gI_33, pI_33, rc_33, al_34, as_34, ln_34, gI_35, pI_35, rc_35, al_36, as_36, ln_36, gI_37, pI_37, rc_37, al_38, as_38, ln_38, gC_0_3, gC_0_4, gC_0_5, gC_0_7, gC_0_10, gC_0_11, gC_0_12, gC_0_13, gC_0_14, gC_0_15, gC_0_16, gC_0_17, gC_1_0, gC_1_2, gC_1_3, gC_5_0, gC_5_2, gC_10_0, gC_10_7, gC_13_5, gC_16_0, gC_16_2, gC_22_0, gC_22_1, gC_22_2, gC_22_3, gC_31_2, gC_33_2, gC_35_2, gC_37_2, bI_rI, bV_rV, bQ_rN, bQ_rR, bz_0, bz_1, bz_Z, hZ0, hZ1, Lay_setI, Lay_setA, h.lay]
  refine for_up (β := Unit) (fun f t i _ => fx_findWorlds_l10 (fun t => fx_findWorlds_54 t) f t set (nI i)) (fun r => IS [16, 17] t0 r (nI (WL n m (pm t0) set).length) (FdC (WL n m (pm t0) set))) (2 ^ n)
    (fun i u _ => FS [16, 17] t0 u ∧ FdC (wls (fun j => wp (pm t0) m set (nI j)) i) u) ?_ ?_ (2 ^ n) 0 (setI t0 16 1 0) () 1000000 (by omega) ⟨(FS.refl _ _).st rfl (by decide), setI_eq rfl rfl, fun k hk => absurd hk (by show ¬ k < 0; omega)⟩ (by omega)
  · intro f u _ ⟨fu, hu⟩
    have hi := h.fr fu.1
    have hp0 := Nat.two_pow_pos n
    have e1 : nI (2 ^ n - 1) < nI (2 ^ n) := nI_lt (by omega) (by omega)
    show IS _ t0 (fx_findWorlds_10 _ _ u set (nI (2 ^ n))) _ _
    simp only [fx_findWorlds_10, gI_0, pI_0, rc_0, gI_1, pI_1, rc_1, ln_2, ql_2, al_3, as_3, ln_3, al_4, as_4, ln_4, gI_5, pI_5, rc_5, ln_6, ql_6, al_7, as_7, ln_7, al_8, as_8, ln_8, ln_9, ql_9, gI_10, pI_10, rc_10, al_11, as_11, ln_11, al_12, as_12, ln_12, gI_13, pI_13, rc_13, al_14, as_14, ln_14, ln_15, ql_15, gI_16, pI_16, rc_16, al_17, as_17, ln_17, al_18, as_18, ln_18, al_19, as_19, ln_19, al_20, as_20, ln_20, bl_21, bs_21, ln_21, gI_22, pI_22, rc_22, al_23, as_23, ln_23, al_24, as_24, ln_24, al_25, as_25, ln_25, gI_31, pI_31, rc_31, al_32, as_32, ln_32, gI_33, pI_33, rc_33, al_34, as_34, ln_34, gI_35, pI_35, rc_35, al_36, as_36, ln_36, gI_37, pI_37, rc_37, al_38, as_38, ln_38, gC_0_3, gC_0_4, gC_0_5, gC_0_7, gC_0_10, gC_0_11, gC_0_12, gC_0_13, gC_0_14, gC_0_15, gC_0_16, gC_0_17, gC_1_0, gC_1_2, gC_1_3, gC_5_0, gC_5_2, gC_10_0, gC_10_7, gC_13_5, gC_16_0, gC_16_2, gC_22_0, gC_22_1, gC_22_2, gC_22_3, gC_31_2, gC_33_2, gC_35_2, gC_37_2, bI_rI, bV_rV, bQ_rN, bQ_rR, bz_0, bz_1, bz_Z, hZ0, hZ1, Lay_setI, Lay_setA, hi.lay, fx_everyChoice_v hi, e1, if_true, fx_findWorlds_54, hu.1]
    exact ⟨u, rfl, fu, hu⟩
  · intro f u i _ hi2 ⟨fu, hu⟩ ih
    have hi := h.fr fu.1
    have e1 : ¬ nI (2 ^ n - 1) < nI i := nI_nlt (by omega) (by omega)
    have i512 : i < 512 := by omega
    have hlen : (wls (fun j => wp (pm t0) m set (nI j)) i).length < 512 := by rw [wls_len]; have := cnt_le (fun j => wp (pm t0) m set (nI j)) i; omega
    show IS _ t0 (fx_findWorlds_10 _ _ u set (nI i)) _ _
    simp only [fx_findWorlds_10, gI_0, pI_0, rc_0, gI_1, pI_1, rc_1, ln_2, ql_2, al_3, as_3, ln_3, al_4, as_4, ln_4, gI_5, pI_5, rc_5, ln_6, ql_6, al_7, as_7, ln_7, al_8, as_8, ln_8, ln_9, ql_9, gI_10, pI_10, rc_10, al_11, as_11, ln_11, al_12, as_12, ln_12, gI_13, pI_13, rc_13, al_14, as_14, ln_14, ln_15, ql_15, gI_16, pI_16, rc_16, al_17, as_17, ln_17, al_18, as_18, ln_18, al_19, as_19, ln_19, al_20, as_20, ln_20, bl_21, bs_21, ln_21, gI_22, pI_22, rc_22, al_23, as_23, ln_23, al_24, as_24, ln_24, al_25, as_25, ln_25, gI_31, pI_31, rc_31, al_32, as_32, ln_32, gI_33, pI_33, rc_33, al_34, as_34, ln_34, gI_35, pI_35, rc_35, al_36, as_36, ln_36, gI_37, pI_37, rc_37, al_38, as_38, ln_38, gC_0_3, gC_0_4, gC_0_5, gC_0_7, gC_0_10, gC_0_11, gC_0_12, gC_0_13, gC_0_14, gC_0_15, gC_0_16, gC_0_17, gC_1_0, gC_1_2, gC_1_3, gC_5_0, gC_5_2, gC_10_0, gC_10_7, gC_13_5, gC_16_0, gC_16_2, gC_22_0, gC_22_1, gC_22_2, gC_22_3, gC_31_2, gC_33_2, gC_35_2, gC_37_2, bI_rI, bV_rV, bQ_rN, bQ_rR, bz_0, bz_1, bz_Z, hZ0, hZ1, Lay_setI, Lay_setA, hi.lay, fx_everyChoice_v hi, e1, if_false, fAt_agreeingWith_v hi i512, fx_mayBeRight_v hi hi2, fWd_add_v hi.lay hu hlen, fu.1.2, nI_1]
    by_cases c1 : (agB (pm t0) m (nI i) &&& set) = set
    · rw [if_pos c1]
      cases c2 : act (pm t0) (nI i)
      · simp only [if_true]
        refine ih u () ⟨fu, ?_⟩
        rw [wls_s, if_neg (by simp [wp, c2])]; exact hu
      · simp only [if_false, Bool.true_eq_false]
        refine ih _ () ⟨(fu.st rfl (by decide)).st rfl (by decide), ?_⟩
        rw [wls_s, if_pos (by simp [wp, c2, c1])]; exact hu.snoc
    · rw [if_neg c1]
      refine ih u () ⟨fu, ?_⟩
      rw [wls_s, if_neg (by simp [wp, c1])]; exact hu
theorem fm_findsWorlds_v (h : Inv n m s g x p t0) : VS [39, 60, 61, 62, 63] t0 (fm_findsWorlds t0) (fun u => Agd (pm t0) n m u ∧ FdM (WL n m (pm t0) (evB m)) u) := by
  have hr := h.rng
  have hpw := pw_lt (n := n) (by omega)
  obtain ⟨u0, e0, f0, g0⟩ := agrees_in h
  have h0 := h.fr f0.1
  have f1 : FS [39, 60, 61, 62, 63] t0 (setI u0 39 45 0) := (f0.up (by decide)).st rfl (by decide)
  simp only [fm_findsWorlds, gI_39, pI_39, rc_39, al_40, as_40, ln_40, al_41, as_41, ln_41, al_42, as_42, ln_42, al_43, as_43, ln_43, al_44, as_44, ln_44, al_45, as_45, ln_45, al_46, as_46, ln_46, al_47, as_47, ln_47, al_48, as_48, ln_48, al_49, as_49, ln_49, al_50, as_50, ln_50, al_51, as_51, ln_51, al_52, as_52, ln_52, al_53, as_53, ln_53, al_54, as_54, ln_54, al_55, as_55, ln_55, al_56, as_56, ln_56, al_57, as_57, ln_57, al_58, as_58, ln_58, al_59, as_59, ln_59, al_60, as_60, ln_60, al_61, as_61, ln_61, al_62, as_62, ln_62, al_63, as_63, ln_63, al_64, as_64, ln_64, al_65, as_65, ln_65, al_66, as_66, ln_66, al_67, as_67, ln_67, gC_39_4, gC_39_5, gC_39_6, gC_39_7, gC_39_8, gC_39_10, gC_39_11, gC_39_12, gC_39_13, gC_39_15, gC_39_16, gC_39_18, gC_39_19, gC_39_27, gC_39_28, gC_39_29, gC_39_30, gC_39_31, gC_39_36, gC_39_37, gC_39_41, gC_39_42, gC_39_43, gC_39_44, gC_39_46, gC_39_47, gC_39_48, gC_39_49, bI_rI, bV_rV, bQ_rN, bQ_rR, bz_0, bz_1, bz_Z, hZ0, hZ1, Lay_setI, Lay_setA, h.lay, e0, h0.lay]
  refine for_up (β := Unit) (fun f t i _ => fm_findsWorlds_l11 f t (nI i)) (fun r => VS [39, 60, 61, 62, 63] t0 r (fun u => Agd (pm t0) n m u ∧ FdM (WL n m (pm t0) (evB m)) u)) (2 ^ n)
    (fun i u _ => FS [39, 60, 61, 62, 63] t0 u ∧ Agd (pm t0) n m u ∧ FdM (wls (fun j => wp (pm t0) m (evB m) (nI j)) i) u) ?_ ?_ (2 ^ n) 0 (setI u0 39 45 0) () 1000000 (by omega)
    ⟨f1, fun j hj => by rw [setI_ne (by decide)]; exact g0 j hj, setI_eq rfl rfl, fun k hk => absurd hk (by show ¬ k < 0; omega)⟩ (by omega)
  · intro f u _ ⟨fu, ga, hu⟩
    have hi := h.fr fu.1
    have e1 : nI (2 ^ n) ≤ nI (2 ^ n) := Int32.le_refl _
    show VS _ t0 (fm_findsWorlds_11 _ u (nI (2 ^ n))) _
    simp only [fm_findsWorlds_11, gI_39, pI_39, rc_39, al_40, as_40, ln_40, al_41, as_41, ln_41, al_42, as_42, ln_42, al_43, as_43, ln_43, al_44, as_44, ln_44, al_45, as_45, ln_45, al_46, as_46, ln_46, al_47, as_47, ln_47, al_48, as_48, ln_48, al_49, as_49, ln_49, al_50, as_50, ln_50, al_51, as_51, ln_51, al_52, as_52, ln_52, al_53, as_53, ln_53, al_54, as_54, ln_54, al_55, as_55, ln_55, al_56, as_56, ln_56, al_57, as_57, ln_57, al_58, as_58, ln_58, al_59, as_59, ln_59, al_60, as_60, ln_60, al_61, as_61, ln_61, al_62, as_62, ln_62, al_63, as_63, ln_63, al_64, as_64, ln_64, al_65, as_65, ln_65, al_66, as_66, ln_66, al_67, as_67, ln_67, gC_39_4, gC_39_5, gC_39_6, gC_39_7, gC_39_8, gC_39_10, gC_39_11, gC_39_12, gC_39_13, gC_39_15, gC_39_16, gC_39_18, gC_39_19, gC_39_27, gC_39_28, gC_39_29, gC_39_30, gC_39_31, gC_39_36, gC_39_37, gC_39_41, gC_39_42, gC_39_43, gC_39_44, gC_39_46, gC_39_47, gC_39_48, gC_39_49, bI_rI, bV_rV, bQ_rN, bQ_rR, bz_0, bz_1, bz_Z, hZ0, hZ1, Lay_setI, Lay_setA, hi.lay, hi.ch, b_pow n (by omega), e1, if_true]
    exact ⟨u, rfl, fu, ga, hu⟩
  · intro f u i _ hi2 ⟨fu, ga, hu⟩ ih
    have hi := h.fr fu.1
    have e1 : ¬ nI (2 ^ n) ≤ nI i := nI_ge hi2 (by omega)
    have i512 : i < 512 := by omega
    have hlen : (wls (fun j => wp (pm t0) m (evB m) (nI j)) i).length < 512 := by rw [wls_len]; have := cnt_le (fun j => wp (pm t0) m (evB m) (nI j)) i; omega
    have e3 : mI (setI u 63 (wls (fun j => wp (pm t0) m (evB m) (nI j)) i).length (nI i)) 39 45 = nI (wls (fun j => wp (pm t0) m (evB m) (nI j)) i).length := by rw [setI_ne (by decide)]; exact hu.1
    show VS _ t0 (fm_findsWorlds_11 _ u (nI i)) _
    simp only [fm_findsWorlds_11, gI_39, pI_39, rc_39, al_40, as_40, ln_40, al_41, as_41, ln_41, al_42, as_42, ln_42, al_43, as_43, ln_43, al_44, as_44, ln_44, al_45, as_45, ln_45, al_46, as_46, ln_46, al_47, as_47, ln_47, al_48, as_48, ln_48, al_49, as_49, ln_49, al_50, as_50, ln_50, al_51, as_51, ln_51, al_52, as_52, ln_52, al_53, as_53, ln_53, al_54, as_54, ln_54, al_55, as_55, ln_55, al_56, as_56, ln_56, al_57, as_57, ln_57, al_58, as_58, ln_58, al_59, as_59, ln_59, al_60, as_60, ln_60, al_61, as_61, ln_61, al_62, as_62, ln_62, al_63, as_63, ln_63, al_64, as_64, ln_64, al_65, as_65, ln_65, al_66, as_66, ln_66, al_67, as_67, ln_67, gC_39_4, gC_39_5, gC_39_6, gC_39_7, gC_39_8, gC_39_10, gC_39_11, gC_39_12, gC_39_13, gC_39_15, gC_39_16, gC_39_18, gC_39_19, gC_39_27, gC_39_28, gC_39_29, gC_39_30, gC_39_31, gC_39_36, gC_39_37, gC_39_41, gC_39_42, gC_39_43, gC_39_44, gC_39_46, gC_39_47, gC_39_48, gC_39_49, bI_rI, bV_rV, bQ_rN, bQ_rR, bz_0, bz_1, bz_Z, hZ0, hZ1, Lay_setI, Lay_setA, hi.lay, hi.ch, b_pow n (by omega), e1, if_false, i512, ga i hi2, fm_allMaps_v hi, hu.1, hlen, e3, nI_1]
    by_cases c : wp (pm t0) m (evB m) (nI i) = true
    · have c' : agv (pm t0) m (nI i) = nI (2 ^ m - 1) := by rw [wp_every _ _ _ (by omega)]; exact c
      rw [if_pos c']
      refine ih _ () ⟨(fu.st rfl (by decide)).st rfl (by decide), fun j hj => ?_, ?_⟩
      · rw [setI_ne (by decide), setI_ne (by decide)]; exact ga j hj
      · rw [wls_s, if_pos c]; exact hu.snoc
    · have c' : ¬ agv (pm t0) m (nI i) = nI (2 ^ m - 1) := by rw [wp_every _ _ _ (by omega)]; exact c
      rw [if_neg c']
      refine ih u () ⟨fu, ga, ?_⟩
      rw [wls_s, if_neg c]; exact hu
theorem fWd_townAt_v {L : List Nat} (h : Lay u) (hf : FdC L u) (hl : L.length ≤ 512) (v : Int32) : fWd_townAt u v = rI (twn L v) u := by
  unfold twn
  by_cases e1 : v < 0
  · have : inr v L.length = false := by unfold inr; rw [decide_eq_false (Int32.not_le.mpr e1)]; rfl
    simp only [fWd_townAt, e1, if_true, this]
    rfl
  · by_cases e2 : nI L.length ≤ v
    · have : inr v L.length = false := by unfold inr; rw [decide_eq_false (Int32.not_lt.mpr e2), Bool.and_false]
      simp only [fWd_townAt, gI_0, pI_0, rc_0, gI_1, pI_1, rc_1, ln_2, ql_2, al_3, as_3, ln_3, al_4, as_4, ln_4, gI_5, pI_5, rc_5, ln_6, ql_6, al_7, as_7, ln_7, al_8, as_8, ln_8, ln_9, ql_9, gI_10, pI_10, rc_10, al_11, as_11, ln_11, al_12, as_12, ln_12, gI_13, pI_13, rc_13, al_14, as_14, ln_14, ln_15, ql_15, gI_16, pI_16, rc_16, al_17, as_17, ln_17, al_18, as_18, ln_18, al_19, as_19, ln_19, al_20, as_20, ln_20, bl_21, bs_21, ln_21, gI_22, pI_22, rc_22, al_23, as_23, ln_23, al_24, as_24, ln_24, al_25, as_25, ln_25, gI_31, pI_31, rc_31, al_32, as_32, ln_32, gI_33, pI_33, rc_33, al_34, as_34, ln_34, gI_35, pI_35, rc_35, al_36, as_36, ln_36, gI_37, pI_37, rc_37, al_38, as_38, ln_38, gC_0_3, gC_0_4, gC_0_5, gC_0_7, gC_0_10, gC_0_11, gC_0_12, gC_0_13, gC_0_14, gC_0_15, gC_0_16, gC_0_17, gC_1_0, gC_1_2, gC_1_3, gC_5_0, gC_5_2, gC_10_0, gC_10_7, gC_13_5, gC_16_0, gC_16_2, gC_22_0, gC_22_1, gC_22_2, gC_22_3, gC_31_2, gC_33_2, gC_35_2, gC_37_2, bI_rI, bV_rV, bQ_rN, bQ_rR, bz_0, bz_1, bz_Z, hZ0, hZ1, Lay_setI, Lay_setA, h, e1, if_false, hf.1, e2, if_true, this]
      rfl
    · have e : inr v L.length = true := by unfold inr; rw [decide_eq_true (Int32.not_lt.mp e1), decide_eq_true (Int32.not_le.mp e2)]; rfl
      obtain ⟨i, hi, rfl⟩ := inr_t e (by omega)
      have e3 : ¬ nI 512 ≤ nI i := nI_ge (by omega) (by decide)
      have e4 : i < 512 := by omega
      simp only [fWd_townAt, gI_0, pI_0, rc_0, gI_1, pI_1, rc_1, ln_2, ql_2, al_3, as_3, ln_3, al_4, as_4, ln_4, gI_5, pI_5, rc_5, ln_6, ql_6, al_7, as_7, ln_7, al_8, as_8, ln_8, ln_9, ql_9, gI_10, pI_10, rc_10, al_11, as_11, ln_11, al_12, as_12, ln_12, gI_13, pI_13, rc_13, al_14, as_14, ln_14, ln_15, ql_15, gI_16, pI_16, rc_16, al_17, as_17, ln_17, al_18, as_18, ln_18, al_19, as_19, ln_19, al_20, as_20, ln_20, bl_21, bs_21, ln_21, gI_22, pI_22, rc_22, al_23, as_23, ln_23, al_24, as_24, ln_24, al_25, as_25, ln_25, gI_31, pI_31, rc_31, al_32, as_32, ln_32, gI_33, pI_33, rc_33, al_34, as_34, ln_34, gI_35, pI_35, rc_35, al_36, as_36, ln_36, gI_37, pI_37, rc_37, al_38, as_38, ln_38, gC_0_3, gC_0_4, gC_0_5, gC_0_7, gC_0_10, gC_0_11, gC_0_12, gC_0_13, gC_0_14, gC_0_15, gC_0_16, gC_0_17, gC_1_0, gC_1_2, gC_1_3, gC_5_0, gC_5_2, gC_10_0, gC_10_7, gC_13_5, gC_16_0, gC_16_2, gC_22_0, gC_22_1, gC_22_2, gC_22_3, gC_31_2, gC_33_2, gC_35_2, gC_37_2, bI_rI, bV_rV, bQ_rN, bQ_rR, bz_0, bz_1, bz_Z, hZ0, hZ1, Lay_setI, Lay_setA, h, e1, if_false, hf.1, e2, if_true, e, e3, e4, hf.2 i hi, cN, nI_clamp (show i < 2 ^ 31 by omega)]
theorem twn_i {L : List Nat} {k : Nat} (h : k < L.length) (hl : L.length ≤ 512) : twn L (nI k) = nI (L.getD k 0) := by
  unfold twn; rw [inr_i h (by omega), if_pos rfl, cN, nI_clamp (by omega)]
/-! how many worlds, which -/
def s_worlds (n m : Nat) (G : GG) (a : Int32) : Int32 := if inr a (2 ^ m) = true then nI (WL n m G a).length else -2
theorem xq_worlds (h : Inv n m s g x p t) (a : Int32) : QQ t (fx_worlds t a) (s_worlds n m (pm t) a) := by
  have hr := h.rng
  have hpw := Nat.pow_le_pow_right (n := 2) (by decide) (show m ≤ 8 by omega)
  have hp0 := Nat.two_pow_pos m
  unfold s_worlds
  by_cases e1 : a < 0
  · have : inr a (2 ^ m) = false := by unfold inr; rw [decide_eq_false (Int32.not_le.mpr e1)]; rfl
    rw [this]
    simp only [fx_worlds, e1, if_true]
    exact QQ.pure rfl
  · by_cases e2 : a ≤ nI (2 ^ m - 1)
    · have e : inr a (2 ^ m) = true := by
        obtain ⟨i, hi, rfl⟩ := nI_of e1
        exact inr_i (by have := (nI_leI hi (by omega)).mp e2; omega) (by omega)
      rw [e, if_pos rfl]
      obtain ⟨u, eu, fu, _⟩ := fx_findWorlds_v h a
      simp only [fx_worlds, e1, if_false, gI_0, pI_0, rc_0, gI_1, pI_1, rc_1, ln_2, ql_2, al_3, as_3, ln_3, al_4, as_4, ln_4, gI_5, pI_5, rc_5, ln_6, ql_6, al_7, as_7, ln_7, al_8, as_8, ln_8, ln_9, ql_9, gI_10, pI_10, rc_10, al_11, as_11, ln_11, al_12, as_12, ln_12, gI_13, pI_13, rc_13, al_14, as_14, ln_14, ln_15, ql_15, gI_16, pI_16, rc_16, al_17, as_17, ln_17, al_18, as_18, ln_18, al_19, as_19, ln_19, al_20, as_20, ln_20, bl_21, bs_21, ln_21, gI_22, pI_22, rc_22, al_23, as_23, ln_23, al_24, as_24, ln_24, al_25, as_25, ln_25, gI_31, pI_31, rc_31, al_32, as_32, ln_32, gI_33, pI_33, rc_33, al_34, as_34, ln_34, gI_35, pI_35, rc_35, al_36, as_36, ln_36, gI_37, pI_37, rc_37, al_38, as_38, ln_38, gC_0_3, gC_0_4, gC_0_5, gC_0_7, gC_0_10, gC_0_11, gC_0_12, gC_0_13, gC_0_14, gC_0_15, gC_0_16, gC_0_17, gC_1_0, gC_1_2, gC_1_3, gC_5_0, gC_5_2, gC_10_0, gC_10_7, gC_13_5, gC_16_0, gC_16_2, gC_22_0, gC_22_1, gC_22_2, gC_22_3, gC_31_2, gC_33_2, gC_35_2, gC_37_2, bI_rI, bV_rV, bQ_rN, bQ_rR, bz_0, bz_1, bz_Z, hZ0, hZ1, Lay_setI, Lay_setA, h.lay, fAt_everyMap_v h, e2, if_true, eu]
      exact ⟨u, rfl, fu.1⟩
    · have e : inr a (2 ^ m) = false := by
        cases c : inr a (2 ^ m) with
        | false => rfl
        | true =>
          obtain ⟨i, hi, rfl⟩ := inr_t c (by omega)
          exact absurd (nI_le (show i ≤ 2 ^ m - 1 by omega) (by omega)) e2
      rw [e]
      simp only [fx_worlds, e1, if_false, gI_0, pI_0, rc_0, gI_1, pI_1, rc_1, ln_2, ql_2, al_3, as_3, ln_3, al_4, as_4, ln_4, gI_5, pI_5, rc_5, ln_6, ql_6, al_7, as_7, ln_7, al_8, as_8, ln_8, ln_9, ql_9, gI_10, pI_10, rc_10, al_11, as_11, ln_11, al_12, as_12, ln_12, gI_13, pI_13, rc_13, al_14, as_14, ln_14, ln_15, ql_15, gI_16, pI_16, rc_16, al_17, as_17, ln_17, al_18, as_18, ln_18, al_19, as_19, ln_19, al_20, as_20, ln_20, bl_21, bs_21, ln_21, gI_22, pI_22, rc_22, al_23, as_23, ln_23, al_24, as_24, ln_24, al_25, as_25, ln_25, gI_31, pI_31, rc_31, al_32, as_32, ln_32, gI_33, pI_33, rc_33, al_34, as_34, ln_34, gI_35, pI_35, rc_35, al_36, as_36, ln_36, gI_37, pI_37, rc_37, al_38, as_38, ln_38, gC_0_3, gC_0_4, gC_0_5, gC_0_7, gC_0_10, gC_0_11, gC_0_12, gC_0_13, gC_0_14, gC_0_15, gC_0_16, gC_0_17, gC_1_0, gC_1_2, gC_1_3, gC_5_0, gC_5_2, gC_10_0, gC_10_7, gC_13_5, gC_16_0, gC_16_2, gC_22_0, gC_22_1, gC_22_2, gC_22_3, gC_31_2, gC_33_2, gC_35_2, gC_37_2, bI_rI, bV_rV, bQ_rN, bQ_rR, bz_0, bz_1, bz_Z, hZ0, hZ1, Lay_setI, Lay_setA, h.lay, fAt_everyMap_v h, e2]
      exact QQ.pure rfl
theorem in_every (a : Int32) (hm : m ≤ 8) : (decide ((0 : Int32) ≤ a) && decide (a ≤ nI (2 ^ m - 1))) = inr a (2 ^ m) := by
  have hpw := Nat.pow_le_pow_right (n := 2) (by decide) hm
  have hp0 := Nat.two_pow_pos m
  have : nI (2 ^ m - 1) = nI (2 ^ m) - 1 := (pk_sub (b := 1) hp0).symm
  rw [this]
  exact inr_in (by omega)
theorem mq_worlds (h : Inv n m s g x p t) (a : Int32) : QQ t (fm_worlds t a) (s_worlds n m (pm t) a) := by
  have hr := h.rng
  unfold s_worlds
  simp only [fm_worlds, gI_39, pI_39, rc_39, al_40, as_40, ln_40, al_41, as_41, ln_41, al_42, as_42, ln_42, al_43, as_43, ln_43, al_44, as_44, ln_44, al_45, as_45, ln_45, al_46, as_46, ln_46, al_47, as_47, ln_47, al_48, as_48, ln_48, al_49, as_49, ln_49, al_50, as_50, ln_50, al_51, as_51, ln_51, al_52, as_52, ln_52, al_53, as_53, ln_53, al_54, as_54, ln_54, al_55, as_55, ln_55, al_56, as_56, ln_56, al_57, as_57, ln_57, al_58, as_58, ln_58, al_59, as_59, ln_59, al_60, as_60, ln_60, al_61, as_61, ln_61, al_62, as_62, ln_62, al_63, as_63, ln_63, al_64, as_64, ln_64, al_65, as_65, ln_65, al_66, as_66, ln_66, al_67, as_67, ln_67, gC_39_4, gC_39_5, gC_39_6, gC_39_7, gC_39_8, gC_39_10, gC_39_11, gC_39_12, gC_39_13, gC_39_15, gC_39_16, gC_39_18, gC_39_19, gC_39_27, gC_39_28, gC_39_29, gC_39_30, gC_39_31, gC_39_36, gC_39_37, gC_39_41, gC_39_42, gC_39_43, gC_39_44, gC_39_46, gC_39_47, gC_39_48, gC_39_49, bI_rI, bV_rV, bQ_rN, bQ_rR, bz_0, bz_1, bz_Z, hZ0, hZ1, Lay_setI, Lay_setA, h.lay, fm_allMaps_v h, fm_in_v, in_every a (show m ≤ 8 by omega)]
  cases c : inr a (2 ^ m)
  · simp only [if_true]
    exact QQ.pure rfl
  · obtain ⟨u, eu, fu, gu⟩ := agrees_in h
    have hu := h.fr fu.1
    have gu' : Agd (pm u) n m u := by rw [fu.1.2]; exact gu
    simp only [if_false, if_true, Bool.true_eq_false, eu, gI_39, pI_39, rc_39, al_40, as_40, ln_40, al_41, as_41, ln_41, al_42, as_42, ln_42, al_43, as_43, ln_43, al_44, as_44, ln_44, al_45, as_45, ln_45, al_46, as_46, ln_46, al_47, as_47, ln_47, al_48, as_48, ln_48, al_49, as_49, ln_49, al_50, as_50, ln_50, al_51, as_51, ln_51, al_52, as_52, ln_52, al_53, as_53, ln_53, al_54, as_54, ln_54, al_55, as_55, ln_55, al_56, as_56, ln_56, al_57, as_57, ln_57, al_58, as_58, ln_58, al_59, as_59, ln_59, al_60, as_60, ln_60, al_61, as_61, ln_61, al_62, as_62, ln_62, al_63, as_63, ln_63, al_64, as_64, ln_64, al_65, as_65, ln_65, al_66, as_66, ln_66, al_67, as_67, ln_67, gC_39_4, gC_39_5, gC_39_6, gC_39_7, gC_39_8, gC_39_10, gC_39_11, gC_39_12, gC_39_13, gC_39_15, gC_39_16, gC_39_18, gC_39_19, gC_39_27, gC_39_28, gC_39_29, gC_39_30, gC_39_31, gC_39_36, gC_39_37, gC_39_41, gC_39_42, gC_39_43, gC_39_44, gC_39_46, gC_39_47, gC_39_48, gC_39_49, bI_rI, bV_rV, bQ_rN, bQ_rR, bz_0, bz_1, bz_Z, hZ0, hZ1, Lay_setI, Lay_setA, hu.lay, fm_countBy_v hu gu', fu.1.2]
    refine ⟨u, ?_, fu.1⟩
    unfold WL; rw [wls_len]
theorem ok_worlds (h : Inv n m s g x p t) (a : Int32) : Okk t (fun t => fx_worlds t a) (fun t => fm_worlds t a) := okq h (xq_worlds h a) (fun u hu e => e ▸ mq_worlds hu a)
def s_world (n m : Nat) (G : GG) (a : Int32) : Int32 := twn (WL n m G (evB m)) a
theorem xq_world (h : Inv n m s g x p t) (a : Int32) : QQ t (fx_world t a) (s_world n m (pm t) a) := by
  have hr := h.rng
  obtain ⟨u, eu, fu, gu⟩ := fx_findWorlds_v h (evB m)
  have hu := h.fr fu.1
  simp only [fx_world, gI_0, pI_0, rc_0, gI_1, pI_1, rc_1, ln_2, ql_2, al_3, as_3, ln_3, al_4, as_4, ln_4, gI_5, pI_5, rc_5, ln_6, ql_6, al_7, as_7, ln_7, al_8, as_8, ln_8, ln_9, ql_9, gI_10, pI_10, rc_10, al_11, as_11, ln_11, al_12, as_12, ln_12, gI_13, pI_13, rc_13, al_14, as_14, ln_14, ln_15, ql_15, gI_16, pI_16, rc_16, al_17, as_17, ln_17, al_18, as_18, ln_18, al_19, as_19, ln_19, al_20, as_20, ln_20, bl_21, bs_21, ln_21, gI_22, pI_22, rc_22, al_23, as_23, ln_23, al_24, as_24, ln_24, al_25, as_25, ln_25, gI_31, pI_31, rc_31, al_32, as_32, ln_32, gI_33, pI_33, rc_33, al_34, as_34, ln_34, gI_35, pI_35, rc_35, al_36, as_36, ln_36, gI_37, pI_37, rc_37, al_38, as_38, ln_38, gC_0_3, gC_0_4, gC_0_5, gC_0_7, gC_0_10, gC_0_11, gC_0_12, gC_0_13, gC_0_14, gC_0_15, gC_0_16, gC_0_17, gC_1_0, gC_1_2, gC_1_3, gC_5_0, gC_5_2, gC_10_0, gC_10_7, gC_13_5, gC_16_0, gC_16_2, gC_22_0, gC_22_1, gC_22_2, gC_22_3, gC_31_2, gC_33_2, gC_35_2, gC_37_2, bI_rI, bV_rV, bQ_rN, bQ_rR, bz_0, bz_1, bz_Z, hZ0, hZ1, Lay_setI, Lay_setA, h.lay, fAt_everyMap_v h, eu, hu.lay, fWd_townAt_v hu.lay gu (WL_le (by omega) _ _)]
  exact ⟨u, rfl, fu.1⟩
theorem mq_world (h : Inv n m s g x p t) (a : Int32) : QQ t (fm_world t a) (s_world n m (pm t) a) := by
  have hr := h.rng
  obtain ⟨u, eu, fu, _, gu⟩ := fm_findsWorlds_v h
  have hu := h.fr fu.1
  have hl := WL_le (m := m) (show n ≤ 9 by omega) (pm t) (evB m)
  unfold s_world twn
  simp only [fm_world, gI_39, pI_39, rc_39, al_40, as_40, ln_40, al_41, as_41, ln_41, al_42, as_42, ln_42, al_43, as_43, ln_43, al_44, as_44, ln_44, al_45, as_45, ln_45, al_46, as_46, ln_46, al_47, as_47, ln_47, al_48, as_48, ln_48, al_49, as_49, ln_49, al_50, as_50, ln_50, al_51, as_51, ln_51, al_52, as_52, ln_52, al_53, as_53, ln_53, al_54, as_54, ln_54, al_55, as_55, ln_55, al_56, as_56, ln_56, al_57, as_57, ln_57, al_58, as_58, ln_58, al_59, as_59, ln_59, al_60, as_60, ln_60, al_61, as_61, ln_61, al_62, as_62, ln_62, al_63, as_63, ln_63, al_64, as_64, ln_64, al_65, as_65, ln_65, al_66, as_66, ln_66, al_67, as_67, ln_67, gC_39_4, gC_39_5, gC_39_6, gC_39_7, gC_39_8, gC_39_10, gC_39_11, gC_39_12, gC_39_13, gC_39_15, gC_39_16, gC_39_18, gC_39_19, gC_39_27, gC_39_28, gC_39_29, gC_39_30, gC_39_31, gC_39_36, gC_39_37, gC_39_41, gC_39_42, gC_39_43, gC_39_44, gC_39_46, gC_39_47, gC_39_48, gC_39_49, bI_rI, bV_rV, bQ_rN, bQ_rR, bz_0, bz_1, bz_Z, hZ0, hZ1, Lay_setI, Lay_setA, h.lay, eu, hu.lay, gu.1, fm_in_v, inr_in (show (WL n m (pm t) (evB m)).length < 2 ^ 30 by omega)]
  cases c : inr a (WL n m (pm t) (evB m)).length
  · simp only [if_true]
    exact ⟨u, rfl, fu.1⟩
  · obtain ⟨i, hi, rfl⟩ := inr_t c (by omega)
    have i512 : i < 512 := by omega
    simp only [if_false, if_true, Bool.true_eq_false, gI_39, pI_39, rc_39, al_40, as_40, ln_40, al_41, as_41, ln_41, al_42, as_42, ln_42, al_43, as_43, ln_43, al_44, as_44, ln_44, al_45, as_45, ln_45, al_46, as_46, ln_46, al_47, as_47, ln_47, al_48, as_48, ln_48, al_49, as_49, ln_49, al_50, as_50, ln_50, al_51, as_51, ln_51, al_52, as_52, ln_52, al_53, as_53, ln_53, al_54, as_54, ln_54, al_55, as_55, ln_55, al_56, as_56, ln_56, al_57, as_57, ln_57, al_58, as_58, ln_58, al_59, as_59, ln_59, al_60, as_60, ln_60, al_61, as_61, ln_61, al_62, as_62, ln_62, al_63, as_63, ln_63, al_64, as_64, ln_64, al_65, as_65, ln_65, al_66, as_66, ln_66, al_67, as_67, ln_67, gC_39_4, gC_39_5, gC_39_6, gC_39_7, gC_39_8, gC_39_10, gC_39_11, gC_39_12, gC_39_13, gC_39_15, gC_39_16, gC_39_18, gC_39_19, gC_39_27, gC_39_28, gC_39_29, gC_39_30, gC_39_31, gC_39_36, gC_39_37, gC_39_41, gC_39_42, gC_39_43, gC_39_44, gC_39_46, gC_39_47, gC_39_48, gC_39_49, bI_rI, bV_rV, bQ_rN, bQ_rR, bz_0, bz_1, bz_Z, hZ0, hZ1, Lay_setI, Lay_setA, hu.lay, i512, gu.2 i hi, cN, nI_clamp (show i < 2 ^ 31 by omega)]
    exact ⟨u, rfl, fu.1⟩
theorem ok_world (h : Inv n m s g x p t) (a : Int32) : Okk t (fun t => fx_world t a) (fun t => fm_world t a) := okq h (xq_world h a) (fun u hu e => e ▸ mq_world hu a)
end
