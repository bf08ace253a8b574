section
variable {n m s g x p : Nat} {t0 t u : SM}
theorem touches_v {i q c : Nat} (h : Inv n m s g x p t) (hi : i < s) (hc : StA (pm t) (mT t) (mN t) i q) (hcc : c < 6) : fSt_touches t q (nI c) = rI (bz (tch (pm t) i c)) t := by
  obtain ⟨⟨k1, k2, k3, _, _⟩, q1, q2, q3⟩ := st_v h hi
  have e1 : (nI c = nI (su (pm t) i)) = (su (pm t) i = c) := propext ⟨fun z => ((nI_eq (by omega) (by omega)).mp z).symm, fun z => by rw [z]⟩
  have e2 : (nI c = nI (sv (pm t) i)) = (sv (pm t) i = c) := propext ⟨fun z => ((nI_eq (by omega) (by omega)).mp z).symm, fun z => by rw [z]⟩
  simp only [fSt_touches, hc.i0, hc.i1, q1, q2, e1, e2, bz_itf, tch]
  by_cases c1 : su (pm t) i = c
  · rw [if_pos c1, decide_eq_true c1]; rfl
  · rw [if_neg c1, decide_eq_false c1, Bool.false_or]
theorem otherEnd_v {i q c : Nat} (h : Inv n m s g x p t) (hi : i < s) (hc : StA (pm t) (mT t) (mN t) i q) (hcc : c < 6) : fSt_otherEnd t q (nI c) = rI (nI (ote (pm t) i c)) t := by
  obtain ⟨⟨k1, k2, k3, _, _⟩, q1, q2, q3⟩ := st_v h hi
  have e1 : (nI c = nI (su (pm t) i)) = (su (pm t) i = c) := propext ⟨fun z => ((nI_eq (by omega) (by omega)).mp z).symm, fun z => by rw [z]⟩
  simp only [fSt_otherEnd, hc.i0, hc.i1, q1, q2, e1, ote]
  split <;> rfl
theorem firstOf_v {D : NN} (h : Inv n m s g x p t) (hd : RwC t D) (hD : ∀ p, D p ≤ 1000000) {c : Nat} (hc : c < 6) (v : Int32) : fSs_firstOfShortest t (nI c) v = rI (nxs1 (pm t) (bt v) s D c) t := by
  have hr := h.rng
  have key : ∀ d k f, k + d = s → d < f → fSs_firstOfShortest_l2 f t (nI c) v (nI k) = rI (fst (nxq (pm t) (bt v) D c) d k) t := by
    intro d
    induction d with
    | zero =>
      intro k f hk hf
      obtain ⟨f, rfl⟩ : ∃ f', f = f' + 1 := ⟨f - 1, by omega⟩
      obtain rfl : k = s := by omega
      have e1 : nI k ≤ nI k := Int32.le_refl _
      show fSs_firstOfShortest_2 _ t (nI c) v (nI k) = _
      simp only [fSs_firstOfShortest_2, gI_0, pI_0, rc_0, gI_1, pI_1, rc_1, ln_2, ql_2, al_3, as_3, ln_3, al_4, as_4, ln_4, gI_5, pI_5, rc_5, ln_6, ql_6, al_7, as_7, ln_7, al_8, as_8, ln_8, ln_9, ql_9, gI_10, pI_10, rc_10, al_11, as_11, ln_11, al_12, as_12, ln_12, gI_13, pI_13, rc_13, al_14, as_14, ln_14, ln_15, ql_15, gI_16, pI_16, rc_16, al_17, as_17, ln_17, al_18, as_18, ln_18, al_19, as_19, ln_19, al_20, as_20, ln_20, bl_21, bs_21, ln_21, gI_22, pI_22, rc_22, al_23, as_23, ln_23, al_24, as_24, ln_24, al_25, as_25, ln_25, gI_31, pI_31, rc_31, al_32, as_32, ln_32, gI_33, pI_33, rc_33, al_34, as_34, ln_34, gI_35, pI_35, rc_35, al_36, as_36, ln_36, gI_37, pI_37, rc_37, al_38, as_38, ln_38, gC_0_3, gC_0_4, gC_0_5, gC_0_7, gC_0_10, gC_0_11, gC_0_12, gC_0_13, gC_0_14, gC_0_15, gC_0_16, gC_0_17, gC_1_0, gC_1_2, gC_1_3, gC_5_0, gC_5_2, gC_10_0, gC_10_7, gC_13_5, gC_16_0, gC_16_2, gC_22_0, gC_22_1, gC_22_2, gC_22_3, gC_31_2, gC_33_2, gC_35_2, gC_37_2, bI_rI, bV_rV, bQ_rN, bQ_rR, bz_0, bz_1, bz_Z, hZ0, hZ1, Lay_setI, Lay_setA, h.lay, h.st', e1, if_true]; rfl
    | succ d ih =>
      intro k f hk hf
      obtain ⟨f, rfl⟩ : ∃ f', f = f' + 1 := ⟨f - 1, by omega⟩
      have hks : k < s := by omega
      have e9 : ¬ nI s ≤ nI k := nI_ge hks (by omega)
      obtain ⟨q, e1, _, hcc⟩ := streetAt_in h hks
      obtain ⟨⟨k1, k2, k3, k4, k5⟩, q1, q2, q3⟩ := st_v h hks
      have ho := ote_lt (SV.of h) hks c
      have b1 := hD (ote (pm t) k c)
      have b2 := hD c
      have e2 : (nI (sk (pm t) k + D (ote (pm t) k c)) = nI (D c)) = (sk (pm t) k + D (ote (pm t) k c) = D c) := propext (nI_eq (by omega) (by omega))
      show fSs_firstOfShortest_2 _ t (nI c) v (nI k) = rI (if nxq (pm t) (bt v) D c k = true then nI k else fst (nxq (pm t) (bt v) D c) d (k + 1)) t
      simp only [fSs_firstOfShortest_2, gI_0, pI_0, rc_0, gI_1, pI_1, rc_1, ln_2, ql_2, al_3, as_3, ln_3, al_4, as_4, ln_4, gI_5, pI_5, rc_5, ln_6, ql_6, al_7, as_7, ln_7, al_8, as_8, ln_8, ln_9, ql_9, gI_10, pI_10, rc_10, al_11, as_11, ln_11, al_12, as_12, ln_12, gI_13, pI_13, rc_13, al_14, as_14, ln_14, ln_15, ql_15, gI_16, pI_16, rc_16, al_17, as_17, ln_17, al_18, as_18, ln_18, al_19, as_19, ln_19, al_20, as_20, ln_20, bl_21, bs_21, ln_21, gI_22, pI_22, rc_22, al_23, as_23, ln_23, al_24, as_24, ln_24, al_25, as_25, ln_25, gI_31, pI_31, rc_31, al_32, as_32, ln_32, gI_33, pI_33, rc_33, al_34, as_34, ln_34, gI_35, pI_35, rc_35, al_36, as_36, ln_36, gI_37, pI_37, rc_37, al_38, as_38, ln_38, gC_0_3, gC_0_4, gC_0_5, gC_0_7, gC_0_10, gC_0_11, gC_0_12, gC_0_13, gC_0_14, gC_0_15, gC_0_16, gC_0_17, gC_1_0, gC_1_2, gC_1_3, gC_5_0, gC_5_2, gC_10_0, gC_10_7, gC_13_5, gC_16_0, gC_16_2, gC_22_0, gC_22_1, gC_22_2, gC_22_3, gC_31_2, gC_33_2, gC_35_2, gC_37_2, bI_rI, bV_rV, bQ_rN, bQ_rR, bz_0, bz_1, bz_Z, hZ0, hZ1, Lay_setI, Lay_setA, h.lay, h.st', e9, if_false, e1, hcc.rc, b_bit _ (show k < 32 by omega), touches_v h hks hcc hc, hcc.i3, q3, otherEnd_v h hks hcc hc, L_nai h.lay (by decide : 7 < 68) (rfl : layF 7 = (20, 6)) ho, L_nai h.lay (by decide : 7 < 68) (rfl : layF 7 = (20, 6)) hc, hd _ ho, hd _ hc, nI_add, e2, nI_1, ih (k + 1) f (by omega) (by omega)]
      unfold nxq
      cases bt v k
      · simp
      · cases tch (pm t) k c
        · simp
        · by_cases c3 : sk (pm t) k + D (ote (pm t) k c) = D c
          · simp [c3]
          · simp [c3]
  exact key s 0 1000000 (by omega) (by omega)
theorem nxs1_cg {G : GG} {op op' : Nat → Bool} {s : Nat} {D : NN} {c : Nat} (h : ∀ i, i < s → op i = op' i) : nxs1 G op s D c = nxs1 G op' s D c := by
  unfold nxs1
  exact fst_cg s 0 (fun k _ hk => by unfold nxq; rw [h k (by omega)])
theorem walk_loop (h : Inv n m s g x p t0) {e : Nat} (he : e < 6) (says town : Int32) : ∀ (r : Nat) (k c : Nat) (sh : Nat → Bool) (tm : Nat) (op : Int32) (u : SM) (f : Nat), k + r = 78 → r < f → c < 6 → FS [7] t0 u → (∀ i, i < s → bt op i = (opn (pm t0) says i && !sh i)) → RwC u (Dst (pm t0) (fun i => opn (pm t0) says i && !sh i) s e) →
    QS [7] t0 (fSs_walk_l33 (fun t u4 u5 u7 => fSs_walk_128 t u4 u5 u7) f u town (nI e) (nI c) op (nI tm) (nI k)) (trp (pm t0) s e says town r c sh tm) := by
  have hr := h.rng
  have hv := SV.of h
  intro r
  induction r with
  | zero =>
    intro k c sh tm op u f hk hf hc fu hop hd
    obtain ⟨f, rfl⟩ : ∃ f', f = f' + 1 := ⟨f - 1, by omega⟩
    obtain rfl : k = 78 := by omega
    have e1 : (nI c = nI e) = (c = e) := propext (nI_eq (by omega) (by omega))
    show QS _ t0 (fSs_walk_33 _ _ u town (nI e) (nI c) op (nI tm) (nI 78)) (if c = e then nI tm else -1)
    unfold fSs_walk_33 fSs_walk_128
    rw [if_pos (show (78 : Int32) ≤ nI 78 from Int32.le_refl _)]
    simp only [e1]
    exact ⟨u, by rw [rI_ite], fu⟩
  | succ r ih =>
    intro k c sh tm op u f hk hf hc fu hop hd
    obtain ⟨f, rfl⟩ : ∃ f', f = f' + 1 := ⟨f - 1, by omega⟩
    have hu := h.fr fu.1
    have e1 : (nI c = nI e) = (c = e) := propext (nI_eq (by omega) (by omega))
    have e78 : ¬ (78 : Int32) ≤ nI k := nI_ge (b := 78) (by omega) (by decide)
    show QS _ t0 (fSs_walk_33 _ _ u town (nI e) (nI c) op (nI tm) (nI k)) _
    unfold fSs_walk_33 fSs_walk_128 trp
    rw [if_neg e78]
    simp only [e1]
    by_cases ce : c = e
    · rw [if_pos ce, if_pos ce]; exact ⟨u, by simp only [if_pos ce], fu⟩
    · rw [if_neg ce, if_neg ce]
      have en : nxs1 (pm u) (bt op) s (Dst (pm t0) (fun i => opn (pm t0) says i && !sh i) s e) c = nxs1 (pm t0) (fun i => opn (pm t0) says i && !sh i) s (Dst (pm t0) (fun i => opn (pm t0) says i && !sh i) s e) c := by rw [fu.1.2]; exact nxs1_cg hop
      rw [rc_5 hu.lay, firstOf_v hu hd (fun p => D_le _ _ _ _ p) hc op, bI_rI, rc_5 hu.lay, en]
      by_cases cf : Dst (pm t0) (fun i => opn (pm t0) says i && !sh i) s e c < 1000000
      · rw [if_pos cf]
        obtain ⟨i, hi, hq, ei⟩ := nx_is hv hc ce cf
        obtain ⟨q, eq1, _, hcc⟩ := streetAt_in hu hi
        obtain ⟨⟨k1, k2, k3, k4, k5⟩, q1, q2, q3⟩ := st_v hu hi
        rw [ei, cN_i (by omega), eq1, bQ_rR, hcc.rc, isOpenIn_v hcc, bI_rI, fu.1.2]
        simp only [bz_0]
        cases co : opn (pm t0) town i
        · rw [if_pos rfl, if_neg (by decide)]
          obtain ⟨v, ev, fv, gv⟩ := measure_v hu he (op &&& (((1 : Int32) <<< (nI i &&& 31)) ^^^ (-1)))
          have hop' : ∀ j, j < s → bt (op &&& (((1 : Int32) <<< (nI i &&& 31)) ^^^ (-1))) j = (opn (pm t0) says j && !(sh j || decide (j = i))) := by
            intro j hj
            rw [b_and, b_not _ (by omega), b_one (by omega) (by omega), hop j hj]
            cases opn (pm t0) says j <;> cases sh j <;> simp
          rw [rc_5 hu.lay, ev, bV_rV, nI_1]
          refine ih (k + 1) c _ tm _ v f (by omega) (by omega) hc (fu.tr fv) hop' ?_
          rw [fu.1.2, show Dst (pm t0) (bt (op &&& (((1 : Int32) <<< (nI i &&& 31)) ^^^ (-1)))) s e = Dst (pm t0) (fun j => opn (pm t0) says j && !(sh j || decide (j = i))) s e from Dst_cg hop'] at gv
          exact gv
        · rw [if_neg (by decide), if_pos rfl, hcc.i3, q3, hcc.rc, otherEnd_v hu hi hcc hc, bI_rI, nI_add, nI_1, fu.1.2]
          exact ih (k + 1) _ sh _ op u f (by omega) (by omega) (ote_lt hv hi c) fu hop hd
      · rw [if_neg cf, nx_none hv (by omega) cf, streetAt_no hu (v := -1) (inr_neg (by decide)), bQ_rN]
        exact ⟨u, rfl, fu⟩
theorem walk_v (h : Inv n m s g x p t0) {a b : Nat} (ha : a < 6) (hb : b < 6) (says town : Int32) : QS [7] t0 (fSs_walk t0 (nI (10 * a + b)) says town) (trp (pm t0) s b says town 78 a (fun _ => false) 0) := by
  have hr := h.rng
  obtain ⟨u, eu, fu, gu⟩ := measure_v h hb (orf (opn (pm t0) says) s)
  have hop : ∀ i, i < s → bt (orf (opn (pm t0) says) s) i = (opn (pm t0) says i && !false) := fun i hi => by rw [bt_orf _ s (by omega) i (by omega)]; simp [hi]
  simp only [fSs_walk, fx_goalOf, fx_startOf, tw_div a ha b hb, tw_rem a ha b hb, gI_0, pI_0, rc_0, gI_1, pI_1, rc_1, ln_2, ql_2, al_3, as_3, ln_3, al_4, as_4, ln_4, gI_5, pI_5, rc_5, ln_6, ql_6, al_7, as_7, ln_7, al_8, as_8, ln_8, ln_9, ql_9, gI_10, pI_10, rc_10, al_11, as_11, ln_11, al_12, as_12, ln_12, gI_13, pI_13, rc_13, al_14, as_14, ln_14, ln_15, ql_15, gI_16, pI_16, rc_16, al_17, as_17, ln_17, al_18, as_18, ln_18, al_19, as_19, ln_19, al_20, as_20, ln_20, bl_21, bs_21, ln_21, gI_22, pI_22, rc_22, al_23, as_23, ln_23, al_24, as_24, ln_24, al_25, as_25, ln_25, gI_31, pI_31, rc_31, al_32, as_32, ln_32, gI_33, pI_33, rc_33, al_34, as_34, ln_34, gI_35, pI_35, rc_35, al_36, as_36, ln_36, gI_37, pI_37, rc_37, al_38, as_38, ln_38, gC_0_3, gC_0_4, gC_0_5, gC_0_7, gC_0_10, gC_0_11, gC_0_12, gC_0_13, gC_0_14, gC_0_15, gC_0_16, gC_0_17, gC_1_0, gC_1_2, gC_1_3, gC_5_0, gC_5_2, gC_10_0, gC_10_7, gC_13_5, gC_16_0, gC_16_2, gC_22_0, gC_22_1, gC_22_2, gC_22_3, gC_31_2, gC_33_2, gC_35_2, gC_37_2, bI_rI, bV_rV, bQ_rN, bQ_rR, bz_0, bz_1, bz_Z, hZ0, hZ1, Lay_setI, Lay_setA, h.lay, openIn_v h, eu]
  refine walk_loop h hb says town 78 0 a (fun _ => false) 0 _ u 1000000 (by omega) (by omega) ha fu hop ?_
  rw [← Dst_cg hop]; exact gu
/-! the model's -/
theorem sub1 (v : Int32) : v - 1 = v + (-1) := Int32.sub_eq_add_neg _ _
theorem m1_neg : nI 0 + (-1) < 0 := by decide
theorem trip_nx {D : NN} (h : Inv n m s g x p t) (hd : RwM t D) (hD : ∀ p, D p ≤ 1000000) {c : Nat} (hc : c < 6) (says two town sh tm : Int32) (K : SM → Int32 → Int32 → Int32 → Int32 → Int32 → Int32 → Int32 → OR) :
    ∀ k f, k ≤ s → k < f → fm_tripBy_l57 K f t says two town (nI c) sh tm (fst (nxq (pm t) (fun i => opn (pm t) says i && !bt sh i) D c) (s - k) k) (nI k + (-1)) = K t says two town (nI c) sh tm (nxs1 (pm t) (fun i => opn (pm t) says i && !bt sh i) s D c) := by
  have hr := h.rng
  intro k
  induction k with
  | zero =>
    intro f _ hf
    obtain ⟨f, rfl⟩ : ∃ f', f = f' + 1 := ⟨f - 1, by omega⟩
    show fm_tripBy_57 _ _ t says two town (nI c) sh tm _ (nI 0 + (-1)) = _
    unfold fm_tripBy_57
    rw [if_pos m1_neg]
    rfl
  | succ k ih =>
    intro f hks hf
    obtain ⟨f, rfl⟩ : ∃ f', f = f' + 1 := ⟨f - 1, by omega⟩
    have hk : k < s := by omega
    have k12 : k < 12 := by omega
    obtain ⟨⟨k1, k2, k3, k4, k5⟩, q1, q2, q3⟩ := st_v h hk
    have ho := ote_lt (SV.of h) hk c
    have b1 := hD (ote (pm t) k c)
    have b2 := hD c
    have e2 : (nI (sk (pm t) k + D (ote (pm t) k c)) = nI (D c)) = (sk (pm t) k + D (ote (pm t) k c) = D c) := propext (nI_eq (by omega) (by omega))
    have e3 : (nI (su (pm t) k) = nI c) = (su (pm t) k = c) := propext (nI_eq (by omega) (by omega))
    have e4 : (nI (sv (pm t) k) = nI c) = (sv (pm t) k = c) := propext (nI_eq (by omega) (by omega))
    have eo : (if nI (su (pm t) k) = nI c then nI (sv (pm t) k) else nI (su (pm t) k)) = nI (ote (pm t) k c) := by unfold ote; simp only [e3]; split <;> rfl
    have goal2 : ∀ z, z = fst (nxq (pm t) (fun i => opn (pm t) says i && !bt sh i) D c) (s - k) k → fm_tripBy_l57 K f t says two town (nI c) sh tm z (nI k + (-1)) = K t says two town (nI c) sh tm (nxs1 (pm t) (fun i => opn (pm t) says i && !bt sh i) s D c) := fun z hz => by rw [hz]; exact ih f (by omega) (by omega)
    rw [show s - k = (s - (k + 1)) + 1 by omega] at goal2
    have hz : fst (nxq (pm t) (fun i => opn (pm t) says i && !bt sh i) D c) (s - (k + 1) + 1) k = if nxq (pm t) (fun i => opn (pm t) says i && !bt sh i) D c k = true then nI k else fst (nxq (pm t) (fun i => opn (pm t) says i && !bt sh i) D c) (s - (k + 1)) (k + 1) := rfl
    rw [hz] at goal2
    show fm_tripBy_57 _ _ t says two town (nI c) sh tm _ (nI (k + 1) + (-1)) = _
    rw [pk_m1]
    have en : ¬ nI k < 0 := nI_pos (by omega)
    have et : (decide (nI (su (pm t) k) = nI c) || decide (nI (sv (pm t) k) = nI c)) = tch (pm t) k c := by unfold tch; simp only [e3, e4]
    simp only [fm_tripBy_57, fm_tripBy_97, en, if_false, gI_39, pI_39, rc_39, al_40, as_40, ln_40, al_41, as_41, ln_41, al_42, as_42, ln_42, al_43, as_43, ln_43, al_44, as_44, ln_44, al_45, as_45, ln_45, al_46, as_46, ln_46, al_47, as_47, ln_47, al_48, as_48, ln_48, al_49, as_49, ln_49, al_50, as_50, ln_50, al_51, as_51, ln_51, al_52, as_52, ln_52, al_53, as_53, ln_53, al_54, as_54, ln_54, al_55, as_55, ln_55, al_56, as_56, ln_56, al_57, as_57, ln_57, al_58, as_58, ln_58, al_59, as_59, ln_59, al_60, as_60, ln_60, al_61, as_61, ln_61, al_62, as_62, ln_62, al_63, as_63, ln_63, al_64, as_64, ln_64, al_65, as_65, ln_65, al_66, as_66, ln_66, al_67, as_67, ln_67, gC_39_4, gC_39_5, gC_39_6, gC_39_7, gC_39_8, gC_39_10, gC_39_11, gC_39_12, gC_39_13, gC_39_15, gC_39_16, gC_39_18, gC_39_19, gC_39_27, gC_39_28, gC_39_29, gC_39_30, gC_39_31, gC_39_36, gC_39_37, gC_39_41, gC_39_42, gC_39_43, gC_39_44, gC_39_46, gC_39_47, gC_39_48, gC_39_49, bI_rI, bV_rV, bQ_rN, bQ_rR, bz_0, bz_1, bz_Z, hZ0, hZ1, Lay_setI, Lay_setA, h.lay, endsAt_v h hk, q1, q2, et, fm_isOpen_v h hk, b_bit _ (show k < 32 by omega), k12, rp_3, rp_8, rp_11, rp_14, rp_32, rp_34, rp_36, rp_38, rp_40, rp_41, rp_42, rp_43, rp_44, rp_45, rp_46, rp_47, rp_48, rp_49, rp_50, rp_51, rp_52, rp_53, rp_54, rp_55, rp_56, rp_57, rp_58, q3, beyond_v h hk, eo, ho, hc, hd _ ho, hd _ hc, nI_add, e2]
    have hq : nxq (pm t) (fun i => opn (pm t) says i && !bt sh i) D c k = ((opn (pm t) says k && !bt sh k) && (tch (pm t) k c && decide (sk (pm t) k + D (ote (pm t) k c) = D c))) := rfl
    rw [hq] at goal2
    cases c1 : tch (pm t) k c
    · rw [if_pos rfl]; exact goal2 _ (by rw [c1, Bool.false_and, Bool.and_false]; rfl)
    · rw [if_neg (by decide)]
      cases c2 : opn (pm t) says k
      · rw [if_pos rfl]; exact goal2 _ (by rw [c2]; rfl)
      · rw [if_neg (by decide)]
        cases c3 : bt sh k
        · rw [if_pos rfl]
          by_cases c4 : sk (pm t) k + D (ote (pm t) k c) = D c
          · rw [if_pos c4]; exact goal2 _ (by rw [c1, c2, c3, decide_eq_true c4]; rfl)
          · rw [if_neg c4]; exact goal2 _ (by rw [c1, c2, c3, decide_eq_false c4]; rfl)
        · rw [if_neg (by decide)]; exact goal2 _ (by rw [c2, c3]; rfl)
theorem trp_cg {G : GG} {s e : Nat} {says town : Int32} (hv : SV G s) (hs : s ≤ 12) : ∀ F c tm {sh sh' : Nat → Bool}, c < 6 → (∀ i, i < s → sh i = sh' i) → trp G s e says town F c sh tm = trp G s e says town F c sh' tm := by
  intro F
  induction F with
  | zero => intro c tm sh sh' _ _; rfl
  | succ F ih =>
    intro c tm sh sh' hc h
    have h1 : ∀ i, i < s → (opn G says i && !sh i) = (opn G says i && !sh' i) := fun i hi => by rw [h i hi]
    unfold trp
    rw [show Dst G (fun i => opn G says i && !sh i) s e = Dst G (fun i => opn G says i && !sh' i) s e from Dst_cg h1, show nxs1 G (fun i => opn G says i && !sh i) s (Dst G (fun i => opn G says i && !sh' i) s e) c = nxs1 G (fun i => opn G says i && !sh' i) s (Dst G (fun i => opn G says i && !sh' i) s e) c from nxs1_cg h1]
    by_cases ce : c = e
    · rw [if_pos ce, if_pos ce]
    · rw [if_neg ce, if_neg ce]
      by_cases cf : Dst G (fun i => opn G says i && !sh' i) s e c < 1000000
      · rw [if_pos cf, if_pos cf]
        obtain ⟨i, hi, _, ei⟩ := nx_is hv hc ce cf
        rw [ei, cN_i (by omega)]
        split
        · exact ih _ _ (ote_lt hv hi c) h
        · exact ih _ _ hc (fun j hj => by rw [h j hj])
      · rw [if_neg cf, if_neg cf]
/-- how many places are nearer -/
def nrr (D : NN) (c : Nat) : Nat := cnt (fun p => decide (D p < D c)) 6
theorem nrr_le (D : NN) {c : Nat} (hc : c < 6) : nrr D c ≤ 5 := by
  have := cnt_lt (p := fun p => decide (D p < D c)) (q := fun _ => true) (N := 6) (fun _ _ _ => rfl) hc rfl (by simp)
  have e6 : cnt (fun _ => true) 6 = 6 := by decide
  unfold nrr; omega
theorem nrr_lt {D : NN} {b c : Nat} (hb : b < 6) (h : D b < D c) : nrr D b < nrr D c := by
  unfold nrr
  exact cnt_lt (fun j _ hj => by rw [decide_eq_true_eq] at hj ⊢; omega) hb (by simp [h]) (by simp)
theorem tripBy_loop (h : Inv n m s g x p t0) {a e : Nat} (ha : a < 6) (he : e < 6) (says town : Int32) : ∀ (N c : Nat) (sh : Int32) (tm F : Nat) (u : SM) (f : Nat), c < 6 → FS [64] t0 u →
    6 * cnt (fun i => !bt sh i) s + nrr (Dst (pm t0) (fun i => opn (pm t0) says i && !bt sh i) s e) c ≤ N → N < f → N ≤ F →
    QS [64] t0 (fm_tripBy_l12 f u says (nI (10 * a + e)) town (nI c) sh (nI tm)) (trp (pm t0) s e says town F c (fun i => bt sh i) tm) := by
  have hr := h.rng
  have hv := SV.of h
  intro N
  induction N with
  | zero =>
    intro c sh tm F u f hc fu hN hf hF
    obtain ⟨f, rfl⟩ : ∃ f', f = f' + 1 := ⟨f - 1, by omega⟩
    have ce : c = e := by
      refine Classical.byContradiction fun hne => ?_
      have h0 := D_goal (pm t0) (fun i => opn (pm t0) says i && !bt sh i) s e
      have h1 : ¬ Dst (pm t0) (fun i => opn (pm t0) says i && !bt sh i) s e c = 0 := by
        intro hz
        obtain ⟨i, hi, _, _, heq⟩ := D_tight (op := fun i => opn (pm t0) says i && !bt sh i) hv hc hne (by omega)
        have := hv i hi
        omega
      have := nrr_lt (D := Dst (pm t0) (fun i => opn (pm t0) says i && !bt sh i) s e) (b := e) (c := c) he (by omega)
      omega
    have e1 : nI c = nI (10 * a + e) - nI (10 * a + e) / 10 * 10 := by rw [tw_div a ha e he, tw_rem a ha e he, ce]
    show QS _ t0 (fm_tripBy_12 _ u says (nI (10 * a + e)) town (nI c) sh (nI tm)) _
    unfold fm_tripBy_12
    rw [if_pos e1, ce, trp_eq]
    exact ⟨u, rfl, fu⟩
  | succ N ih =>
    intro c sh tm F u f hc fu hN hf hF
    obtain ⟨f, rfl⟩ : ∃ f', f = f' + 1 := ⟨f - 1, by omega⟩
    obtain ⟨F, rfl⟩ : ∃ F', F = F' + 1 := ⟨F - 1, by omega⟩
    have hu := h.fr fu.1
    have e0 : nI (10 * a + e) - nI (10 * a + e) / 10 * 10 = nI e := by rw [tw_div a ha e he, tw_rem a ha e he]
    have e1 : (nI c = nI e) = (c = e) := propext (nI_eq (by omega) (by omega))
    show QS _ t0 (fm_tripBy_12 _ u says (nI (10 * a + e)) town (nI c) sh (nI tm)) _
    unfold fm_tripBy_12 trp
    simp only [e0, e1]
    by_cases ce : c = e
    · rw [if_pos ce, if_pos ce]; exact ⟨u, rfl, fu⟩
    · rw [if_neg ce, if_neg ce]
      obtain ⟨v, ev, fv, gv⟩ := measures_v hu he says sh
      rw [fu.1.2] at gv
      have frv := fu.tr fv
      have hw := h.fr frv.1
      have hD : ∀ p, Dst (pm t0) (fun i => opn (pm t0) says i && !bt sh i) s e p ≤ 1000000 := fun p => D_le _ _ _ _ p
      have e2 : (nI (Dst (pm t0) (fun i => opn (pm t0) says i && !bt sh i) s e c) < 1000000) = (Dst (pm t0) (fun i => opn (pm t0) says i && !bt sh i) s e c < 1000000) := propext (nI_ltI (b := 1000000) (by have := hD c; omega) (by decide))
      simp only [gI_39, pI_39, rc_39, al_40, as_40, ln_40, al_41, as_41, ln_41, al_42, as_42, ln_42, al_43, as_43, ln_43, al_44, as_44, ln_44, al_45, as_45, ln_45, al_46, as_46, ln_46, al_47, as_47, ln_47, al_48, as_48, ln_48, al_49, as_49, ln_49, al_50, as_50, ln_50, al_51, as_51, ln_51, al_52, as_52, ln_52, al_53, as_53, ln_53, al_54, as_54, ln_54, al_55, as_55, ln_55, al_56, as_56, ln_56, al_57, as_57, ln_57, al_58, as_58, ln_58, al_59, as_59, ln_59, al_60, as_60, ln_60, al_61, as_61, ln_61, al_62, as_62, ln_62, al_63, as_63, ln_63, al_64, as_64, ln_64, al_65, as_65, ln_65, al_66, as_66, ln_66, al_67, as_67, ln_67, gC_39_4, gC_39_5, gC_39_6, gC_39_7, gC_39_8, gC_39_10, gC_39_11, gC_39_12, gC_39_13, gC_39_15, gC_39_16, gC_39_18, gC_39_19, gC_39_27, gC_39_28, gC_39_29, gC_39_30, gC_39_31, gC_39_36, gC_39_37, gC_39_41, gC_39_42, gC_39_43, gC_39_44, gC_39_46, gC_39_47, gC_39_48, gC_39_49, bI_rI, bV_rV, bQ_rN, bQ_rR, bz_0, bz_1, bz_Z, hZ0, hZ1, Lay_setI, Lay_setA, hu.lay, ev, hw.lay, hc, gv c hc, e2, hw.st]
      by_cases cf : Dst (pm t0) (fun i => opn (pm t0) says i && !bt sh i) s e c < 1000000
      · rw [if_pos cf, if_pos cf, sub1]
        have tn := trip_nx hw gv hD hc says (nI (10 * a + e)) town sh (nI tm) (fun t u1 u2 u3 u4 u5 u6 u7 => fm_tripBy_151 (fm_tripBy_l12 f) t u1 u2 u3 u4 u5 u6 u7) s 1000000 (Nat.le_refl s) (by omega)
        rw [Nat.sub_self] at tn
        rw [show (-1 : Int32) = fst (nxq (pm v) (fun i => opn (pm v) says i && !bt sh i) (Dst (pm t0) (fun i => opn (pm t0) says i && !bt sh i) s e) c) 0 s from rfl] at *
        rw [tn]
        rw [frv.1.2]
        obtain ⟨i, hi, hq, ei⟩ := nx_is hv hc ce cf
        rw [ei, cN_i (by omega)]
        have i12 : i < 12 := by omega
        obtain ⟨⟨k1, k2, k3, k4, k5⟩, q1, q2, q3⟩ := st_v hw hi
        rw [frv.1.2] at k1 k2 k3 k4 k5 q1 q2 q3
        unfold nxq at hq
        simp only [Bool.and_eq_true, decide_eq_true_eq, Bool.not_eq_true'] at hq
        unfold fm_tripBy_151
        rw [rc_39 hw.lay, fm_isOpen_v hw hi, bI_rI, frv.1.2]
        simp only [bz_0]
        cases co : opn (pm t0) town i
        · rw [if_pos rfl, if_neg (by decide)]
          have hb2 : ∀ j, j < 32 → bt (sh ||| ((1 : Int32) <<< (nI i &&& 31))) j = (bt sh j || decide (j = i)) := fun j hj => by rw [b_or, b_one (by omega) hj]
          have hcn : cnt (fun j => !bt (sh ||| ((1 : Int32) <<< (nI i &&& 31))) j) s < cnt (fun j => !bt sh j) s :=
            cnt_lt (fun j hj hh => by rw [hb2 j (by omega)] at hh; cases cz : bt sh j <;> simp_all) hi (by simp [hq.1.2]) (by rw [hb2 i (by omega)]; simp)
          have := ih c (sh ||| ((1 : Int32) <<< (nI i &&& 31))) tm F v f hc frv (by
            have h5 := nrr_le (Dst (pm t0) (fun j => opn (pm t0) says j && !bt (sh ||| ((1 : Int32) <<< (nI i &&& 31))) j) s e) hc
            omega) (by omega) (by omega)
          obtain ⟨w, ew, fw⟩ := this
          have ecg : trp (pm t0) s e says town F c (fun j => bt (sh ||| ((1 : Int32) <<< (nI i &&& 31))) j) tm = trp (pm t0) s e says town F c (fun j => bt sh j || decide (j = i)) tm := trp_cg hv (by omega) F c tm hc (fun j hj => hb2 j (by omega))
          exact ⟨w, by rw [ew, ecg], fw⟩
        · rw [if_neg (by decide), if_pos rfl]
          have e3 : (nI (su (pm t0) i) = nI c) = (su (pm t0) i = c) := propext (nI_eq (by omega) (by omega))
          have eo : (if nI (su (pm t0) i) = nI c then nI (sv (pm t0) i) else nI (su (pm t0) i)) = nI (ote (pm t0) i c) := by unfold ote; simp only [e3]; split <;> rfl
          have ho := ote_lt hv hi c
          simp only [gI_39, pI_39, rc_39, al_40, as_40, ln_40, al_41, as_41, ln_41, al_42, as_42, ln_42, al_43, as_43, ln_43, al_44, as_44, ln_44, al_45, as_45, ln_45, al_46, as_46, ln_46, al_47, as_47, ln_47, al_48, as_48, ln_48, al_49, as_49, ln_49, al_50, as_50, ln_50, al_51, as_51, ln_51, al_52, as_52, ln_52, al_53, as_53, ln_53, al_54, as_54, ln_54, al_55, as_55, ln_55, al_56, as_56, ln_56, al_57, as_57, ln_57, al_58, as_58, ln_58, al_59, as_59, ln_59, al_60, as_60, ln_60, al_61, as_61, ln_61, al_62, as_62, ln_62, al_63, as_63, ln_63, al_64, as_64, ln_64, al_65, as_65, ln_65, al_66, as_66, ln_66, al_67, as_67, ln_67, gC_39_4, gC_39_5, gC_39_6, gC_39_7, gC_39_8, gC_39_10, gC_39_11, gC_39_12, gC_39_13, gC_39_15, gC_39_16, gC_39_18, gC_39_19, gC_39_27, gC_39_28, gC_39_29, gC_39_30, gC_39_31, gC_39_36, gC_39_37, gC_39_41, gC_39_42, gC_39_43, gC_39_44, gC_39_46, gC_39_47, gC_39_48, gC_39_49, bI_rI, bV_rV, bQ_rN, bQ_rR, bz_0, bz_1, bz_Z, hZ0, hZ1, Lay_setI, Lay_setA, hw.lay, i12, rp_3, rp_8, rp_11, rp_14, rp_32, rp_34, rp_36, rp_38, rp_40, rp_41, rp_42, rp_43, rp_44, rp_45, rp_46, rp_47, rp_48, rp_49, rp_50, rp_51, rp_52, rp_53, rp_54, rp_55, rp_56, rp_57, rp_58, frv.1.2, q3, beyond_v hw hi, q1, q2, eo, nI_add]
          exact ih (ote (pm t0) i c) sh (tm + sk (pm t0) i) F v f ho frv (by
            have := nrr_lt (D := Dst (pm t0) (fun i => opn (pm t0) says i && !bt sh i) s e) (b := ote (pm t0) i c) (c := c) ho (by omega)
            omega) (by omega) (by omega)
      · rw [if_neg cf, if_neg cf]; exact ⟨v, rfl, frv⟩
theorem tripBy_v (h : Inv n m s g x p t0) {a e : Nat} (ha : a < 6) (he : e < 6) (says town : Int32) : QS [64] t0 (fm_tripBy t0 says (nI (10 * a + e)) town) (trp (pm t0) s e says town 78 a (fun _ => false) 0) := by
  have hr := h.rng
  unfold fm_tripBy
  rw [tw_div a ha e he]
  have hc := cnt_le (fun i => !bt 0 i) s
  have hn := nrr_le (Dst (pm t0) (fun i => opn (pm t0) says i && !bt 0 i) s e) ha
  have := tripBy_loop h ha he says town 78 a 0 0 78 t0 1000000 ha (FS.refl _ _) (by omega) (by omega) (Nat.le_refl _)
  rw [show (fun i => bt 0 i) = fun _ => false from funext fun i => b_0 i] at this
  exact this
/-! trip -/
def s_trip (n m s : Nat) (G : GG) (a b c : Int32) : Int32 := if inr a m = true then (if twB b = true then (if inr c (2 ^ n) = true then trp G s (cN b % 10) (G 41 (cN a)) c 78 (cN b / 10) (fun _ => false) 0 else -7) else -5) else -5
theorem ok_trip (h : Inv n m s g x p t) (a b c : Int32) : Okk t (fun t => fx_trip t a b c) (fun t => fm_trip t a b c) := by
  have hr := h.rng
  refine okq h (v := s_trip n m s (pm t) a b c) ?_ (fun u hu e => ?_)
  · unfold s_trip
    cases c1 : inr a m
    · simp only [fx_trip, gI_0, pI_0, rc_0, gI_1, pI_1, rc_1, ln_2, ql_2, al_3, as_3, ln_3, al_4, as_4, ln_4, gI_5, pI_5, rc_5, ln_6, ql_6, al_7, as_7, ln_7, al_8, as_8, ln_8, ln_9, ql_9, gI_10, pI_10, rc_10, al_11, as_11, ln_11, al_12, as_12, ln_12, gI_13, pI_13, rc_13, al_14, as_14, ln_14, ln_15, ql_15, gI_16, pI_16, rc_16, al_17, as_17, ln_17, al_18, as_18, ln_18, al_19, as_19, ln_19, al_20, as_20, ln_20, bl_21, bs_21, ln_21, gI_22, pI_22, rc_22, al_23, as_23, ln_23, al_24, as_24, ln_24, al_25, as_25, ln_25, gI_31, pI_31, rc_31, al_32, as_32, ln_32, gI_33, pI_33, rc_33, al_34, as_34, ln_34, gI_35, pI_35, rc_35, al_36, as_36, ln_36, gI_37, pI_37, rc_37, al_38, as_38, ln_38, gC_0_3, gC_0_4, gC_0_5, gC_0_7, gC_0_10, gC_0_11, gC_0_12, gC_0_13, gC_0_14, gC_0_15, gC_0_16, gC_0_17, gC_1_0, gC_1_2, gC_1_3, gC_5_0, gC_5_2, gC_10_0, gC_10_7, gC_13_5, gC_16_0, gC_16_2, gC_22_0, gC_22_1, gC_22_2, gC_22_3, gC_31_2, gC_33_2, gC_35_2, gC_37_2, bI_rI, bV_rV, bQ_rN, bQ_rR, bz_0, bz_1, bz_Z, hZ0, hZ1, Lay_setI, Lay_setA, h.lay, chartAt_no h c1]; exact QQ.pure rfl
    · obtain ⟨i, hi, rfl⟩ := inr_t c1 (by omega)
      obtain ⟨q, e1, _, hc⟩ := chartAt_in h hi
      simp only [fx_trip, gI_0, pI_0, rc_0, gI_1, pI_1, rc_1, ln_2, ql_2, al_3, as_3, ln_3, al_4, as_4, ln_4, gI_5, pI_5, rc_5, ln_6, ql_6, al_7, as_7, ln_7, al_8, as_8, ln_8, ln_9, ql_9, gI_10, pI_10, rc_10, al_11, as_11, ln_11, al_12, as_12, ln_12, gI_13, pI_13, rc_13, al_14, as_14, ln_14, ln_15, ql_15, gI_16, pI_16, rc_16, al_17, as_17, ln_17, al_18, as_18, ln_18, al_19, as_19, ln_19, al_20, as_20, ln_20, bl_21, bs_21, ln_21, gI_22, pI_22, rc_22, al_23, as_23, ln_23, al_24, as_24, ln_24, al_25, as_25, ln_25, gI_31, pI_31, rc_31, al_32, as_32, ln_32, gI_33, pI_33, rc_33, al_34, as_34, ln_34, gI_35, pI_35, rc_35, al_36, as_36, ln_36, gI_37, pI_37, rc_37, al_38, as_38, ln_38, gC_0_3, gC_0_4, gC_0_5, gC_0_7, gC_0_10, gC_0_11, gC_0_12, gC_0_13, gC_0_14, gC_0_15, gC_0_16, gC_0_17, gC_1_0, gC_1_2, gC_1_3, gC_5_0, gC_5_2, gC_10_0, gC_10_7, gC_13_5, gC_16_0, gC_16_2, gC_22_0, gC_22_1, gC_22_2, gC_22_3, gC_31_2, gC_33_2, gC_35_2, gC_37_2, bI_rI, bV_rV, bQ_rN, bQ_rR, bz_0, bz_1, bz_Z, hZ0, hZ1, Lay_setI, Lay_setA, h.lay, e1, fx_isTwo_v, fx_isTown_v h, hc.i1, if_true, cN_i (show i < 2 ^ 31 by omega)]
      cases c2 : twB b
      · simp only [if_true]; exact QQ.pure rfl
      · obtain ⟨j, k, hj, hk, rfl⟩ := twB_t c2
        simp only [if_false, if_true, Bool.true_eq_false]
        cases c3 : inr c (2 ^ n)
        · simp only [if_true]; exact QQ.pure rfl
        · obtain ⟨u, eu, fu⟩ := walk_v h hj hk (pm t 41 i) c
          simp only [if_false, if_true, Bool.true_eq_false, eu, bI_rI, bV_rV, bQ_rN, bQ_rR, bz_0, bz_1, bz_Z, hZ0, hZ1, Lay_setI, Lay_setA, (two_ab hj hk).1, (two_ab hj hk).2]
          exact ⟨u, rfl, fu.1⟩
  · rw [← e]
    unfold s_trip
    simp only [fm_trip, gI_39, pI_39, rc_39, al_40, as_40, ln_40, al_41, as_41, ln_41, al_42, as_42, ln_42, al_43, as_43, ln_43, al_44, as_44, ln_44, al_45, as_45, ln_45, al_46, as_46, ln_46, al_47, as_47, ln_47, al_48, as_48, ln_48, al_49, as_49, ln_49, al_50, as_50, ln_50, al_51, as_51, ln_51, al_52, as_52, ln_52, al_53, as_53, ln_53, al_54, as_54, ln_54, al_55, as_55, ln_55, al_56, as_56, ln_56, al_57, as_57, ln_57, al_58, as_58, ln_58, al_59, as_59, ln_59, al_60, as_60, ln_60, al_61, as_61, ln_61, al_62, as_62, ln_62, al_63, as_63, ln_63, al_64, as_64, ln_64, al_65, as_65, ln_65, al_66, as_66, ln_66, al_67, as_67, ln_67, gC_39_4, gC_39_5, gC_39_6, gC_39_7, gC_39_8, gC_39_10, gC_39_11, gC_39_12, gC_39_13, gC_39_15, gC_39_16, gC_39_18, gC_39_19, gC_39_27, gC_39_28, gC_39_29, gC_39_30, gC_39_31, gC_39_36, gC_39_37, gC_39_41, gC_39_42, gC_39_43, gC_39_44, gC_39_46, gC_39_47, gC_39_48, gC_39_49, bI_rI, bV_rV, bQ_rN, bQ_rR, bz_0, bz_1, bz_Z, hZ0, hZ1, Lay_setI, Lay_setA, hu.lay, fm_isMap_v hu, fm_areTwo_v, fm_isTown_v hu]
    cases c1 : inr a m
    · simp only [if_true]; exact QQ.pure rfl
    · obtain ⟨i, hi, rfl⟩ := inr_t c1 (by omega)
      have i8 : i < 8 := by omega
      simp only [if_false, if_true, Bool.true_eq_false, cN_i (show i < 2 ^ 31 by omega)]
      cases c2 : twB b
      · simp only [if_true]; exact QQ.pure rfl
      · obtain ⟨j, k, hj, hk, rfl⟩ := twB_t c2
        simp only [if_false, if_true, Bool.true_eq_false]
        cases c3 : inr c (2 ^ n)
        · simp only [if_true]; exact QQ.pure rfl
        · obtain ⟨v, ev, fv⟩ := tripBy_v hu hj hk (pm u 41 i) c
          simp only [if_false, if_true, Bool.true_eq_false, gI_39, pI_39, rc_39, al_40, as_40, ln_40, al_41, as_41, ln_41, al_42, as_42, ln_42, al_43, as_43, ln_43, al_44, as_44, ln_44, al_45, as_45, ln_45, al_46, as_46, ln_46, al_47, as_47, ln_47, al_48, as_48, ln_48, al_49, as_49, ln_49, al_50, as_50, ln_50, al_51, as_51, ln_51, al_52, as_52, ln_52, al_53, as_53, ln_53, al_54, as_54, ln_54, al_55, as_55, ln_55, al_56, as_56, ln_56, al_57, as_57, ln_57, al_58, as_58, ln_58, al_59, as_59, ln_59, al_60, as_60, ln_60, al_61, as_61, ln_61, al_62, as_62, ln_62, al_63, as_63, ln_63, al_64, as_64, ln_64, al_65, as_65, ln_65, al_66, as_66, ln_66, al_67, as_67, ln_67, gC_39_4, gC_39_5, gC_39_6, gC_39_7, gC_39_8, gC_39_10, gC_39_11, gC_39_12, gC_39_13, gC_39_15, gC_39_16, gC_39_18, gC_39_19, gC_39_27, gC_39_28, gC_39_29, gC_39_30, gC_39_31, gC_39_36, gC_39_37, gC_39_41, gC_39_42, gC_39_43, gC_39_44, gC_39_46, gC_39_47, gC_39_48, gC_39_49, bI_rI, bV_rV, bQ_rN, bQ_rR, bz_0, bz_1, bz_Z, hZ0, hZ1, Lay_setI, Lay_setA, hu.lay, i8, rp_3, rp_8, rp_11, rp_14, rp_32, rp_34, rp_36, rp_38, rp_40, rp_41, rp_42, rp_43, rp_44, rp_45, rp_46, rp_47, rp_48, rp_49, rp_50, rp_51, rp_52, rp_53, rp_54, rp_55, rp_56, rp_57, rp_58, ev, (two_ab hj hk).1, (two_ab hj hk).2]
          exact ⟨v, rfl, fv.1⟩
/-! harm -/
def hrm (G : GG) (s : Nat) (two : Nat) (town says : Int32) : Int32 :=
  if Dst G (opn G town) s (two % 10) (two / 10) < 1000000 then
    clp (evn (nms town (if trp G s (two % 10) says town 78 (two / 10) (fun _ => false) 0 = -1 then 99 else trp G s (two % 10) says town 78 (two / 10) (fun _ => false) 0 - nI (Dst G (opn G town) s (two % 10) (two / 10))) 0) (cds G (lwN G) 1))
  else 0
theorem go_v (h : Inv n m s g x p t) {i : Nat} (hi : i < g) : ∃ a b, a < 6 ∧ b < 6 ∧ pm t 49 i = nI (10 * a + b) ∧ mI t 8 i = nI (10 * a + b) ∧ cN (pm t 49 i) % 10 = b ∧ cN (pm t 49 i) / 10 = a := by
  obtain ⟨e, a, b, ha, hb, e2⟩ := h.gos i hi
  refine ⟨a, b, ha, hb, e2, by rw [rp_8 h.lay, e, e2], ?_, ?_⟩
  · rw [e2]; exact (two_ab ha hb).1
  · rw [e2]; exact (two_ab ha hb).2
theorem harmForOne_v (h : Inv n m s g x p t0) {i w : Nat} (hi : i < g) (hw : w < 2 ^ n) (says : Int32) : QQ t0 (fx_harmForOne t0 (nI i) (nI w) says) (hrm (pm t0) s (cN (pm t0 49 i)) (nI w) says) := by
  have hr := h.rng
  have hv := SV.of h
  obtain ⟨a, b, ha, hb, e1, e2, e3, e4⟩ := go_v h hi
  obtain ⟨q, l, el, hl, hl2, hx⟩ := lawText_v h
  have hD := D_le (pm t0) (opn (pm t0) (nI w)) s b a
  unfold hrm
  rw [e3, e4]
  obtain ⟨u, eu, fu⟩ := shortest_v h ha hb (orf (opn (pm t0) (nI w)) s)
  rw [Dst_or (show s ≤ 12 by omega)] at eu
  simp only [fx_harmForOne, gI_0, pI_0, rc_0, gI_1, pI_1, rc_1, ln_2, ql_2, al_3, as_3, ln_3, al_4, as_4, ln_4, gI_5, pI_5, rc_5, ln_6, ql_6, al_7, as_7, ln_7, al_8, as_8, ln_8, ln_9, ql_9, gI_10, pI_10, rc_10, al_11, as_11, ln_11, al_12, as_12, ln_12, gI_13, pI_13, rc_13, al_14, as_14, ln_14, ln_15, ql_15, gI_16, pI_16, rc_16, al_17, as_17, ln_17, al_18, as_18, ln_18, al_19, as_19, ln_19, al_20, as_20, ln_20, bl_21, bs_21, ln_21, gI_22, pI_22, rc_22, al_23, as_23, ln_23, al_24, as_24, ln_24, al_25, as_25, ln_25, gI_31, pI_31, rc_31, al_32, as_32, ln_32, gI_33, pI_33, rc_33, al_34, as_34, ln_34, gI_35, pI_35, rc_35, al_36, as_36, ln_36, gI_37, pI_37, rc_37, al_38, as_38, ln_38, gC_0_3, gC_0_4, gC_0_5, gC_0_7, gC_0_10, gC_0_11, gC_0_12, gC_0_13, gC_0_14, gC_0_15, gC_0_16, gC_0_17, gC_1_0, gC_1_2, gC_1_3, gC_5_0, gC_5_2, gC_10_0, gC_10_7, gC_13_5, gC_16_0, gC_16_2, gC_22_0, gC_22_1, gC_22_2, gC_22_3, gC_31_2, gC_33_2, gC_35_2, gC_37_2, bI_rI, bV_rV, bQ_rN, bQ_rR, bz_0, bz_1, bz_Z, hZ0, hZ1, Lay_setI, Lay_setA, h.lay, L_nai h.lay (by decide : 8 < 68) (rfl : layF 8 = (20, 6)) (show i < 6 by omega), e2, el, openIn_v h, eu]
  unfold wyv
  by_cases c : Dst (pm t0) (opn (pm t0) (nI w)) s b a < 1000000
  · rw [if_pos c, if_pos c, if_neg (nI_pos (by omega))]
    have hu := h.fr fu.1
    obtain ⟨v, ev, fv⟩ := walk_v hu ha hb says (nI w)
    rw [fu.1.2] at ev
    have hvv := hu.fr fv.1
    have fr2 := fu.1.trans fv.1
    have hx' : TxA (pm v) (mR v) (mT v) (mN v) l q := by rw [fr2.2, fr2.T, fr2.N, fr2.R]; exact hx
    have k1 : ∀ c : OR, hRecv v 8 q c = c := fun c => if_pos hx'.2.1
    have k2 : ∀ (cn : OR) (c : Nat → OR), hGetR v 8 q 1 cn c = c (q - 3 + 1) := fun cn c => by
      unfold hGetR; rw [if_pos hx'.2.1, (hx'.2.2.2.2.2.1 1 (by decide)).1]
    simp only [gI_0, pI_0, rc_0, gI_1, pI_1, rc_1, ln_2, ql_2, al_3, as_3, ln_3, al_4, as_4, ln_4, gI_5, pI_5, rc_5, ln_6, ql_6, al_7, as_7, ln_7, al_8, as_8, ln_8, ln_9, ql_9, gI_10, pI_10, rc_10, al_11, as_11, ln_11, al_12, as_12, ln_12, gI_13, pI_13, rc_13, al_14, as_14, ln_14, ln_15, ql_15, gI_16, pI_16, rc_16, al_17, as_17, ln_17, al_18, as_18, ln_18, al_19, as_19, ln_19, al_20, as_20, ln_20, bl_21, bs_21, ln_21, gI_22, pI_22, rc_22, al_23, as_23, ln_23, al_24, as_24, ln_24, al_25, as_25, ln_25, gI_31, pI_31, rc_31, al_32, as_32, ln_32, gI_33, pI_33, rc_33, al_34, as_34, ln_34, gI_35, pI_35, rc_35, al_36, as_36, ln_36, gI_37, pI_37, rc_37, al_38, as_38, ln_38, gC_0_3, gC_0_4, gC_0_5, gC_0_7, gC_0_10, gC_0_11, gC_0_12, gC_0_13, gC_0_14, gC_0_15, gC_0_16, gC_0_17, gC_1_0, gC_1_2, gC_1_3, gC_5_0, gC_5_2, gC_10_0, gC_10_7, gC_13_5, gC_16_0, gC_16_2, gC_22_0, gC_22_1, gC_22_2, gC_22_3, gC_31_2, gC_33_2, gC_35_2, gC_37_2, bI_rI, bV_rV, bQ_rN, bQ_rR, bz_0, bz_1, bz_Z, hZ0, hZ1, Lay_setI, Lay_setA, hu.lay, ev]
    have fin : ∀ far, ∃ z, (hRecv v 8 q <| bI (fTx_harmOf v q (nI w) far) fun harmOf16 t15 => bI (fx_bounded t15 harmOf16) fun bounded18 t17 => rI bounded18 t17) = rI (clp (evn (nms (nI w) far 0) (cds (pm t0) (lwN (pm t0)) 1))) z ∧ Fr t0 z := by
      intro far
      obtain ⟨z, ez, fz⟩ := tx_val hx' (e := 1) (by decide) (nI w) far 0
      refine ⟨z, ?_, fr2.trans fz⟩
      simp only [k1, fTx_harmOf, k2, ez, bI_rI, fx_bounded_v, fr2.2]
      unfold lwN
      rw [hl2, cN_i (by omega)]
    rcases trp_is (e := b) (says := says) (town := nI w) hv (by omega) 78 a (fun _ => false) 0 ha (by omega) with et | ⟨z, hz, et⟩
    · rw [et, if_neg (by decide), if_pos rfl]; exact fin _
    · have : ¬ nI z = -1 := fun e => by have := nI_pos hz; rw [e] at this; exact this (by decide)
      rw [et, if_pos (nI_pos' hz), if_neg this]; exact fin _
  · rw [if_neg c, if_neg c, if_pos (by decide)]
    exact ⟨u, rfl, fu.1⟩
theorem harmOf_v (h : Inv n m s g x p t0) {i w : Nat} (hi : i < g) (hw : w < 2 ^ n) (says : Int32) : QQ t0 (fm_harmOf t0 (nI i) (nI w) says) (hrm (pm t0) s (cN (pm t0 49 i)) (nI w) says) := by
  have hr := h.rng
  have hv := SV.of h
  have i6 : i < 6 := by omega
  obtain ⟨a, b, ha, hb, e1, e2, e3, e4⟩ := go_v h hi
  have hD := D_le (pm t0) (opn (pm t0) (nI w)) s b a
  unfold hrm
  rw [e3, e4]
  obtain ⟨u, eu, fu⟩ := wayIn_v h ha hb (nI w)
  have hu := h.fr fu.1
  simp only [fm_harmOf, gI_39, pI_39, rc_39, al_40, as_40, ln_40, al_41, as_41, ln_41, al_42, as_42, ln_42, al_43, as_43, ln_43, al_44, as_44, ln_44, al_45, as_45, ln_45, al_46, as_46, ln_46, al_47, as_47, ln_47, al_48, as_48, ln_48, al_49, as_49, ln_49, al_50, as_50, ln_50, al_51, as_51, ln_51, al_52, as_52, ln_52, al_53, as_53, ln_53, al_54, as_54, ln_54, al_55, as_55, ln_55, al_56, as_56, ln_56, al_57, as_57, ln_57, al_58, as_58, ln_58, al_59, as_59, ln_59, al_60, as_60, ln_60, al_61, as_61, ln_61, al_62, as_62, ln_62, al_63, as_63, ln_63, al_64, as_64, ln_64, al_65, as_65, ln_65, al_66, as_66, ln_66, al_67, as_67, ln_67, gC_39_4, gC_39_5, gC_39_6, gC_39_7, gC_39_8, gC_39_10, gC_39_11, gC_39_12, gC_39_13, gC_39_15, gC_39_16, gC_39_18, gC_39_19, gC_39_27, gC_39_28, gC_39_29, gC_39_30, gC_39_31, gC_39_36, gC_39_37, gC_39_41, gC_39_42, gC_39_43, gC_39_44, gC_39_46, gC_39_47, gC_39_48, gC_39_49, bI_rI, bV_rV, bQ_rN, bQ_rR, bz_0, bz_1, bz_Z, hZ0, hZ1, Lay_setI, Lay_setA, h.lay, i6, rp_3, rp_8, rp_11, rp_14, rp_32, rp_34, rp_36, rp_38, rp_40, rp_41, rp_42, rp_43, rp_44, rp_45, rp_46, rp_47, rp_48, rp_49, rp_50, rp_51, rp_52, rp_53, rp_54, rp_55, rp_56, rp_57, rp_58, e1, eu]
  unfold wyv
  by_cases c : Dst (pm t0) (opn (pm t0) (nI w)) s b a < 1000000
  · have : ¬ nI (Dst (pm t0) (opn (pm t0) (nI w)) s b a) = -1 := fun e => by have := nI_pos (n := Dst (pm t0) (opn (pm t0) (nI w)) s b a) (by omega); rw [e] at this; exact this (by decide)
    rw [if_pos c, if_pos c, if_neg this]
    obtain ⟨v, ev, fv⟩ := tripBy_v hu ha hb says (nI w)
    rw [fu.1.2] at ev
    have hvv := hu.fr fv.1
    have fr2 := fu.1.trans fv.1
    obtain ⟨l, hl, hl2⟩ := hvv.lwE
    simp only [gI_39, pI_39, rc_39, al_40, as_40, ln_40, al_41, as_41, ln_41, al_42, as_42, ln_42, al_43, as_43, ln_43, al_44, as_44, ln_44, al_45, as_45, ln_45, al_46, as_46, ln_46, al_47, as_47, ln_47, al_48, as_48, ln_48, al_49, as_49, ln_49, al_50, as_50, ln_50, al_51, as_51, ln_51, al_52, as_52, ln_52, al_53, as_53, ln_53, al_54, as_54, ln_54, al_55, as_55, ln_55, al_56, as_56, ln_56, al_57, as_57, ln_57, al_58, as_58, ln_58, al_59, as_59, ln_59, al_60, as_60, ln_60, al_61, as_61, ln_61, al_62, as_62, ln_62, al_63, as_63, ln_63, al_64, as_64, ln_64, al_65, as_65, ln_65, al_66, as_66, ln_66, al_67, as_67, ln_67, gC_39_4, gC_39_5, gC_39_6, gC_39_7, gC_39_8, gC_39_10, gC_39_11, gC_39_12, gC_39_13, gC_39_15, gC_39_16, gC_39_18, gC_39_19, gC_39_27, gC_39_28, gC_39_29, gC_39_30, gC_39_31, gC_39_36, gC_39_37, gC_39_41, gC_39_42, gC_39_43, gC_39_44, gC_39_46, gC_39_47, gC_39_48, gC_39_49, bI_rI, bV_rV, bQ_rN, bQ_rR, bz_0, bz_1, bz_Z, hZ0, hZ1, Lay_setI, Lay_setA, hu.lay, i6, rp_3, rp_8, rp_11, rp_14, rp_32, rp_34, rp_36, rp_38, rp_40, rp_41, rp_42, rp_43, rp_44, rp_45, rp_46, rp_47, rp_48, rp_49, rp_50, rp_51, rp_52, rp_53, rp_54, rp_55, rp_56, rp_57, rp_58, fu.1.2, e1, ev]
    have fin : ∀ far, QQ t0 (hRecv v 11 39 <| bI (fm_asksOf v 1 (nI w) far 0) fun asksOf10 t9 => rI asksOf10 t9) (clp (evn (nms (nI w) far 0) (cds (pm t0) (lwN (pm t0)) 1))) := by
      intro far
      obtain ⟨z, ez, fz⟩ := fm_asksOf_v hvv (FS.refl _ v) hl (e := 1) (by decide) hl2 hw far 0
      rw [if_neg (by decide)] at ez
      refine ⟨z, ?_, fr2.trans fz.1⟩
      rw [rc_39 hvv.lay, show fm_asksOf v 1 (nI w) far 0 = _ from ez, bI_rI, fr2.2]
      unfold lwN
      rw [← fr2.2, hl2, cN_i (by omega)]
    by_cases ct : trp (pm t0) s b says (nI w) 78 a (fun _ => false) 0 = -1
    · rw [if_pos ct, if_pos ct]; exact fin _
    · rw [if_neg ct, if_neg ct]; exact fin _
  · rw [if_neg c, if_neg c, if_pos rfl]
    exact ⟨u, rfl, fu.1⟩
end
