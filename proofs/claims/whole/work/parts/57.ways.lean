section
variable {n m s g x p : Nat} {t0 t u : SM}
def opn (G : GG) (w : Int32) (i : Nat) : Bool := decide (G 47 i = -1) || decide (((w >>> (G 47 i &&& 31)) &&& 1) = 1)
def su (G : GG) (i : Nat) : Nat := cN (G 45 i)
def sv (G : GG) (i : Nat) : Nat := cN (G 46 i)
def sk (G : GG) (i : Nat) : Nat := cN (G 48 i)
theorem st_v (h : Inv n m s g x p t) {i : Nat} (hi : i < s) : (su (pm t) i < 6 ∧ sv (pm t) i < 6 ∧ su (pm t) i ≠ sv (pm t) i ∧ 1 ≤ sk (pm t) i ∧ sk (pm t) i ≤ 99) ∧ pm t 45 i = nI (su (pm t) i) ∧ pm t 46 i = nI (sv (pm t) i) ∧ pm t 48 i = nI (sk (pm t) i) := by
  obtain ⟨⟨⟨a, b, ha, hb, hab, e1, e2⟩, _, w, w1, w2, e3⟩, _⟩ := h.sts i hi
  unfold su sv sk
  rw [e1, e2, e3, cN_i (by omega), cN_i (by omega), cN_i (by omega)]
  exact ⟨⟨ha, hb, hab, w1, w2⟩, rfl, rfl, rfl⟩
theorem hasChoice_v (t : SM) (a b : Int32) : fx_hasChoice t a b = rI (bz (decide (((a >>> (b &&& 31)) &&& 1) = 1))) t := by
  unfold fx_hasChoice; rw [bz_itf]
theorem isOpenIn_v {i q : Nat} (hc : StA (pm t) (mT t) (mN t) i q) (w : Int32) : fSt_isOpenIn t q w = rI (bz (opn (pm t) w i)) t := by
  simp only [fSt_isOpenIn, hc.i2, hasChoice_v, bI_rI, bV_rV, bQ_rN, bQ_rR, bz_0, bz_1, bz_Z, hZ0, hZ1, Lay_setI, Lay_setA, bz_b0]
  unfold opn
  by_cases c : pm t 47 i = -1
  · rw [if_pos c, decide_eq_true c]; rfl
  · rw [if_neg c, decide_eq_false c, Bool.false_or]
theorem fm_isOpen_v (h : Inv n m s g x p t) {i : Nat} (hi : i < s) (w : Int32) : fm_isOpen t (nI i) w = rI (bz (opn (pm t) w i)) t := by
  have hr := h.rng
  have h12 : i < 12 := by omega
  simp only [fm_isOpen, gI_39, pI_39, rc_39, al_40, as_40, ln_40, al_41, as_41, ln_41, al_42, as_42, ln_42, al_43, as_43, ln_43, al_44, as_44, ln_44, al_45, as_45, ln_45, al_46, as_46, ln_46, al_47, as_47, ln_47, al_48, as_48, ln_48, al_49, as_49, ln_49, al_50, as_50, ln_50, al_51, as_51, ln_51, al_52, as_52, ln_52, al_53, as_53, ln_53, al_54, as_54, ln_54, al_55, as_55, ln_55, al_56, as_56, ln_56, al_57, as_57, ln_57, al_58, as_58, ln_58, al_59, as_59, ln_59, al_60, as_60, ln_60, al_61, as_61, ln_61, al_62, as_62, ln_62, al_63, as_63, ln_63, al_64, as_64, ln_64, al_65, as_65, ln_65, al_66, as_66, ln_66, al_67, as_67, ln_67, gC_39_4, gC_39_5, gC_39_6, gC_39_7, gC_39_8, gC_39_10, gC_39_11, gC_39_12, gC_39_13, gC_39_15, gC_39_16, gC_39_18, gC_39_19, gC_39_27, gC_39_28, gC_39_29, gC_39_30, gC_39_31, gC_39_36, gC_39_37, gC_39_41, gC_39_42, gC_39_43, gC_39_44, gC_39_46, gC_39_47, gC_39_48, gC_39_49, bI_rI, bV_rV, bQ_rN, bQ_rR, bz_0, bz_1, bz_Z, hZ0, hZ1, Lay_setI, Lay_setA, h.lay, h12, rp_3, rp_8, rp_11, rp_14, rp_32, rp_34, rp_36, rp_38, rp_40, rp_41, rp_42, rp_43, rp_44, rp_45, rp_46, rp_47, rp_48, rp_49, rp_50, rp_51, rp_52, rp_53, rp_54, rp_55, rp_56, rp_57, rp_58]
  unfold opn
  by_cases c : pm t 47 i = -1
  · rw [if_pos c, decide_eq_true c]; rfl
  · rw [if_neg c, decide_eq_false c, Bool.false_or, bz_itf]
theorem openIn_v (h : Inv n m s g x p t) (w : Int32) : fSs_openIn t w = rI (orf (opn (pm t) w) s) t := by
  have hr := h.rng
  have := for_fo (fun f k b => fSs_openIn_l4 f t w b (nI k)) s (fun k b => if opn (pm t) w k = true then b ||| ((1 : Int32) <<< (nI k &&& 31)) else b) (fun b => rI b t)
    (fun f b => by
      have e9 : nI s ≤ nI s := Int32.le_refl _
      show fSs_openIn_4 _ t w b (nI s) = _
      simp only [fSs_openIn_4, gI_0, pI_0, rc_0, gI_1, pI_1, rc_1, ln_2, ql_2, al_3, as_3, ln_3, al_4, as_4, ln_4, gI_5, pI_5, rc_5, ln_6, ql_6, al_7, as_7, ln_7, al_8, as_8, ln_8, ln_9, ql_9, gI_10, pI_10, rc_10, al_11, as_11, ln_11, al_12, as_12, ln_12, gI_13, pI_13, rc_13, al_14, as_14, ln_14, ln_15, ql_15, gI_16, pI_16, rc_16, al_17, as_17, ln_17, al_18, as_18, ln_18, al_19, as_19, ln_19, al_20, as_20, ln_20, bl_21, bs_21, ln_21, gI_22, pI_22, rc_22, al_23, as_23, ln_23, al_24, as_24, ln_24, al_25, as_25, ln_25, gI_31, pI_31, rc_31, al_32, as_32, ln_32, gI_33, pI_33, rc_33, al_34, as_34, ln_34, gI_35, pI_35, rc_35, al_36, as_36, ln_36, gI_37, pI_37, rc_37, al_38, as_38, ln_38, gC_0_3, gC_0_4, gC_0_5, gC_0_7, gC_0_10, gC_0_11, gC_0_12, gC_0_13, gC_0_14, gC_0_15, gC_0_16, gC_0_17, gC_1_0, gC_1_2, gC_1_3, gC_5_0, gC_5_2, gC_10_0, gC_10_7, gC_13_5, gC_16_0, gC_16_2, gC_22_0, gC_22_1, gC_22_2, gC_22_3, gC_31_2, gC_33_2, gC_35_2, gC_37_2, bI_rI, bV_rV, bQ_rN, bQ_rR, bz_0, bz_1, bz_Z, hZ0, hZ1, Lay_setI, Lay_setA, h.lay, h.st', e9, if_true])
    (fun f k b hk => by
      have e9 : ¬ nI s ≤ nI k := nI_ge hk (by omega)
      obtain ⟨q, e1, _, hc⟩ := streetAt_in h hk
      show fSs_openIn_4 _ t w b (nI k) = fSs_openIn_l4 f t w (if opn (pm t) w k = true then b ||| ((1 : Int32) <<< (nI k &&& 31)) else b) (nI (k + 1))
      simp only [fSs_openIn_4, gI_0, pI_0, rc_0, gI_1, pI_1, rc_1, ln_2, ql_2, al_3, as_3, ln_3, al_4, as_4, ln_4, gI_5, pI_5, rc_5, ln_6, ql_6, al_7, as_7, ln_7, al_8, as_8, ln_8, ln_9, ql_9, gI_10, pI_10, rc_10, al_11, as_11, ln_11, al_12, as_12, ln_12, gI_13, pI_13, rc_13, al_14, as_14, ln_14, ln_15, ql_15, gI_16, pI_16, rc_16, al_17, as_17, ln_17, al_18, as_18, ln_18, al_19, as_19, ln_19, al_20, as_20, ln_20, bl_21, bs_21, ln_21, gI_22, pI_22, rc_22, al_23, as_23, ln_23, al_24, as_24, ln_24, al_25, as_25, ln_25, gI_31, pI_31, rc_31, al_32, as_32, ln_32, gI_33, pI_33, rc_33, al_34, as_34, ln_34, gI_35, pI_35, rc_35, al_36, as_36, ln_36, gI_37, pI_37, rc_37, al_38, as_38, ln_38, gC_0_3, gC_0_4, gC_0_5, gC_0_7, gC_0_10, gC_0_11, gC_0_12, gC_0_13, gC_0_14, gC_0_15, gC_0_16, gC_0_17, gC_1_0, gC_1_2, gC_1_3, gC_5_0, gC_5_2, gC_10_0, gC_10_7, gC_13_5, gC_16_0, gC_16_2, gC_22_0, gC_22_1, gC_22_2, gC_22_3, gC_31_2, gC_33_2, gC_35_2, gC_37_2, bI_rI, bV_rV, bQ_rN, bQ_rR, bz_0, bz_1, bz_Z, hZ0, hZ1, Lay_setI, Lay_setA, h.lay, h.st', e9, if_false, e1, hc.rc, isOpenIn_v hc, nI_1]
      cases opn (pm t) w k <;> rfl)
    0 s 0 1000000 (by omega) (by omega)
  exact this
/-! how far it is -/
def rx (a b w : Nat) (d : NN) : NN := fun p => if p = a then (if d b + w < d a then d b + w else d a) else d p
def swp (G : GG) (op : Nat → Bool) (s : Nat) (d : NN) : NN := fo (fun i d => if op i = true then rx (sv G i) (su G i) (sk G i) (rx (su G i) (sv G i) (sk G i) d) else d) d s
def d00 (e : Nat) : NN := fun p => if p = e then 0 else 1000000
def Dst (G : GG) (op : Nat → Bool) (s e : Nat) : NN := itr (swp G op s) (d00 e) 6
theorem swp_cg {G : GG} {op op' : Nat → Bool} {s : Nat} (h : ∀ i, i < s → op i = op' i) : swp G op s = swp G op' s := by
  funext d; unfold swp; exact fo_congr s (fun i d hi => by rw [h i hi])
theorem Dst_cg {G : GG} {op op' : Nat → Bool} {s e : Nat} (h : ∀ i, i < s → op i = op' i) : Dst G op s e = Dst G op' s e := by unfold Dst; rw [swp_cg h]
theorem rx_le (a b w : Nat) (d : NN) (p : Nat) : rx a b w d p ≤ d p := by
  unfold rx
  by_cases c : p = a
  · rw [if_pos c, c]; split <;> omega
  · rw [if_neg c]; exact Nat.le_refl _
theorem rx_mono {a b w : Nat} {d e : NN} (h : ∀ p, d p ≤ e p) (p : Nat) : rx a b w d p ≤ rx a b w e p := by
  unfold rx
  have h1 := h a; have h2 := h b
  by_cases c : p = a
  · rw [if_pos c, if_pos c]; split <;> split <;> omega
  · rw [if_neg c, if_neg c]; exact h p
theorem rx_no {a b w : Nat} {d : NN} (h : ¬ d b + w < d a) : rx a b w d = d := by
  funext p; unfold rx
  by_cases c : p = a
  · rw [if_pos c, if_neg h, c]
  · rw [if_neg c]
theorem rx_at (a b w : Nat) (d : NN) : rx a b w d a ≤ d b + w := by unfold rx; rw [if_pos rfl]; split <;> omega
theorem swp_le (G : GG) (op : Nat → Bool) (d : NN) : ∀ s p, swp G op s d p ≤ d p := by
  intro s
  induction s with
  | zero => intro p; exact Nat.le_refl _
  | succ s ih =>
    intro p
    show (if op s = true then _ else swp G op s d) p ≤ d p
    split
    · exact Nat.le_trans (Nat.le_trans (rx_le _ _ _ _ p) (rx_le _ _ _ _ p)) (ih p)
    · exact ih p
def RwC (u : SM) (d : NN) : Prop := ∀ j, j < 6 → mI u 7 j = nI (d j)
def RwM (u : SM) (d : NN) : Prop := ∀ j, j < 6 → mI u 64 j = nI (d j)
theorem shorten_v {d : NN} {a b w : Nat} (hl : Lay t) (hd : RwC t d) (hb : ∀ p, d p ≤ 1000000) (ha : a < 6) (hbb : b < 6) (hw : w ≤ 99) :
    ∃ u, fSs_shorten t (nI a) (nI b) (nI w) = rI (bz (decide (d b + w < d a))) u ∧ FS [7] t u ∧ RwC u (rx a b w d) := by
  have h1 := hb a; have h2 := hb b
  have e1 : (nI (d b + w) < nI (d a)) = (d b + w < d a) := propext (nI_ltI (by omega) (by omega))
  simp only [fSs_shorten, gI_0, pI_0, rc_0, gI_1, pI_1, rc_1, ln_2, ql_2, al_3, as_3, ln_3, al_4, as_4, ln_4, gI_5, pI_5, rc_5, ln_6, ql_6, al_7, as_7, ln_7, al_8, as_8, ln_8, ln_9, ql_9, gI_10, pI_10, rc_10, al_11, as_11, ln_11, al_12, as_12, ln_12, gI_13, pI_13, rc_13, al_14, as_14, ln_14, ln_15, ql_15, gI_16, pI_16, rc_16, al_17, as_17, ln_17, al_18, as_18, ln_18, al_19, as_19, ln_19, al_20, as_20, ln_20, bl_21, bs_21, ln_21, gI_22, pI_22, rc_22, al_23, as_23, ln_23, al_24, as_24, ln_24, al_25, as_25, ln_25, gI_31, pI_31, rc_31, al_32, as_32, ln_32, gI_33, pI_33, rc_33, al_34, as_34, ln_34, gI_35, pI_35, rc_35, al_36, as_36, ln_36, gI_37, pI_37, rc_37, al_38, as_38, ln_38, gC_0_3, gC_0_4, gC_0_5, gC_0_7, gC_0_10, gC_0_11, gC_0_12, gC_0_13, gC_0_14, gC_0_15, gC_0_16, gC_0_17, gC_1_0, gC_1_2, gC_1_3, gC_5_0, gC_5_2, gC_10_0, gC_10_7, gC_13_5, gC_16_0, gC_16_2, gC_22_0, gC_22_1, gC_22_2, gC_22_3, gC_31_2, gC_33_2, gC_35_2, gC_37_2, bI_rI, bV_rV, bQ_rN, bQ_rR, bz_0, bz_1, bz_Z, hZ0, hZ1, Lay_setI, Lay_setA, hl, L_nai hl (by decide : 7 < 68) (rfl : layF 7 = (20, 6)) ha, L_nai hl (by decide : 7 < 68) (rfl : layF 7 = (20, 6)) hbb, hd a ha, hd b hbb, nI_add, e1, L_sni hl (by decide : 7 < 68) (rfl : layF 7 = (20, 6)) ha]
  by_cases c : d b + w < d a
  · rw [if_pos c, decide_eq_true c]
    refine ⟨_, rfl, (FS.refl _ _).st rfl (by decide), fun j hj => ?_⟩
    unfold rx
    by_cases e : j = a
    · rw [setI_eq rfl e, if_pos e, if_pos c]
    · rw [setI_I, if_neg (fun z => e z.2), if_neg e]; exact hd j hj
  · rw [if_neg c, decide_eq_false c, rx_no c]
    exact ⟨t, rfl, FS.refl _ _, hd⟩
theorem bz_or (a b : Bool) : bz a ||| bz b = bz (a || b) := by cases a <;> cases b <;> decide
theorem d00_le (e p : Nat) : d00 e p ≤ 1000000 := by unfold d00; split <;> omega
theorem itr_le (G : GG) (op : Nat → Bool) (s e : Nat) (k p : Nat) : itr (swp G op s) (d00 e) k p ≤ 1000000 := by
  have := itr_dec (sw := swp G op s) (d0 := d00 e) (fun d p => swp_le G op d s p) 0 k p
  rw [Nat.zero_add] at this
  exact Nat.le_trans this (d00_le e p)
theorem measure_v (h : Inv n m s g x p t0) {e : Nat} (he : e < 6) (v : Int32) : VS [7] t0 (fSs_measure t0 (nI e) v) (fun u => RwC u (Dst (pm t0) (bt v) s e)) := by
  have hr := h.rng
  unfold fSs_measure
  rw [gC_5_2 h.lay, L_fill h.lay (by decide : 7 < 68) (rfl : layF 7 = (20, 6)), bV_rV]
  have f0 : FS [7] t0 (setA t0 7 (fun j => if j < 6 then 1000000 else mI t0 7 j)) := ⟨Fr.sA (fun j hj => rfl), fun q a b => by rw [setA_I, if_neg (fun e => b (by rw [e]; simp))]⟩
  have v0 : ∀ j, j < 6 → mI (setA t0 7 (fun j => if j < 6 then 1000000 else mI t0 7 j)) 7 j = 1000000 := fun j hj => by rw [setA_I, if_pos rfl, if_pos hj]
  generalize setA t0 7 (fun j => if j < 6 then 1000000 else mI t0 7 j) = u0 at f0 v0
  have h0 := h.fr f0.1
  rw [gC_5_2 h0.lay, L_sni h0.lay (by decide : 7 < 68) (rfl : layF 7 = (20, 6)) he, bV_rV]
  have f1 : FS [7] t0 (setI u0 7 e 0) := f0.st rfl (by decide)
  have v1 : RwC (setI u0 7 e 0) (d00 e) := fun j hj => by
    unfold d00
    by_cases c : j = e
    · rw [setI_eq rfl c, if_pos c]; rfl
    · rw [setI_I, if_neg (fun z => c z.2), if_neg c]; exact v0 j hj
  generalize setI u0 7 e 0 = u1 at f1 v1
  refine for_up (β := Int32) (fun f t k b => fSs_measure_l23 f t v b (nI k)) (fun r => VS [7] t0 r (fun u => RwC u (Dst (pm t0) (bt v) s e))) 6
    (fun k w fl => FS [7] t0 w ∧ RwC w (itr (swp (pm t0) (bt v) s) (d00 e) k) ∧ ∃ b, fl = bz b ∧ (b = false → swp (pm t0) (bt v) s (itr (swp (pm t0) (bt v) s) (d00 e) k) = itr (swp (pm t0) (bt v) s) (d00 e) k)) ?_ ?_ 6 0 u1 1 1000000 (by omega)
    ⟨f1, v1, true, rfl, fun c => absurd c (by decide)⟩ (by omega)
  · intro f w fl ⟨fw, hw, _⟩
    show VS _ t0 (fSs_measure_23 _ w v fl (nI 6)) _
    unfold fSs_measure_23
    rw [if_pos (show (6 : Int32) ≤ nI 6 from Int32.le_refl _)]
    exact ⟨w, rfl, fw, hw⟩
  · intro f w k fl hk ⟨fw, hw, b, hfl, hfix⟩ ih
    show VS _ t0 (fSs_measure_23 _ w v fl (nI k)) _
    unfold fSs_measure_23
    rw [if_neg (show ¬ (6 : Int32) ≤ nI k from nI_ge (b := 6) hk (by decide)), hfl]
    simp only [bz_0]
    cases b
    · rw [if_pos rfl]
      refine ⟨w, rfl, fw, ?_⟩
      have := itr_stay (hfix rfl) (6 - k)
      rw [show k + (6 - k) = 6 by omega] at this
      unfold Dst
      rw [this]; exact hw
    · rw [if_neg (by decide)]
      refine for_up (β := Int32) (fun f' t i b => fSs_measure_l39 (fun t u2 u3 u4 => fSs_measure_121 (fSs_measure_l23 f) t u2 u3 u4) f' t v b (nI k) (nI i)) (fun r => VS [7] t0 r (fun u => RwC u (Dst (pm t0) (bt v) s e))) s
        (fun i z fl => FS [7] t0 z ∧ RwC z (swp (pm t0) (bt v) i (itr (swp (pm t0) (bt v) s) (d00 e) k)) ∧ ∃ b, fl = bz b ∧ (b = false → swp (pm t0) (bt v) i (itr (swp (pm t0) (bt v) s) (d00 e) k) = itr (swp (pm t0) (bt v) s) (d00 e) k)) ?_ ?_ s 0 w 0 1000000 (by omega)
        ⟨fw, hw, false, rfl, fun _ => rfl⟩ (by omega)
      · intro f' z fl2 ⟨fz, hz, b2, hfl2, hfix2⟩
        have hi := h.fr fz.1
        have e9 : nI s ≤ nI s := Int32.le_refl _
        show VS _ t0 (fSs_measure_39 _ _ z v fl2 (nI k) (nI s)) _
        simp only [fSs_measure_39, gI_0, pI_0, rc_0, gI_1, pI_1, rc_1, ln_2, ql_2, al_3, as_3, ln_3, al_4, as_4, ln_4, gI_5, pI_5, rc_5, ln_6, ql_6, al_7, as_7, ln_7, al_8, as_8, ln_8, ln_9, ql_9, gI_10, pI_10, rc_10, al_11, as_11, ln_11, al_12, as_12, ln_12, gI_13, pI_13, rc_13, al_14, as_14, ln_14, ln_15, ql_15, gI_16, pI_16, rc_16, al_17, as_17, ln_17, al_18, as_18, ln_18, al_19, as_19, ln_19, al_20, as_20, ln_20, bl_21, bs_21, ln_21, gI_22, pI_22, rc_22, al_23, as_23, ln_23, al_24, as_24, ln_24, al_25, as_25, ln_25, gI_31, pI_31, rc_31, al_32, as_32, ln_32, gI_33, pI_33, rc_33, al_34, as_34, ln_34, gI_35, pI_35, rc_35, al_36, as_36, ln_36, gI_37, pI_37, rc_37, al_38, as_38, ln_38, gC_0_3, gC_0_4, gC_0_5, gC_0_7, gC_0_10, gC_0_11, gC_0_12, gC_0_13, gC_0_14, gC_0_15, gC_0_16, gC_0_17, gC_1_0, gC_1_2, gC_1_3, gC_5_0, gC_5_2, gC_10_0, gC_10_7, gC_13_5, gC_16_0, gC_16_2, gC_22_0, gC_22_1, gC_22_2, gC_22_3, gC_31_2, gC_33_2, gC_35_2, gC_37_2, bI_rI, bV_rV, bQ_rN, bQ_rR, bz_0, bz_1, bz_Z, hZ0, hZ1, Lay_setI, Lay_setA, hi.lay, hi.st', e9, if_true, fSs_measure_121, nI_1]
        refine ih z fl2 ⟨fz, hz, b2, hfl2, fun c => ?_⟩
        rw [itr_s, hfix2 c, hfix2 c]
      · intro f' z i fl2 hi2 ⟨fz, hz, b2, hfl2, hfix2⟩ ih2
        have hi := h.fr fz.1
        have e9 : ¬ nI s ≤ nI i := nI_ge hi2 (by omega)
        obtain ⟨q, e1, _, hc⟩ := streetAt_in hi hi2
        obtain ⟨⟨k1, k2, k3, k4, k5⟩, q1, q2, q3⟩ := st_v hi hi2
        rw [fz.1.2] at k1 k2 k3 k4 k5 q1 q2 q3
        have hsw : swp (pm t0) (bt v) (i + 1) (itr (swp (pm t0) (bt v) s) (d00 e) k) = if bt v i = true then rx (sv (pm t0) i) (su (pm t0) i) (sk (pm t0) i) (rx (su (pm t0) i) (sv (pm t0) i) (sk (pm t0) i) (swp (pm t0) (bt v) i (itr (swp (pm t0) (bt v) s) (d00 e) k))) else swp (pm t0) (bt v) i (itr (swp (pm t0) (bt v) s) (d00 e) k) := rfl
        have hbd : ∀ p, swp (pm t0) (bt v) i (itr (swp (pm t0) (bt v) s) (d00 e) k) p ≤ 1000000 := fun p => Nat.le_trans (swp_le _ _ _ _ p) (itr_le _ _ _ _ _ p)
        show VS _ t0 (fSs_measure_39 _ _ z v fl2 (nI k) (nI i)) _
        simp only [fSs_measure_39, gI_0, pI_0, rc_0, gI_1, pI_1, rc_1, ln_2, ql_2, al_3, as_3, ln_3, al_4, as_4, ln_4, gI_5, pI_5, rc_5, ln_6, ql_6, al_7, as_7, ln_7, al_8, as_8, ln_8, ln_9, ql_9, gI_10, pI_10, rc_10, al_11, as_11, ln_11, al_12, as_12, ln_12, gI_13, pI_13, rc_13, al_14, as_14, ln_14, ln_15, ql_15, gI_16, pI_16, rc_16, al_17, as_17, ln_17, al_18, as_18, ln_18, al_19, as_19, ln_19, al_20, as_20, ln_20, bl_21, bs_21, ln_21, gI_22, pI_22, rc_22, al_23, as_23, ln_23, al_24, as_24, ln_24, al_25, as_25, ln_25, gI_31, pI_31, rc_31, al_32, as_32, ln_32, gI_33, pI_33, rc_33, al_34, as_34, ln_34, gI_35, pI_35, rc_35, al_36, as_36, ln_36, gI_37, pI_37, rc_37, al_38, as_38, ln_38, gC_0_3, gC_0_4, gC_0_5, gC_0_7, gC_0_10, gC_0_11, gC_0_12, gC_0_13, gC_0_14, gC_0_15, gC_0_16, gC_0_17, gC_1_0, gC_1_2, gC_1_3, gC_5_0, gC_5_2, gC_10_0, gC_10_7, gC_13_5, gC_16_0, gC_16_2, gC_22_0, gC_22_1, gC_22_2, gC_22_3, gC_31_2, gC_33_2, gC_35_2, gC_37_2, bI_rI, bV_rV, bQ_rN, bQ_rR, bz_0, bz_1, bz_Z, hZ0, hZ1, Lay_setI, Lay_setA, hi.lay, hi.st', e9, if_false, e1, b_bit _ (show i < 32 by omega), nI_1]
        cases cb : bt v i
        · rw [if_neg (by decide)]
          refine ih2 z fl2 ⟨fz, ?_, b2, hfl2, ?_⟩
          · rw [hsw, cb]; exact hz
          · rw [hsw, cb]; exact hfix2
        · rw [if_pos rfl, hc.i0, hc.i1, hc.i3, fz.1.2, q1, q2, q3]
          obtain ⟨z1, ez1, fz1, hz1⟩ := shorten_v hi.lay hz hbd k1 k2 k5
          rw [ez1, bI_rI]
          have fr1 := fz.tr fz1
          have h1 := h.fr fr1.1
          have hc1 : StA (pm z1) (mT z1) (mN z1) i q := by rw [fz1.1.2, fz1.1.T, fz1.1.N]; exact hc
          rw [hc1.i1, hc1.i0, hc1.i3, fr1.1.2, q1, q2, q3, rc_5 h1.lay]
          have hbd1 : ∀ p, rx (su (pm t0) i) (sv (pm t0) i) (sk (pm t0) i) (swp (pm t0) (bt v) i (itr (swp (pm t0) (bt v) s) (d00 e) k)) p ≤ 1000000 := fun p => Nat.le_trans (rx_le _ _ _ _ p) (hbd p)
          obtain ⟨z2, ez2, fz2, hz2⟩ := shorten_v h1.lay hz1 hbd1 k2 k1 k5
          rw [ez2, bI_rI, hfl2, bz_or, bz_or]
          refine ih2 z2 _ ⟨fr1.tr fz2, ?_, _, rfl, ?_⟩
          · rw [hsw, cb]; exact hz2
          · intro c
            rw [Bool.or_eq_false_iff, Bool.or_eq_false_iff, decide_eq_false_iff_not, decide_eq_false_iff_not] at c
            rw [hsw, cb, if_pos rfl, rx_no c.2, rx_no c.1.2]
            exact hfix2 c.1.1
def wyv (d : Nat) : Int32 := if d < 1000000 then nI d else -1
theorem shortest_v (h : Inv n m s g x p t0) {a b : Nat} (ha : a < 6) (hb : b < 6) (v : Int32) : QS [7] t0 (fSs_shortest t0 (nI (10 * a + b)) v) (wyv (Dst (pm t0) (bt v) s b a)) := by
  obtain ⟨u, eu, fu, gu⟩ := measure_v h hb v
  have hu := h.fr fu.1
  have hd : Dst (pm t0) (bt v) s b a ≤ 1000000 := itr_le _ _ _ _ _ _
  have e1 : (nI (Dst (pm t0) (bt v) s b a) < 1000000) = (Dst (pm t0) (bt v) s b a < 1000000) := propext (nI_ltI (b := 1000000) (by omega) (by decide))
  simp only [fSs_shortest, fx_goalOf, fx_startOf, tw_div a ha b hb, tw_rem a ha b hb, gI_0, pI_0, rc_0, gI_1, pI_1, rc_1, ln_2, ql_2, al_3, as_3, ln_3, al_4, as_4, ln_4, gI_5, pI_5, rc_5, ln_6, ql_6, al_7, as_7, ln_7, al_8, as_8, ln_8, ln_9, ql_9, gI_10, pI_10, rc_10, al_11, as_11, ln_11, al_12, as_12, ln_12, gI_13, pI_13, rc_13, al_14, as_14, ln_14, ln_15, ql_15, gI_16, pI_16, rc_16, al_17, as_17, ln_17, al_18, as_18, ln_18, al_19, as_19, ln_19, al_20, as_20, ln_20, bl_21, bs_21, ln_21, gI_22, pI_22, rc_22, al_23, as_23, ln_23, al_24, as_24, ln_24, al_25, as_25, ln_25, gI_31, pI_31, rc_31, al_32, as_32, ln_32, gI_33, pI_33, rc_33, al_34, as_34, ln_34, gI_35, pI_35, rc_35, al_36, as_36, ln_36, gI_37, pI_37, rc_37, al_38, as_38, ln_38, gC_0_3, gC_0_4, gC_0_5, gC_0_7, gC_0_10, gC_0_11, gC_0_12, gC_0_13, gC_0_14, gC_0_15, gC_0_16, gC_0_17, gC_1_0, gC_1_2, gC_1_3, gC_5_0, gC_5_2, gC_10_0, gC_10_7, gC_13_5, gC_16_0, gC_16_2, gC_22_0, gC_22_1, gC_22_2, gC_22_3, gC_31_2, gC_33_2, gC_35_2, gC_37_2, bI_rI, bV_rV, bQ_rN, bQ_rR, bz_0, bz_1, bz_Z, hZ0, hZ1, Lay_setI, Lay_setA, h.lay, eu, hu.lay, L_nai hu.lay (by decide : 7 < 68) (rfl : layF 7 = (20, 6)) ha, gu a ha, e1]
  refine ⟨u, ?_, fu⟩
  unfold wyv
  rw [rI_ite]
/-! the model's -/
theorem beyond_v (h : Inv n m s g x p t) {i : Nat} (hi : i < s) (c : Int32) : fm_beyond t (nI i) c = rI (if pm t 45 i = c then pm t 46 i else pm t 45 i) t := by
  have hr := h.rng
  have h12 : i < 12 := by omega
  simp only [fm_beyond, gI_39, pI_39, rc_39, al_40, as_40, ln_40, al_41, as_41, ln_41, al_42, as_42, ln_42, al_43, as_43, ln_43, al_44, as_44, ln_44, al_45, as_45, ln_45, al_46, as_46, ln_46, al_47, as_47, ln_47, al_48, as_48, ln_48, al_49, as_49, ln_49, al_50, as_50, ln_50, al_51, as_51, ln_51, al_52, as_52, ln_52, al_53, as_53, ln_53, al_54, as_54, ln_54, al_55, as_55, ln_55, al_56, as_56, ln_56, al_57, as_57, ln_57, al_58, as_58, ln_58, al_59, as_59, ln_59, al_60, as_60, ln_60, al_61, as_61, ln_61, al_62, as_62, ln_62, al_63, as_63, ln_63, al_64, as_64, ln_64, al_65, as_65, ln_65, al_66, as_66, ln_66, al_67, as_67, ln_67, gC_39_4, gC_39_5, gC_39_6, gC_39_7, gC_39_8, gC_39_10, gC_39_11, gC_39_12, gC_39_13, gC_39_15, gC_39_16, gC_39_18, gC_39_19, gC_39_27, gC_39_28, gC_39_29, gC_39_30, gC_39_31, gC_39_36, gC_39_37, gC_39_41, gC_39_42, gC_39_43, gC_39_44, gC_39_46, gC_39_47, gC_39_48, gC_39_49, bI_rI, bV_rV, bQ_rN, bQ_rR, bz_0, bz_1, bz_Z, hZ0, hZ1, Lay_setI, Lay_setA, h.lay, h12, rp_3, rp_8, rp_11, rp_14, rp_32, rp_34, rp_36, rp_38, rp_40, rp_41, rp_42, rp_43, rp_44, rp_45, rp_46, rp_47, rp_48, rp_49, rp_50, rp_51, rp_52, rp_53, rp_54, rp_55, rp_56, rp_57, rp_58, rI_ite]
theorem endsAt_v (h : Inv n m s g x p t) {i : Nat} (hi : i < s) (c : Int32) : fm_endsAt t (nI i) c = rI (bz (decide (pm t 45 i = c) || decide (pm t 46 i = c))) t := by
  have hr := h.rng
  have h12 : i < 12 := by omega
  simp only [fm_endsAt, gI_39, pI_39, rc_39, al_40, as_40, ln_40, al_41, as_41, ln_41, al_42, as_42, ln_42, al_43, as_43, ln_43, al_44, as_44, ln_44, al_45, as_45, ln_45, al_46, as_46, ln_46, al_47, as_47, ln_47, al_48, as_48, ln_48, al_49, as_49, ln_49, al_50, as_50, ln_50, al_51, as_51, ln_51, al_52, as_52, ln_52, al_53, as_53, ln_53, al_54, as_54, ln_54, al_55, as_55, ln_55, al_56, as_56, ln_56, al_57, as_57, ln_57, al_58, as_58, ln_58, al_59, as_59, ln_59, al_60, as_60, ln_60, al_61, as_61, ln_61, al_62, as_62, ln_62, al_63, as_63, ln_63, al_64, as_64, ln_64, al_65, as_65, ln_65, al_66, as_66, ln_66, al_67, as_67, ln_67, gC_39_4, gC_39_5, gC_39_6, gC_39_7, gC_39_8, gC_39_10, gC_39_11, gC_39_12, gC_39_13, gC_39_15, gC_39_16, gC_39_18, gC_39_19, gC_39_27, gC_39_28, gC_39_29, gC_39_30, gC_39_31, gC_39_36, gC_39_37, gC_39_41, gC_39_42, gC_39_43, gC_39_44, gC_39_46, gC_39_47, gC_39_48, gC_39_49, bI_rI, bV_rV, bQ_rN, bQ_rR, bz_0, bz_1, bz_Z, hZ0, hZ1, Lay_setI, Lay_setA, h.lay, h12, rp_3, rp_8, rp_11, rp_14, rp_32, rp_34, rp_36, rp_38, rp_40, rp_41, rp_42, rp_43, rp_44, rp_45, rp_46, rp_47, rp_48, rp_49, rp_50, rp_51, rp_52, rp_53, rp_54, rp_55, rp_56, rp_57, rp_58, bz_itf]
  by_cases c1 : pm t 45 i = c
  · rw [if_pos c1, decide_eq_true c1]; rfl
  · rw [if_neg c1, decide_eq_false c1, Bool.false_or]
theorem RwM.set {d : NN} {a v : Nat} (h : RwM u d) : RwM (setI u 64 a (nI v)) (fun p => if p = a then v else d p) := fun j hj => by
  show _ = nI (if j = a then v else d j)
  by_cases c : j = a
  · rw [setI_eq rfl c, if_pos c]
  · rw [setI_I, if_neg (fun z => c z.2), if_neg c]; exact h j hj
theorem measures_v (h : Inv n m s g x p t0) {e : Nat} (he : e < 6) (w sh : Int32) : VS [64] t0 (fm_measures t0 (nI e) w sh) (fun u => RwM u (Dst (pm t0) (fun i => opn (pm t0) w i && !bt sh i) s e)) := by
  have hr := h.rng
  unfold fm_measures
  refine for_up (β := Unit) (fun f t k _ => fm_measures_l3 (fun t u2 u3 => fm_measures_35 t u2 u3) f t (nI e) w sh (nI k)) (fun r => VS [64] t0 r (fun u => RwM u (Dst (pm t0) (fun i => opn (pm t0) w i && !bt sh i) s e))) 6
    (fun k z _ => FS [64] t0 z ∧ ∀ j, j < k → mI z 64 j = nI (d00 e j)) ?_ ?_ 6 0 t0 () 1000000 (by omega) ⟨FS.refl _ _, fun j hj => absurd hj (by omega)⟩ (by omega)
  · intro f z _ ⟨fz, hz⟩
    show VS _ t0 (fm_measures_3 _ _ z (nI e) w sh (nI 6)) _
    unfold fm_measures_3
    rw [if_pos (show (6 : Int32) ≤ nI 6 from Int32.le_refl _)]
    unfold fm_measures_35
    refine for_up (β := Unit) (fun f t k _ => fm_measures_l38 f t w sh (nI k)) (fun r => VS [64] t0 r (fun u => RwM u (Dst (pm t0) (fun i => opn (pm t0) w i && !bt sh i) s e))) 6
      (fun k z _ => FS [64] t0 z ∧ RwM z (itr (swp (pm t0) (fun i => opn (pm t0) w i && !bt sh i) s) (d00 e) k)) ?_ ?_ 6 0 z () 1000000 (by omega) ⟨fz, hz⟩ (by omega)
    · intro f z _ ⟨fz, hz⟩
      show VS _ t0 (fm_measures_38 _ z w sh (nI 6)) _
      unfold fm_measures_38
      rw [if_pos (show (6 : Int32) ≤ nI 6 from Int32.le_refl _)]
      exact ⟨z, rfl, fz, hz⟩
    · intro f z k _ hk ⟨fz, hz⟩ ih
      show VS _ t0 (fm_measures_38 _ z w sh (nI k)) _
      unfold fm_measures_38
      rw [if_neg (show ¬ (6 : Int32) ≤ nI k from nI_ge (b := 6) hk (by decide))]
      refine for_up (β := Unit) (fun f' t i _ => fm_measures_l48 (fun t u2 u3 u4 => fm_measures_208 (fm_measures_l38 f) t u2 u3 u4) f' t w sh (nI k) (nI i)) (fun r => VS [64] t0 r (fun u => RwM u (Dst (pm t0) (fun i => opn (pm t0) w i && !bt sh i) s e))) s
        (fun i z _ => FS [64] t0 z ∧ RwM z (swp (pm t0) (fun i => opn (pm t0) w i && !bt sh i) i (itr (swp (pm t0) (fun i => opn (pm t0) w i && !bt sh i) s) (d00 e) k))) ?_ ?_ s 0 z () 1000000 (by omega) ⟨fz, hz⟩ (by omega)
      · intro f' z _ ⟨fz, hz⟩
        have hi := h.fr fz.1
        have e9 : nI s ≤ nI s := Int32.le_refl _
        show VS _ t0 (fm_measures_48 _ _ z w sh (nI k) (nI s)) _
        simp only [fm_measures_48, gI_39, pI_39, rc_39, al_40, as_40, ln_40, al_41, as_41, ln_41, al_42, as_42, ln_42, al_43, as_43, ln_43, al_44, as_44, ln_44, al_45, as_45, ln_45, al_46, as_46, ln_46, al_47, as_47, ln_47, al_48, as_48, ln_48, al_49, as_49, ln_49, al_50, as_50, ln_50, al_51, as_51, ln_51, al_52, as_52, ln_52, al_53, as_53, ln_53, al_54, as_54, ln_54, al_55, as_55, ln_55, al_56, as_56, ln_56, al_57, as_57, ln_57, al_58, as_58, ln_58, al_59, as_59, ln_59, al_60, as_60, ln_60, al_61, as_61, ln_61, al_62, as_62, ln_62, al_63, as_63, ln_63, al_64, as_64, ln_64, al_65, as_65, ln_65, al_66, as_66, ln_66, al_67, as_67, ln_67, gC_39_4, gC_39_5, gC_39_6, gC_39_7, gC_39_8, gC_39_10, gC_39_11, gC_39_12, gC_39_13, gC_39_15, gC_39_16, gC_39_18, gC_39_19, gC_39_27, gC_39_28, gC_39_29, gC_39_30, gC_39_31, gC_39_36, gC_39_37, gC_39_41, gC_39_42, gC_39_43, gC_39_44, gC_39_46, gC_39_47, gC_39_48, gC_39_49, bI_rI, bV_rV, bQ_rN, bQ_rR, bz_0, bz_1, bz_Z, hZ0, hZ1, Lay_setI, Lay_setA, hi.lay, hi.st, e9, if_true, fm_measures_208, nI_1]
        exact ih z () ⟨fz, hz⟩
      · intro f' z i _ hi2 ⟨fz, hz⟩ ih2
        have hi := h.fr fz.1
        have e9 : ¬ nI s ≤ nI i := nI_ge hi2 (by omega)
        have i12 : i < 12 := by omega
        obtain ⟨⟨k1, k2, k3, k4, k5⟩, q1, q2, q3⟩ := st_v hi hi2
        rw [fz.1.2] at k1 k2 k3 k4 k5 q1 q2 q3
        have hsw : swp (pm t0) (fun i => opn (pm t0) w i && !bt sh i) (i + 1) (itr (swp (pm t0) (fun i => opn (pm t0) w i && !bt sh i) s) (d00 e) k) = if (opn (pm t0) w i && !bt sh i) = true then rx (sv (pm t0) i) (su (pm t0) i) (sk (pm t0) i) (rx (su (pm t0) i) (sv (pm t0) i) (sk (pm t0) i) (swp (pm t0) (fun i => opn (pm t0) w i && !bt sh i) i (itr (swp (pm t0) (fun i => opn (pm t0) w i && !bt sh i) s) (d00 e) k))) else swp (pm t0) (fun i => opn (pm t0) w i && !bt sh i) i (itr (swp (pm t0) (fun i => opn (pm t0) w i && !bt sh i) s) (d00 e) k) := rfl
        have hbd : ∀ p, swp (pm t0) (fun i => opn (pm t0) w i && !bt sh i) i (itr (swp (pm t0) (fun i => opn (pm t0) w i && !bt sh i) s) (d00 e) k) p ≤ 1000000 := fun p => Nat.le_trans (swp_le _ _ _ _ p) (itr_le _ _ _ _ _ p)
        have goal2 : ∀ z2, FS [64] t0 z2 → RwM z2 (swp (pm t0) (fun i => opn (pm t0) w i && !bt sh i) (i + 1) (itr (swp (pm t0) (fun i => opn (pm t0) w i && !bt sh i) s) (d00 e) k)) → VS [64] t0 (fm_measures_l48 (fun t u2 u3 u4 => fm_measures_208 (fm_measures_l38 f) t u2 u3 u4) f' z2 w sh (nI k) (nI (i + 1))) (fun u => RwM u (Dst (pm t0) (fun i => opn (pm t0) w i && !bt sh i) s e)) := fun z2 a b => ih2 z2 () ⟨a, b⟩
        rw [hsw] at goal2
        show VS _ t0 (fm_measures_48 _ _ z w sh (nI k) (nI i)) _
        generalize swp (pm t0) (fun i => opn (pm t0) w i && !bt sh i) i (itr (swp (pm t0) (fun i => opn (pm t0) w i && !bt sh i) s) (d00 e) k) = d at *
        unfold fm_measures_48
        rw [gI_39 hi.lay, hi.st, if_neg e9, rc_39 hi.lay, fm_isOpen_v hi hi2, bI_rI, fz.1.2, nI_1]
        simp only [bz_0]
        cases c1 : opn (pm t0) w i
        · rw [if_pos rfl]
          refine goal2 z fz ?_
          rw [c1]; exact hz
        · rw [if_neg (by decide), b_bit _ (by omega)]
          simp only [bz_0]
          cases c2 : bt sh i
          · rw [if_pos rfl]
            rw [c1, c2] at goal2
            have ha := hz _ k1
            have hb := hz _ k2
            have b1 := hbd (su (pm t0) i); have b2 := hbd (sv (pm t0) i)
            simp only [gI_39, pI_39, rc_39, al_40, as_40, ln_40, al_41, as_41, ln_41, al_42, as_42, ln_42, al_43, as_43, ln_43, al_44, as_44, ln_44, al_45, as_45, ln_45, al_46, as_46, ln_46, al_47, as_47, ln_47, al_48, as_48, ln_48, al_49, as_49, ln_49, al_50, as_50, ln_50, al_51, as_51, ln_51, al_52, as_52, ln_52, al_53, as_53, ln_53, al_54, as_54, ln_54, al_55, as_55, ln_55, al_56, as_56, ln_56, al_57, as_57, ln_57, al_58, as_58, ln_58, al_59, as_59, ln_59, al_60, as_60, ln_60, al_61, as_61, ln_61, al_62, as_62, ln_62, al_63, as_63, ln_63, al_64, as_64, ln_64, al_65, as_65, ln_65, al_66, as_66, ln_66, al_67, as_67, ln_67, gC_39_4, gC_39_5, gC_39_6, gC_39_7, gC_39_8, gC_39_10, gC_39_11, gC_39_12, gC_39_13, gC_39_15, gC_39_16, gC_39_18, gC_39_19, gC_39_27, gC_39_28, gC_39_29, gC_39_30, gC_39_31, gC_39_36, gC_39_37, gC_39_41, gC_39_42, gC_39_43, gC_39_44, gC_39_46, gC_39_47, gC_39_48, gC_39_49, bI_rI, bV_rV, bQ_rN, bQ_rR, bz_0, bz_1, bz_Z, hZ0, hZ1, Lay_setI, Lay_setA, hi.lay, i12, rp_3, rp_8, rp_11, rp_14, rp_32, rp_34, rp_36, rp_38, rp_40, rp_41, rp_42, rp_43, rp_44, rp_45, rp_46, rp_47, rp_48, rp_49, rp_50, rp_51, rp_52, rp_53, rp_54, rp_55, rp_56, rp_57, rp_58, fz.1.2, q1, q2, q3, k1, k2, ha, hb, nI_add]
            -- the first way
            have st1 : ∀ x1, x1 = (if d (sv (pm t0) i) + sk (pm t0) i < d (su (pm t0) i) then d (sv (pm t0) i) + sk (pm t0) i else d (su (pm t0) i)) → RwM (setI z 64 (su (pm t0) i) (nI x1)) (rx (su (pm t0) i) (sv (pm t0) i) (sk (pm t0) i) d) := by
              intro x1 hx1
              have := hz.set (a := su (pm t0) i) (v := x1)
              rw [hx1] at this ⊢
              exact this
            have st2 : ∀ z1 x2, FS [64] t0 z1 → RwM z1 (rx (su (pm t0) i) (sv (pm t0) i) (sk (pm t0) i) d) → x2 = (if rx (su (pm t0) i) (sv (pm t0) i) (sk (pm t0) i) d (su (pm t0) i) + sk (pm t0) i < d (sv (pm t0) i) then rx (su (pm t0) i) (sv (pm t0) i) (sk (pm t0) i) d (su (pm t0) i) + sk (pm t0) i else d (sv (pm t0) i)) →
                VS [64] t0 (fm_measures_l48 (fun t u2 u3 u4 => fm_measures_208 (fm_measures_l38 f) t u2 u3 u4) f' (setI z1 64 (sv (pm t0) i) (nI x2)) w sh (nI k) (nI (i + 1))) (fun u => RwM u (Dst (pm t0) (fun i => opn (pm t0) w i && !bt sh i) s e)) := by
              intro z1 x2 f1 r1 hx2
              refine goal2 _ (f1.st rfl (by decide)) ?_
              have := r1.set (a := sv (pm t0) i) (v := x2)
              have e3 : rx (su (pm t0) i) (sv (pm t0) i) (sk (pm t0) i) d (sv (pm t0) i) = d (sv (pm t0) i) := by unfold rx; rw [if_neg (Ne.symm k3)]
              rw [if_pos (by decide)]
              rw [hx2] at this ⊢
              intro j hj
              rw [this j hj]
              show _ = nI (if j = sv (pm t0) i then (if rx (su (pm t0) i) (sv (pm t0) i) (sk (pm t0) i) d (su (pm t0) i) + sk (pm t0) i < rx (su (pm t0) i) (sv (pm t0) i) (sk (pm t0) i) d (sv (pm t0) i) then rx (su (pm t0) i) (sv (pm t0) i) (sk (pm t0) i) d (su (pm t0) i) + sk (pm t0) i else rx (su (pm t0) i) (sv (pm t0) i) (sk (pm t0) i) d (sv (pm t0) i)) else rx (su (pm t0) i) (sv (pm t0) i) (sk (pm t0) i) d j)
              rw [e3]
            have e1 : (nI (d (su (pm t0) i)) ≤ nI (d (sv (pm t0) i) + sk (pm t0) i)) = (d (su (pm t0) i) ≤ d (sv (pm t0) i) + sk (pm t0) i) := propext (nI_leI (by omega) (by omega))
            simp only [e1]
            by_cases c3 : d (su (pm t0) i) ≤ d (sv (pm t0) i) + sk (pm t0) i
            · rw [if_pos c3]
              have r1 := st1 (d (su (pm t0) i)) (by rw [if_neg (by omega)])
              have f1 : FS [64] t0 (setI z 64 (su (pm t0) i) (nI (d (su (pm t0) i)))) := fz.st rfl (by decide)
              have eu : rx (su (pm t0) i) (sv (pm t0) i) (sk (pm t0) i) d (su (pm t0) i) = d (su (pm t0) i) := by unfold rx; rw [if_pos rfl, if_neg (by omega)]
              generalize setI z 64 (su (pm t0) i) (nI (d (su (pm t0) i))) = z1 at *
              have h1 := h.fr f1.1
              have ra := r1 _ k1
              rw [eu] at ra
              have e2 : (nI (d (sv (pm t0) i)) ≤ nI (d (su (pm t0) i) + sk (pm t0) i)) = (d (sv (pm t0) i) ≤ d (su (pm t0) i) + sk (pm t0) i) := propext (nI_leI (by omega) (by omega))
              simp only [gI_39, pI_39, rc_39, al_40, as_40, ln_40, al_41, as_41, ln_41, al_42, as_42, ln_42, al_43, as_43, ln_43, al_44, as_44, ln_44, al_45, as_45, ln_45, al_46, as_46, ln_46, al_47, as_47, ln_47, al_48, as_48, ln_48, al_49, as_49, ln_49, al_50, as_50, ln_50, al_51, as_51, ln_51, al_52, as_52, ln_52, al_53, as_53, ln_53, al_54, as_54, ln_54, al_55, as_55, ln_55, al_56, as_56, ln_56, al_57, as_57, ln_57, al_58, as_58, ln_58, al_59, as_59, ln_59, al_60, as_60, ln_60, al_61, as_61, ln_61, al_62, as_62, ln_62, al_63, as_63, ln_63, al_64, as_64, ln_64, al_65, as_65, ln_65, al_66, as_66, ln_66, al_67, as_67, ln_67, gC_39_4, gC_39_5, gC_39_6, gC_39_7, gC_39_8, gC_39_10, gC_39_11, gC_39_12, gC_39_13, gC_39_15, gC_39_16, gC_39_18, gC_39_19, gC_39_27, gC_39_28, gC_39_29, gC_39_30, gC_39_31, gC_39_36, gC_39_37, gC_39_41, gC_39_42, gC_39_43, gC_39_44, gC_39_46, gC_39_47, gC_39_48, gC_39_49, bI_rI, bV_rV, bQ_rN, bQ_rR, bz_0, bz_1, bz_Z, hZ0, hZ1, Lay_setI, Lay_setA, h1.lay, i12, rp_3, rp_8, rp_11, rp_14, rp_32, rp_34, rp_36, rp_38, rp_40, rp_41, rp_42, rp_43, rp_44, rp_45, rp_46, rp_47, rp_48, rp_49, rp_50, rp_51, rp_52, rp_53, rp_54, rp_55, rp_56, rp_57, rp_58, f1.1.2, q1, q2, q3, k1, k2, ra, nI_add, e2]
              by_cases c4 : d (sv (pm t0) i) ≤ d (su (pm t0) i) + sk (pm t0) i
              · rw [if_pos c4]; exact st2 z1 _ f1 r1 (by rw [eu, if_neg (by omega)])
              · rw [if_neg c4]; exact st2 z1 _ f1 r1 (by rw [eu, if_pos (by omega)])
            · rw [if_neg c3]
              have r1 := st1 (d (sv (pm t0) i) + sk (pm t0) i) (by rw [if_pos (by omega)])
              have f1 : FS [64] t0 (setI z 64 (su (pm t0) i) (nI (d (sv (pm t0) i) + sk (pm t0) i))) := fz.st rfl (by decide)
              have eu : rx (su (pm t0) i) (sv (pm t0) i) (sk (pm t0) i) d (su (pm t0) i) = d (sv (pm t0) i) + sk (pm t0) i := by unfold rx; rw [if_pos rfl, if_pos (by omega)]
              generalize setI z 64 (su (pm t0) i) (nI (d (sv (pm t0) i) + sk (pm t0) i)) = z1 at *
              have h1 := h.fr f1.1
              have ra := r1 _ k1
              rw [eu] at ra
              have e2 : (nI (d (sv (pm t0) i)) ≤ nI (d (sv (pm t0) i) + sk (pm t0) i + sk (pm t0) i)) = (d (sv (pm t0) i) ≤ d (sv (pm t0) i) + sk (pm t0) i + sk (pm t0) i) := propext (nI_leI (by omega) (by omega))
              simp only [gI_39, pI_39, rc_39, al_40, as_40, ln_40, al_41, as_41, ln_41, al_42, as_42, ln_42, al_43, as_43, ln_43, al_44, as_44, ln_44, al_45, as_45, ln_45, al_46, as_46, ln_46, al_47, as_47, ln_47, al_48, as_48, ln_48, al_49, as_49, ln_49, al_50, as_50, ln_50, al_51, as_51, ln_51, al_52, as_52, ln_52, al_53, as_53, ln_53, al_54, as_54, ln_54, al_55, as_55, ln_55, al_56, as_56, ln_56, al_57, as_57, ln_57, al_58, as_58, ln_58, al_59, as_59, ln_59, al_60, as_60, ln_60, al_61, as_61, ln_61, al_62, as_62, ln_62, al_63, as_63, ln_63, al_64, as_64, ln_64, al_65, as_65, ln_65, al_66, as_66, ln_66, al_67, as_67, ln_67, gC_39_4, gC_39_5, gC_39_6, gC_39_7, gC_39_8, gC_39_10, gC_39_11, gC_39_12, gC_39_13, gC_39_15, gC_39_16, gC_39_18, gC_39_19, gC_39_27, gC_39_28, gC_39_29, gC_39_30, gC_39_31, gC_39_36, gC_39_37, gC_39_41, gC_39_42, gC_39_43, gC_39_44, gC_39_46, gC_39_47, gC_39_48, gC_39_49, bI_rI, bV_rV, bQ_rN, bQ_rR, bz_0, bz_1, bz_Z, hZ0, hZ1, Lay_setI, Lay_setA, h1.lay, i12, rp_3, rp_8, rp_11, rp_14, rp_32, rp_34, rp_36, rp_38, rp_40, rp_41, rp_42, rp_43, rp_44, rp_45, rp_46, rp_47, rp_48, rp_49, rp_50, rp_51, rp_52, rp_53, rp_54, rp_55, rp_56, rp_57, rp_58, f1.1.2, q1, q2, q3, k1, k2, ra, nI_add, e2]
              rw [if_pos (by omega)]
              exact st2 z1 _ f1 r1 (by rw [eu, if_neg (by omega)])
          · rw [if_neg (by decide)]
            refine goal2 z fz ?_
            rw [c1, c2]; exact hz
  · intro f z k _ hk ⟨fz, hz⟩ ih
    have hi := h.fr fz.1
    have k6 : k < 6 := hk
    have e1 : (nI k = nI e) = (k = e) := propext (nI_eq (by omega) (by omega))
    show VS _ t0 (fm_measures_3 _ _ z (nI e) w sh (nI k)) _
    unfold fm_measures_3
    rw [if_neg (show ¬ (6 : Int32) ≤ nI k from nI_ge (b := 6) hk (by decide))]
    simp only [gI_39, pI_39, rc_39, al_40, as_40, ln_40, al_41, as_41, ln_41, al_42, as_42, ln_42, al_43, as_43, ln_43, al_44, as_44, ln_44, al_45, as_45, ln_45, al_46, as_46, ln_46, al_47, as_47, ln_47, al_48, as_48, ln_48, al_49, as_49, ln_49, al_50, as_50, ln_50, al_51, as_51, ln_51, al_52, as_52, ln_52, al_53, as_53, ln_53, al_54, as_54, ln_54, al_55, as_55, ln_55, al_56, as_56, ln_56, al_57, as_57, ln_57, al_58, as_58, ln_58, al_59, as_59, ln_59, al_60, as_60, ln_60, al_61, as_61, ln_61, al_62, as_62, ln_62, al_63, as_63, ln_63, al_64, as_64, ln_64, al_65, as_65, ln_65, al_66, as_66, ln_66, al_67, as_67, ln_67, gC_39_4, gC_39_5, gC_39_6, gC_39_7, gC_39_8, gC_39_10, gC_39_11, gC_39_12, gC_39_13, gC_39_15, gC_39_16, gC_39_18, gC_39_19, gC_39_27, gC_39_28, gC_39_29, gC_39_30, gC_39_31, gC_39_36, gC_39_37, gC_39_41, gC_39_42, gC_39_43, gC_39_44, gC_39_46, gC_39_47, gC_39_48, gC_39_49, bI_rI, bV_rV, bQ_rN, bQ_rR, bz_0, bz_1, bz_Z, hZ0, hZ1, Lay_setI, Lay_setA, hi.lay, e1, k6, nI_1]
    have step : ∀ v, v = nI (d00 e k) → VS [64] t0 (fm_measures_l3 (fun t u2 u3 => fm_measures_35 t u2 u3) f (setI z 64 k v) (nI e) w sh (nI (k + 1))) (fun u => RwM u (Dst (pm t0) (fun i => opn (pm t0) w i && !bt sh i) s e)) := by
      intro v hv
      refine ih _ () ⟨fz.st rfl (by decide), fun j hj => ?_⟩
      by_cases c : j = k
      · rw [setI_eq rfl c, hv, c]
      · rw [setI_I, if_neg (fun z => c z.2)]; exact hz j (by omega)
    by_cases c : k = e
    · rw [if_pos c]; exact step 0 (by unfold d00; rw [if_pos c]; rfl)
    · rw [if_neg c]; exact step 1000000 (by unfold d00; rw [if_neg c]; rfl)
theorem wayIn_v (h : Inv n m s g x p t0) {a b : Nat} (ha : a < 6) (hb : b < 6) (w : Int32) : QS [64] t0 (fm_wayIn t0 (nI (10 * a + b)) w) (wyv (Dst (pm t0) (opn (pm t0) w) s b a)) := by
  obtain ⟨u, eu, fu, gu⟩ := measures_v h hb w 0
  have hu := h.fr fu.1
  rw [show Dst (pm t0) (fun i => opn (pm t0) w i && !bt 0 i) s b = Dst (pm t0) (opn (pm t0) w) s b from Dst_cg (fun i _ => by rw [b_0]; simp)] at gu
  have hd : Dst (pm t0) (opn (pm t0) w) s b a ≤ 1000000 := itr_le _ _ _ _ _ _
  have e1 : (nI (Dst (pm t0) (opn (pm t0) w) s b a) < 1000000) = (Dst (pm t0) (opn (pm t0) w) s b a < 1000000) := propext (nI_ltI (b := 1000000) (by omega) (by decide))
  simp only [fm_wayIn, gI_39, pI_39, rc_39, al_40, as_40, ln_40, al_41, as_41, ln_41, al_42, as_42, ln_42, al_43, as_43, ln_43, al_44, as_44, ln_44, al_45, as_45, ln_45, al_46, as_46, ln_46, al_47, as_47, ln_47, al_48, as_48, ln_48, al_49, as_49, ln_49, al_50, as_50, ln_50, al_51, as_51, ln_51, al_52, as_52, ln_52, al_53, as_53, ln_53, al_54, as_54, ln_54, al_55, as_55, ln_55, al_56, as_56, ln_56, al_57, as_57, ln_57, al_58, as_58, ln_58, al_59, as_59, ln_59, al_60, as_60, ln_60, al_61, as_61, ln_61, al_62, as_62, ln_62, al_63, as_63, ln_63, al_64, as_64, ln_64, al_65, as_65, ln_65, al_66, as_66, ln_66, al_67, as_67, ln_67, gC_39_4, gC_39_5, gC_39_6, gC_39_7, gC_39_8, gC_39_10, gC_39_11, gC_39_12, gC_39_13, gC_39_15, gC_39_16, gC_39_18, gC_39_19, gC_39_27, gC_39_28, gC_39_29, gC_39_30, gC_39_31, gC_39_36, gC_39_37, gC_39_41, gC_39_42, gC_39_43, gC_39_44, gC_39_46, gC_39_47, gC_39_48, gC_39_49, bI_rI, bV_rV, bQ_rN, bQ_rR, bz_0, bz_1, bz_Z, hZ0, hZ1, Lay_setI, Lay_setA, h.lay, tw_div a ha b hb, tw_rem a ha b hb, eu, hu.lay, ha, gu a ha, e1]
  refine ⟨u, ?_, fu⟩
  unfold wyv
  rw [rI_ite]
/-! way, safe -/
def s_way (n s : Nat) (G : GG) (a b : Int32) : Int32 := if twB a = true then (if inr b (2 ^ n) = true then wyv (Dst G (opn G b) s (cN a % 10) (cN a / 10)) else -7) else -5
theorem two_ab {a b : Nat} (ha : a < 6) (hb : b < 6) : cN (nI (10 * a + b)) % 10 = b ∧ cN (nI (10 * a + b)) / 10 = a := by rw [cN_i (by omega)]; omega
theorem Dst_or {G : GG} {w : Int32} {s e : Nat} (hs : s ≤ 12) : Dst G (bt (orf (opn G w) s)) s e = Dst G (opn G w) s e := Dst_cg (fun i hi => by rw [bt_orf _ s (by omega) i (by omega)]; simp [hi])
theorem ok_way (h : Inv n m s g x p t) (a b : Int32) : Okk t (fun t => fx_way t a b) (fun t => fm_way t a b) := by
  have hr := h.rng
  refine okq h (v := s_way n s (pm t) a b) ?_ (fun u hu e => ?_)
  · unfold s_way
    simp only [fx_way, fx_isTwo_v, gI_0, pI_0, rc_0, gI_1, pI_1, rc_1, ln_2, ql_2, al_3, as_3, ln_3, al_4, as_4, ln_4, gI_5, pI_5, rc_5, ln_6, ql_6, al_7, as_7, ln_7, al_8, as_8, ln_8, ln_9, ql_9, gI_10, pI_10, rc_10, al_11, as_11, ln_11, al_12, as_12, ln_12, gI_13, pI_13, rc_13, al_14, as_14, ln_14, ln_15, ql_15, gI_16, pI_16, rc_16, al_17, as_17, ln_17, al_18, as_18, ln_18, al_19, as_19, ln_19, al_20, as_20, ln_20, bl_21, bs_21, ln_21, gI_22, pI_22, rc_22, al_23, as_23, ln_23, al_24, as_24, ln_24, al_25, as_25, ln_25, gI_31, pI_31, rc_31, al_32, as_32, ln_32, gI_33, pI_33, rc_33, al_34, as_34, ln_34, gI_35, pI_35, rc_35, al_36, as_36, ln_36, gI_37, pI_37, rc_37, al_38, as_38, ln_38, gC_0_3, gC_0_4, gC_0_5, gC_0_7, gC_0_10, gC_0_11, gC_0_12, gC_0_13, gC_0_14, gC_0_15, gC_0_16, gC_0_17, gC_1_0, gC_1_2, gC_1_3, gC_5_0, gC_5_2, gC_10_0, gC_10_7, gC_13_5, gC_16_0, gC_16_2, gC_22_0, gC_22_1, gC_22_2, gC_22_3, gC_31_2, gC_33_2, gC_35_2, gC_37_2, bI_rI, bV_rV, bQ_rN, bQ_rR, bz_0, bz_1, bz_Z, hZ0, hZ1, Lay_setI, Lay_setA, h.lay, fx_isTown_v h]
    cases c1 : twB a
    · simp only [if_true]; exact QQ.pure rfl
    · obtain ⟨i, j, hi, hj, rfl⟩ := twB_t c1
      simp only [if_false, if_true, Bool.true_eq_false]
      cases c2 : inr b (2 ^ n)
      · simp only [if_true]; exact QQ.pure rfl
      · obtain ⟨u, eu, fu⟩ := shortest_v h hi hj (orf (opn (pm t) b) s)
        simp only [if_false, if_true, Bool.true_eq_false, openIn_v h, gI_0, pI_0, rc_0, gI_1, pI_1, rc_1, ln_2, ql_2, al_3, as_3, ln_3, al_4, as_4, ln_4, gI_5, pI_5, rc_5, ln_6, ql_6, al_7, as_7, ln_7, al_8, as_8, ln_8, ln_9, ql_9, gI_10, pI_10, rc_10, al_11, as_11, ln_11, al_12, as_12, ln_12, gI_13, pI_13, rc_13, al_14, as_14, ln_14, ln_15, ql_15, gI_16, pI_16, rc_16, al_17, as_17, ln_17, al_18, as_18, ln_18, al_19, as_19, ln_19, al_20, as_20, ln_20, bl_21, bs_21, ln_21, gI_22, pI_22, rc_22, al_23, as_23, ln_23, al_24, as_24, ln_24, al_25, as_25, ln_25, gI_31, pI_31, rc_31, al_32, as_32, ln_32, gI_33, pI_33, rc_33, al_34, as_34, ln_34, gI_35, pI_35, rc_35, al_36, as_36, ln_36, gI_37, pI_37, rc_37, al_38, as_38, ln_38, gC_0_3, gC_0_4, gC_0_5, gC_0_7, gC_0_10, gC_0_11, gC_0_12, gC_0_13, gC_0_14, gC_0_15, gC_0_16, gC_0_17, gC_1_0, gC_1_2, gC_1_3, gC_5_0, gC_5_2, gC_10_0, gC_10_7, gC_13_5, gC_16_0, gC_16_2, gC_22_0, gC_22_1, gC_22_2, gC_22_3, gC_31_2, gC_33_2, gC_35_2, gC_37_2, bI_rI, bV_rV, bQ_rN, bQ_rR, bz_0, bz_1, bz_Z, hZ0, hZ1, Lay_setI, Lay_setA, h.lay, eu, (two_ab hi hj).1, (two_ab hi hj).2, Dst_or (show s ≤ 12 by omega)]
        exact ⟨u, rfl, fu.1⟩
  · rw [← e]
    unfold s_way
    simp only [fm_way, fm_areTwo_v, gI_39, pI_39, rc_39, al_40, as_40, ln_40, al_41, as_41, ln_41, al_42, as_42, ln_42, al_43, as_43, ln_43, al_44, as_44, ln_44, al_45, as_45, ln_45, al_46, as_46, ln_46, al_47, as_47, ln_47, al_48, as_48, ln_48, al_49, as_49, ln_49, al_50, as_50, ln_50, al_51, as_51, ln_51, al_52, as_52, ln_52, al_53, as_53, ln_53, al_54, as_54, ln_54, al_55, as_55, ln_55, al_56, as_56, ln_56, al_57, as_57, ln_57, al_58, as_58, ln_58, al_59, as_59, ln_59, al_60, as_60, ln_60, al_61, as_61, ln_61, al_62, as_62, ln_62, al_63, as_63, ln_63, al_64, as_64, ln_64, al_65, as_65, ln_65, al_66, as_66, ln_66, al_67, as_67, ln_67, gC_39_4, gC_39_5, gC_39_6, gC_39_7, gC_39_8, gC_39_10, gC_39_11, gC_39_12, gC_39_13, gC_39_15, gC_39_16, gC_39_18, gC_39_19, gC_39_27, gC_39_28, gC_39_29, gC_39_30, gC_39_31, gC_39_36, gC_39_37, gC_39_41, gC_39_42, gC_39_43, gC_39_44, gC_39_46, gC_39_47, gC_39_48, gC_39_49, bI_rI, bV_rV, bQ_rN, bQ_rR, bz_0, bz_1, bz_Z, hZ0, hZ1, Lay_setI, Lay_setA, hu.lay, fm_isTown_v hu]
    cases c1 : twB a
    · simp only [if_true]; exact QQ.pure rfl
    · obtain ⟨i, j, hi, hj, rfl⟩ := twB_t c1
      simp only [if_false, if_true, Bool.true_eq_false]
      cases c2 : inr b (2 ^ n)
      · simp only [if_true]; exact QQ.pure rfl
      · obtain ⟨v, ev, fv⟩ := wayIn_v hu hi hj b
        simp only [if_false, if_true, Bool.true_eq_false, gI_39, pI_39, rc_39, al_40, as_40, ln_40, al_41, as_41, ln_41, al_42, as_42, ln_42, al_43, as_43, ln_43, al_44, as_44, ln_44, al_45, as_45, ln_45, al_46, as_46, ln_46, al_47, as_47, ln_47, al_48, as_48, ln_48, al_49, as_49, ln_49, al_50, as_50, ln_50, al_51, as_51, ln_51, al_52, as_52, ln_52, al_53, as_53, ln_53, al_54, as_54, ln_54, al_55, as_55, ln_55, al_56, as_56, ln_56, al_57, as_57, ln_57, al_58, as_58, ln_58, al_59, as_59, ln_59, al_60, as_60, ln_60, al_61, as_61, ln_61, al_62, as_62, ln_62, al_63, as_63, ln_63, al_64, as_64, ln_64, al_65, as_65, ln_65, al_66, as_66, ln_66, al_67, as_67, ln_67, gC_39_4, gC_39_5, gC_39_6, gC_39_7, gC_39_8, gC_39_10, gC_39_11, gC_39_12, gC_39_13, gC_39_15, gC_39_16, gC_39_18, gC_39_19, gC_39_27, gC_39_28, gC_39_29, gC_39_30, gC_39_31, gC_39_36, gC_39_37, gC_39_41, gC_39_42, gC_39_43, gC_39_44, gC_39_46, gC_39_47, gC_39_48, gC_39_49, bI_rI, bV_rV, bQ_rN, bQ_rR, bz_0, bz_1, bz_Z, hZ0, hZ1, Lay_setI, Lay_setA, hu.lay, ev, (two_ab hi hj).1, (two_ab hi hj).2]
        exact ⟨v, rfl, fv.1⟩
def s_safe (n m s : Nat) (G : GG) (a : Int32) : Int32 := if twB a = true then (if WL n m G (evB m) = [] then -3 else wyv (Dst G (opn G (allB (WL n m G (evB m)) n)) s (cN a % 10) (cN a / 10))) else -5
theorem ok_safe (h : Inv n m s g x p t) (a : Int32) : Okk t (fun t => fx_safe t a) (fun t => fm_safe t a) := by
  have hr := h.rng
  have hl := WL_le (m := m) (show n ≤ 9 by omega) (pm t) (evB m)
  refine okq h (v := s_safe n m s (pm t) a) ?_ (fun u hu e => ?_)
  · obtain ⟨u, eu, fu, gu⟩ := fx_findWorlds_v h (evB m)
    have hu := h.fr fu.1
    unfold s_safe
    simp only [fx_safe, fx_isTwo_v, gI_0, pI_0, rc_0, gI_1, pI_1, rc_1, ln_2, ql_2, al_3, as_3, ln_3, al_4, as_4, ln_4, gI_5, pI_5, rc_5, ln_6, ql_6, al_7, as_7, ln_7, al_8, as_8, ln_8, ln_9, ql_9, gI_10, pI_10, rc_10, al_11, as_11, ln_11, al_12, as_12, ln_12, gI_13, pI_13, rc_13, al_14, as_14, ln_14, ln_15, ql_15, gI_16, pI_16, rc_16, al_17, as_17, ln_17, al_18, as_18, ln_18, al_19, as_19, ln_19, al_20, as_20, ln_20, bl_21, bs_21, ln_21, gI_22, pI_22, rc_22, al_23, as_23, ln_23, al_24, as_24, ln_24, al_25, as_25, ln_25, gI_31, pI_31, rc_31, al_32, as_32, ln_32, gI_33, pI_33, rc_33, al_34, as_34, ln_34, gI_35, pI_35, rc_35, al_36, as_36, ln_36, gI_37, pI_37, rc_37, al_38, as_38, ln_38, gC_0_3, gC_0_4, gC_0_5, gC_0_7, gC_0_10, gC_0_11, gC_0_12, gC_0_13, gC_0_14, gC_0_15, gC_0_16, gC_0_17, gC_1_0, gC_1_2, gC_1_3, gC_5_0, gC_5_2, gC_10_0, gC_10_7, gC_13_5, gC_16_0, gC_16_2, gC_22_0, gC_22_1, gC_22_2, gC_22_3, gC_31_2, gC_33_2, gC_35_2, gC_37_2, bI_rI, bV_rV, bQ_rN, bQ_rR, bz_0, bz_1, bz_Z, hZ0, hZ1, Lay_setI, Lay_setA, h.lay, fAt_everyMap_v h, eu, len_0 _ hl]
    cases c1 : twB a
    · simp only [if_true]; exact QQ.pure rfl
    · obtain ⟨i, j, hi, hj, rfl⟩ := twB_t c1
      simp only [if_false, if_true, Bool.true_eq_false]
      by_cases c0 : WL n m (pm t) (evB m) = []
      · rw [if_pos c0, if_pos c0]; exact ⟨u, rfl, fu.1⟩
      · rw [if_neg c0, if_neg c0]
        obtain ⟨v, ev, fv⟩ := shortest_v hu hi hj (orf (opn (pm u) (allB (WL n m (pm t) (evB m)) n)) s)
        rw [fu.1.2] at ev
        simp only [gI_0, pI_0, rc_0, gI_1, pI_1, rc_1, ln_2, ql_2, al_3, as_3, ln_3, al_4, as_4, ln_4, gI_5, pI_5, rc_5, ln_6, ql_6, al_7, as_7, ln_7, al_8, as_8, ln_8, ln_9, ql_9, gI_10, pI_10, rc_10, al_11, as_11, ln_11, al_12, as_12, ln_12, gI_13, pI_13, rc_13, al_14, as_14, ln_14, ln_15, ql_15, gI_16, pI_16, rc_16, al_17, as_17, ln_17, al_18, as_18, ln_18, al_19, as_19, ln_19, al_20, as_20, ln_20, bl_21, bs_21, ln_21, gI_22, pI_22, rc_22, al_23, as_23, ln_23, al_24, as_24, ln_24, al_25, as_25, ln_25, gI_31, pI_31, rc_31, al_32, as_32, ln_32, gI_33, pI_33, rc_33, al_34, as_34, ln_34, gI_35, pI_35, rc_35, al_36, as_36, ln_36, gI_37, pI_37, rc_37, al_38, as_38, ln_38, gC_0_3, gC_0_4, gC_0_5, gC_0_7, gC_0_10, gC_0_11, gC_0_12, gC_0_13, gC_0_14, gC_0_15, gC_0_16, gC_0_17, gC_1_0, gC_1_2, gC_1_3, gC_5_0, gC_5_2, gC_10_0, gC_10_7, gC_13_5, gC_16_0, gC_16_2, gC_22_0, gC_22_1, gC_22_2, gC_22_3, gC_31_2, gC_33_2, gC_35_2, gC_37_2, bI_rI, bV_rV, bQ_rN, bQ_rR, bz_0, bz_1, bz_Z, hZ0, hZ1, Lay_setI, Lay_setA, hu.lay, soInAll_v hu.lay gu hl (show n ≤ 9 by omega) (WL_lt _ _) c0, openIn_v hu, ev, (two_ab hi hj).1, (two_ab hi hj).2, Dst_or (show s ≤ 12 by omega), fu.1.2]
        exact ⟨v, rfl, fu.1.trans fv.1⟩
  · rw [← e] at hl ⊢
    obtain ⟨w, ew, fw, ga, gw⟩ := fm_findsWorlds_v hu
    have hw := hu.fr fw.1
    have ga' : Agd (pm w) n m w := by rw [fw.1.2]; exact ga
    unfold s_safe
    simp only [fm_safe, fm_areTwo_v, gI_39, pI_39, rc_39, al_40, as_40, ln_40, al_41, as_41, ln_41, al_42, as_42, ln_42, al_43, as_43, ln_43, al_44, as_44, ln_44, al_45, as_45, ln_45, al_46, as_46, ln_46, al_47, as_47, ln_47, al_48, as_48, ln_48, al_49, as_49, ln_49, al_50, as_50, ln_50, al_51, as_51, ln_51, al_52, as_52, ln_52, al_53, as_53, ln_53, al_54, as_54, ln_54, al_55, as_55, ln_55, al_56, as_56, ln_56, al_57, as_57, ln_57, al_58, as_58, ln_58, al_59, as_59, ln_59, al_60, as_60, ln_60, al_61, as_61, ln_61, al_62, as_62, ln_62, al_63, as_63, ln_63, al_64, as_64, ln_64, al_65, as_65, ln_65, al_66, as_66, ln_66, al_67, as_67, ln_67, gC_39_4, gC_39_5, gC_39_6, gC_39_7, gC_39_8, gC_39_10, gC_39_11, gC_39_12, gC_39_13, gC_39_15, gC_39_16, gC_39_18, gC_39_19, gC_39_27, gC_39_28, gC_39_29, gC_39_30, gC_39_31, gC_39_36, gC_39_37, gC_39_41, gC_39_42, gC_39_43, gC_39_44, gC_39_46, gC_39_47, gC_39_48, gC_39_49, bI_rI, bV_rV, bQ_rN, bQ_rR, bz_0, bz_1, bz_Z, hZ0, hZ1, Lay_setI, Lay_setA, hu.lay, ew, hw.lay, gw.1, len_0 _ hl, fm_allMaps_v hw, fm_allSo_v hw ga']
    cases c1 : twB a
    · simp only [if_true]; exact QQ.pure rfl
    · obtain ⟨i, j, hi, hj, rfl⟩ := twB_t c1
      simp only [if_false, if_true, Bool.true_eq_false]
      by_cases c0 : WL n m (pm u) (evB m) = []
      · rw [if_pos c0, if_pos c0]; exact ⟨w, rfl, fw.1⟩
      · rw [if_neg c0, if_neg c0]
        obtain ⟨v, ev, fv⟩ := wayIn_v hw hi hj (allB (WL n m (pm w) (nI (2 ^ m - 1))) n)
        rw [fw.1.2] at ev
        simp only [ev, bI_rI, (two_ab hi hj).1, (two_ab hi hj).2, fw.1.2]
        exact ⟨v, rfl, fw.1.trans fv.1⟩
end
