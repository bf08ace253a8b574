section
variable {n m s g x p : Nat} {t u : SM}
def stM (t : SM) (s : Nat) (a b c d : Int32) : SM := setI (setI (setI (setI (setI (stT t s a b c d) 45 s a) 46 s b) 47 s c) 48 s d) 39 9 (nI (s + 1))
theorem stM_I (t : SM) (s : Nat) (a b c d : Int32) (q k : Nat) : mI (stM t s a b c d) q k = if q = 39 ∧ k = 9 then nI (s + 1) else if q = 48 ∧ k = s then d else if q = 47 ∧ k = s then c else if q = 46 ∧ k = s then b else if q = 45 ∧ k = s then a else if q = 5 ∧ k = 1 then nI (s + 1) else if q = mN t ∧ k = 3 then d else if q = mN t ∧ k = 2 then c else if q = mN t ∧ k = 1 then b else if q = mN t ∧ k = 0 then a else if q = mN t then 0 else mI t q k := by
  unfold stM stT
  rw [setI_I, setI_I, setI_I, setI_I, setI_I, setI_I, setR_I, setI_I, setI_I, setI_I, setI_I, mPush_I]
  by_cases e : q = mN t
  · simp only [e, if_true]
  · simp only [e, if_false]
theorem stM_T (t : SM) (s : Nat) (a b c d : Int32) (k : Nat) : mT (stM t s a b c d) k = if k = mN t then (6, 0) else mT t k := rfl
theorem stM_R (t : SM) (s : Nat) (a b c d : Int32) (q i : Nat) : mR (stM t s a b c d) q i = if q = 6 ∧ i = s then some (mN t) else if q = mN t then none else mR t q i := by
  show mR (setR (setI (setI (setI (setI (mPush t 6 0 4) (mN t) 0 a) (mN t) 1 b) (mN t) 2 c) (mN t) 3 d) 6 s (some (mN t))) q i = _
  rw [setR_R]
  show (if q = 6 ∧ i = s then some (mN t) else mR (mPush t 6 0 4) q i) = _
  rw [mPush_R]
  by_cases e : q = mN t
  · simp only [e, if_true]
  · simp only [e, if_false]
theorem stM_inv (h : Inv n m s g x p t) (hs : s < 12) {a b : Nat} {c : Int32} {d : Nat} (ha : a < 6) (hb : b < 6) (hab : a ≠ b) (hc : c = -1 ∨ ∃ k, k < n ∧ c = nI k) (hd : 1 ≤ d ∧ d ≤ 99) : Inv n m (s + 1) g x p (stM t s (nI a) (nI b) c (nI d)) := by
  have hl := h.lay
  have hr := h.rng
  have h68 := hl.1
  have wI := stM_I t s (nI a) (nI b) c (nI d)
  have wT := stM_T t s (nI a) (nI b) c (nI d)
  have wR := stM_R t s (nI a) (nI b) c (nI d)
  have l2 : Lay (stM t s (nI a) (nI b) c (nI d)) := by
    refine ⟨by show 68 ≤ mN t + 1; omega, fun k hk => by rw [wT, if_neg (by omega)]; exact hl.2.1 k hk, fun r hr2 => ?_⟩
    have hne : ∀ r ∈ refL, r.1 ≠ 6 ∧ r.1 < 68 := by decide +kernel
    have := hne r hr2
    rw [wR, if_neg (by omega), if_neg (by omega)]; exact hl.2.2 r hr2
  have wN : mN (stM t s (nI a) (nI b) c (nI d)) = mN t + 1 := rfl
  generalize stM t s (nI a) (nI b) c (nI d) = u at *
  have hT : ∀ k, k < mN t → mT u k = mT t k := fun k hk => by rw [wT, if_neg (by omega)]
  have rows : ∀ k, k < mN t → k ≠ 39 → k ≠ 48 → k ≠ 47 → k ≠ 46 → k ≠ 45 → k ≠ 5 → pm u k = pm t k := fun k hk a1 a2 a3 a4 a5 a6 => pm_lt hT hk (funext fun j => by
    rw [wI, if_neg (by omega), if_neg (by omega), if_neg (by omega), if_neg (by omega), if_neg (by omega), if_neg (by omega), if_neg (by omega), if_neg (by omega), if_neg (by omega), if_neg (by omega), if_neg (by omega)])
  have w39 : ∀ j, j ≠ 9 → pm u 39 j = pm t 39 j := fun j hj => pm_lt1 hT (by omega) (by
    rw [wI, if_neg (by omega), if_neg (by omega), if_neg (by omega), if_neg (by omega), if_neg (by omega), if_neg (by omega), if_neg (by omega), if_neg (by omega), if_neg (by omega), if_neg (by omega), if_neg (by omega)])
  have v9 : pm u 39 9 = nI (s + 1) := by rw [← pm_fx l2 rfl rfl, wI, if_pos ⟨rfl, rfl⟩]
  have v5 : pm u 5 1 = nI (s + 1) := by rw [← pm_fx l2 rfl rfl, wI, if_neg (by omega), if_neg (by omega), if_neg (by omega), if_neg (by omega), if_neg (by omega), if_pos ⟨rfl, rfl⟩]
  have e45 : ∀ j, pm u 45 j = if j = s then nI a else pm t 45 j := fun j => by
    rw [← rp_45 l2, wI, if_neg (by omega), if_neg (by omega), if_neg (by omega), if_neg (by omega)]
    by_cases e : j = s
    · rw [if_pos ⟨rfl, e⟩, if_pos e]
    · rw [if_neg (fun z => e z.2), if_neg (by omega), if_neg (by omega), if_neg (by omega), if_neg (by omega), if_neg (by omega), if_neg (by omega), if_neg e]; exact rp_45 hl
  have e46 : ∀ j, pm u 46 j = if j = s then nI b else pm t 46 j := fun j => by
    rw [← rp_46 l2, wI, if_neg (by omega), if_neg (by omega), if_neg (by omega)]
    by_cases e : j = s
    · rw [if_pos ⟨rfl, e⟩, if_pos e]
    · rw [if_neg (fun z => e z.2), if_neg (by omega), if_neg (by omega), if_neg (by omega), if_neg (by omega), if_neg (by omega), if_neg (by omega), if_neg (by omega), if_neg e]; exact rp_46 hl
  have e47 : ∀ j, pm u 47 j = if j = s then c else pm t 47 j := fun j => by
    rw [← rp_47 l2, wI, if_neg (by omega), if_neg (by omega)]
    by_cases e : j = s
    · rw [if_pos ⟨rfl, e⟩, if_pos e]
    · rw [if_neg (fun z => e z.2), if_neg (by omega), if_neg (by omega), if_neg (by omega), if_neg (by omega), if_neg (by omega), if_neg (by omega), if_neg (by omega), if_neg (by omega), if_neg e]; exact rp_47 hl
  have e48 : ∀ j, pm u 48 j = if j = s then nI d else pm t 48 j := fun j => by
    rw [← rp_48 l2, wI, if_neg (by omega)]
    by_cases e : j = s
    · rw [if_pos ⟨rfl, e⟩, if_pos e]
    · rw [if_neg (fun z => e z.2), if_neg (by omega), if_neg (by omega), if_neg (by omega), if_neg (by omega), if_neg (by omega), if_neg (by omega), if_neg (by omega), if_neg (by omega), if_neg (by omega), if_neg e]; exact rp_48 hl
  have tq : (mT u (mN t)).1 = 6 := by rw [wT, if_pos rfl]
  have tq1 : (mT u (mN t - 1)).1 ≠ 8 := by
    rw [wT, if_neg (by omega)]
    intro e8
    have := (h.tgs _ e8).1
    omega
  have vq : ∀ j, pm u (mN t) j = mI u (mN t) j := fun j => (pm_cl h68 (by rw [tq]; decide) tq1).symm
  have q0 : pm u (mN t) 0 = nI a := by rw [vq, wI, if_neg (by omega), if_neg (by omega), if_neg (by omega), if_neg (by omega), if_neg (by omega), if_neg (by omega), if_neg (by omega), if_neg (by omega), if_neg (by omega), if_pos ⟨rfl, rfl⟩]
  have q1 : pm u (mN t) 1 = nI b := by rw [vq, wI, if_neg (by omega), if_neg (by omega), if_neg (by omega), if_neg (by omega), if_neg (by omega), if_neg (by omega), if_neg (by omega), if_neg (by omega), if_pos ⟨rfl, rfl⟩]
  have q2 : pm u (mN t) 2 = c := by rw [vq, wI, if_neg (by omega), if_neg (by omega), if_neg (by omega), if_neg (by omega), if_neg (by omega), if_neg (by omega), if_neg (by omega), if_pos ⟨rfl, rfl⟩]
  have q3 : pm u (mN t) 3 = nI d := by rw [vq, wI, if_neg (by omega), if_neg (by omega), if_neg (by omega), if_neg (by omega), if_neg (by omega), if_neg (by omega), if_pos ⟨rfl, rfl⟩]
  have rw' : ∀ k, k < 68 → k ∉ [39, 48, 47, 46, 45, 5] → pm u k = pm t k := fun k hk hm => by
    simp at hm
    exact rows k (by omega) (by omega) (by omega) (by omega) (by omega) (by omega) (by omega)
  have hp : ∀ k, 68 ≤ k → k < mN t → pm u k = pm t k := fun k h1 h2 => rows k h2 (by omega) (by omega) (by omega) (by omega) (by omega) (by omega)
  obtain ⟨_, ⟨a3, a4⟩, ⟨b3, b4⟩, ⟨c3, c4⟩, ⟨d3, d4⟩, ⟨e3, e4⟩, ⟨g1, g2⟩, g3, g4, g5, gl1, gl2, gl3⟩ := h.num
  have z0 := rw' 0 (by decide) (by decide); have z1 := rw' 1 (by decide) (by decide); have z10 := rw' 10 (by decide) (by decide)
  refine ⟨l2, ⟨IvN.mk ⟨hr.1, hr.2.1, by omega, hr.2.2.2⟩ (by rw [w39 0 (by decide)]; exact a3) (by rw [z0]; exact a4) (by rw [w39 3 (by decide)]; exact b3) (by rw [z1]; exact b4) v9 v5 (by rw [w39 14 (by decide)]; exact d3) (by rw [z0]; exact d4) (by rw [w39 20 (by decide)]; exact e3) (by rw [z0]; exact e4) (by rw [w39 17 (by decide)]; exact g1) (by rw [z10]; exact g2) (by rw [w39 1 (by decide), z0]; exact g3) (by rw [w39 2 (by decide), z0]; exact g4) (by rw [w39 21 (by decide), z0]; exact g5) ⟨gl1, gl2, by rw [w39 21 (by decide)]; exact gl3⟩,
    ?_, ?_, ?_, ?_, ?_, ?_, ?_, ?_, ?_, ?_, ?_⟩⟩
  · have := h.gos; unfold IvG at *; rw [rw' 8 (by decide) (by decide), rw' 49 (by decide) (by decide)]; exact this
  · have := h.tap; unfold IvT at *; rw [rw' 11 (by decide) (by decide), rw' 50 (by decide) (by decide)]; exact this
  · have := h.img
    unfold IvI at *
    rw [rw' 13 (by decide) (by decide), rw' 14 (by decide) (by decide), rw' 53 (by decide) (by decide), w39 22 (by decide), w39 23 (by decide), w39 24 (by decide), w39 25 (by decide), w39 26 (by decide)]
    exact this
  · intro i hi
    rw [rw' (31 + 2 * i) (by omega) (by simp; omega), rw' (32 + 2 * i) (by omega) (by simp; omega), rw' 54 (by decide) (by decide), rw' 55 (by decide) (by decide), rw' 56 (by decide) (by decide)]
    exact h.shs i hi
  · have := h.mps; unfold IvM at *; rw [rw' 40 (by decide) (by decide), rw' 41 (by decide) (by decide), rw' 42 (by decide) (by decide), rw' 43 (by decide) (by decide)]; exact this
  · exact h.chs.gr (rw' 40 (by decide) (by decide)) (rw' 41 (by decide) (by decide)) (rw' 42 (by decide) (by decide)) (rw' 43 (by decide) (by decide)) (rw' 44 (by decide) (by decide)) hp hT (fun i hi => by rw [wR, if_neg (by omega), if_neg (by omega)]) (by omega)
  · exact h.agg.gr (rw' 3 (by decide) (by decide)) (rw' 40 (by decide) (by decide)) (rw' 41 (by decide) (by decide)) (rw' 42 (by decide) (by decide)) (rw' 43 (by decide) (by decide))
  · intro i hi
    unfold StV
    by_cases e : i = s
    · rw [e45, e46, e47, e48, if_pos e, if_pos e, if_pos e, if_pos e]
      refine ⟨⟨⟨a, b, ha, hb, hab, rfl, rfl⟩, hc, d, hd.1, hd.2, rfl⟩, mN t, by rw [wR, if_pos ⟨rfl, e⟩], ⟨h68, by omega⟩, tq, tq1, ?_, ?_, ?_, ?_⟩
      · rw [q0, e45, if_pos e]
      · rw [q1, e46, if_pos e]
      · rw [q2, e47, if_pos e]
      · rw [q3, e48, if_pos e]
    · obtain ⟨v1, q, hq, hcc⟩ := h.sts i (by omega)
      have hb1 := hcc.1
      rw [e45, e46, e47, e48, if_neg e, if_neg e, if_neg e, if_neg e]
      refine ⟨v1, q, by rw [wR, if_neg (fun z => e z.2), if_neg (by omega)]; exact hq, ⟨hb1.1, by omega⟩, by rw [hT q hb1.2]; exact hcc.2.1, by rw [hT (q - 1) (by omega)]; exact hcc.2.2.1, ?_, ?_, ?_, ?_⟩
      · rw [hp q hb1.1 hb1.2, e45, if_neg e]; exact hcc.2.2.2.1
      · rw [hp q hb1.1 hb1.2, e46, if_neg e]; exact hcc.2.2.2.2.1
      · rw [hp q hb1.1 hb1.2, e47, if_neg e]; exact hcc.2.2.2.2.2.1
      · rw [hp q hb1.1 hb1.2, e48, if_neg e]; exact hcc.2.2.2.2.2.2
  · exact h.txs.gr (rw' 51 (by decide) (by decide)) (rw' 52 (by decide) (by decide)) (fun k h1 h2 => by
      rcases h1 with h1 | h1
      · exact rw' k (by omega) (by simp; omega)
      · exact hp k h1 h2) hT (fun i hi => by rw [wR, if_neg (by omega), if_neg (by omega)]) (fun q hq h8 => by
      funext i
      rw [wR, if_neg, if_neg (by omega)]
      rintro ⟨rfl, _⟩
      rw [hl.2.1 6 (by decide)] at h8
      exact absurd h8 (by decide)) (by omega)
  · rw [wN]; exact h.tgs.gr (q := (6, 0)) (by decide) wT
  · have := h.wds; unfold IvW at *; rw [rw' 58 (by decide) (by decide)]; exact this
theorem ok_street (h : Inv n m s g x p t) (a b c d : Int32) : Okk t (fun t => fx_street t a b c d) (fun t => fm_street t a b c d) := by
  have hr := h.rng
  have hl := h.lay
  have in6 : ∀ a : Int32, (decide ((0 : Int32) ≤ a) && decide (a ≤ 5)) = inr a 6 := fun a => inr_in (N := 6) (by decide)
  have fxe : fx_street t a b c d = if inr a 6 = false then rI (-2) t else if inr b 6 = false then rI (-2) t else if a = b then rI (-2) t else if (decide (c = -1) || inr c n) = false then rI (-2) t else if d < 1 then rI (-2) t else if d ≤ 99 then bI (fSs_add t a b c d) (fun v w => rI v w) else rI (-2) t := by
    simp only [fx_street, fx_street_35, fx_isPlace_v, gI_0, pI_0, rc_0, gI_1, pI_1, rc_1, ln_2, ql_2, al_3, as_3, ln_3, al_4, as_4, ln_4, gI_5, pI_5, rc_5, ln_6, ql_6, al_7, as_7, ln_7, al_8, as_8, ln_8, ln_9, ql_9, gI_10, pI_10, rc_10, al_11, as_11, ln_11, al_12, as_12, ln_12, gI_13, pI_13, rc_13, al_14, as_14, ln_14, ln_15, ql_15, gI_16, pI_16, rc_16, al_17, as_17, ln_17, al_18, as_18, ln_18, al_19, as_19, ln_19, al_20, as_20, ln_20, bl_21, bs_21, ln_21, gI_22, pI_22, rc_22, al_23, as_23, ln_23, al_24, as_24, ln_24, al_25, as_25, ln_25, gI_31, pI_31, rc_31, al_32, as_32, ln_32, gI_33, pI_33, rc_33, al_34, as_34, ln_34, gI_35, pI_35, rc_35, al_36, as_36, ln_36, gI_37, pI_37, rc_37, al_38, as_38, ln_38, gC_0_3, gC_0_4, gC_0_5, gC_0_7, gC_0_10, gC_0_11, gC_0_12, gC_0_13, gC_0_14, gC_0_15, gC_0_16, gC_0_17, gC_1_0, gC_1_2, gC_1_3, gC_5_0, gC_5_2, gC_10_0, gC_10_7, gC_13_5, gC_16_0, gC_16_2, gC_22_0, gC_22_1, gC_22_2, gC_22_3, gC_31_2, gC_33_2, gC_35_2, gC_37_2, bI_rI, bV_rV, bQ_rN, bQ_rR, bz_0, bz_1, bz_Z, hZ0, hZ1, Lay_setI, Lay_setA, hl, fx_isChoice_v h]
    by_cases e : c = -1
    · simp [e]
    · simp [e]
  have in99 : ∀ d : Int32, (decide ((1 : Int32) ≤ d) && decide (d ≤ 99)) = false ↔ (d < 1 ∨ ¬ d ≤ 99) := fun d => by
    rw [Bool.and_eq_false_iff, decide_eq_false_iff_not, decide_eq_false_iff_not, Int32.not_le]
  have fme : ∀ u, Lay u → mI u 39 = mI t 39 → inr a 6 = true → inr b 6 = true → a ≠ b → (decide (c = -1) || inr c n) = true → (decide ((1 : Int32) ≤ d) && decide (d ≤ 99)) = true → fm_street u a b c d = if s = 12 then rI (-4) u else rI (nI s) (setI (setI (setI (setI (setI u 45 s a) 46 s b) 47 s c) 48 s d) 39 9 (nI (s + 1))) := by
    intro u lu e39 ca cb cab cc cd
    have u0 : mI u 39 0 = nI n := by rw [e39]; exact h.ch
    have u9 : mI u 39 9 = nI s := by rw [e39]; exact h.st
    have z2 : (nI s = 12) = (s = 12) := propext (nI_eq (b := 12) (by omega) (by decide))
    by_cases cs : s = 12
    · simp only [fm_street, fm_in_v, in6, m1c c (by omega : n ≤ 9), gI_39, pI_39, rc_39, al_40, as_40, ln_40, al_41, as_41, ln_41, al_42, as_42, ln_42, al_43, as_43, ln_43, al_44, as_44, ln_44, al_45, as_45, ln_45, al_46, as_46, ln_46, al_47, as_47, ln_47, al_48, as_48, ln_48, al_49, as_49, ln_49, al_50, as_50, ln_50, al_51, as_51, ln_51, al_52, as_52, ln_52, al_53, as_53, ln_53, al_54, as_54, ln_54, al_55, as_55, ln_55, al_56, as_56, ln_56, al_57, as_57, ln_57, al_58, as_58, ln_58, al_59, as_59, ln_59, al_60, as_60, ln_60, al_61, as_61, ln_61, al_62, as_62, ln_62, al_63, as_63, ln_63, al_64, as_64, ln_64, al_65, as_65, ln_65, al_66, as_66, ln_66, al_67, as_67, ln_67, gC_39_4, gC_39_5, gC_39_6, gC_39_7, gC_39_8, gC_39_10, gC_39_11, gC_39_12, gC_39_13, gC_39_15, gC_39_16, gC_39_18, gC_39_19, gC_39_27, gC_39_28, gC_39_29, gC_39_30, gC_39_31, gC_39_36, gC_39_37, gC_39_41, gC_39_42, gC_39_43, gC_39_44, gC_39_46, gC_39_47, gC_39_48, gC_39_49, bI_rI, bV_rV, bQ_rN, bQ_rR, bz_0, bz_1, bz_Z, hZ0, hZ1, Lay_setI, Lay_setA, lu, u0, u9, ca, cb, cc, cd, if_neg cab, Bool.true_eq_false, if_false, z2, if_pos cs]
    · have hs : s < 12 := by omega
      have v1 : mI (setI u 45 s a) 39 9 = nI s := by rw [setI_ne (by decide)]; exact u9
      have v2 : mI (setI (setI u 45 s a) 46 s b) 39 9 = nI s := by rw [setI_ne (by decide)]; exact v1
      have v3 : mI (setI (setI (setI u 45 s a) 46 s b) 47 s c) 39 9 = nI s := by rw [setI_ne (by decide)]; exact v2
      have v4 : mI (setI (setI (setI (setI u 45 s a) 46 s b) 47 s c) 48 s d) 39 9 = nI s := by rw [setI_ne (by decide)]; exact v3
      have v5 : mI (setI (setI (setI (setI (setI u 45 s a) 46 s b) 47 s c) 48 s d) 39 9 (nI (s + 1))) 39 9 = nI (s + 1) := setI_eq rfl rfl
      simp only [fm_street, fm_in_v, in6, m1c c (by omega : n ≤ 9), gI_39, pI_39, rc_39, al_40, as_40, ln_40, al_41, as_41, ln_41, al_42, as_42, ln_42, al_43, as_43, ln_43, al_44, as_44, ln_44, al_45, as_45, ln_45, al_46, as_46, ln_46, al_47, as_47, ln_47, al_48, as_48, ln_48, al_49, as_49, ln_49, al_50, as_50, ln_50, al_51, as_51, ln_51, al_52, as_52, ln_52, al_53, as_53, ln_53, al_54, as_54, ln_54, al_55, as_55, ln_55, al_56, as_56, ln_56, al_57, as_57, ln_57, al_58, as_58, ln_58, al_59, as_59, ln_59, al_60, as_60, ln_60, al_61, as_61, ln_61, al_62, as_62, ln_62, al_63, as_63, ln_63, al_64, as_64, ln_64, al_65, as_65, ln_65, al_66, as_66, ln_66, al_67, as_67, ln_67, gC_39_4, gC_39_5, gC_39_6, gC_39_7, gC_39_8, gC_39_10, gC_39_11, gC_39_12, gC_39_13, gC_39_15, gC_39_16, gC_39_18, gC_39_19, gC_39_27, gC_39_28, gC_39_29, gC_39_30, gC_39_31, gC_39_36, gC_39_37, gC_39_41, gC_39_42, gC_39_43, gC_39_44, gC_39_46, gC_39_47, gC_39_48, gC_39_49, bI_rI, bV_rV, bQ_rN, bQ_rR, bz_0, bz_1, bz_Z, hZ0, hZ1, Lay_setI, Lay_setA, lu, u0, u9, ca, cb, cc, cd, if_neg cab, Bool.true_eq_false, if_false, z2, if_neg cs, hs, v1, v2, v3, v4, nI_1, v5, nI_pred]
  have bad : ∀ u, Lay u → mI u 39 = mI t 39 → ¬ (inr a 6 = true ∧ inr b 6 = true ∧ a ≠ b ∧ (decide (c = -1) || inr c n) = true ∧ (decide ((1 : Int32) ≤ d) && decide (d ≤ 99)) = true) → fm_street u a b c d = rI (-2) u := by
    intro u lu e39 hn
    have u0 : mI u 39 0 = nI n := by rw [e39]; exact h.ch
    simp only [fm_street, fm_in_v, in6, m1c c (by omega : n ≤ 9), gI_39, pI_39, rc_39, al_40, as_40, ln_40, al_41, as_41, ln_41, al_42, as_42, ln_42, al_43, as_43, ln_43, al_44, as_44, ln_44, al_45, as_45, ln_45, al_46, as_46, ln_46, al_47, as_47, ln_47, al_48, as_48, ln_48, al_49, as_49, ln_49, al_50, as_50, ln_50, al_51, as_51, ln_51, al_52, as_52, ln_52, al_53, as_53, ln_53, al_54, as_54, ln_54, al_55, as_55, ln_55, al_56, as_56, ln_56, al_57, as_57, ln_57, al_58, as_58, ln_58, al_59, as_59, ln_59, al_60, as_60, ln_60, al_61, as_61, ln_61, al_62, as_62, ln_62, al_63, as_63, ln_63, al_64, as_64, ln_64, al_65, as_65, ln_65, al_66, as_66, ln_66, al_67, as_67, ln_67, gC_39_4, gC_39_5, gC_39_6, gC_39_7, gC_39_8, gC_39_10, gC_39_11, gC_39_12, gC_39_13, gC_39_15, gC_39_16, gC_39_18, gC_39_19, gC_39_27, gC_39_28, gC_39_29, gC_39_30, gC_39_31, gC_39_36, gC_39_37, gC_39_41, gC_39_42, gC_39_43, gC_39_44, gC_39_46, gC_39_47, gC_39_48, gC_39_49, bI_rI, bV_rV, bQ_rN, bQ_rR, bz_0, bz_1, bz_Z, hZ0, hZ1, Lay_setI, Lay_setA, lu, u0]
    cases ca : inr a 6
    · simp only [if_true]
    · cases cb : inr b 6
      · simp only [if_true, if_false, Bool.true_eq_false]
      · by_cases cab : a = b
        · simp only [if_false, Bool.true_eq_false, if_pos cab]
        · cases cc : (decide (c = -1) || inr c n)
          · simp only [if_false, Bool.true_eq_false, if_true, if_neg cab]
          · cases cd : (decide ((1 : Int32) ≤ d) && decide (d ≤ 99))
            · simp only [if_false, Bool.true_eq_false, if_true, if_neg cab]
            · exact absurd ⟨ca, cb, cab, cc, cd⟩ hn
  by_cases ok : inr a 6 = true ∧ inr b 6 = true ∧ a ≠ b ∧ (decide (c = -1) || inr c n) = true ∧ (decide ((1 : Int32) ≤ d) && decide (d ≤ 99)) = true
  · obtain ⟨ca, cb, cab, cc, cd⟩ := ok
    have d12 : (1 : Int32) ≤ d ∧ d ≤ 99 := by simpa using cd
    have fx1 : fx_street t a b c d = bI (fSs_add t a b c d) (fun v w => rI v w) := by
      rw [fxe]
      simp only [ca, cb, cc, Bool.true_eq_false, if_false, if_neg cab, if_neg (Int32.not_lt.mpr d12.1), if_pos d12.2]
    by_cases cs : s = 12
    · refine okr h (v := -4) ?_ ?_
      · have n1 : ¬ nI s < 0 := nI_pos (by omega)
        have n2 : ¬ nI s < nI 12 := by rw [cs]; decide
        show fx_street t a b c d = _
        rw [fx1]
        simp only [fSs_add, gI_0, pI_0, rc_0, gI_1, pI_1, rc_1, ln_2, ql_2, al_3, as_3, ln_3, al_4, as_4, ln_4, gI_5, pI_5, rc_5, ln_6, ql_6, al_7, as_7, ln_7, al_8, as_8, ln_8, ln_9, ql_9, gI_10, pI_10, rc_10, al_11, as_11, ln_11, al_12, as_12, ln_12, gI_13, pI_13, rc_13, al_14, as_14, ln_14, ln_15, ql_15, gI_16, pI_16, rc_16, al_17, as_17, ln_17, al_18, as_18, ln_18, al_19, as_19, ln_19, al_20, as_20, ln_20, bl_21, bs_21, ln_21, gI_22, pI_22, rc_22, al_23, as_23, ln_23, al_24, as_24, ln_24, al_25, as_25, ln_25, gI_31, pI_31, rc_31, al_32, as_32, ln_32, gI_33, pI_33, rc_33, al_34, as_34, ln_34, gI_35, pI_35, rc_35, al_36, as_36, ln_36, gI_37, pI_37, rc_37, al_38, as_38, ln_38, gC_0_3, gC_0_4, gC_0_5, gC_0_7, gC_0_10, gC_0_11, gC_0_12, gC_0_13, gC_0_14, gC_0_15, gC_0_16, gC_0_17, gC_1_0, gC_1_2, gC_1_3, gC_5_0, gC_5_2, gC_10_0, gC_10_7, gC_13_5, gC_16_0, gC_16_2, gC_22_0, gC_22_1, gC_22_2, gC_22_3, gC_31_2, gC_33_2, gC_35_2, gC_37_2, bI_rI, bV_rV, bQ_rN, bQ_rR, bz_0, bz_1, bz_Z, hZ0, hZ1, Lay_setI, Lay_setA, hl, h.st', n1, n2, if_true, if_false]
      · show fm_street t a b c d = _
        rw [fme t hl rfl ca cb cab cc cd, if_pos cs]
    · have hs : s < 12 := by omega
      obtain ⟨a', ha, rfl⟩ := inr_t ca (by decide)
      obtain ⟨b', hb, rfl⟩ := inr_t cb (by decide)
      have hc : c = -1 ∨ ∃ k, k < n ∧ c = nI k := by
        rw [Bool.or_eq_true, decide_eq_true_eq] at cc
        exact cc.imp id (fun z => inr_t z (by omega))
      obtain ⟨d', hd, rfl⟩ : ∃ d', d' < 100 ∧ d = nI d' := inr_t (by
        have e1 : (0 : Int32) ≤ d := Int32.le_trans (by decide) d12.1
        have e2 : d < nI 100 := by
          have h2 : d.toInt ≤ 99 := Int32.le_iff_toInt_le.mp d12.2
          rw [Int32.lt_iff_toInt_lt, nI_toInt (by decide)]; omega
        unfold inr; rw [decide_eq_true e1, decide_eq_true e2]; rfl) (by decide)
      have hd1 : 1 ≤ d' := by
        have h2 : ((1 : Int32).toInt) ≤ (nI d').toInt := Int32.le_iff_toInt_le.mp d12.1
        have h3 : (1 : Int32).toInt = 1 := rfl
        rw [h3, nI_toInt (by omega)] at h2; omega
      refine ⟨nI s, stT t s (nI a') (nI b') c (nI d'), stM t s (nI a') (nI b') c (nI d'), ?_, ?_, ⟨n, m, s + 1, g, x, p, stM_inv h hs ha hb (fun e => cab (by rw [e])) hc ⟨hd1, by omega⟩⟩, ?_, ?_, (show Lay (stT t s (nI a') (nI b') c (nI d')) from Lay_setR (Lay_push hl) (Or.inr (Or.inl rfl)))⟩
      · show fx_street t _ _ c _ = _
        rw [fx1, add_street hl h.st' hs, bI_rI]
      · show fm_street _ _ _ c _ = _
        rw [fme _ ?_ ?_ ca cb cab cc cd, if_neg cs]
        · rfl
        · exact Lay_setR (Lay_push hl) (Or.inr (Or.inl rfl))
        · funext j
          have := hl.1
          unfold stT
          rw [setI_I, setR_I, setI_I, setI_I, setI_I, setI_I, mPush_I]
          rw [if_neg (by omega), if_neg (by omega), if_neg (by omega), if_neg (by omega), if_neg (by omega), if_neg (by omega)]
      · show mN t + 1 ≤ _; omega
      · show mZ t + 4 ≤ _
        omega
  · refine okr h (v := -2) ?_ (bad t hl rfl ok)
    show fx_street t a b c d = _
    rw [fxe]
    cases ca : inr a 6
    · simp only [if_true]
    · cases cb : inr b 6
      · simp only [if_true, if_false, Bool.true_eq_false]
      · by_cases cab : a = b
        · simp only [if_false, Bool.true_eq_false, if_pos cab]
        · cases cc : (decide (c = -1) || inr c n)
          · simp only [if_false, Bool.true_eq_false, if_true, if_neg cab]
          · have cd : (decide ((1 : Int32) ≤ d) && decide (d ≤ 99)) = false := by
              cases cd : (decide ((1 : Int32) ≤ d) && decide (d ≤ 99))
              · rfl
              · exact absurd ⟨ca, cb, cab, cc, cd⟩ ok
            rcases (in99 d).mp cd with e | e
            · simp only [if_false, Bool.true_eq_false, if_neg cab, if_pos e]
            · simp only [if_false, Bool.true_eq_false, if_neg cab, if_neg e]
              by_cases e1 : d < 1
              · rw [if_pos e1]
              · rw [if_neg e1]
end
