section
variable {n m s g x p : Nat} {t u w : SM} {G G' : GG}
theorem agr_cg (e0 : G' 40 = G 40) (e1 : G' 41 = G 41) (e2 : G' 42 = G 42) (e3 : G' 43 = G 43) (i : Nat) (v : Int32) : agr G' i v = agr G i v := by
  have h1 : ∀ i, ag1 G' i v = ag1 G i v := fun i => by unfold ag1 slp; rw [e0, e1, e2, e3]
  have h2 : ∀ f i, agF G' v f i = agF G v f i := by
    intro f
    induction f with
    | zero => intro i; exact h1 i
    | succ f ih => intro i; unfold agF; rw [e0, e1, e3, ih, h1]
  exact h2 i i
theorem map_fin {m' l : Nat} (h : Inv n m s g x p t) (hc : CI n m' G u) (cf : CF t u l) (hmm : m ≤ m') (e : w.2 = u.2) (w1 : ∀ k, k ∉ [39, 40, 41, 42, 43, 44] → mI w k = mI u k) (w2 : ∀ j, j ≠ 3 → mI w 39 j = mI u 39 j) (w3 : mI w 39 3 = nI m') (w4 : ∀ k, 40 ≤ k → k ≤ 44 → mI w k = G k) : Inv n m' s g x p w := by
  obtain ⟨lu, ⟨c0, c1⟩, cr, cM, ⟨cC, cI⟩, cA, cB⟩ := hc
  obtain ⟨f1, f2, f3, f4, f5, f6⟩ := cf
  have hl := h.lay
  have hr := h.rng
  have h68 := hl.1
  have eT : mT w = mT u := by unfold mT; rw [e]
  have eR : mR w = mR u := by unfold mR; rw [e]
  have eN : mN w = mN u := by unfold mN; rw [e]
  have lw : Lay w := by unfold Lay; rw [eT, eR, eN]; exact lu
  have hT : ∀ k, k < mN t → mT w k = mT t k := fun k hk => by rw [eT]; exact f3 k hk
  have hR : ∀ k, k < mN t → k ≠ 2 → mR w k = mR t k := fun k hk k2 => by rw [eR]; exact f4 k hk k2
  have rows : ∀ k, k < mN t → k ∉ [1, 3, 39, 40, 41, 42, 43, 44] → pm w k = pm t k := fun k hk hm => pm_lt hT hk (by
    simp at hm
    rw [w1 k (by simp; omega), f1 k hk (by omega) (by omega)])
  have rw' : ∀ k, k < 68 → k ∉ [1, 3, 39, 40, 41, 42, 43, 44] → pm w k = pm t k := fun k hk hm => rows k (by omega) hm
  have hp : ∀ k, 68 ≤ k → k < mN t → pm w k = pm t k := fun k h1 h2 => rows k h2 (by simp; omega)
  have w39 : ∀ j, j ≠ 3 → pm w 39 j = pm t 39 j := fun j hj => pm_lt1 hT (by omega) (by rw [w2 j hj, f1 39 (by omega) (by decide) (by decide)])
  have v3 : pm w 39 3 = nI m' := by rw [← pm_fx lw rfl rfl]; exact w3
  have v1 : pm w 1 1 = nI m' := by rw [← pm_fx lw rfl rfl, w1 1 (by decide)]; exact c1
  have g0 : pm w 40 = G 40 := funext fun j => by rw [← rp_40 lw, w4 40 (by decide) (by decide)]
  have g1 : pm w 41 = G 41 := funext fun j => by rw [← rp_41 lw, w4 41 (by decide) (by decide)]
  have g2 : pm w 42 = G 42 := funext fun j => by rw [← rp_42 lw, w4 42 (by decide) (by decide)]
  have g3 : pm w 43 = G 43 := funext fun j => by rw [← rp_43 lw, w4 43 (by decide) (by decide)]
  have g4 : pm w 44 = G 44 := funext fun j => by rw [← rp_44 lw, w4 44 (by decide) (by decide)]
  obtain ⟨_, ⟨a3, a4⟩, ⟨b3, b4⟩, ⟨c3, c4⟩, ⟨d3, d4⟩, ⟨e3, e4⟩, ⟨gg1, gg2⟩, gg3, gg4, gg5, gl1, gl2, gl3⟩ := h.num
  have z0 := rw' 0 (by decide) (by decide); have z5 := rw' 5 (by decide) (by decide); have z10 := rw' 10 (by decide) (by decide)
  refine ⟨lw, ⟨IvN.mk ⟨hr.1, cr.2, hr.2.2⟩ (by rw [w39 0 (by decide)]; exact a3) (by rw [z0]; exact a4) v3 v1 (by rw [w39 9 (by decide)]; exact c3) (by rw [z5]; exact c4) (by rw [w39 14 (by decide)]; exact d3) (by rw [z0]; exact d4) (by rw [w39 20 (by decide)]; exact e3) (by rw [z0]; exact e4) (by rw [w39 17 (by decide)]; exact gg1) (by rw [z10]; exact gg2) (by rw [w39 1 (by decide), z0]; exact gg3) (by rw [w39 2 (by decide), z0]; exact gg4) (by rw [w39 21 (by decide), z0]; exact gg5) ⟨gl1, gl2, by rw [w39 21 (by decide)]; exact gl3⟩,
    ?_, ?_, ?_, ?_, ?_, ?_, ?_, ?_, ?_, ?_, ?_⟩⟩
  · have := h.gos; unfold IvG at *; rw [rw' 8 (by decide) (by decide), rw' 49 (by decide) (by decide)]; exact this
  · have := h.tap; unfold IvT at *; rw [rw' 11 (by decide) (by decide), rw' 50 (by decide) (by decide)]; exact this
  · have := h.img
    unfold IvI at *
    rw [rw' 13 (by decide) (by decide), rw' 14 (by decide) (by decide), rw' 53 (by decide) (by decide), w39 22 (by decide), w39 23 (by decide), w39 24 (by decide), w39 25 (by decide), w39 26 (by decide)]
    obtain ⟨i1, i2, i3, i4, i5, i6, ik, il, j1, j2, j3, j4, j5, j6⟩ := this
    exact ⟨i1, i2, i3, i4, i5, i6, ik, il, j1, j2, j3, j4, fun z => Nat.le_trans (j5 z) hmm, j6⟩
  · intro i hi
    rw [rw' (31 + 2 * i) (by omega) (by simp; omega), rw' (32 + 2 * i) (by omega) (by simp; omega), rw' 54 (by decide) (by decide), rw' 55 (by decide) (by decide), rw' 56 (by decide) (by decide)]
    exact h.shs i hi
  · unfold IvM; rw [g0, g1, g2, g3]; exact cM
  · rw [eR, eT, eN]
    refine ⟨fun i hi => ?_, cI⟩
    obtain ⟨q, hq, hb⟩ := cC i hi
    have hb1 := hb.1
    have eq : ∀ k, pm w q k = mI u q k := fun k => by
      rw [← pm_cl hb1.1 (by rw [eT, hb.2.1]; decide) (by rw [eT]; exact hb.2.2.1), w1 q (by simp; omega)]
    refine ⟨q, hq, hb1, hb.2.1, hb.2.2.1, ?_⟩
    rw [eq, eq, eq, eq, eq, eq, g0, g1, g2, g3, g4]
    exact hb.2.2.2
  · intro j hj
    obtain ⟨r, hr1, er, hb⟩ := cA j hj
    refine ⟨r, hr1, by rw [← rp_3 lw, w1 3 (by decide)]; exact er, fun i hi => ?_⟩
    rw [hb i hi, agr_cg g0 g1 g2 g3]
  · exact h.sts.gr (rw' 45 (by decide) (by decide)) (rw' 46 (by decide) (by decide)) (rw' 47 (by decide) (by decide)) (rw' 48 (by decide) (by decide)) hp hT (fun i hi => by rw [hR 6 (by omega) (by decide)]) (by rw [eN]; omega)
  · exact h.txs.gr (rw' 51 (by decide) (by decide)) (rw' 52 (by decide) (by decide)) (fun k h1 h2 => by
      rcases h1 with h1 | h1
      · exact rw' k (by omega) (by simp; omega)
      · exact hp k h1 h2) hT (fun i hi => by rw [hR 9 (by omega) (by decide)]) (fun q hq h8 => by
      refine hR q hq ?_
      rintro rfl
      rw [hl.2.1 2 (by decide)] at h8
      exact absurd h8 (by decide)) (by rw [eN]; omega)
  · rw [eT, eN]; exact cB
  · have := h.wds; unfold IvW at *; rw [rw' 58 (by decide) (by decide)]; exact this
/-! the model's map -/
def mdT (u : SM) (m : Nat) (a b c d : Int32) : SM := setI (setI (setI (setI (setI (setI u 40 m a) 41 m b) 42 m c) 43 m d) 44 m 1) 39 3 (nI (m + 1))
theorem fm_map_v (lu : Lay u) (u0 : mI u 39 0 = nI n) (u3 : mI u 39 3 = nI m) (hn : n ≤ 9) (hm : m ≤ 8) (a b c d : Int32) : fm_map u a b c d = if mv n m a b c d = true then (if m = 8 then rI (-4) u else rI (nI m) (mdT u m a b c d)) else rI (-2) u := by
  have hpw := pw_lt (n := n) (by omega)
  have in6 : ∀ a : Int32, (decide ((0 : Int32) ≤ a) && decide (a ≤ 5)) = inr a 6 := fun a => inr_in (N := 6) (by decide)
  have in10 : ∀ a : Int32, (decide ((0 : Int32) ≤ a) && decide (a ≤ 9)) = inr a 10 := fun a => inr_in (N := 10) (by decide)
  have it : ∀ v, fm_isTown u v = rI (bz (inr v (2 ^ n))) u := fun v => by
    simp only [fm_isTown, gI_39, pI_39, rc_39, al_40, as_40, ln_40, al_41, as_41, ln_41, al_42, as_42, ln_42, al_43, as_43, ln_43, al_44, as_44, ln_44, al_45, as_45, ln_45, al_46, as_46, ln_46, al_47, as_47, ln_47, al_48, as_48, ln_48, al_49, as_49, ln_49, al_50, as_50, ln_50, al_51, as_51, ln_51, al_52, as_52, ln_52, al_53, as_53, ln_53, al_54, as_54, ln_54, al_55, as_55, ln_55, al_56, as_56, ln_56, al_57, as_57, ln_57, al_58, as_58, ln_58, al_59, as_59, ln_59, al_60, as_60, ln_60, al_61, as_61, ln_61, al_62, as_62, ln_62, al_63, as_63, ln_63, al_64, as_64, ln_64, al_65, as_65, ln_65, al_66, as_66, ln_66, al_67, as_67, ln_67, gC_39_4, gC_39_5, gC_39_6, gC_39_7, gC_39_8, gC_39_10, gC_39_11, gC_39_12, gC_39_13, gC_39_15, gC_39_16, gC_39_18, gC_39_19, gC_39_27, gC_39_28, gC_39_29, gC_39_30, gC_39_31, gC_39_36, gC_39_37, gC_39_41, gC_39_42, gC_39_43, gC_39_44, gC_39_46, gC_39_47, gC_39_48, gC_39_49, bI_rI, bV_rV, bQ_rN, bQ_rR, bz_0, bz_1, bz_Z, hZ0, hZ1, Lay_setI, Lay_setA, lu, u0, b_pow n (by omega), fm_in_v, inr_in (show 2 ^ n < 2 ^ 30 by omega)]
  have im : ∀ v, fm_isMap u v = rI (bz (inr v m)) u := fun v => by
    simp only [fm_isMap, gI_39, pI_39, rc_39, al_40, as_40, ln_40, al_41, as_41, ln_41, al_42, as_42, ln_42, al_43, as_43, ln_43, al_44, as_44, ln_44, al_45, as_45, ln_45, al_46, as_46, ln_46, al_47, as_47, ln_47, al_48, as_48, ln_48, al_49, as_49, ln_49, al_50, as_50, ln_50, al_51, as_51, ln_51, al_52, as_52, ln_52, al_53, as_53, ln_53, al_54, as_54, ln_54, al_55, as_55, ln_55, al_56, as_56, ln_56, al_57, as_57, ln_57, al_58, as_58, ln_58, al_59, as_59, ln_59, al_60, as_60, ln_60, al_61, as_61, ln_61, al_62, as_62, ln_62, al_63, as_63, ln_63, al_64, as_64, ln_64, al_65, as_65, ln_65, al_66, as_66, ln_66, al_67, as_67, ln_67, gC_39_4, gC_39_5, gC_39_6, gC_39_7, gC_39_8, gC_39_10, gC_39_11, gC_39_12, gC_39_13, gC_39_15, gC_39_16, gC_39_18, gC_39_19, gC_39_27, gC_39_28, gC_39_29, gC_39_30, gC_39_31, gC_39_36, gC_39_37, gC_39_41, gC_39_42, gC_39_43, gC_39_44, gC_39_46, gC_39_47, gC_39_48, gC_39_49, bI_rI, bV_rV, bQ_rN, bQ_rR, bz_0, bz_1, bz_Z, hZ0, hZ1, Lay_setI, Lay_setA, lu, u3, fm_in_v, inr_in (show m < 2 ^ 30 by omega)]
  have z2 : (nI m = 8) = (m = 8) := propext (nI_eq (b := 8) (by omega) (by decide))
  have e53 : fm_map_53 u a b c d = if m = 8 then rI (-4) u else rI (nI m) (mdT u m a b c d) := by
    by_cases cs : m = 8
    · simp only [fm_map_53, gI_39, pI_39, rc_39, al_40, as_40, ln_40, al_41, as_41, ln_41, al_42, as_42, ln_42, al_43, as_43, ln_43, al_44, as_44, ln_44, al_45, as_45, ln_45, al_46, as_46, ln_46, al_47, as_47, ln_47, al_48, as_48, ln_48, al_49, as_49, ln_49, al_50, as_50, ln_50, al_51, as_51, ln_51, al_52, as_52, ln_52, al_53, as_53, ln_53, al_54, as_54, ln_54, al_55, as_55, ln_55, al_56, as_56, ln_56, al_57, as_57, ln_57, al_58, as_58, ln_58, al_59, as_59, ln_59, al_60, as_60, ln_60, al_61, as_61, ln_61, al_62, as_62, ln_62, al_63, as_63, ln_63, al_64, as_64, ln_64, al_65, as_65, ln_65, al_66, as_66, ln_66, al_67, as_67, ln_67, gC_39_4, gC_39_5, gC_39_6, gC_39_7, gC_39_8, gC_39_10, gC_39_11, gC_39_12, gC_39_13, gC_39_15, gC_39_16, gC_39_18, gC_39_19, gC_39_27, gC_39_28, gC_39_29, gC_39_30, gC_39_31, gC_39_36, gC_39_37, gC_39_41, gC_39_42, gC_39_43, gC_39_44, gC_39_46, gC_39_47, gC_39_48, gC_39_49, bI_rI, bV_rV, bQ_rN, bQ_rR, bz_0, bz_1, bz_Z, hZ0, hZ1, Lay_setI, Lay_setA, lu, u3, z2, if_pos cs]
    · have hs : m < 8 := by omega
      have v1 : mI (setI u 40 m a) 39 3 = nI m := by rw [setI_ne (by decide)]; exact u3
      have v2 : mI (setI (setI u 40 m a) 41 m b) 39 3 = nI m := by rw [setI_ne (by decide)]; exact v1
      have v3 : mI (setI (setI (setI u 40 m a) 41 m b) 42 m c) 39 3 = nI m := by rw [setI_ne (by decide)]; exact v2
      have v4 : mI (setI (setI (setI (setI u 40 m a) 41 m b) 42 m c) 43 m d) 39 3 = nI m := by rw [setI_ne (by decide)]; exact v3
      have v5 : mI (setI (setI (setI (setI (setI u 40 m a) 41 m b) 42 m c) 43 m d) 44 m 1) 39 3 = nI m := by rw [setI_ne (by decide)]; exact v4
      have v6 : mI (setI (setI (setI (setI (setI (setI u 40 m a) 41 m b) 42 m c) 43 m d) 44 m 1) 39 3 (nI (m + 1))) 39 3 = nI (m + 1) := setI_eq rfl rfl
      simp only [fm_map_53, gI_39, pI_39, rc_39, al_40, as_40, ln_40, al_41, as_41, ln_41, al_42, as_42, ln_42, al_43, as_43, ln_43, al_44, as_44, ln_44, al_45, as_45, ln_45, al_46, as_46, ln_46, al_47, as_47, ln_47, al_48, as_48, ln_48, al_49, as_49, ln_49, al_50, as_50, ln_50, al_51, as_51, ln_51, al_52, as_52, ln_52, al_53, as_53, ln_53, al_54, as_54, ln_54, al_55, as_55, ln_55, al_56, as_56, ln_56, al_57, as_57, ln_57, al_58, as_58, ln_58, al_59, as_59, ln_59, al_60, as_60, ln_60, al_61, as_61, ln_61, al_62, as_62, ln_62, al_63, as_63, ln_63, al_64, as_64, ln_64, al_65, as_65, ln_65, al_66, as_66, ln_66, al_67, as_67, ln_67, gC_39_4, gC_39_5, gC_39_6, gC_39_7, gC_39_8, gC_39_10, gC_39_11, gC_39_12, gC_39_13, gC_39_15, gC_39_16, gC_39_18, gC_39_19, gC_39_27, gC_39_28, gC_39_29, gC_39_30, gC_39_31, gC_39_36, gC_39_37, gC_39_41, gC_39_42, gC_39_43, gC_39_44, gC_39_46, gC_39_47, gC_39_48, gC_39_49, bI_rI, bV_rV, bQ_rN, bQ_rR, bz_0, bz_1, bz_Z, hZ0, hZ1, Lay_setI, Lay_setA, lu, u3, z2, if_neg cs, hs, v1, v2, v3, v4, v5, nI_1, v6, nI_pred, mdT]
  simp only [fm_map, fm_in_v, in6, in10, it, im, e53, gI_39, pI_39, rc_39, al_40, as_40, ln_40, al_41, as_41, ln_41, al_42, as_42, ln_42, al_43, as_43, ln_43, al_44, as_44, ln_44, al_45, as_45, ln_45, al_46, as_46, ln_46, al_47, as_47, ln_47, al_48, as_48, ln_48, al_49, as_49, ln_49, al_50, as_50, ln_50, al_51, as_51, ln_51, al_52, as_52, ln_52, al_53, as_53, ln_53, al_54, as_54, ln_54, al_55, as_55, ln_55, al_56, as_56, ln_56, al_57, as_57, ln_57, al_58, as_58, ln_58, al_59, as_59, ln_59, al_60, as_60, ln_60, al_61, as_61, ln_61, al_62, as_62, ln_62, al_63, as_63, ln_63, al_64, as_64, ln_64, al_65, as_65, ln_65, al_66, as_66, ln_66, al_67, as_67, ln_67, gC_39_4, gC_39_5, gC_39_6, gC_39_7, gC_39_8, gC_39_10, gC_39_11, gC_39_12, gC_39_13, gC_39_15, gC_39_16, gC_39_18, gC_39_19, gC_39_27, gC_39_28, gC_39_29, gC_39_30, gC_39_31, gC_39_36, gC_39_37, gC_39_41, gC_39_42, gC_39_43, gC_39_44, gC_39_46, gC_39_47, gC_39_48, gC_39_49, bI_rI, bV_rV, bQ_rN, bQ_rR, bz_0, bz_1, bz_Z, hZ0, hZ1, Lay_setI, Lay_setA, lu, mv]
  rcases Bool.eq_false_or_eq_true (inr a 6) with ca | ca
  · rcases Bool.eq_false_or_eq_true (inr b (2 ^ n)) with cb | cb
    · rcases Bool.eq_false_or_eq_true (inr c (2 ^ n)) with cc | cc
      · rcases Bool.eq_false_or_eq_true (inr d 10) with cd | cd
        · simp only [ca, cb, cc, cd, if_false, Bool.true_and, Bool.true_eq_false]
          by_cases e1 : a = 1
          · simp only [if_pos e1, decide_eq_false (not_not_intro e1), Bool.false_or]
            rcases Bool.eq_false_or_eq_true (inr d m) with cm | cm
            · simp only [cm, if_true, Bool.true_eq_false, if_false]
            · simp only [cm, if_true, Bool.false_eq_true, if_false]
          · simp only [if_neg e1, decide_eq_true e1, Bool.true_or, if_true]
        · simp only [ca, cb, cc, cd, if_true, Bool.false_and, Bool.true_and, Bool.false_eq_true, Bool.true_eq_false, if_false]
      · simp only [ca, cb, cc, if_true, Bool.false_and, Bool.true_and, Bool.false_eq_true, Bool.true_eq_false, if_false]
    · simp only [ca, cb, if_true, Bool.false_and, Bool.true_and, Bool.false_eq_true, Bool.true_eq_false, if_false]
  · simp only [ca, if_true, Bool.false_and, Bool.false_eq_true, if_false]
end
