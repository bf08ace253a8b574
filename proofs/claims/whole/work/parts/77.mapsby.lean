section
variable {n m s g x p : Nat} {t u w : SM} {G G' : GG}
/-! one map in both, apart -/
def MW (n m : Nat) (G : GG) (w : SM) : Prop := Lay w ∧ mI w 39 0 = nI n ∧ mI w 39 3 = nI m ∧ ∀ k, 40 ≤ k → k ≤ 44 → mI w k = G k
def MD (w w' : SM) : Prop := w'.2 = w.2 ∧ (∀ k, k ∉ [39, 40, 41, 42, 43, 44] → mI w' k = mI w k) ∧ ∀ j, j ≠ 3 → mI w' 39 j = mI w 39 j
theorem MD.refl (w : SM) : MD w w := ⟨rfl, fun _ _ => rfl, fun _ _ => rfl⟩
theorem MD.tr {w1 w2 w3 : SM} (h : MD w1 w2) (h2 : MD w2 w3) : MD w1 w3 := ⟨h2.1.trans h.1, fun k hk => (h2.2.1 k hk).trans (h.2.1 k hk), fun j hj => (h2.2.2 j hj).trans (h.2.2 j hj)⟩
theorem mstep (hc : CI n m G u) (a b c d : Int32) : ∃ v m' G' u' l, fx_map u a b c d = rI v u' ∧ CI n m' G' u' ∧ CF u u' l ∧ l ≤ 1 ∧ m ≤ m' ∧ ∀ w, MW n m G w → ∃ w', fm_map w a b c d = rI v w' ∧ MW n m' G' w' ∧ MD w w' := by
  have hr := hc.2.2.1
  rcases Bool.eq_false_or_eq_true (mv n m a b c d) with cv | cv
  · by_cases cs : m = 8
    · subst cs
      refine ⟨-4, 8, G, u, 0, ?_, hc, CF.refl u, by omega, Nat.le_refl _, fun w hw => ⟨w, ?_, hw, MD.refl w⟩⟩
      · rw [fx_map_e hc, if_pos cv, add_full hc, bI_rI]
      · rw [fm_map_v hw.1 hw.2.1 hw.2.2.1 hr.1.2 hr.2, if_pos cv, if_pos rfl]
    · obtain ⟨a', b', c', d', ⟨ha, hb, hcc, hd, h1⟩, rfl, rfl, rfl, rfl⟩ := mv_t hr.1.2 hr.2 cv
      obtain ⟨u', f1, f2, f3⟩ := add_map hc (by omega) ha hb hcc hd h1
      refine ⟨nI m, m + 1, vg G m (nI a') (nI b') (nI c') (nI d'), u', 1, ?_, f2, f3, Nat.le_refl _, by omega, fun w hw => ⟨mdT w m (nI a') (nI b') (nI c') (nI d'), ?_, ⟨hw.1, ?_, mdT_3, mdT_4 hw.2.2.2⟩, rfl, fun k hk => mdT_o hk, fun j hj => mdT_39 hj⟩⟩
      · rw [fx_map_e hc, if_pos cv, f1, bI_rI]
      · rw [fm_map_v hw.1 hw.2.1 hw.2.2.1 hr.1.2 hr.2, if_pos cv, if_neg cs]
      · rw [mdT_39 (by decide)]; exact hw.2.1
  · refine ⟨-2, m, G, u, 0, ?_, hc, CF.refl u, by omega, Nat.le_refl _, fun w hw => ⟨w, ?_, hw, MD.refl w⟩⟩
    · rw [fx_map_e hc, if_neg (by rw [cv]; decide)]
    · rw [fm_map_v hw.1 hw.2.1 hw.2.2.1 hr.1.2 hr.2, if_neg (by rw [cv]; decide)]
theorem nat_v (hl : Lay u) {i : Nat} (hi : i < 4) {y : Nat} (hy : y < 40) : fSh_numberAtPlace u (31 + 2 * i) (nI y) = rI (mI u (32 + 2 * i) y) u := by
  have e : inr (nI y) 40 = true := inr_i hy (by decide)
  have := L_na hl (k := 32 + 2 * i) (N := 40) (by omega) (sheet_lay hi).2 (nI y)
  rw [e, if_pos rfl, cN_i (by omega)] at this
  simp only [fSh_numberAtPlace, sh_r hl hi, this, bI_rI]
theorem nI_a2 (y : Nat) : nI y + 2 = nI (y + 2) := nI_add y 2
theorem nI_a3 (y : Nat) : nI y + 3 = nI (y + 3) := nI_add y 3
theorem by4 (hl : Lay u) {i : Nat} (hi : i < 4) {y : Nat} (hy : y + 4 ≤ 40) : fx_mapByFour u (31 + 2 * i) (nI y) = bI (fx_map u (mI u (32 + 2 * i) y) (mI u (32 + 2 * i) (y + 1)) (mI u (32 + 2 * i) (y + 2)) (mI u (32 + 2 * i) (y + 3))) (fun v w => rI v w) := by
  simp only [fx_mapByFour, sh_c hl hi, nI_1, nI_a2, nI_a3, nat_v hl hi (show y < 40 by omega), nat_v hl hi (show y + 1 < 40 by omega), nat_v hl hi (show y + 2 < 40 by omega), nat_v hl hi (show y + 3 < 40 by omega), bI_rI, rc_0 hl]
/-- the steps that are left, in both -/
theorem mb_in (S : Nat → Int32) {i z : Nat} (hi : i < 4) (hz : z ≤ 40) {v0 d : Nat} (hv : v0 ≤ 40) (hd : d ≤ 8) : ∀ k j f1 f2 m G u (cnt : Int32), j + k = d → k < f1 → k < f2 → CI n m G u → mI u (31 + 2 * i) 1 = nI z → (∀ y, y < 40 → mI u (32 + 2 * i) y = S y) →
    ∃ v m' G' u' l, fx_mapsBy_l66 f1 u (nI v0) (nI d) (31 + 2 * i) cnt (nI j) = rI v u' ∧ CI n m' G' u' ∧ CF u u' l ∧ l ≤ k ∧ m ≤ m' ∧ ∀ w, MW n m G w → mI w 55 i = nI z → (∀ y, y < 40 → mI w 56 (40 * i + y) = S y) → ∃ w', fm_mapsBy_l64 f2 w (nI i) (nI v0) (nI d) cnt (nI j) = rI v w' ∧ MW n m' G' w' ∧ MD w w' := by
  intro k
  induction k with
  | zero =>
    intro j f1 f2 m G u cnt hj h1 h2 hc _ _
    obtain ⟨f1, rfl⟩ : ∃ f', f1 = f' + 1 := ⟨f1 - 1, by omega⟩
    obtain ⟨f2, rfl⟩ : ∃ f', f2 = f' + 1 := ⟨f2 - 1, by omega⟩
    obtain rfl : j = d := by omega
    have z : (nI j ≤ nI j) = True := eq_true (Int32.le_refl _)
    refine ⟨cnt, m, G, u, 0, ?_, hc, CF.refl u, Nat.le_refl _, Nat.le_refl _, fun w hw _ _ => ⟨w, ?_, hw, MD.refl w⟩⟩
    · show fx_mapsBy_66 _ u _ _ _ _ _ = _
      simp only [fx_mapsBy_66, z, if_true]
    · show fm_mapsBy_64 _ w _ _ _ _ _ = _
      simp only [fm_mapsBy_64, z, if_true]
  | succ k ih =>
    intro j f1 f2 m G u cnt hj h1 h2 hc hz1 hS
    obtain ⟨f1, rfl⟩ : ∃ f', f1 = f' + 1 := ⟨f1 - 1, by omega⟩
    obtain ⟨f2, rfl⟩ : ∃ f', f2 = f' + 1 := ⟨f2 - 1, by omega⟩
    have hl := hc.1
    have h68 := hl.1
    have zd : ¬ nI d ≤ nI j := nI_ge (by omega) (by omega)
    have z40 : nI v0 ≤ 40 := nI_le (b := 40) hv (by decide)
    have zn : ¬ nI v0 < 0 := nI_pos (by omega)
    have zo : ¬ nI (v0 + 4 * j) < nI v0 := nI_nlt (by omega) (by omega)
    have sp := spans_v hl hi hz1 (nI (v0 + 4 * j)) 4
    have sq : (decide ((0 : Int32) ≤ nI (v0 + 4 * j)) && decide (nI (v0 + 4 * j) ≤ nI z - 4)) = true ↔ v0 + 4 * j + 4 ≤ z := (spn (b := nI (v0 + 4 * j)) (z := z) (k := 4) hz (by decide)).trans ⟨fun ⟨a, e, ha⟩ => by
      have := congrArg cN e
      rw [cN_i (by omega), cN_i (by omega)] at this; omega, fun e => ⟨_, rfl, e⟩⟩
    have sle : (nI (v0 + 4 * j) ≤ nI z - 4) = (v0 + 4 * j + 4 ≤ z) := propext ⟨fun e => sq.mp (by
      rw [decide_eq_true e, Bool.and_true]; exact decide_eq_true (Int32.not_lt.mp (nI_pos (by omega)))), fun e => by
      have := sq.mpr e
      rw [Bool.and_eq_true, decide_eq_true_eq, decide_eq_true_eq] at this; exact this.2⟩
    by_cases cz : v0 + 4 * j + 4 ≤ z
    · rw [sq.mpr cz] at sp
      obtain ⟨v, m1, G1, u1, l1, e1, e2, e3, e4, e5, e6⟩ := mstep hc (S (v0 + 4 * j)) (S (v0 + 4 * j + 1)) (S (v0 + 4 * j + 2)) (S (v0 + 4 * j + 3))
      have b4 := by4 hl hi (y := v0 + 4 * j) (by omega)
      rw [hS _ (by omega), hS _ (by omega), hS _ (by omega), hS _ (by omega), e1, bI_rI] at b4
      have r1 : mI u1 (31 + 2 * i) = mI u (31 + 2 * i) := e3.1 _ (by omega) (by omega) (by omega)
      have r2 : mI u1 (32 + 2 * i) = mI u (32 + 2 * i) := e3.1 _ (by omega) (by omega) (by omega)
      obtain ⟨v', m2, G2, u2, l2, g1, g2, g3, g4, g5, g6⟩ := ih (j + 1) f1 f2 m1 G1 u1 (if v < 0 then cnt else cnt + 1) (by omega) (by omega) (by omega) e2 (by rw [r1]; exact hz1) (fun y hy => by rw [r2]; exact hS y hy)
      refine ⟨v', m2, G2, u2, l1 + l2, ?_, g2, e3.trans g3, by omega, by omega, fun w hw w55 w56 => ?_⟩
      · rw [← g1]
        show fx_mapsBy_66 _ u _ _ _ _ _ = _
        simp only [fx_mapsBy_66, if_neg zd, if_pos z40, sh_c hl hi, l4, nI_add, sp, bI_rI, bz_0, Bool.true_eq_false, if_false, rc_0 hl, b4, nI_1]
        by_cases c : v < 0
        · rw [if_pos c, if_pos c]
        · rw [if_neg c, if_neg c]
      · obtain ⟨w1, a1, a2, a3⟩ := e6 w hw
        have q1 : mI w1 55 = mI w 55 := a3.2.1 55 (by decide)
        have q2 : mI w1 56 = mI w 56 := a3.2.1 56 (by decide)
        obtain ⟨w2, d1, d2, d3⟩ := g6 w1 a2 (by rw [q1]; exact w55) (fun y hy => by rw [q2]; exact w56 y hy)
        refine ⟨w2, ?_, d2, a3.tr d3⟩
        rw [← d1]
        have lw := hw.1
        have x0 := w56 (v0 + 4 * j) (by omega)
        have x1 := w56 (v0 + 4 * j + 1) (by omega)
        have x2 := w56 (v0 + 4 * j + 2) (by omega)
        have x3 := w56 (v0 + 4 * j + 3) (by omega)
        rw [← Nat.add_assoc] at x1 x2 x3
        have o0 : 40 * i + (v0 + 4 * j) < 160 := by omega
        have o1 : 40 * i + (v0 + 4 * j) + 1 < 160 := by omega
        have o2 : 40 * i + (v0 + 4 * j) + 2 < 160 := by omega
        have o3 : 40 * i + (v0 + 4 * j) + 3 < 160 := by omega
        show fm_mapsBy_64 _ w _ _ _ _ _ = _
        simp only [fm_mapsBy_64, if_neg zd, if_neg zn, l4, nI_add, if_neg zo, gI_39, pI_39, rc_39, al_40, as_40, ln_40, al_41, as_41, ln_41, al_42, as_42, ln_42, al_43, as_43, ln_43, al_44, as_44, ln_44, al_45, as_45, ln_45, al_46, as_46, ln_46, al_47, as_47, ln_47, al_48, as_48, ln_48, al_49, as_49, ln_49, al_50, as_50, ln_50, al_51, as_51, ln_51, al_52, as_52, ln_52, al_53, as_53, ln_53, al_54, as_54, ln_54, al_55, as_55, ln_55, al_56, as_56, ln_56, al_57, as_57, ln_57, al_58, as_58, ln_58, al_59, as_59, ln_59, al_60, as_60, ln_60, al_61, as_61, ln_61, al_62, as_62, ln_62, al_63, as_63, ln_63, al_64, as_64, ln_64, al_65, as_65, ln_65, al_66, as_66, ln_66, al_67, as_67, ln_67, gC_39_4, gC_39_5, gC_39_6, gC_39_7, gC_39_8, gC_39_10, gC_39_11, gC_39_12, gC_39_13, gC_39_15, gC_39_16, gC_39_18, gC_39_19, gC_39_27, gC_39_28, gC_39_29, gC_39_30, gC_39_31, gC_39_36, gC_39_37, gC_39_41, gC_39_42, gC_39_43, gC_39_44, gC_39_46, gC_39_47, gC_39_48, gC_39_49, bI_rI, bV_rV, bQ_rN, bQ_rR, bz_0, bz_1, bz_Z, hZ0, hZ1, Lay_setI, Lay_setA, lw, hi, w55, sle, if_pos cz, l40, nI_1, nI_a2, nI_a3, o0, o1, o2, o3, x0, x1, x2, x3, a1, Int32.add_zero]
        by_cases c : v < 0
        · rw [if_pos c, if_pos c]
        · rw [if_neg c, if_neg c]
    · have spf : (decide ((0 : Int32) ≤ nI (v0 + 4 * j)) && decide (nI (v0 + 4 * j) ≤ nI z - 4)) = false := by
        rcases Bool.eq_false_or_eq_true (decide ((0 : Int32) ≤ nI (v0 + 4 * j)) && decide (nI (v0 + 4 * j) ≤ nI z - 4)) with q | q
        · exact absurd (sq.mp q) cz
        · exact q
      rw [spf] at sp
      refine ⟨-12, m, G, u, 0, ?_, hc, CF.refl u, by omega, Nat.le_refl _, fun w hw w55 w56 => ⟨w, ?_, hw, MD.refl w⟩⟩
      · show fx_mapsBy_66 _ u _ _ _ _ _ = _
        simp only [fx_mapsBy_66, if_neg zd, if_pos z40, sh_c hl hi, l4, nI_add, sp, bI_rI, bz_0, if_true]
      · have lw := hw.1
        show fm_mapsBy_64 _ w _ _ _ _ _ = _
        simp only [fm_mapsBy_64, if_neg zd, if_neg zn, l4, nI_add, if_neg zo, gI_39, pI_39, rc_39, al_40, as_40, ln_40, al_41, as_41, ln_41, al_42, as_42, ln_42, al_43, as_43, ln_43, al_44, as_44, ln_44, al_45, as_45, ln_45, al_46, as_46, ln_46, al_47, as_47, ln_47, al_48, as_48, ln_48, al_49, as_49, ln_49, al_50, as_50, ln_50, al_51, as_51, ln_51, al_52, as_52, ln_52, al_53, as_53, ln_53, al_54, as_54, ln_54, al_55, as_55, ln_55, al_56, as_56, ln_56, al_57, as_57, ln_57, al_58, as_58, ln_58, al_59, as_59, ln_59, al_60, as_60, ln_60, al_61, as_61, ln_61, al_62, as_62, ln_62, al_63, as_63, ln_63, al_64, as_64, ln_64, al_65, as_65, ln_65, al_66, as_66, ln_66, al_67, as_67, ln_67, gC_39_4, gC_39_5, gC_39_6, gC_39_7, gC_39_8, gC_39_10, gC_39_11, gC_39_12, gC_39_13, gC_39_15, gC_39_16, gC_39_18, gC_39_19, gC_39_27, gC_39_28, gC_39_29, gC_39_30, gC_39_31, gC_39_36, gC_39_37, gC_39_41, gC_39_42, gC_39_43, gC_39_44, gC_39_46, gC_39_47, gC_39_48, gC_39_49, bI_rI, bV_rV, bQ_rN, bQ_rR, bz_0, bz_1, bz_Z, hZ0, hZ1, Lay_setI, Lay_setA, lw, hi, w55, sle, if_neg cz]
end
