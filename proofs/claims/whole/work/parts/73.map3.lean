section
variable {n m s g x p : Nat} {t u : SM} {G : GG}
/-- maps added by the class: what stays -/
def CF (t u : SM) (l : Nat) : Prop := (∀ k, k < mN t → k ≠ 1 → k ≠ 3 → mI u k = mI t k) ∧ (∀ j, j ≠ 1 → mI u 1 j = mI t 1 j) ∧ (∀ k, k < mN t → mT u k = mT t k) ∧ (∀ k, k < mN t → k ≠ 2 → mR u k = mR t k) ∧ mN u = mN t + l ∧ mZ u = mZ t + 6 * l
theorem CF.refl (t : SM) : CF t t 0 := ⟨fun _ _ _ _ => rfl, fun _ _ => rfl, fun _ _ => rfl, fun _ _ _ => rfl, rfl, rfl⟩
theorem CF.trans {w : SM} {l l' : Nat} (h : CF t u l) (h' : CF u w l') : CF t w (l + l') := by
  have e := h.2.2.2.2.1
  refine ⟨fun k a b c => by rw [h'.1 k (by omega) b c, h.1 k a b c], fun j hj => by rw [h'.2.1 j hj, h.2.1 j hj], fun k a => by rw [h'.2.2.1 k (by omega), h.2.2.1 k a], fun k a b => by rw [h'.2.2.2.1 k (by omega) b, h.2.2.2.1 k a b], by rw [h'.2.2.2.2.1, e]; omega, by rw [h'.2.2.2.2.2, h.2.2.2.2.2]; omega⟩
def chT (t : SM) (a b c d e : Int32) : SM := setI (setI (setI (setI (setI (setI (mPush t 2 0 6) (mN t) 5 1) (mN t) 0 a) (mN t) 1 b) (mN t) 2 c) (mN t) 3 d) (mN t) 4 e
theorem chT_I (t : SM) (a b c d e : Int32) (q k : Nat) : mI (chT t a b c d e) q k = if q = mN t ∧ k = 4 then e else if q = mN t ∧ k = 3 then d else if q = mN t ∧ k = 2 then c else if q = mN t ∧ k = 1 then b else if q = mN t ∧ k = 0 then a else if q = mN t ∧ k = 5 then 1 else if q = mN t then 0 else mI t q k := by
  unfold chT
  rw [setI_I, setI_I, setI_I, setI_I, setI_I, setI_I, mPush_I]
  by_cases e : q = mN t
  · simp only [e, if_true]
  · simp only [e, if_false]
theorem ch_init (t : SM) (a b c d e : Int32) : fCh_init (mPush t 2 0 6) (mN t) a b c d e = rV (chT t a b c d e) := by
  have tq : (mT (mPush t 2 0 6) (mN t)).1 = 2 := by rw [mPush_T, if_pos rfl]
  simp only [fCh_init, hPutI, setI_T, tq, if_true]; rfl
theorem add_50 (h : CI n m G t) (hm : m < 8) {a b c d : Nat} (ha : a < 6) (hb : b < 2 ^ n) (hc : c < 2 ^ n) (hd : d ≤ 9) (h1 : a = 1 → d < m) {e : Int32} (he : a = 1 → e = G 41 d ^^^ nI b) : ∃ u, fAt_add_l80 (fun t u7 => fAt_add_139 t u7) 1000000 (chT t (nI a) (nI b) (nI c) (nI d) e) (mN t) ((1 : Int32) <<< (nI m &&& 31)) 0 = rI (nI m) u ∧ CI n (m + 1) (vg G m (nI a) (nI b) (nI c) (nI d)) u ∧ CF t u 1 := by
  obtain ⟨hl, ⟨h0, hmm⟩, hr, hM, ⟨hC, hI⟩, hA, hB⟩ := h
  have h68 := hl.1
  have hM' := vg_M hM ha hb hc hd h1
  have hag : ∀ i w, i < m → agr (vg G m (nI a) (nI b) (nI c) (nI d)) i w = agr G i w := fun i w hi => vg_agr hM hM' i i (Nat.le_refl i) hi
  have g0 : vg G m (nI a) (nI b) (nI c) (nI d) 40 m = nI a := by simp [vg]
  have g1 : vg G m (nI a) (nI b) (nI c) (nI d) 41 m = nI b := by simp [vg]
  have g2 : vg G m (nI a) (nI b) (nI c) (nI d) 42 m = nI c := by simp [vg]
  have g3 : vg G m (nI a) (nI b) (nI c) (nI d) 43 m = nI d := by simp [vg]
  have g4 : vg G m (nI a) (nI b) (nI c) (nI d) 44 m = 1 := by simp [vg]
  have a1 : nI a = 1 → a = 1 := fun z => (Eq.mp (propext (nI_eq (a := a) (b := 1) (by omega) (by decide))) z)
  have wI := chT_I t (nI a) (nI b) (nI c) (nI d) e
  have wT : ∀ k, mT (chT t (nI a) (nI b) (nI c) (nI d) e) k = if k = mN t then (2, 0) else mT t k := fun k => rfl
  have wR : ∀ k, mR (chT t (nI a) (nI b) (nI c) (nI d) e) k = if k = mN t then (fun _ => none) else mR t k := fun k => rfl
  have wN : mN (chT t (nI a) (nI b) (nI c) (nI d) e) = mN t + 1 := rfl
  have wZ : mZ (chT t (nI a) (nI b) (nI c) (nI d) e) = mZ t + 6 := rfl
  have wl : Lay (chT t (nI a) (nI b) (nI c) (nI d) e) := Lay_push (t := t) (gg := 2) (l := 0) (z := 6) hl
  generalize chT t (nI a) (nI b) (nI c) (nI d) e = v at *
  have v_lt : ∀ k, k < mN t → mI v k = mI t k := fun k hk => funext fun j => by
    rw [wI, if_neg (by omega), if_neg (by omega), if_neg (by omega), if_neg (by omega), if_neg (by omega), if_neg (by omega), if_neg (by omega)]
  have v0 : mI v (mN t) 0 = nI a := by rw [wI]; simp
  have v1 : mI v (mN t) 1 = nI b := by rw [wI]; simp
  have v2 : mI v (mN t) 2 = nI c := by rw [wI]; simp
  have v3 : mI v (mN t) 3 = nI d := by rw [wI]; simp
  have v4 : mI v (mN t) 4 = e := by rw [wI]; simp
  have v5 : mI v (mN t) 5 = 1 := by rw [wI]; simp
  have tq : (mT v (mN t)).1 = 2 := by rw [wT, if_pos rfl]
  have hF : NF (vg G m (nI a) (nI b) (nI c) (nI d)) m v (mN t) := ⟨tq, by rw [v0, g0], by rw [v1, g1], by rw [v2, g2], by rw [v3, g3], fun z => by
    rw [g0] at z
    have z := a1 z
    have hd2 := h1 z
    rw [v4, g3, g1, cN_i (by omega), vg_lt hd2]; exact he z⟩
  obtain ⟨w, f1, f2, f3, f4⟩ := l80_v (k139 := fun t u7 => fAt_add_139 t u7) hM' hr.1.2 hm (q := mN t) (by omega) 512 0 1000000 v rfl (by omega) wl hF (fun i _ hi => by
    obtain ⟨r, hr2, er, hb2⟩ := hA i hi
    exact ⟨r, hr2, by rw [v_lt 3 (by omega)]; exact er, fun i' hi' => by rw [hb2 i' hi', hag i' _ hi']⟩)
  have eT : mT w = mT v := by unfold mT; rw [f2]
  have eR : mR w = mR v := by unfold mR; rw [f2]
  have eN : mN w = mN t + 1 := by rw [← wN]; unfold mN; rw [f2]
  have eZ : mZ w = mZ t + 6 := by rw [← wZ]; unfold mZ; rw [f2]
  have lw : Lay w := by
    have : w = (w.1, v.2) := by rw [← f2]
    rw [this]; exact wl
  have w11 : mI w 1 1 = nI m := by rw [f3 1 (by decide), v_lt 1 (by omega)]; exact hmm
  have lw2 : Lay (setR w 2 m (some (mN t))) := Lay_setR lw (Or.inl rfl)
  have qs : ∀ c' : SM → OR, hQSt w 2 2 (nI m) (mN t) c' = c' (setR w 2 m (some (mN t))) := fun c' => by
    unfold hQSt
    rw [if_pos, nI_clamp (by omega)]
    refine ⟨by rw [lw.2.1 2 (by decide)]; rfl, ?_, by rw [eT]; exact tq⟩
    rw [lw.2.1 2 (by decide)]; exact nI_in (show m < 8 by omega) (by decide)
  have u11 : mI (setI (setR w 2 m (some (mN t))) 1 1 (nI (m + 1))) 1 1 = nI (m + 1) := setI_eq rfl rfl
  have r11 : mI (setR w 2 m (some (mN t))) 1 1 = nI m := w11
  refine ⟨setI (setR w 2 m (some (mN t))) 1 1 (nI (m + 1)), ?_, ?_, ?_⟩
  · show fAt_add_l80 _ 1000000 v (mN t) _ (nI 0) = _
    rw [f1]
    simp only [fAt_add_139, gI_0, pI_0, rc_0, gI_1, pI_1, rc_1, ln_2, ql_2, al_3, as_3, ln_3, al_4, as_4, ln_4, gI_5, pI_5, rc_5, ln_6, ql_6, al_7, as_7, ln_7, al_8, as_8, ln_8, ln_9, ql_9, gI_10, pI_10, rc_10, al_11, as_11, ln_11, al_12, as_12, ln_12, gI_13, pI_13, rc_13, al_14, as_14, ln_14, ln_15, ql_15, gI_16, pI_16, rc_16, al_17, as_17, ln_17, al_18, as_18, ln_18, al_19, as_19, ln_19, al_20, as_20, ln_20, bl_21, bs_21, ln_21, gI_22, pI_22, rc_22, al_23, as_23, ln_23, al_24, as_24, ln_24, al_25, as_25, ln_25, gI_31, pI_31, rc_31, al_32, as_32, ln_32, gI_33, pI_33, rc_33, al_34, as_34, ln_34, gI_35, pI_35, rc_35, al_36, as_36, ln_36, gI_37, pI_37, rc_37, al_38, as_38, ln_38, gC_0_3, gC_0_4, gC_0_5, gC_0_7, gC_0_10, gC_0_11, gC_0_12, gC_0_13, gC_0_14, gC_0_15, gC_0_16, gC_0_17, gC_1_0, gC_1_2, gC_1_3, gC_5_0, gC_5_2, gC_10_0, gC_10_7, gC_13_5, gC_16_0, gC_16_2, gC_22_0, gC_22_1, gC_22_2, gC_22_3, gC_31_2, gC_33_2, gC_35_2, gC_37_2, bI_rI, bV_rV, bQ_rN, bQ_rR, bz_0, bz_1, bz_Z, hZ0, hZ1, Lay_setI, Lay_setA, lw, lw2, w11, r11, qs, nI_1, u11, nI_pred]
  · have uI : ∀ k, k ≠ 1 → k ≠ 3 → mI (setI (setR w 2 m (some (mN t))) 1 1 (nI (m + 1))) k = mI v k := fun k k1 k3 => by
      rw [setI_ne k1]; exact f3 k k3
    have uT : ∀ k, mT (setI (setR w 2 m (some (mN t))) 1 1 (nI (m + 1))) k = if k = mN t then (2, 0) else mT t k := fun k => by
      show mT w k = _; rw [eT, wT]
    have uR : ∀ i, mR (setI (setR w 2 m (some (mN t))) 1 1 (nI (m + 1))) 2 i = if i = m then some (mN t) else mR t 2 i := fun i => by
      show mR (setR w 2 m (some (mN t))) 2 i = _
      rw [setR_R, eR, wR, if_neg (by omega : ¬ 2 = mN t)]
      by_cases z : i = m
      · rw [if_pos ⟨rfl, z⟩, if_pos z]
      · rw [if_neg (fun y => z y.2), if_neg z]
    have u3 : mI (setI (setR w 2 m (some (mN t))) 1 1 (nI (m + 1))) 3 = mI w 3 := by rw [setI_ne (by decide)]; rfl
    have uN : mN (setI (setR w 2 m (some (mN t))) 1 1 (nI (m + 1))) = mN t + 1 := eN
    have uL : Lay (setI (setR w 2 m (some (mN t))) 1 1 (nI (m + 1))) := lw2
    generalize setI (setR w 2 m (some (mN t))) 1 1 (nI (m + 1)) = u at *
    refine ⟨uL, ⟨by rw [uI 0 (by decide) (by decide), v_lt 0 (by omega)]; exact h0, u11⟩, ⟨hr.1, by omega⟩, hM', ⟨fun i hi => ?_, fun i j q hi hj e1 e2 => ?_⟩, ?_, ?_⟩
    · by_cases z : i = m
      · refine ⟨mN t, by rw [uR, if_pos z], ⟨h68, by omega⟩, by rw [uT, if_pos rfl], ?_, ?_⟩
        · rw [uT, if_neg (by omega)]
          intro e8
          have := (hB _ e8).1
          omega
        · rw [uI _ (by omega) (by omega), z, g0, g1, g2, g3, g4]
          exact ⟨v0, v1, v2, v3, fun y => by
            have := hF.2.2.2.2.2 (by rw [g0]; exact y)
            rw [g3, g1] at this; exact this, v5⟩
      · obtain ⟨q, hq, hc⟩ := hC i (by omega)
        have hb1 := hc.1
        refine ⟨q, by rw [uR, if_neg z]; exact hq, ⟨hb1.1, by omega⟩, by rw [uT, if_neg (by omega)]; exact hc.2.1, by rw [uT, if_neg (by omega)]; exact hc.2.2.1, ?_⟩
        have hi' : i < m := by omega
        rw [uI q (by omega) (by omega), v_lt q hb1.2, vg_lt hi', vg_lt hi', vg_lt hi', vg_lt hi', vg_lt hi']
        refine ⟨hc.2.2.2.1, hc.2.2.2.2.1, hc.2.2.2.2.2.1, hc.2.2.2.2.2.2.1, fun y => ?_, hc.2.2.2.2.2.2.2.2⟩
        obtain ⟨_, _, _, c', hc', ec, hlt⟩ := hM i hi'
        have hlt := hlt y
        rw [ec, cN_i (by omega), vg_lt (by omega), ← cN_i (show c' < 2 ^ 31 by omega), ← ec]
        exact hc.2.2.2.2.2.2.2.1 y
    · rw [uR] at e1 e2
      have old : ∀ i', i' < m + 1 → i' ≠ m → mR t 2 i' = some q → q ≠ mN t := fun i' h' n' hq => by
        obtain ⟨q', hq', hc⟩ := hC i' (by omega)
        have := hc.1.2
        rw [hq] at hq'
        obtain rfl := Option.some.inj hq'
        omega
      by_cases z1 : i = m
      · by_cases z2 : j = m
        · omega
        · rw [if_pos z1] at e1; rw [if_neg z2] at e2
          exact absurd (Option.some.inj e1).symm (old j hj z2 e2)
      · by_cases z2 : j = m
        · rw [if_neg z1] at e1; rw [if_pos z2] at e2
          exact absurd (Option.some.inj e2).symm (old i hi z1 e1)
        · rw [if_neg z1] at e1; rw [if_neg z2] at e2
          exact hI i j q (by omega) (by omega) e1 e2
    · rw [u3]
      refine RwA.nw hA hm hag (fun j hj => ?_)
      rw [f4 j, if_pos (by omega), v_lt 3 (by omega)]
    · rw [uN]; exact hB.gr (q := (2, 0)) (by decide) uT
  · refine ⟨fun k hk k1 k3 => ?_, fun j hj => ?_, fun k hk => ?_, fun k hk k2 => ?_, eN, eZ⟩
    · rw [setI_ne k1]; show mI w k = _; rw [f3 k k3, v_lt k hk]
    · rw [setI_I, if_neg (by omega)]; show mI w 1 j = _; rw [f3 1 (by decide), v_lt 1 (by omega)]
    · show mT w k = _; rw [eT, wT, if_neg (by omega)]
    · funext i
      show mR (setR w 2 m (some (mN t))) k i = _
      rw [setR_R, if_neg (fun y => k2 y.1), eR, wR, if_neg (by omega)]
end
