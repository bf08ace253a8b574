section
variable {n m s g x p : Nat} {t u : SM}
/-! the class's scan -/
def DD (G : GG) (i j : Nat) : Nat := cn9 (G 41 i ^^^ G 41 j)
def bsO (o : Option (Nat × Nat)) : Int32 := match o with
  | none => 0
  | some q => nI q.1
def lsO (L : Int32) (D : Nat → Nat → Nat) (o : Option (Nat × Nat)) : Int32 := match o with
  | none => L
  | some q => nI (D q.1 q.2)
theorem scJ_no {D : Nat → Nat → Nat} {dr : Nat → Bool} {i : Nat} {o : Option (Nat × Nat)} (hi : dr i = true) : ∀ m, scJ D dr i o m = o := by
  intro m
  induction m with
  | zero => rfl
  | succ m ih =>
    show tk D dr i m (scJ D dr i o m) = o
    rw [ih]; unfold tk; rw [if_neg (fun z => by rw [hi] at z; exact Bool.noConfusion z.1)]
theorem lsO_le {L : Int32} {G : GG} {o : Option (Nat × Nat)} {i j : Nat} (hL : L = 10 ∨ L = 99) : (lsO L (DD G) o ≤ nI (DD G i j)) ↔ ¬ ∀ q, o = some q → DD G i j < DD G q.1 q.2 := by
  have h9 : DD G i j ≤ 9 := cn9_le _
  cases o with
  | none =>
    constructor
    · intro h
      exfalso
      have h1 := Int32.le_iff_toInt_le.mp h
      rw [nI_toInt (by omega)] at h1
      rcases hL with rfl | rfl
      · have : (lsO 10 (DD G) none).toInt = 10 := rfl
        omega
      · have : (lsO 99 (DD G) none).toInt = 99 := rfl
        omega
    · intro h; exact absurd (fun q hq => by cases hq) h
  | some q =>
    have h92 : DD G q.1 q.2 ≤ 9 := cn9_le _
    show nI (DD G q.1 q.2) ≤ nI (DD G i j) ↔ _
    rw [Int32.le_iff_toInt_le, nI_toInt (by omega), nI_toInt (by omega)]
    constructor
    · intro h1 h2
      have := h2 q rfl; omega
    · intro h1
      by_cases c : DD G i j < DD G q.1 q.2
      · exact absurd (fun q' hq' => by obtain rfl := Option.some.inj hq'; exact c) h1
      · omega
theorem nl20 (h : Inv n m s g x p t) {v1 : Int32} {dr : Nat → Bool} (hb : ∀ k, k < 8 → bt v1 k = dr k) {i : Nat} (hi : i < m) (hd : dr i = false) {o0 : Option (Nat × Nat)} (h0 : tkP dr m o0) {k89 : SM → Int32 → Int32 → Int32 → Int32 → OR} : ∀ k j f u, j + k = m → k < f → FS [4] t u → (∀ q, scJ (DD (pm t)) dr i o0 j = some q → mI u 4 q.1 = nI q.2) →
    ∃ u', fAt_nearestLeft_l20 k89 f u v1 (bsO (scJ (DD (pm t)) dr i o0 j)) (lsO 10 (DD (pm t)) (scJ (DD (pm t)) dr i o0 j)) (nI i) (nI j) = k89 u' v1 (bsO (scJ (DD (pm t)) dr i o0 m)) (lsO 10 (DD (pm t)) (scJ (DD (pm t)) dr i o0 m)) (nI i) ∧ FS [4] t u' ∧ (∀ q, scJ (DD (pm t)) dr i o0 m = some q → mI u' 4 q.1 = nI q.2) ∧ ∀ q, dr q = true → mI u' 4 q = mI u 4 q := by
  have hr := h.rng
  intro k
  induction k with
  | zero =>
    intro j f u hj hf hu hro
    obtain ⟨f, rfl⟩ : ∃ f', f = f' + 1 := ⟨f - 1, by omega⟩
    obtain rfl : j = m := by omega
    have hI := h.fr hu.1
    have e9 : nI j ≤ nI j := Int32.le_refl _
    refine ⟨u, ?_, hu, hro, fun _ _ => rfl⟩
    show fAt_nearestLeft_20 _ _ u _ _ _ _ _ = _
    simp only [fAt_nearestLeft_20, gI_0, pI_0, rc_0, gI_1, pI_1, rc_1, ln_2, ql_2, al_3, as_3, ln_3, al_4, as_4, ln_4, gI_5, pI_5, rc_5, ln_6, ql_6, al_7, as_7, ln_7, al_8, as_8, ln_8, ln_9, ql_9, gI_10, pI_10, rc_10, al_11, as_11, ln_11, al_12, as_12, ln_12, gI_13, pI_13, rc_13, al_14, as_14, ln_14, ln_15, ql_15, gI_16, pI_16, rc_16, al_17, as_17, ln_17, al_18, as_18, ln_18, al_19, as_19, ln_19, al_20, as_20, ln_20, bl_21, bs_21, ln_21, gI_22, pI_22, rc_22, al_23, as_23, ln_23, al_24, as_24, ln_24, al_25, as_25, ln_25, gI_31, pI_31, rc_31, al_32, as_32, ln_32, gI_33, pI_33, rc_33, al_34, as_34, ln_34, gI_35, pI_35, rc_35, al_36, as_36, ln_36, gI_37, pI_37, rc_37, al_38, as_38, ln_38, gC_0_3, gC_0_4, gC_0_5, gC_0_7, gC_0_10, gC_0_11, gC_0_12, gC_0_13, gC_0_14, gC_0_15, gC_0_16, gC_0_17, gC_1_0, gC_1_2, gC_1_3, gC_5_0, gC_5_2, gC_10_0, gC_10_7, gC_13_5, gC_16_0, gC_16_2, gC_22_0, gC_22_1, gC_22_2, gC_22_3, gC_31_2, gC_33_2, gC_35_2, gC_37_2, bI_rI, bV_rV, bQ_rN, bQ_rR, bz_0, bz_1, bz_Z, hZ0, hZ1, Lay_setI, Lay_setA, hI.lay, hI.mp', e9, if_true]
  | succ k ih =>
    intro j f u hj hf hu hro
    obtain ⟨f, rfl⟩ : ∃ f', f = f' + 1 := ⟨f - 1, by omega⟩
    have hI := h.fr hu.1
    have hl := hI.lay
    have hjm : j < m := by omega
    have e9 : ¬ nI m ≤ nI j := nI_ge hjm (by omega)
    have bi := b_bit v1 (show i < 32 by omega)
    have bj := b_bit v1 (show j < 32 by omega)
    rw [hb i (by omega), hd] at bi
    rw [hb j (by omega)] at bj
    have es : scJ (DD (pm t)) dr i o0 (j + 1) = tk (DD (pm t)) dr i j (scJ (DD (pm t)) dr i o0 j) := rfl
    rcases Bool.eq_false_or_eq_true (dr j) with cj | cj
    · rw [cj] at bj
      have un := fAt_unlike_v hI hi hjm
      rw [hu.1.2, onc_nI] at un
      have un : fAt_unlike u (nI i) (nI j) = rI (nI (DD (pm t) i j)) u := un
      have le := lsO_le (L := 10) (G := pm t) (o := scJ (DD (pm t)) dr i o0 j) (i := i) (j := j) (Or.inl rfl)
      by_cases c : ∀ q, scJ (DD (pm t)) dr i o0 j = some q → DD (pm t) i j < DD (pm t) q.1 q.2
      · have e1 : scJ (DD (pm t)) dr i o0 (j + 1) = some (i, j) := by rw [es]; unfold tk; rw [if_pos ⟨hd, cj, c⟩]
        have nle : ¬ lsO 10 (DD (pm t)) (scJ (DD (pm t)) dr i o0 j) ≤ nI (DD (pm t) i j) := fun z => le.mp z c
        have sn := L_sni (t := u) (k := 4) (N := 8) (i := i) (c := nI j) hl (by decide) rfl (by omega)
        obtain ⟨u', f1, f2, f3, f4⟩ := ih (j + 1) f (setI u 4 i (nI j)) (by omega) (by omega) (hu.st rfl (by decide)) (fun q hq => by
          rw [e1] at hq
          obtain rfl := Option.some.inj hq
          exact setI_eq rfl rfl)
        refine ⟨u', ?_, f2, f3, fun q hq => ?_⟩
        · rw [← f1]
          show fAt_nearestLeft_20 _ _ u _ _ _ _ _ = _
          rw [e1]
          simp only [fAt_nearestLeft_20, gI_0, pI_0, rc_0, gI_1, pI_1, rc_1, ln_2, ql_2, al_3, as_3, ln_3, al_4, as_4, ln_4, gI_5, pI_5, rc_5, ln_6, ql_6, al_7, as_7, ln_7, al_8, as_8, ln_8, ln_9, ql_9, gI_10, pI_10, rc_10, al_11, as_11, ln_11, al_12, as_12, ln_12, gI_13, pI_13, rc_13, al_14, as_14, ln_14, ln_15, ql_15, gI_16, pI_16, rc_16, al_17, as_17, ln_17, al_18, as_18, ln_18, al_19, as_19, ln_19, al_20, as_20, ln_20, bl_21, bs_21, ln_21, gI_22, pI_22, rc_22, al_23, as_23, ln_23, al_24, as_24, ln_24, al_25, as_25, ln_25, gI_31, pI_31, rc_31, al_32, as_32, ln_32, gI_33, pI_33, rc_33, al_34, as_34, ln_34, gI_35, pI_35, rc_35, al_36, as_36, ln_36, gI_37, pI_37, rc_37, al_38, as_38, ln_38, gC_0_3, gC_0_4, gC_0_5, gC_0_7, gC_0_10, gC_0_11, gC_0_12, gC_0_13, gC_0_14, gC_0_15, gC_0_16, gC_0_17, gC_1_0, gC_1_2, gC_1_3, gC_5_0, gC_5_2, gC_10_0, gC_10_7, gC_13_5, gC_16_0, gC_16_2, gC_22_0, gC_22_1, gC_22_2, gC_22_3, gC_31_2, gC_33_2, gC_35_2, gC_37_2, bI_rI, bV_rV, bQ_rN, bQ_rR, bz_0, bz_1, bz_Z, hZ0, hZ1, Lay_setI, Lay_setA, hl, hI.mp', e9, if_false, bi, bj, if_true, un, nle, sn, nI_1]
          rfl
        · rw [f4 q hq, setI_I, if_neg]
          rintro ⟨_, rfl⟩
          rw [hd] at hq; exact Bool.noConfusion hq
      · have e1 : scJ (DD (pm t)) dr i o0 (j + 1) = scJ (DD (pm t)) dr i o0 j := by rw [es]; unfold tk; rw [if_neg (fun z => c z.2.2)]
        have nle : lsO 10 (DD (pm t)) (scJ (DD (pm t)) dr i o0 j) ≤ nI (DD (pm t) i j) := le.mpr c
        obtain ⟨u', f1, f2, f3, f4⟩ := ih (j + 1) f u (by omega) (by omega) hu (by rw [e1]; exact hro)
        refine ⟨u', ?_, f2, f3, f4⟩
        rw [← f1]
        show fAt_nearestLeft_20 _ _ u _ _ _ _ _ = _
        rw [e1]
        simp only [fAt_nearestLeft_20, gI_0, pI_0, rc_0, gI_1, pI_1, rc_1, ln_2, ql_2, al_3, as_3, ln_3, al_4, as_4, ln_4, gI_5, pI_5, rc_5, ln_6, ql_6, al_7, as_7, ln_7, al_8, as_8, ln_8, ln_9, ql_9, gI_10, pI_10, rc_10, al_11, as_11, ln_11, al_12, as_12, ln_12, gI_13, pI_13, rc_13, al_14, as_14, ln_14, ln_15, ql_15, gI_16, pI_16, rc_16, al_17, as_17, ln_17, al_18, as_18, ln_18, al_19, as_19, ln_19, al_20, as_20, ln_20, bl_21, bs_21, ln_21, gI_22, pI_22, rc_22, al_23, as_23, ln_23, al_24, as_24, ln_24, al_25, as_25, ln_25, gI_31, pI_31, rc_31, al_32, as_32, ln_32, gI_33, pI_33, rc_33, al_34, as_34, ln_34, gI_35, pI_35, rc_35, al_36, as_36, ln_36, gI_37, pI_37, rc_37, al_38, as_38, ln_38, gC_0_3, gC_0_4, gC_0_5, gC_0_7, gC_0_10, gC_0_11, gC_0_12, gC_0_13, gC_0_14, gC_0_15, gC_0_16, gC_0_17, gC_1_0, gC_1_2, gC_1_3, gC_5_0, gC_5_2, gC_10_0, gC_10_7, gC_13_5, gC_16_0, gC_16_2, gC_22_0, gC_22_1, gC_22_2, gC_22_3, gC_31_2, gC_33_2, gC_35_2, gC_37_2, bI_rI, bV_rV, bQ_rN, bQ_rR, bz_0, bz_1, bz_Z, hZ0, hZ1, Lay_setI, Lay_setA, hl, hI.mp', e9, if_false, bi, bj, if_true, un, nle, nI_1]
    · rw [cj] at bj
      have e1 : scJ (DD (pm t)) dr i o0 (j + 1) = scJ (DD (pm t)) dr i o0 j := by rw [es]; unfold tk; rw [if_neg (fun z => by rw [cj] at z; exact Bool.noConfusion z.2.1)]
      obtain ⟨u', f1, f2, f3, f4⟩ := ih (j + 1) f u (by omega) (by omega) hu (by rw [e1]; exact hro)
      refine ⟨u', ?_, f2, f3, f4⟩
      rw [← f1]
      show fAt_nearestLeft_20 _ _ u _ _ _ _ _ = _
      rw [e1]
      have z01 : ¬ (0 : Int32) = 1 := by decide
      simp only [fAt_nearestLeft_20, gI_0, pI_0, rc_0, gI_1, pI_1, rc_1, ln_2, ql_2, al_3, as_3, ln_3, al_4, as_4, ln_4, gI_5, pI_5, rc_5, ln_6, ql_6, al_7, as_7, ln_7, al_8, as_8, ln_8, ln_9, ql_9, gI_10, pI_10, rc_10, al_11, as_11, ln_11, al_12, as_12, ln_12, gI_13, pI_13, rc_13, al_14, as_14, ln_14, ln_15, ql_15, gI_16, pI_16, rc_16, al_17, as_17, ln_17, al_18, as_18, ln_18, al_19, as_19, ln_19, al_20, as_20, ln_20, bl_21, bs_21, ln_21, gI_22, pI_22, rc_22, al_23, as_23, ln_23, al_24, as_24, ln_24, al_25, as_25, ln_25, gI_31, pI_31, rc_31, al_32, as_32, ln_32, gI_33, pI_33, rc_33, al_34, as_34, ln_34, gI_35, pI_35, rc_35, al_36, as_36, ln_36, gI_37, pI_37, rc_37, al_38, as_38, ln_38, gC_0_3, gC_0_4, gC_0_5, gC_0_7, gC_0_10, gC_0_11, gC_0_12, gC_0_13, gC_0_14, gC_0_15, gC_0_16, gC_0_17, gC_1_0, gC_1_2, gC_1_3, gC_5_0, gC_5_2, gC_10_0, gC_10_7, gC_13_5, gC_16_0, gC_16_2, gC_22_0, gC_22_1, gC_22_2, gC_22_3, gC_31_2, gC_33_2, gC_35_2, gC_37_2, bI_rI, bV_rV, bQ_rN, bQ_rR, bz_0, bz_1, bz_Z, hZ0, hZ1, Lay_setI, Lay_setA, hl, hI.mp', e9, if_false, bi, bj, if_true, bz, Bool.false_eq_true, z01, nI_1]
theorem nl8 (h : Inv n m s g x p t) {v1 : Int32} {dr : Nat → Bool} (hb : ∀ k, k < 8 → bt v1 k = dr k) : ∀ k i f u, i + k = m → k < f → FS [4] t u → (∀ q, scI (DD (pm t)) dr m i = some q → mI u 4 q.1 = nI q.2) →
    ∃ u', fAt_nearestLeft_l8 f u v1 (bsO (scI (DD (pm t)) dr m i)) (lsO 10 (DD (pm t)) (scI (DD (pm t)) dr m i)) (nI i) = rI (bsO (scI (DD (pm t)) dr m m)) u' ∧ FS [4] t u' ∧ (∀ q, scI (DD (pm t)) dr m m = some q → mI u' 4 q.1 = nI q.2) ∧ ∀ q, dr q = true → mI u' 4 q = mI u 4 q := by
  have hr := h.rng
  intro k
  induction k with
  | zero =>
    intro i f u hj hf hu hro
    obtain ⟨f, rfl⟩ : ∃ f', f = f' + 1 := ⟨f - 1, by omega⟩
    obtain rfl : i = m := by omega
    have hI := h.fr hu.1
    have e9 : nI i ≤ nI i := Int32.le_refl _
    refine ⟨u, ?_, hu, hro, fun _ _ => rfl⟩
    show fAt_nearestLeft_8 _ u _ _ _ _ = _
    simp only [fAt_nearestLeft_8, gI_0, pI_0, rc_0, gI_1, pI_1, rc_1, ln_2, ql_2, al_3, as_3, ln_3, al_4, as_4, ln_4, gI_5, pI_5, rc_5, ln_6, ql_6, al_7, as_7, ln_7, al_8, as_8, ln_8, ln_9, ql_9, gI_10, pI_10, rc_10, al_11, as_11, ln_11, al_12, as_12, ln_12, gI_13, pI_13, rc_13, al_14, as_14, ln_14, ln_15, ql_15, gI_16, pI_16, rc_16, al_17, as_17, ln_17, al_18, as_18, ln_18, al_19, as_19, ln_19, al_20, as_20, ln_20, bl_21, bs_21, ln_21, gI_22, pI_22, rc_22, al_23, as_23, ln_23, al_24, as_24, ln_24, al_25, as_25, ln_25, gI_31, pI_31, rc_31, al_32, as_32, ln_32, gI_33, pI_33, rc_33, al_34, as_34, ln_34, gI_35, pI_35, rc_35, al_36, as_36, ln_36, gI_37, pI_37, rc_37, al_38, as_38, ln_38, gC_0_3, gC_0_4, gC_0_5, gC_0_7, gC_0_10, gC_0_11, gC_0_12, gC_0_13, gC_0_14, gC_0_15, gC_0_16, gC_0_17, gC_1_0, gC_1_2, gC_1_3, gC_5_0, gC_5_2, gC_10_0, gC_10_7, gC_13_5, gC_16_0, gC_16_2, gC_22_0, gC_22_1, gC_22_2, gC_22_3, gC_31_2, gC_33_2, gC_35_2, gC_37_2, bI_rI, bV_rV, bQ_rN, bQ_rR, bz_0, bz_1, bz_Z, hZ0, hZ1, Lay_setI, Lay_setA, hI.lay, hI.mp', e9, if_true]
  | succ k ih =>
    intro i f u hj hf hu hro
    obtain ⟨f, rfl⟩ : ∃ f', f = f' + 1 := ⟨f - 1, by omega⟩
    have hI := h.fr hu.1
    have him : i < m := by omega
    have e9 : ¬ nI m ≤ nI i := nI_ge him (by omega)
    have es : scI (DD (pm t)) dr m (i + 1) = scJ (DD (pm t)) dr i (scI (DD (pm t)) dr m i) m := rfl
    have st : ∀ c, fAt_nearestLeft_l8 (f + 1) u v1 (bsO (scI (DD (pm t)) dr m i)) (lsO 10 (DD (pm t)) (scI (DD (pm t)) dr m i)) (nI i) = c ↔ fAt_nearestLeft_l20 (fun t u1 u2 u3 u4 => fAt_nearestLeft_89 (fAt_nearestLeft_l8 f) t u1 u2 u3 u4) 1000000 u v1 (bsO (scI (DD (pm t)) dr m i)) (lsO 10 (DD (pm t)) (scI (DD (pm t)) dr m i)) (nI i) (nI 0) = c := fun c => by
      show fAt_nearestLeft_8 _ u _ _ _ _ = _ ↔ _
      simp only [fAt_nearestLeft_8, gI_0, pI_0, rc_0, gI_1, pI_1, rc_1, ln_2, ql_2, al_3, as_3, ln_3, al_4, as_4, ln_4, gI_5, pI_5, rc_5, ln_6, ql_6, al_7, as_7, ln_7, al_8, as_8, ln_8, ln_9, ql_9, gI_10, pI_10, rc_10, al_11, as_11, ln_11, al_12, as_12, ln_12, gI_13, pI_13, rc_13, al_14, as_14, ln_14, ln_15, ql_15, gI_16, pI_16, rc_16, al_17, as_17, ln_17, al_18, as_18, ln_18, al_19, as_19, ln_19, al_20, as_20, ln_20, bl_21, bs_21, ln_21, gI_22, pI_22, rc_22, al_23, as_23, ln_23, al_24, as_24, ln_24, al_25, as_25, ln_25, gI_31, pI_31, rc_31, al_32, as_32, ln_32, gI_33, pI_33, rc_33, al_34, as_34, ln_34, gI_35, pI_35, rc_35, al_36, as_36, ln_36, gI_37, pI_37, rc_37, al_38, as_38, ln_38, gC_0_3, gC_0_4, gC_0_5, gC_0_7, gC_0_10, gC_0_11, gC_0_12, gC_0_13, gC_0_14, gC_0_15, gC_0_16, gC_0_17, gC_1_0, gC_1_2, gC_1_3, gC_5_0, gC_5_2, gC_10_0, gC_10_7, gC_13_5, gC_16_0, gC_16_2, gC_22_0, gC_22_1, gC_22_2, gC_22_3, gC_31_2, gC_33_2, gC_35_2, gC_37_2, bI_rI, bV_rV, bQ_rN, bQ_rR, bz_0, bz_1, bz_Z, hZ0, hZ1, Lay_setI, Lay_setA, hI.lay, hI.mp', e9, if_false]
      exact Iff.rfl
    rcases Bool.eq_false_or_eq_true (dr i) with ci | ci
    · have e1 : scI (DD (pm t)) dr m (i + 1) = scI (DD (pm t)) dr m i := by rw [es, scJ_no ci]
      have bi := b_bit v1 (show i < 32 by omega)
      rw [hb i (by omega), ci] at bi
      obtain ⟨u', f1, f2, f3, f4⟩ := ih (i + 1) f u (by omega) (by omega) hu (by rw [e1]; exact hro)
      refine ⟨u', ?_, f2, f3, f4⟩
      rw [st, ← f1, e1]
      have e90 : ¬ nI m ≤ nI 0 := nI_ge (by omega) (by omega)
      show fAt_nearestLeft_20 _ _ u _ _ _ _ _ = _
      simp only [fAt_nearestLeft_20, gI_0, pI_0, rc_0, gI_1, pI_1, rc_1, ln_2, ql_2, al_3, as_3, ln_3, al_4, as_4, ln_4, gI_5, pI_5, rc_5, ln_6, ql_6, al_7, as_7, ln_7, al_8, as_8, ln_8, ln_9, ql_9, gI_10, pI_10, rc_10, al_11, as_11, ln_11, al_12, as_12, ln_12, gI_13, pI_13, rc_13, al_14, as_14, ln_14, ln_15, ql_15, gI_16, pI_16, rc_16, al_17, as_17, ln_17, al_18, as_18, ln_18, al_19, as_19, ln_19, al_20, as_20, ln_20, bl_21, bs_21, ln_21, gI_22, pI_22, rc_22, al_23, as_23, ln_23, al_24, as_24, ln_24, al_25, as_25, ln_25, gI_31, pI_31, rc_31, al_32, as_32, ln_32, gI_33, pI_33, rc_33, al_34, as_34, ln_34, gI_35, pI_35, rc_35, al_36, as_36, ln_36, gI_37, pI_37, rc_37, al_38, as_38, ln_38, gC_0_3, gC_0_4, gC_0_5, gC_0_7, gC_0_10, gC_0_11, gC_0_12, gC_0_13, gC_0_14, gC_0_15, gC_0_16, gC_0_17, gC_1_0, gC_1_2, gC_1_3, gC_5_0, gC_5_2, gC_10_0, gC_10_7, gC_13_5, gC_16_0, gC_16_2, gC_22_0, gC_22_1, gC_22_2, gC_22_3, gC_31_2, gC_33_2, gC_35_2, gC_37_2, bI_rI, bV_rV, bQ_rN, bQ_rR, bz_0, bz_1, bz_Z, hZ0, hZ1, Lay_setI, Lay_setA, hI.lay, hI.mp', e90, if_false, bi, Bool.true_eq_false, fAt_nearestLeft_89, nI_1]
    · obtain ⟨u1, g1, g2, g3, g4⟩ := nl20 h hb him ci (o0 := scI (DD (pm t)) dr m i) (scI_P i (by omega)) (k89 := fun t u1 u2 u3 u4 => fAt_nearestLeft_89 (fAt_nearestLeft_l8 f) t u1 u2 u3 u4) m 0 1000000 u (by omega) (by omega) hu hro
      obtain ⟨u', f1, f2, f3, f4⟩ := ih (i + 1) f u1 (by omega) (by omega) g2 g3
      refine ⟨u', ?_, f2, f3, fun q hq => by rw [f4 q hq, g4 q hq]⟩
      rw [st]
      refine g1.trans ?_
      rw [← f1, es]
      simp only [fAt_nearestLeft_89, nI_1]
end
