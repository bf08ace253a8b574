section
variable {n m s g x p : Nat} {t u : SM} {G : GG}
/-! what the class alone knows of its maps -/
def ChB (G : GG) (t : SM) (i q : Nat) : Prop := (68 ≤ q ∧ q < mN t) ∧ (mT t q).1 = 2 ∧ (mT t (q - 1)).1 ≠ 8 ∧ mI t q 0 = G 40 i ∧ mI t q 1 = G 41 i ∧ mI t q 2 = G 42 i ∧ mI t q 3 = G 43 i ∧ (G 40 i = 1 → mI t q 4 = G 41 (cN (G 43 i)) ^^^ G 41 i) ∧ mI t q 5 = G 44 i
def RwA (m : Nat) (G : GG) (f : Nat → Int32) : Prop := ∀ j, j < 512 → ∃ r, r < 256 ∧ f j = nI r ∧ ∀ i, i < m → r.testBit i = agr G i (nI j)
def CI (n m : Nat) (G : GG) (t : SM) : Prop := Lay t ∧ (mI t 0 0 = nI n ∧ mI t 1 1 = nI m) ∧ ((1 ≤ n ∧ n ≤ 9) ∧ m ≤ 8) ∧ IvM n m G ∧ ((∀ i, i < m → ∃ q, mR t 2 i = some q ∧ ChB G t i q) ∧ ∀ i j q, i < m → j < m → mR t 2 i = some q → mR t 2 j = some q → i = j) ∧ RwA m G (mI t 3) ∧ IvB (mT t) (mN t)
theorem CI.of (h : Inv n m s g x p t) : CI n m (pm t) t := by
  refine ⟨h.lay, ⟨h.ch', h.mp'⟩, ⟨h.rng.1, h.rng.2.1⟩, h.mps, ⟨fun i hi => ?_, h.chs.2⟩, fun j hj => ?_, h.tgs⟩
  · obtain ⟨q, hq, hc⟩ := h.chs.1 i hi
    have e : ∀ k, mI t q k = pm t q k := fun k => pm_cl hc.1.1 (by rw [hc.2.1]; decide) hc.2.2.1
    exact ⟨q, hq, hc.1, hc.2.1, hc.2.2.1, by rw [e]; exact hc.2.2.2.1, by rw [e]; exact hc.2.2.2.2.1, by rw [e]; exact hc.2.2.2.2.2.1, by rw [e]; exact hc.2.2.2.2.2.2.1, by rw [e]; exact hc.2.2.2.2.2.2.2.1, by rw [e]; exact hc.2.2.2.2.2.2.2.2⟩
  · rw [rp_3 h.lay]; exact h.agg j hj
/-- a map more -/
def vg (G : GG) (m : Nat) (a b c d : Int32) : GG := fun k i => if k = 40 ∧ i = m then a else if k = 41 ∧ i = m then b else if k = 42 ∧ i = m then c else if k = 43 ∧ i = m then d else if k = 44 ∧ i = m then 1 else G k i
theorem vg_lt {a b c d : Int32} {i k : Nat} (h : i < m) : vg G m a b c d k i = G k i := by
  unfold vg; rw [if_neg (by omega), if_neg (by omega), if_neg (by omega), if_neg (by omega), if_neg (by omega)]
theorem vg_M (hM : IvM n m G) {a b c d : Nat} (ha : a < 6) (hb : b < 2 ^ n) (hc : c < 2 ^ n) (hd : d ≤ 9) (h1 : a = 1 → d < m) : IvM n (m + 1) (vg G m (nI a) (nI b) (nI c) (nI d)) := by
  intro i hi
  by_cases e : i < m
  · rw [vg_lt e, vg_lt e, vg_lt e, vg_lt e]; exact hM i e
  · obtain rfl : i = m := by omega
    have e0 : vg G i (nI a) (nI b) (nI c) (nI d) 40 i = nI a := by simp [vg]
    have e1 : vg G i (nI a) (nI b) (nI c) (nI d) 41 i = nI b := by simp [vg]
    have e2 : vg G i (nI a) (nI b) (nI c) (nI d) 42 i = nI c := by simp [vg]
    have e3 : vg G i (nI a) (nI b) (nI c) (nI d) 43 i = nI d := by simp [vg]
    rw [e0, e1, e2, e3]
    refine ⟨⟨a, ha, rfl⟩, ⟨b, hb, rfl⟩, ⟨c, hc, rfl⟩, d, hd, rfl, fun e => h1 ?_⟩
    have := congrArg Int32.toInt e
    rw [nI_toInt (by omega)] at this
    have z : (1 : Int32).toInt = 1 := rfl
    rw [z] at this; omega
theorem vg_agr (hM : IvM n m G) {a b c d w : Int32} (hM' : IvM n (m + 1) (vg G m a b c d)) : ∀ k i, i ≤ k → i < m → agr (vg G m a b c d) i w = agr G i w := by
  intro k
  induction k with
  | zero =>
    intro i h0 hi
    obtain ⟨_, _, _, c', hc, e, hlt⟩ := hM i hi
    have n1 : ¬ G 40 i = 1 := fun z => absurd (hlt z) (by omega)
    rw [agr_eq hM w hi, agr_eq hM' w (by omega), vg_lt hi, if_neg n1, if_neg n1]
    unfold ag1 slp
    rw [vg_lt hi, vg_lt hi, vg_lt hi, vg_lt hi]
  | succ k ih =>
    intro i h0 hi
    obtain ⟨_, _, _, c', hc, e, hlt⟩ := hM i hi
    rw [agr_eq hM w hi, agr_eq hM' w (by omega), vg_lt hi]
    by_cases n1 : G 40 i = 1
    · have hl := hlt n1
      have ec : cN (G 43 i) = c' := by rw [e]; exact cN_i (by omega)
      rw [if_pos n1, if_pos n1, vg_lt hi, vg_lt hi, ec, vg_lt (by omega), ih c' (by omega) (by omega)]
    · rw [if_neg n1, if_neg n1]
      unfold ag1 slp
      rw [vg_lt hi, vg_lt hi, vg_lt hi, vg_lt hi]
/-- the agreeing row with a bit more -/
def nwR (m : Nat) (P : Bool) (v : Int32) : Int32 := if P = true then (v &&& (((1 : Int32) <<< (nI m &&& 31)) ^^^ (-1))) ||| ((1 : Int32) <<< (nI m &&& 31)) else v &&& (((1 : Int32) <<< (nI m &&& 31)) ^^^ (-1))
theorem nwR_nI : ∀ m, m < 8 → ∀ r, r < 256 → nwR m true (nI r) = nI (r ||| 2 ^ m) ∧ nwR m false (nI r) = nI (r &&& (255 ^^^ 2 ^ m)) := by decide +kernel
theorem nwR_bits : ∀ m, m < 8 → ∀ i, i < 8 → ∀ r, r < 256 → (r ||| 2 ^ m < 256 ∧ r &&& (255 ^^^ 2 ^ m) < 256) ∧ (r ||| 2 ^ m).testBit i = (r.testBit i || i == m) ∧ (r &&& (255 ^^^ 2 ^ m)).testBit i = (r.testBit i && !(i == m)) := by decide +kernel
theorem RwA.nw {f : Nat → Int32} (h : RwA m G f) (hm : m < 8) {G' : GG} (hG : ∀ i w, i < m → agr G' i w = agr G i w) {f' : Nat → Int32} (hf : ∀ j, j < 512 → f' j = nwR m (agr G' m (nI j)) (f j)) : RwA (m + 1) G' f' := by
  intro j hj
  obtain ⟨r, hr, e, hb⟩ := h j hj
  rw [hf j hj, e]
  cases ca : agr G' m (nI j)
  · refine ⟨r &&& (255 ^^^ 2 ^ m), ((nwR_bits m hm 0 (by decide) r hr).1).2, (nwR_nI m hm r hr).2, fun i hi => ?_⟩
    rw [(nwR_bits m hm i (by omega) r hr).2.2]
    by_cases z : i = m
    · rw [z, ca]; simp
    · rw [hG i _ (by omega), hb i (by omega)]
      have : (i == m) = false := by simp [z]
      rw [this]; simp
  · refine ⟨r ||| 2 ^ m, ((nwR_bits m hm 0 (by decide) r hr).1).1, (nwR_nI m hm r hr).1, fun i hi => ?_⟩
    rw [(nwR_bits m hm i (by omega) r hr).2.1]
    by_cases z : i = m
    · rw [z, ca]; simp
    · rw [hG i _ (by omega), hb i (by omega)]
      have : (i == m) = false := by simp [z]
      rw [this]; simp
def NF (G : GG) (m : Nat) (u : SM) (q : Nat) : Prop := (mT u q).1 = 2 ∧ mI u q 0 = G 40 m ∧ mI u q 1 = G 41 m ∧ mI u q 2 = G 42 m ∧ mI u q 3 = G 43 m ∧ (G 40 m = 1 → mI u q 4 = G 41 (cN (G 43 m)) ^^^ G 41 m)
theorem l80_v (hM : IvM n (m + 1) G) (hn : n ≤ 9) (hm : m < 8) {k139 : SM → Nat → OR} {q : Nat} (hq : q ≠ 3) : ∀ k j f u, j + k = 512 → k < f → Lay u → NF G m u q → (∀ i, j ≤ i → i < 512 → ∃ r, r < 256 ∧ mI u 3 i = nI r ∧ ∀ i', i' < m → r.testBit i' = agr G i' (nI i)) →
    ∃ u', fAt_add_l80 k139 f u q ((1 : Int32) <<< (nI m &&& 31)) (nI j) = k139 u' q ∧ u'.2 = u.2 ∧ (∀ k, k ≠ 3 → mI u' k = mI u k) ∧ ∀ i, mI u' 3 i = if j ≤ i ∧ i < 512 then nwR m (agr G m (nI i)) (mI u 3 i) else mI u 3 i := by
  intro k
  induction k with
  | zero =>
    intro j f u hj hf hl _ _
    obtain ⟨f, rfl⟩ : ∃ f', f = f' + 1 := ⟨f - 1, by omega⟩
    obtain rfl : j = 512 := by omega
    refine ⟨u, ?_, rfl, fun _ _ => rfl, fun i => by rw [if_neg (by omega)]⟩
    show fAt_add_80 _ _ u q _ (nI 512) = _
    have z : (nI 512 ≤ nI 512) = True := by decide
    simp only [fAt_add_80, gI_0, pI_0, rc_0, gI_1, pI_1, rc_1, ln_2, ql_2, al_3, as_3, ln_3, al_4, as_4, ln_4, gI_5, pI_5, rc_5, ln_6, ql_6, al_7, as_7, ln_7, al_8, as_8, ln_8, ln_9, ql_9, gI_10, pI_10, rc_10, al_11, as_11, ln_11, al_12, as_12, ln_12, gI_13, pI_13, rc_13, al_14, as_14, ln_14, ln_15, ql_15, gI_16, pI_16, rc_16, al_17, as_17, ln_17, al_18, as_18, ln_18, al_19, as_19, ln_19, al_20, as_20, ln_20, bl_21, bs_21, ln_21, gI_22, pI_22, rc_22, al_23, as_23, ln_23, al_24, as_24, ln_24, al_25, as_25, ln_25, gI_31, pI_31, rc_31, al_32, as_32, ln_32, gI_33, pI_33, rc_33, al_34, as_34, ln_34, gI_35, pI_35, rc_35, al_36, as_36, ln_36, gI_37, pI_37, rc_37, al_38, as_38, ln_38, gC_0_3, gC_0_4, gC_0_5, gC_0_7, gC_0_10, gC_0_11, gC_0_12, gC_0_13, gC_0_14, gC_0_15, gC_0_16, gC_0_17, gC_1_0, gC_1_2, gC_1_3, gC_5_0, gC_5_2, gC_10_0, gC_10_7, gC_13_5, gC_16_0, gC_16_2, gC_22_0, gC_22_1, gC_22_2, gC_22_3, gC_31_2, gC_33_2, gC_35_2, gC_37_2, bI_rI, bV_rV, bQ_rN, bQ_rR, bz_0, bz_1, bz_Z, hZ0, hZ1, Lay_setI, Lay_setA, hl, z, if_true]
  | succ k ih =>
    intro j f u hj hf hl hF hR
    obtain ⟨f, rfl⟩ : ∃ f', f = f' + 1 := ⟨f - 1, by omega⟩
    have hj5 : j < 512 := by omega
    obtain ⟨r, hr, er, hb⟩ := hR j (Nat.le_refl j) hj5
    have z : ¬ nI 512 ≤ nI j := nI_ge hj5 (by decide)
    have rc : ∀ c : OR, hRecv u 2 q c = c := fun c => if_pos hF.1
    have ag := cag hM hn hj5 (u := u) (q := q) (b := nI r &&& (((1 : Int32) <<< (nI m &&& 31)) ^^^ (-1))) hF.1 hF.2.1 hF.2.2.1 hF.2.2.2.1 hF.2.2.2.2.1 hF.2.2.2.2.2 (fun e1 => by
      obtain ⟨_, _, _, c, hc, ec, hlt⟩ := hM m (by omega)
      have hlt := hlt e1
      have ecn : cN (G 43 m) = c := by rw [ec]; exact cN_i (by omega)
      rw [ecn, b_and, b_not _ (by omega), b_one (by omega) (by omega), decide_eq_false (by omega), b_ni _ _ (by omega), hb c hlt]
      simp)
    have step : fAt_add_80 k139 (fAt_add_l80 k139 f) u q ((1 : Int32) <<< (nI m &&& 31)) (nI j) = fAt_add_l80 k139 f (setI u 3 j (nwR m (agr G m (nI j)) (nI r))) q ((1 : Int32) <<< (nI m &&& 31)) (nI (j + 1)) := by
      simp only [fAt_add_80, gI_0, pI_0, rc_0, gI_1, pI_1, rc_1, ln_2, ql_2, al_3, as_3, ln_3, al_4, as_4, ln_4, gI_5, pI_5, rc_5, ln_6, ql_6, al_7, as_7, ln_7, al_8, as_8, ln_8, ln_9, ql_9, gI_10, pI_10, rc_10, al_11, as_11, ln_11, al_12, as_12, ln_12, gI_13, pI_13, rc_13, al_14, as_14, ln_14, ln_15, ql_15, gI_16, pI_16, rc_16, al_17, as_17, ln_17, al_18, as_18, ln_18, al_19, as_19, ln_19, al_20, as_20, ln_20, bl_21, bs_21, ln_21, gI_22, pI_22, rc_22, al_23, as_23, ln_23, al_24, as_24, ln_24, al_25, as_25, ln_25, gI_31, pI_31, rc_31, al_32, as_32, ln_32, gI_33, pI_33, rc_33, al_34, as_34, ln_34, gI_35, pI_35, rc_35, al_36, as_36, ln_36, gI_37, pI_37, rc_37, al_38, as_38, ln_38, gC_0_3, gC_0_4, gC_0_5, gC_0_7, gC_0_10, gC_0_11, gC_0_12, gC_0_13, gC_0_14, gC_0_15, gC_0_16, gC_0_17, gC_1_0, gC_1_2, gC_1_3, gC_5_0, gC_5_2, gC_10_0, gC_10_7, gC_13_5, gC_16_0, gC_16_2, gC_22_0, gC_22_1, gC_22_2, gC_22_3, gC_31_2, gC_33_2, gC_35_2, gC_37_2, bI_rI, bV_rV, bQ_rN, bQ_rR, bz_0, bz_1, bz_Z, hZ0, hZ1, Lay_setI, Lay_setA, hl, z, if_false, hj5, er, rc, ag, nI_1]
      cases agr G m (nI j)
      · simp only [bz_0, if_true, nwR, Bool.false_eq_true, if_false]
      · simp only [bz_0, Bool.true_eq_false, if_false, nwR, if_true]
    obtain ⟨u', e1, e2, e3, e4⟩ := ih (j + 1) f (setI u 3 j (nwR m (agr G m (nI j)) (nI r))) (by omega) (by omega) hl (by
      refine ⟨hF.1, ?_, ?_, ?_, ?_, fun z => ?_⟩
      · rw [setI_ne hq]; exact hF.2.1
      · rw [setI_ne hq]; exact hF.2.2.1
      · rw [setI_ne hq]; exact hF.2.2.2.1
      · rw [setI_ne hq]; exact hF.2.2.2.2.1
      · rw [setI_ne hq]; exact hF.2.2.2.2.2 z) (fun i h1 h2 => by
      obtain ⟨r2, a1, a2, a3⟩ := hR i (by omega) h2
      refine ⟨r2, a1, ?_, a3⟩
      rw [setI_I, if_neg (by omega)]; exact a2)
    refine ⟨u', ?_, e2, fun k hk => by rw [e3 k hk, setI_ne hk], fun i => ?_⟩
    · show fAt_add_80 _ _ u q _ (nI j) = _
      rw [step]; exact e1
    · rw [e4 i, setI_I]
      by_cases z1 : i = j
      · rw [if_neg (by omega), if_pos ⟨rfl, z1⟩, if_pos (by omega), z1, er]
      · by_cases z2 : j ≤ i ∧ i < 512
        · rw [if_pos (by omega), if_neg (by omega), if_pos z2]
        · rw [if_neg (by omega), if_neg (by omega), if_neg z2]
end
