section
variable {n m s g x p : Nat} {t u : SM}
/-! new cells -/
theorem mPush_I {gg l z k : Nat} : mI (mPush t gg l z) k = if k = mN t then (fun _ => 0) else mI t k := rfl
theorem mPush_T {gg l z k : Nat} : mT (mPush t gg l z) k = if k = mN t then (gg, l) else mT t k := rfl
theorem mPush_N {gg l z : Nat} : mN (mPush t gg l z) = mN t + 1 := rfl
theorem mPush_Z {gg l z : Nat} : mZ (mPush t gg l z) = mZ t + z := rfl
theorem mPush_R {gg l z k : Nat} : mR (mPush t gg l z) k = if k = mN t then (fun _ => none) else mR t k := rfl
theorem setR_I {k j : Nat} {o : Option Nat} : mI (setR t k j o) = mI t := rfl
theorem setR_T {k j : Nat} {o : Option Nat} : mT (setR t k j o) = mT t := rfl
theorem setR_N {k j : Nat} {o : Option Nat} : mN (setR t k j o) = mN t := rfl
theorem setR_Z {k j : Nat} {o : Option Nat} : mZ (setR t k j o) = mZ t := rfl
theorem setR_R {k j q i : Nat} {o : Option Nat} : mR (setR t k j o) q i = if q = k ∧ i = j then o else mR t q i := by
  show (if q = k then va_up (t.2.1 q) j o else t.2.1 q) i = _
  by_cases hq : q = k
  · rw [if_pos hq]
    by_cases hi : i = j
    · subst hi; rw [if_pos ⟨hq, rfl⟩]; simp [va_up]
    · rw [if_neg (fun e => hi e.2)]; simp [va_up, hi, mR]
  · rw [if_neg hq, if_neg (fun e => hq e.1)]; rfl
theorem Lay_push (hl : Lay t) {gg l z : Nat} : Lay (mPush t gg l z) := by
  have h := hl.1
  refine ⟨by rw [mPush_N]; omega, fun k hk => by rw [mPush_T, if_neg (by omega)]; exact hl.2.1 k hk, fun r hr => ?_⟩
  have hlt : ∀ r ∈ refL, r.1 < 68 := by decide +kernel
  have := hlt r hr
  rw [mPush_R, if_neg (by omega)]; exact hl.2.2 r hr
theorem Lay_setR (hl : Lay t) {k j : Nat} {o : Option Nat} (hk : k = 2 ∨ k = 6 ∨ k = 9 ∨ 68 ≤ k) : Lay (setR t k j o) := by
  refine ⟨hl.1, hl.2.1, fun r hr => ?_⟩
  have hne : ∀ r ∈ refL, r.1 ≠ 2 ∧ r.1 ≠ 6 ∧ r.1 ≠ 9 ∧ r.1 < 68 := by decide +kernel
  have := hne r hr
  rw [setR_R, if_neg (by omega)]; exact hl.2.2 r hr
theorem pm_lt {k : Nat} (hT : ∀ k, k < mN t → mT u k = mT t k) (hk : k < mN t) (hI : mI u k = mI t k) : pm u k = pm t k := by
  funext j
  unfold pm scr
  rw [hI, hT k hk, hT (k - 1) (by omega)]
theorem pm_lt1 {k j : Nat} (hT : ∀ k, k < mN t → mT u k = mT t k) (hk : k < mN t) (hI : mI u k j = mI t k j) : pm u k j = pm t k j := by
  unfold pm scr
  rw [hI, hT k hk, hT (k - 1) (by omega)]
variable {G G' : GG} {R R' : Nat → Nat → Option Nat} {T T' : Nat → Nat × Nat} {N N' : Nat}
theorem IvC.gr (h : IvC m G R T N) (h0 : G' 40 = G 40) (h1 : G' 41 = G 41) (h2 : G' 42 = G 42) (h3 : G' 43 = G 43) (h4 : G' 44 = G 44) (hG : ∀ k, 68 ≤ k → k < N → G' k = G k) (hT : ∀ k, k < N → T' k = T k) (hR : ∀ i, i < m → R' 2 i = R 2 i) (hN : N ≤ N') : IvC m G' R' T' N' := by
  refine ⟨fun i hi => ?_, fun i j q a b c d => h.2 i j q a b (by rw [← hR i a]; exact c) (by rw [← hR j b]; exact d)⟩
  obtain ⟨q, hq, hc⟩ := h.1 i hi
  have hb := hc.1
  refine ⟨q, by rw [hR i hi]; exact hq, ⟨hb.1, by omega⟩, ?_⟩
  rw [hT q hb.2, hT (q - 1) (by omega), hG q hb.1 hb.2, h0, h1, h2, h3, h4]
  exact hc.2
theorem IvR.gr (h : IvR n s G R T N) (h0 : G' 45 = G 45) (h1 : G' 46 = G 46) (h2 : G' 47 = G 47) (h3 : G' 48 = G 48) (hG : ∀ k, 68 ≤ k → k < N → G' k = G k) (hT : ∀ k, k < N → T' k = T k) (hR : ∀ i, i < s → R' 6 i = R 6 i) (hN : N ≤ N') : IvR n s G' R' T' N' := by
  intro i hi
  obtain ⟨a, q, hq, hc⟩ := h i hi
  have hb := hc.1
  refine ⟨by unfold StV; rw [h0, h1, h2, h3]; exact a, q, by rw [hR i hi]; exact hq, ⟨hb.1, by omega⟩, ?_⟩
  rw [hT q hb.2, hT (q - 1) (by omega), hG q hb.1 hb.2, h0, h1, h2, h3]
  exact hc.2
theorem IvX.gr (h : IvX x G R T N) (h1 : G' 51 = G 51) (h2 : G' 52 = G 52) (hG : ∀ k, (26 ≤ k ∧ k ≤ 29) ∨ 68 ≤ k → k < N → G' k = G k) (hT : ∀ k, k < N → T' k = T k) (hR : ∀ i, i < x → R' 9 i = R 9 i) (hR2 : ∀ q, q < N → (T q).1 = 8 → R' q = R q) (hN : N ≤ N') : IvX x G' R' T' N' := by
  intro i hi
  obtain ⟨q, hq, a, b, c, d, e, f, gg⟩ := h i hi
  have ec : ∀ z, cds G' i z = cds G i z := fun z => by unfold cds; rw [h1, h2]
  have a1 := a.1; have a2 := a.2
  have er : R' q = R q := hR2 q (by omega) b
  refine ⟨q, by rw [hR i hi]; exact hq, ⟨a1, by omega⟩, by rw [hT q (by omega)]; exact b, by rw [hT (q - 4) (by omega)]; exact c, by rw [hT (q + 1) (by omega)]; exact d, by rw [er]; exact e, fun z hz => ?_, fun z hz => ?_⟩
  · obtain ⟨f1, b1, d1, f2, f3, f4, f5, f6, f7, f8⟩ := f z hz
    refine ⟨by rw [er]; exact f1, b1, d1, f2, f3, by rw [h2]; exact f4, by rw [h2]; exact f5, by rw [hT _ (by omega)]; exact f6, fun k hk2 => ?_, by rw [ec]; exact f8⟩
    obtain ⟨cc, g1, g2, g3⟩ := f7 k hk2
    exact ⟨cc, g1, by rw [h1]; exact g2, by rw [hG _ (by omega) (by omega)]; exact g3⟩
  · rw [hG q (by omega) (by omega), ec]; exact gg z hz
theorem IvB.gr (h : IvB T N) {q : Nat × Nat} (hq : q.1 ≠ 8) (hT : ∀ k, T' k = if k = N then q else T k) : IvB T' (N + 1) := by
  intro k hk
  rw [hT] at hk
  by_cases e : k = N
  · rw [if_pos e] at hk; exact absurd hk hq
  · rw [if_neg e] at hk
    obtain ⟨a, b⟩ := h k hk
    exact ⟨by omega, by rw [hT, if_neg (by omega)]; exact b⟩
theorem IvA.gr (h : IvA m G) (h3 : G' 3 = G 3) (h0 : G' 40 = G 40) (h1 : G' 41 = G 41) (h2 : G' 42 = G 42) (h4 : G' 43 = G 43) : IvA m G' := by
  have : ∀ w f i, agF G' w f i = agF G w f i := by
    intro w f
    have e : ∀ i, ag1 G' i w = ag1 G i w := fun i => by unfold ag1 slp; rw [h0, h1, h2, h4]
    induction f with
    | zero => intro i; exact e i
    | succ f ih => intro i; unfold agF; rw [e, ih, h0, h1, h4]
  intro j hj
  obtain ⟨q, a, b, c⟩ := h j hj
  exact ⟨q, a, by rw [h3]; exact b, fun i hi => by unfold agr; rw [this]; exact c i hi⟩
/-! street -/
theorem m1c (c : Int32) (hn : n ≤ 9) : (decide ((-1 : Int32) ≤ c) && decide (c ≤ nI n - 1)) = (decide (c = -1) || inr c n) := by
  have zm : (-1 : Int32).toInt = -1 := rfl
  have z0 : (0 : Int32).toInt = 0 := rfl
  have e : (nI n - 1).toInt = (n : Int) - 1 := pk_sub_toInt (b := 1) (by omega) (by decide)
  have e2 : (nI n).toInt = n := nI_toInt (by omega)
  have ec : (c = -1) = (c.toInt = -1) := propext ⟨fun h => by rw [h]; rfl, fun h => Int32.toInt_inj.mp (h.trans zm.symm)⟩
  unfold inr
  rw [Bool.eq_iff_iff, Bool.and_eq_true, Bool.or_eq_true, Bool.and_eq_true, decide_eq_true_eq, decide_eq_true_eq, decide_eq_true_eq, decide_eq_true_eq, decide_eq_true_eq, ec, Int32.le_iff_toInt_le, Int32.le_iff_toInt_le, Int32.le_iff_toInt_le, Int32.lt_iff_toInt_lt, zm, z0, e, e2]
  omega
def stT (t : SM) (s : Nat) (a b c d : Int32) : SM := setI (setR (setI (setI (setI (setI (mPush t 6 0 4) (mN t) 0 a) (mN t) 1 b) (mN t) 2 c) (mN t) 3 d) 6 s (some (mN t))) 5 1 (nI (s + 1))
theorem add_street (hl : Lay t) (h1 : mI t 5 1 = nI s) (hs : s < 12) (a b c d : Int32) : fSs_add t a b c d = rI (nI s) (stT t s a b c d) := by
  have h68 := hl.1
  have l0 : Lay (mPush t 6 0 4) := Lay_push hl
  have tq : (mT (mPush t 6 0 4) (mN t)).1 = 6 := by rw [mPush_T, if_pos rfl]
  have n1 : ¬ nI s < 0 := nI_pos (by omega)
  have n2 : nI s < nI 12 := nI_lt hs (by decide)
  have fi : fSt_init (mPush t 6 0 4) (mN t) a b c d = rV (setI (setI (setI (setI (mPush t 6 0 4) (mN t) 0 a) (mN t) 1 b) (mN t) 2 c) (mN t) 3 d) := by
    simp only [fSt_init, hPutI, setI_T, tq, if_true]
  have lq : Lay (setI (setI (setI (setI (mPush t 6 0 4) (mN t) 0 a) (mN t) 1 b) (mN t) 2 c) (mN t) 3 d) := l0
  have tq4 : (mT (setI (setI (setI (setI (mPush t 6 0 4) (mN t) 0 a) (mN t) 1 b) (mN t) 2 c) (mN t) 3 d) (mN t)).1 = 6 := tq
  have qs : ∀ c' : SM → OR, hQSt (setI (setI (setI (setI (mPush t 6 0 4) (mN t) 0 a) (mN t) 1 b) (mN t) 2 c) (mN t) 3 d) 6 6 (nI s) (mN t) c' = c' (setR (setI (setI (setI (setI (mPush t 6 0 4) (mN t) 0 a) (mN t) 1 b) (mN t) 2 c) (mN t) 3 d) 6 s (some (mN t))) := fun c' => by
    unfold hQSt
    rw [if_pos, nI_clamp (by omega)]
    refine ⟨by rw [lq.2.1 6 (by decide)]; rfl, ?_, tq4⟩
    rw [lq.2.1 6 (by decide)]; exact nI_in (show s < 12 by omega) (by decide)
  have l5 : Lay (setR (setI (setI (setI (setI (mPush t 6 0 4) (mN t) 0 a) (mN t) 1 b) (mN t) 2 c) (mN t) 3 d) 6 s (some (mN t))) := Lay_setR lq (Or.inr (Or.inl rfl))
  have v5 : mI (setR (setI (setI (setI (setI (mPush t 6 0 4) (mN t) 0 a) (mN t) 1 b) (mN t) 2 c) (mN t) 3 d) 6 s (some (mN t))) 5 1 = nI s := by
    rw [setR_I, setI_ne (by omega), setI_ne (by omega), setI_ne (by omega), setI_ne (by omega), mPush_I, if_neg (by omega)]; exact h1
  have v6 : mI (stT t s a b c d) 5 1 = nI (s + 1) := setI_eq rfl rfl
  have l6 : Lay (stT t s a b c d) := l5
  have k1 : ∀ c : OR, hRecv (mPush t 6 0 4) 6 (mN t) c = c := fun c => if_pos tq
  simp only [fSs_add, gI_0, pI_0, rc_0, gI_1, pI_1, rc_1, ln_2, ql_2, al_3, as_3, ln_3, al_4, as_4, ln_4, gI_5, pI_5, rc_5, ln_6, ql_6, al_7, as_7, ln_7, al_8, as_8, ln_8, ln_9, ql_9, gI_10, pI_10, rc_10, al_11, as_11, ln_11, al_12, as_12, ln_12, gI_13, pI_13, rc_13, al_14, as_14, ln_14, ln_15, ql_15, gI_16, pI_16, rc_16, al_17, as_17, ln_17, al_18, as_18, ln_18, al_19, as_19, ln_19, al_20, as_20, ln_20, bl_21, bs_21, ln_21, gI_22, pI_22, rc_22, al_23, as_23, ln_23, al_24, as_24, ln_24, al_25, as_25, ln_25, gI_31, pI_31, rc_31, al_32, as_32, ln_32, gI_33, pI_33, rc_33, al_34, as_34, ln_34, gI_35, pI_35, rc_35, al_36, as_36, ln_36, gI_37, pI_37, rc_37, al_38, as_38, ln_38, gC_0_3, gC_0_4, gC_0_5, gC_0_7, gC_0_10, gC_0_11, gC_0_12, gC_0_13, gC_0_14, gC_0_15, gC_0_16, gC_0_17, gC_1_0, gC_1_2, gC_1_3, gC_5_0, gC_5_2, gC_10_0, gC_10_7, gC_13_5, gC_16_0, gC_16_2, gC_22_0, gC_22_1, gC_22_2, gC_22_3, gC_31_2, gC_33_2, gC_35_2, gC_37_2, bI_rI, bV_rV, bQ_rN, bQ_rR, bz_0, bz_1, bz_Z, hZ0, hZ1, Lay_setI, Lay_setA, hl, h1, n1, n2, if_true, if_false, hNew, k1, fi, qs, l5, v5, nI_1]
  show rI (mI (stT t s a b c d) 5 1 - 1) (stT t s a b c d) = _
  rw [v6, nI_pred]
end
