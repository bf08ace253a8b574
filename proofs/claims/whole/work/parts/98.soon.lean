section
variable {n m s g x p : Nat} {t0 t u : SM}
abbrev CL (G : GG) (s : Nat) (L : List Nat) (e S p : Nat) : Nat := CW G (oL G L) s (EL G s L) L.length e S p
def full (L : List Nat) : Nat := 2 ^ L.length - 1
def soonV (G : GG) (s : Nat) (L : List Nat) (a e : Nat) : Int32 := wyv (CL G s L e (full L) a)
def s_soon (n m s : Nat) (G : GG) (a : Int32) : Int32 := if twB a = true then (if few (WL n m G (evB m)) = true then soonV G s (WL n m G (evB m)) (cN a / 10) (cN a % 10) else -3) else -5
theorem full_f {L : List Nat} (h1 : 1 ≤ L.length) : 1 ≤ full L ∧ full L < 2 ^ L.length := by
  have h2 : 2 ^ 1 ≤ 2 ^ L.length := Nat.pow_le_pow_right (by decide) h1
  unfold full; omega
theorem full_b (L : List Nat) (k : Nat) : (full L).testBit k = decide (k < L.length) := Nat.testBit_two_pow_sub_one _ _
theorem lt_mil {v : Nat} (hv : v ≤ 1000000) : (nI v < 1000000) = (v < 1000000) := propext (nI_ltI (b := 1000000) (by omega) (by decide))
theorem goal_start {a b : Nat} (ha : a < 6) (hb : b < 6) (t : SM) : fx_goalOf t (nI (10 * a + b)) = rI (nI b) t ∧ fx_startOf t (nI (10 * a + b)) = rI (nI a) t := by
  unfold fx_goalOf fx_startOf
  rw [tw_div a ha b hb, tw_rem a ha b hb]
  exact ⟨rfl, rfl⟩
theorem xq_soon (h : Inv n m s g x p t) (a : Int32) : QQ t (fx_soon t a) (s_soon n m s (pm t) a) := by
  have hr := h.rng
  have hpw := pw_lt (n := n) (by omega)
  unfold s_soon
  simp only [fx_soon, fx_isTwo_v, gI_0, pI_0, rc_0, gI_1, pI_1, rc_1, ln_2, ql_2, al_3, as_3, ln_3, al_4, as_4, ln_4, gI_5, pI_5, rc_5, ln_6, ql_6, al_7, as_7, ln_7, al_8, as_8, ln_8, ln_9, ql_9, gI_10, pI_10, rc_10, al_11, as_11, ln_11, al_12, as_12, ln_12, gI_13, pI_13, rc_13, al_14, as_14, ln_14, ln_15, ql_15, gI_16, pI_16, rc_16, al_17, as_17, ln_17, al_18, as_18, ln_18, al_19, as_19, ln_19, al_20, as_20, ln_20, bl_21, bs_21, ln_21, gI_22, pI_22, rc_22, al_23, as_23, ln_23, al_24, as_24, ln_24, al_25, as_25, ln_25, gI_31, pI_31, rc_31, al_32, as_32, ln_32, gI_33, pI_33, rc_33, al_34, as_34, ln_34, gI_35, pI_35, rc_35, al_36, as_36, ln_36, gI_37, pI_37, rc_37, al_38, as_38, ln_38, gC_0_3, gC_0_4, gC_0_5, gC_0_7, gC_0_10, gC_0_11, gC_0_12, gC_0_13, gC_0_14, gC_0_15, gC_0_16, gC_0_17, gC_1_0, gC_1_2, gC_1_3, gC_5_0, gC_5_2, gC_10_0, gC_10_7, gC_13_5, gC_16_0, gC_16_2, gC_22_0, gC_22_1, gC_22_2, gC_22_3, gC_31_2, gC_33_2, gC_35_2, gC_37_2, bI_rI, bV_rV, bQ_rN, bQ_rR, bz_0, bz_1, bz_Z, hZ0, hZ1, Lay_setI, Lay_setA, h.lay]
  cases ca : twB a
  · simp only [if_true]; exact QQ.pure rfl
  · obtain ⟨i, j, hi, hj, rfl⟩ := twB_t ca
    obtain ⟨u, eu, fu, gu⟩ := findFewWorlds_v h
    have hu := h.fr fu.1
    simp only [Bool.true_eq_false, if_false, if_true, eu, bI_rI, bz_0]
    cases c : few (WL n m (pm t) (evB m))
    · simp only [if_true]; exact ⟨u, rfl, fu.1⟩
    · obtain ⟨c1, c2⟩ := few_t c
      have hb : ∀ w, w ∈ WL n m (pm t) (evB m) → w < 512 := fun w hw => by have := WL_lt (pm t) (evB m) w hw; omega
      obtain ⟨hf1, hf2⟩ := full_f c1
      have h7 : 2 ^ (WL n m (pm t) (evB m)).length ≤ 2 ^ 7 := Nat.pow_le_pow_right (by decide) c2
      obtain ⟨u2, e2, f2, g5, g4, see, rw2⟩ := study_v (e := j) hu gu c2 c1 hb hj
      have hu2 := hu.fr f2.1
      have lv := longestFor_v (u := u2) (p := i) (S := full (WL n m (pm t) (evB m))) hu2.lay hi (by omega)
      rw [rw2 _ i hf1 hf2 hi] at lv
      have hmil := CW_mil (G := pm u) (o := oL (pm u) (WL n m (pm t) (evB m))) (e := j) (EL_eqv (pm u) s (WL n m (pm t) (evB m))) c2 (SV.of hu) (by omega) hf2 hf1 i
      obtain ⟨tg, ts⟩ := two_ab hi hj
      simp only [Bool.true_eq_false, if_false, if_true, gI_0, pI_0, rc_0, gI_1, pI_1, rc_1, ln_2, ql_2, al_3, as_3, ln_3, al_4, as_4, ln_4, gI_5, pI_5, rc_5, ln_6, ql_6, al_7, as_7, ln_7, al_8, as_8, ln_8, ln_9, ql_9, gI_10, pI_10, rc_10, al_11, as_11, ln_11, al_12, as_12, ln_12, gI_13, pI_13, rc_13, al_14, as_14, ln_14, ln_15, ql_15, gI_16, pI_16, rc_16, al_17, as_17, ln_17, al_18, as_18, ln_18, al_19, as_19, ln_19, al_20, as_20, ln_20, bl_21, bs_21, ln_21, gI_22, pI_22, rc_22, al_23, as_23, ln_23, al_24, as_24, ln_24, al_25, as_25, ln_25, gI_31, pI_31, rc_31, al_32, as_32, ln_32, gI_33, pI_33, rc_33, al_34, as_34, ln_34, gI_35, pI_35, rc_35, al_36, as_36, ln_36, gI_37, pI_37, rc_37, al_38, as_38, ln_38, gC_0_3, gC_0_4, gC_0_5, gC_0_7, gC_0_10, gC_0_11, gC_0_12, gC_0_13, gC_0_14, gC_0_15, gC_0_16, gC_0_17, gC_1_0, gC_1_2, gC_1_3, gC_5_0, gC_5_2, gC_10_0, gC_10_7, gC_13_5, gC_16_0, gC_16_2, gC_22_0, gC_22_1, gC_22_2, gC_22_3, gC_31_2, gC_33_2, gC_35_2, gC_37_2, bI_rI, bV_rV, bQ_rN, bQ_rR, bz_0, bz_1, bz_Z, hZ0, hZ1, Lay_setI, Lay_setA, hu.lay, (goal_start hi hj u).1, e2, hu2.lay, (goal_start hi hj u2).2, fAW_longestFrom, g4, tg, ts]
      rw [show nI (2 ^ (WL n m (pm t) (evB m)).length - 1) = nI (full (WL n m (pm t) (evB m))) from rfl, lv]
      simp only [bI_rI, lt_mil hmil, bI_ite]
      refine ⟨u2, ?_, fu.1.trans f2.1⟩
      unfold soonV wyv
      rw [show pm u = pm t from fu.1.2]
      split <;> rfl
/-! where a town stands among the worlds -/
def plc (L : List Nat) (w : Nat) : Int32 := fst (fun k => decide (L.getD k 0 = w)) L.length 0
theorem placeOf_v {L : List Nat} (hl : Lay u) (hf : FdC L u) (h7 : L.length ≤ 512) (hb : ∀ w, w ∈ L → w < 512) {w : Nat} (hw : w < 512) : fWd_placeOf u (nI w) = rI (plc L w) u := by
  have key : ∀ d k f, k + d = L.length → d < f → fWd_placeOf_l2 f u (nI w) (nI k) = rI (fst (fun k => decide (L.getD k 0 = w)) d k) u := by
    intro d
    induction d with
    | zero =>
      intro k f hk hf2
      obtain ⟨f, rfl⟩ : ∃ f', f = f' + 1 := ⟨f - 1, by omega⟩
      obtain rfl : k = L.length := by omega
      have e1 : nI L.length ≤ nI L.length := Int32.le_refl _
      show fWd_placeOf_2 _ u (nI w) (nI L.length) = _
      simp only [fWd_placeOf_2, gI_0, pI_0, rc_0, gI_1, pI_1, rc_1, ln_2, ql_2, al_3, as_3, ln_3, al_4, as_4, ln_4, gI_5, pI_5, rc_5, ln_6, ql_6, al_7, as_7, ln_7, al_8, as_8, ln_8, ln_9, ql_9, gI_10, pI_10, rc_10, al_11, as_11, ln_11, al_12, as_12, ln_12, gI_13, pI_13, rc_13, al_14, as_14, ln_14, ln_15, ql_15, gI_16, pI_16, rc_16, al_17, as_17, ln_17, al_18, as_18, ln_18, al_19, as_19, ln_19, al_20, as_20, ln_20, bl_21, bs_21, ln_21, gI_22, pI_22, rc_22, al_23, as_23, ln_23, al_24, as_24, ln_24, al_25, as_25, ln_25, gI_31, pI_31, rc_31, al_32, as_32, ln_32, gI_33, pI_33, rc_33, al_34, as_34, ln_34, gI_35, pI_35, rc_35, al_36, as_36, ln_36, gI_37, pI_37, rc_37, al_38, as_38, ln_38, gC_0_3, gC_0_4, gC_0_5, gC_0_7, gC_0_10, gC_0_11, gC_0_12, gC_0_13, gC_0_14, gC_0_15, gC_0_16, gC_0_17, gC_1_0, gC_1_2, gC_1_3, gC_5_0, gC_5_2, gC_10_0, gC_10_7, gC_13_5, gC_16_0, gC_16_2, gC_22_0, gC_22_1, gC_22_2, gC_22_3, gC_31_2, gC_33_2, gC_35_2, gC_37_2, bI_rI, bV_rV, bQ_rN, bQ_rR, bz_0, bz_1, bz_Z, hZ0, hZ1, Lay_setI, Lay_setA, hl, hf.1, e1, if_true]; rfl
    | succ d ih =>
      intro k f hk hf2
      obtain ⟨f, rfl⟩ : ∃ f', f = f' + 1 := ⟨f - 1, by omega⟩
      have hks : k < L.length := by omega
      have e9 : ¬ nI L.length ≤ nI k := nI_ge hks (by omega)
      have hv := hb _ (getD_mem hks)
      have e2 : (nI (L.getD k 0) = nI w) = (L.getD k 0 = w) := propext (nI_eq (by omega) (by omega))
      show fWd_placeOf_2 _ u (nI w) (nI k) = rI (if decide (L.getD k 0 = w) = true then nI k else fst (fun k => decide (L.getD k 0 = w)) d (k + 1)) u
      simp only [fWd_placeOf_2, gI_0, pI_0, rc_0, gI_1, pI_1, rc_1, ln_2, ql_2, al_3, as_3, ln_3, al_4, as_4, ln_4, gI_5, pI_5, rc_5, ln_6, ql_6, al_7, as_7, ln_7, al_8, as_8, ln_8, ln_9, ql_9, gI_10, pI_10, rc_10, al_11, as_11, ln_11, al_12, as_12, ln_12, gI_13, pI_13, rc_13, al_14, as_14, ln_14, ln_15, ql_15, gI_16, pI_16, rc_16, al_17, as_17, ln_17, al_18, as_18, ln_18, al_19, as_19, ln_19, al_20, as_20, ln_20, bl_21, bs_21, ln_21, gI_22, pI_22, rc_22, al_23, as_23, ln_23, al_24, as_24, ln_24, al_25, as_25, ln_25, gI_31, pI_31, rc_31, al_32, as_32, ln_32, gI_33, pI_33, rc_33, al_34, as_34, ln_34, gI_35, pI_35, rc_35, al_36, as_36, ln_36, gI_37, pI_37, rc_37, al_38, as_38, ln_38, gC_0_3, gC_0_4, gC_0_5, gC_0_7, gC_0_10, gC_0_11, gC_0_12, gC_0_13, gC_0_14, gC_0_15, gC_0_16, gC_0_17, gC_1_0, gC_1_2, gC_1_3, gC_5_0, gC_5_2, gC_10_0, gC_10_7, gC_13_5, gC_16_0, gC_16_2, gC_22_0, gC_22_1, gC_22_2, gC_22_3, gC_31_2, gC_33_2, gC_35_2, gC_37_2, bI_rI, bV_rV, bQ_rN, bQ_rR, bz_0, bz_1, bz_Z, hZ0, hZ1, Lay_setI, Lay_setA, hl, hf.1, e9, if_false, fWd_townAt_v hl hf h7, twn_i hks h7, e2, nI_1, ih (k + 1) f (by omega) (by omega), decide_eq_true_eq, rI_ite]
  exact key L.length 0 1000000 (by omega) (by omega)
theorem plc_or (L : List Nat) (w : Nat) : (plc L w = -1 ∧ ∀ k, k < L.length → L.getD k 0 ≠ w) ∨ ∃ k, k < L.length ∧ L.getD k 0 = w ∧ plc L w = nI k := by
  by_cases c : ∃ k, k < L.length ∧ L.getD k 0 = w
  · right
    obtain ⟨k, hk, he⟩ := c
    obtain ⟨k', ⟨_, a2, a3⟩, a4⟩ := fst_is (fun k => decide (L.getD k 0 = w)) L.length 0 ⟨k, by omega, by omega, decide_eq_true he⟩
    exact ⟨k', by omega, of_decide_eq_true a3, a4⟩
  · left
    refine ⟨fst_no L.length 0 (fun k _ hk => decide_eq_false (fun e => c ⟨k, by omega, e⟩)), fun k hk e => c ⟨k, hk, e⟩⟩
/-- the first street, by what is known at a place -/
def fsq (G : GG) (o : Nat → Bool) (D : NN) (c v i : Nat) : Bool := (o i && tch G i c) && decide (sk G i + D (ote G i c) = v)
def stpV (G : GG) (s : Nat) (L : List Nat) (a e k : Nat) : Int32 :=
  if a = e then -1 else if CL G s L e (LK (EL G s L) L.length (full L) k a) a < 1000000 then fst (fsq G (oL G L k) (CL G s L e (LK (EL G s L) L.length (full L) k a)) a (CL G s L e (LK (EL G s L) L.length (full L) k a) a)) s 0 else -1
def s_step (n m s : Nat) (G : GG) (a b : Int32) : Int32 :=
  if twB a = true then (if inr b (2 ^ n) = true then (if few (WL n m G (evB m)) = true then (if plc (WL n m G (evB m)) (cN b) = -1 then -3 else stpV G s (WL n m G (evB m)) (cN a / 10) (cN a % 10) (cN (plc (WL n m G (evB m)) (cN b)))) else -3) else -7) else -5
theorem firstSt_v {L : List Nat} {a S k : Nat} {D : NN} (h : Inv n m s g x p t0) (hl : FS [22, 23, 24, 25] t0 u) (ha : a < 6) (hS : S < 128) (hD : ∀ p, p < 6 → mI u 23 (128 * p + S) = nI (D p)) (hb : ∀ p, D p ≤ 1000000) (o : Nat → Bool) :
    fAW_firstStreet_l47 1000000 u (nI a) (nI S) (nI (D a)) (orf (fun i => o i && tch (pm t0) i a) s) 0 = rI (fst (fsq (pm t0) o D a (D a)) s 0) u := by
  have hu := h.fr hl.1
  have hr := h.rng
  have key : ∀ d i f, i + d = s → d < f → fAW_firstStreet_l47 f u (nI a) (nI S) (nI (D a)) (orf (fun i => o i && tch (pm t0) i a) s) (nI i) = rI (fst (fsq (pm t0) o D a (D a)) d i) u := by
    intro d
    induction d with
    | zero =>
      intro i f hk hf2
      obtain ⟨f, rfl⟩ : ∃ f', f = f' + 1 := ⟨f - 1, by omega⟩
      obtain rfl : i = s := by omega
      have e1 : nI i ≤ nI i := Int32.le_refl _
      show fAW_firstStreet_47 _ u (nI a) (nI S) (nI (D a)) _ (nI i) = _
      simp only [fAW_firstStreet_47, gI_0, pI_0, rc_0, gI_1, pI_1, rc_1, ln_2, ql_2, al_3, as_3, ln_3, al_4, as_4, ln_4, gI_5, pI_5, rc_5, ln_6, ql_6, al_7, as_7, ln_7, al_8, as_8, ln_8, ln_9, ql_9, gI_10, pI_10, rc_10, al_11, as_11, ln_11, al_12, as_12, ln_12, gI_13, pI_13, rc_13, al_14, as_14, ln_14, ln_15, ql_15, gI_16, pI_16, rc_16, al_17, as_17, ln_17, al_18, as_18, ln_18, al_19, as_19, ln_19, al_20, as_20, ln_20, bl_21, bs_21, ln_21, gI_22, pI_22, rc_22, al_23, as_23, ln_23, al_24, as_24, ln_24, al_25, as_25, ln_25, gI_31, pI_31, rc_31, al_32, as_32, ln_32, gI_33, pI_33, rc_33, al_34, as_34, ln_34, gI_35, pI_35, rc_35, al_36, as_36, ln_36, gI_37, pI_37, rc_37, al_38, as_38, ln_38, gC_0_3, gC_0_4, gC_0_5, gC_0_7, gC_0_10, gC_0_11, gC_0_12, gC_0_13, gC_0_14, gC_0_15, gC_0_16, gC_0_17, gC_1_0, gC_1_2, gC_1_3, gC_5_0, gC_5_2, gC_10_0, gC_10_7, gC_13_5, gC_16_0, gC_16_2, gC_22_0, gC_22_1, gC_22_2, gC_22_3, gC_31_2, gC_33_2, gC_35_2, gC_37_2, bI_rI, bV_rV, bQ_rN, bQ_rR, bz_0, bz_1, bz_Z, hZ0, hZ1, Lay_setI, Lay_setA, hu.lay, hu.st', e1, if_true]; rfl
    | succ d ih =>
      intro i f hk hf2
      obtain ⟨f, rfl⟩ : ∃ f', f = f' + 1 := ⟨f - 1, by omega⟩
      have hi : i < s := by omega
      have e9 : ¬ nI s ≤ nI i := nI_ge hi (by omega)
      obtain ⟨q, e1, _, hc⟩ := streetAt_in hu hi
      obtain ⟨_, _, _, q3⟩ := st_v h hi
      obtain ⟨⟨k1, k2, k3, k4, k5⟩, _⟩ := st_v h hi
      have ho := ote_lt (SV.of h) hi a
      have b1 := hb (ote (pm t0) i a)
      have b2 := hb a
      have e2 : (nI (sk (pm t0) i + D (ote (pm t0) i a)) = nI (D a)) = (sk (pm t0) i + D (ote (pm t0) i a) = D a) := propext (nI_eq (by omega) (by omega))
      have ob : bt (orf (fun i => o i && tch (pm t0) i a) s) i = (o i && tch (pm t0) i a) := by rw [bt_orf _ _ (by omega) i (by omega), decide_eq_true hi, Bool.true_and]
      show fAW_firstStreet_47 _ u (nI a) (nI S) (nI (D a)) _ (nI i) = rI (if fsq (pm t0) o D a (D a) i = true then nI i else fst (fsq (pm t0) o D a (D a)) d (i + 1)) u
      simp only [fAW_firstStreet_47, gI_0, pI_0, rc_0, gI_1, pI_1, rc_1, ln_2, ql_2, al_3, as_3, ln_3, al_4, as_4, ln_4, gI_5, pI_5, rc_5, ln_6, ql_6, al_7, as_7, ln_7, al_8, as_8, ln_8, ln_9, ql_9, gI_10, pI_10, rc_10, al_11, as_11, ln_11, al_12, as_12, ln_12, gI_13, pI_13, rc_13, al_14, as_14, ln_14, ln_15, ql_15, gI_16, pI_16, rc_16, al_17, as_17, ln_17, al_18, as_18, ln_18, al_19, as_19, ln_19, al_20, as_20, ln_20, bl_21, bs_21, ln_21, gI_22, pI_22, rc_22, al_23, as_23, ln_23, al_24, as_24, ln_24, al_25, as_25, ln_25, gI_31, pI_31, rc_31, al_32, as_32, ln_32, gI_33, pI_33, rc_33, al_34, as_34, ln_34, gI_35, pI_35, rc_35, al_36, as_36, ln_36, gI_37, pI_37, rc_37, al_38, as_38, ln_38, gC_0_3, gC_0_4, gC_0_5, gC_0_7, gC_0_10, gC_0_11, gC_0_12, gC_0_13, gC_0_14, gC_0_15, gC_0_16, gC_0_17, gC_1_0, gC_1_2, gC_1_3, gC_5_0, gC_5_2, gC_10_0, gC_10_7, gC_13_5, gC_16_0, gC_16_2, gC_22_0, gC_22_1, gC_22_2, gC_22_3, gC_31_2, gC_33_2, gC_35_2, gC_37_2, bI_rI, bV_rV, bQ_rN, bQ_rR, bz_0, bz_1, bz_Z, hZ0, hZ1, Lay_setI, Lay_setA, hu.lay, hu.st', e9, if_false, e1, hc.rc, bt_o (show i < 32 by omega), ob, hc.i3, hl.1.2, q3, otherEnd_v hu hi hc ha, longestFor_v hu.lay ho hS, hD _ ho, nI_add, e2, nI_1, ih (i + 1) f (by omega) (by omega)]
      unfold fsq
      cases c1 : (o i && tch (pm t0) i a)
      · simp
      · by_cases c3 : sk (pm t0) i + D (ote (pm t0) i a) = D a
        · simp [c3]
        · simp [c3]
  exact key s 0 1000000 (by omega) (by omega)
theorem xq_step (h : Inv n m s g x p t) (a b : Int32) : QQ t (fx_step t a b) (s_step n m s (pm t) a b) := by
  have hr := h.rng
  have hpw := pw_lt (n := n) (by omega)
  unfold s_step
  simp only [fx_step, fx_isTwo_v, gI_0, pI_0, rc_0, gI_1, pI_1, rc_1, ln_2, ql_2, al_3, as_3, ln_3, al_4, as_4, ln_4, gI_5, pI_5, rc_5, ln_6, ql_6, al_7, as_7, ln_7, al_8, as_8, ln_8, ln_9, ql_9, gI_10, pI_10, rc_10, al_11, as_11, ln_11, al_12, as_12, ln_12, gI_13, pI_13, rc_13, al_14, as_14, ln_14, ln_15, ql_15, gI_16, pI_16, rc_16, al_17, as_17, ln_17, al_18, as_18, ln_18, al_19, as_19, ln_19, al_20, as_20, ln_20, bl_21, bs_21, ln_21, gI_22, pI_22, rc_22, al_23, as_23, ln_23, al_24, as_24, ln_24, al_25, as_25, ln_25, gI_31, pI_31, rc_31, al_32, as_32, ln_32, gI_33, pI_33, rc_33, al_34, as_34, ln_34, gI_35, pI_35, rc_35, al_36, as_36, ln_36, gI_37, pI_37, rc_37, al_38, as_38, ln_38, gC_0_3, gC_0_4, gC_0_5, gC_0_7, gC_0_10, gC_0_11, gC_0_12, gC_0_13, gC_0_14, gC_0_15, gC_0_16, gC_0_17, gC_1_0, gC_1_2, gC_1_3, gC_5_0, gC_5_2, gC_10_0, gC_10_7, gC_13_5, gC_16_0, gC_16_2, gC_22_0, gC_22_1, gC_22_2, gC_22_3, gC_31_2, gC_33_2, gC_35_2, gC_37_2, bI_rI, bV_rV, bQ_rN, bQ_rR, bz_0, bz_1, bz_Z, hZ0, hZ1, Lay_setI, Lay_setA, h.lay, fx_isTown_v h]
  cases ca : twB a
  · simp only [if_true]; exact QQ.pure rfl
  · obtain ⟨i, j, hi, hj, rfl⟩ := twB_t ca
    simp only [Bool.true_eq_false, if_false, if_true, bI_rI, bz_0]
    cases cb : inr b (2 ^ n)
    · simp only [if_true]; exact QQ.pure rfl
    · obtain ⟨w, hw, rfl⟩ := inr_t cb (by omega)
      obtain ⟨u, eu, fu, gu⟩ := findFewWorlds_v h
      have hu := h.fr fu.1
      simp only [Bool.true_eq_false, if_false, if_true, eu, bI_rI, bz_0, cN_i (show w < 2 ^ 31 by omega)]
      cases c : few (WL n m (pm t) (evB m))
      · simp only [if_true]; exact ⟨u, rfl, fu.1⟩
      · obtain ⟨c1, c2⟩ := few_t c
        have hb : ∀ w, w ∈ WL n m (pm t) (evB m) → w < 512 := fun w hw => by have := WL_lt (pm t) (evB m) w hw; omega
        obtain ⟨hf1, hf2⟩ := full_f c1
        have h7 : 2 ^ (WL n m (pm t) (evB m)).length ≤ 2 ^ 7 := Nat.pow_le_pow_right (by decide) c2
        obtain ⟨u2, e2, f2, g5, g4, see, rw2⟩ := study_v (e := j) hu gu c2 c1 hb hj
        have hu2 := hu.fr f2.1
        obtain ⟨tg, ts⟩ := two_ab hi hj
        have hpm : pm u = pm t := fu.1.2
        have pl := placeOf_v hu.lay gu (by omega) hb (show w < 512 by omega)
        have gu2 : FdC (WL n m (pm t) (evB m)) u2 := ⟨(f2.row 16 rfl (by decide) 1).trans gu.1, fun k hk => (f2.row 17 rfl (by decide) k).trans (gu.2 k hk)⟩
        have pl2 := placeOf_v hu2.lay gu2 (by omega) hb (show w < 512 by omega)
        simp only [Bool.true_eq_false, if_false, if_true, gI_0, pI_0, rc_0, gI_1, pI_1, rc_1, ln_2, ql_2, al_3, as_3, ln_3, al_4, as_4, ln_4, gI_5, pI_5, rc_5, ln_6, ql_6, al_7, as_7, ln_7, al_8, as_8, ln_8, ln_9, ql_9, gI_10, pI_10, rc_10, al_11, as_11, ln_11, al_12, as_12, ln_12, gI_13, pI_13, rc_13, al_14, as_14, ln_14, ln_15, ql_15, gI_16, pI_16, rc_16, al_17, as_17, ln_17, al_18, as_18, ln_18, al_19, as_19, ln_19, al_20, as_20, ln_20, bl_21, bs_21, ln_21, gI_22, pI_22, rc_22, al_23, as_23, ln_23, al_24, as_24, ln_24, al_25, as_25, ln_25, gI_31, pI_31, rc_31, al_32, as_32, ln_32, gI_33, pI_33, rc_33, al_34, as_34, ln_34, gI_35, pI_35, rc_35, al_36, as_36, ln_36, gI_37, pI_37, rc_37, al_38, as_38, ln_38, gC_0_3, gC_0_4, gC_0_5, gC_0_7, gC_0_10, gC_0_11, gC_0_12, gC_0_13, gC_0_14, gC_0_15, gC_0_16, gC_0_17, gC_1_0, gC_1_2, gC_1_3, gC_5_0, gC_5_2, gC_10_0, gC_10_7, gC_13_5, gC_16_0, gC_16_2, gC_22_0, gC_22_1, gC_22_2, gC_22_3, gC_31_2, gC_33_2, gC_35_2, gC_37_2, bI_rI, bV_rV, bQ_rN, bQ_rR, bz_0, bz_1, bz_Z, hZ0, hZ1, Lay_setI, Lay_setA, hu.lay, pl, tg, ts]
        generalize hL : WL n m (pm t) (evB m) = L at *
        rcases plc_or L w with ⟨p1, _⟩ | ⟨k, hk, _, p1⟩
        · rw [p1] at pl2 ⊢
          rw [if_neg (show ¬ (0 : Int32) ≤ -1 by decide), if_pos rfl]
          exact ⟨u, rfl, fu.1⟩
        · rw [p1] at pl2 ⊢
          have hk7 : k < 7 := by omega
          have hfb : (full L).testBit k = true := by rw [full_b, decide_eq_true hk]
          have hKf := hf2
          have hlo := LK_le (E := EL (pm u) s L) (S := full L) (w := k) (p := i) c2
          have hpo := tb_pos (LK_pos (p := i) (EL_eqv (pm u) s L) c2 hf2 hfb)
          have lkv := lookingLike_v hu2.lay (show s ≤ 12 by omega) see hi hk7 c2 hf2
          have oav := openAt_v hu2.lay (show s ≤ 12 by omega) see hi hk7
          have hDr : ∀ p, p < 6 → mI u2 23 (128 * p + LK (EL (pm u) s L) L.length (full L) k i) = nI (CW (pm u) (oL (pm u) L) s (EL (pm u) s L) L.length j (LK (EL (pm u) s L) L.length (full L) k i) p) := fun p hp => rw2 _ p hpo (by omega) hp
          have hmil := CW_mil (G := pm u) (o := oL (pm u) L) (e := j) (EL_eqv (pm u) s L) c2 (SV.of hu) (show s ≤ 12 by omega) (show LK (EL (pm u) s L) L.length (full L) k i < 2 ^ L.length by omega) hpo
          have lfv := longestFor_v (u := u2) (p := i) (S := LK (EL (pm u) s L) L.length (full L) k i) hu2.lay hi (by omega)
          rw [hDr i hi] at lfv
          have fsv := firstSt_v (L := L) (a := i) (S := LK (EL (pm u) s L) L.length (full L) k i) (k := k) hu f2 hi (by omega) hDr hmil (oL (pm u) L k)
          have ee : (nI i = nI j) = (i = j) := propext (nI_eq (by omega) (by omega))
          rw [if_pos (nI_pos' (show k < 2 ^ 31 by omega)), if_neg (fun e => by have := nI_pos (n := k) (by omega); rw [e] at this; exact this (by decide)), cN_i (show k < 2 ^ 31 by omega)]
          simp only [(goal_start hi hj u).1, bI_rI, gI_0, pI_0, rc_0, gI_1, pI_1, rc_1, ln_2, ql_2, al_3, as_3, ln_3, al_4, as_4, ln_4, gI_5, pI_5, rc_5, ln_6, ql_6, al_7, as_7, ln_7, al_8, as_8, ln_8, ln_9, ql_9, gI_10, pI_10, rc_10, al_11, as_11, ln_11, al_12, as_12, ln_12, gI_13, pI_13, rc_13, al_14, as_14, ln_14, ln_15, ql_15, gI_16, pI_16, rc_16, al_17, as_17, ln_17, al_18, as_18, ln_18, al_19, as_19, ln_19, al_20, as_20, ln_20, bl_21, bs_21, ln_21, gI_22, pI_22, rc_22, al_23, as_23, ln_23, al_24, as_24, ln_24, al_25, as_25, ln_25, gI_31, pI_31, rc_31, al_32, as_32, ln_32, gI_33, pI_33, rc_33, al_34, as_34, ln_34, gI_35, pI_35, rc_35, al_36, as_36, ln_36, gI_37, pI_37, rc_37, al_38, as_38, ln_38, gC_0_3, gC_0_4, gC_0_5, gC_0_7, gC_0_10, gC_0_11, gC_0_12, gC_0_13, gC_0_14, gC_0_15, gC_0_16, gC_0_17, gC_1_0, gC_1_2, gC_1_3, gC_5_0, gC_5_2, gC_10_0, gC_10_7, gC_13_5, gC_16_0, gC_16_2, gC_22_0, gC_22_1, gC_22_2, gC_22_3, gC_31_2, gC_33_2, gC_35_2, gC_37_2, bI_rI, bV_rV, bQ_rN, bQ_rR, bz_0, bz_1, bz_Z, hZ0, hZ1, Lay_setI, Lay_setA, hu.lay, e2, hu2.lay, (goal_start hi hj u2).2, pl2, fAW_firstStreet, g4]
          rw [show nI (2 ^ L.length - 1) = nI (full L) from rfl, lkv]
          simp only [bI_rI, gI_0, pI_0, rc_0, gI_1, pI_1, rc_1, ln_2, ql_2, al_3, as_3, ln_3, al_4, as_4, ln_4, gI_5, pI_5, rc_5, ln_6, ql_6, al_7, as_7, ln_7, al_8, as_8, ln_8, ln_9, ql_9, gI_10, pI_10, rc_10, al_11, as_11, ln_11, al_12, as_12, ln_12, gI_13, pI_13, rc_13, al_14, as_14, ln_14, ln_15, ql_15, gI_16, pI_16, rc_16, al_17, as_17, ln_17, al_18, as_18, ln_18, al_19, as_19, ln_19, al_20, as_20, ln_20, bl_21, bs_21, ln_21, gI_22, pI_22, rc_22, al_23, as_23, ln_23, al_24, as_24, ln_24, al_25, as_25, ln_25, gI_31, pI_31, rc_31, al_32, as_32, ln_32, gI_33, pI_33, rc_33, al_34, as_34, ln_34, gI_35, pI_35, rc_35, al_36, as_36, ln_36, gI_37, pI_37, rc_37, al_38, as_38, ln_38, gC_0_3, gC_0_4, gC_0_5, gC_0_7, gC_0_10, gC_0_11, gC_0_12, gC_0_13, gC_0_14, gC_0_15, gC_0_16, gC_0_17, gC_1_0, gC_1_2, gC_1_3, gC_5_0, gC_5_2, gC_10_0, gC_10_7, gC_13_5, gC_16_0, gC_16_2, gC_22_0, gC_22_1, gC_22_2, gC_22_3, gC_31_2, gC_33_2, gC_35_2, gC_37_2, bI_rI, bV_rV, bQ_rN, bQ_rR, bz_0, bz_1, bz_Z, hZ0, hZ1, Lay_setI, Lay_setA, hu2.lay, lfv, g5, ee, lt_mil (hmil i), bI_ite, oav, fsv]
          refine ⟨u2, ?_, fu.1.trans f2.1⟩
          unfold stpV
          rw [hpm]
          split
          · rfl
          · split <;> rfl
end
