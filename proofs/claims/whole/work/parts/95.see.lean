section
/-! what one sees at a place -/
variable {n m s g x p : Nat} {t0 t u : SM}
abbrev oL (G : GG) (L : List Nat) : Nat → Nat → Bool := fun w i => opn G (nI (L.getD w 0)) i
def EL (G : GG) (s : Nat) (L : List Nat) : Nat → Nat → Nat → Bool := fun p v w => (List.range s).all fun i => !tch G i p || (oL G L v i == oL G L w i)
theorem EL_t {G : GG} {s : Nat} {L : List Nat} {p v w : Nat} : EL G s L p v w = true ↔ ∀ i, i < s → tch G i p = true → oL G L v i = oL G L w i := by
  unfold EL
  rw [List.all_eq_true]
  constructor
  · intro h i hi ht
    have := h i (List.mem_range.mpr hi)
    rw [ht] at this
    simpa using this
  · intro h i hi
    cases ht : tch G i p
    · rfl
    · rw [h i (List.mem_range.mp hi) ht]; simp
theorem EL_eqv (G : GG) (s : Nat) (L : List Nat) : EQV (EL G s L) :=
  ⟨fun p v => EL_t.mpr fun _ _ _ => rfl, fun p v w h => EL_t.mpr fun i hi ht => (EL_t.mp h i hi ht).symm, fun p u v w h1 h2 => EL_t.mpr fun i hi ht => (EL_t.mp h1 i hi ht).trans (EL_t.mp h2 i hi ht)⟩
def SEE (G : GG) (s : Nat) (L : List Nat) (u : SM) : Prop := (∀ w, w < 7 → mI u 24 w = orf (oL G L w) s) ∧ ∀ p, p < 6 → mI u 25 p = orf (fun i => tch G i p) s
theorem orf_and {p q : Nat → Bool} {s : Nat} (hs : s ≤ 31) : orf p s &&& orf q s = orf (fun i => p i && q i) s := by
  apply b_ext
  intro i hi
  rw [b_and, bt_orf _ _ hs i hi, bt_orf _ _ hs i hi, bt_orf _ _ hs i hi]
  cases p i <;> cases q i <;> cases decide (i < s) <;> rfl
theorem orf_inj {p q : Nat → Bool} {s : Nat} (hs : s ≤ 31) : (orf p s = orf q s) = ∀ i, i < s → p i = q i := by
  apply propext
  constructor
  · intro h i hi
    have := congrArg (fun z => bt z i) h
    simp only [bt_orf _ _ hs i (by omega), decide_eq_true hi, Bool.true_and] at this
    exact this
  · intro h; exact orf_congr s h
theorem r128 (a : Nat) : nI a * 128 = nI (128 * a) := by rw [Int32.mul_comm, l128]
theorem touching_v (h : Inv n m s g x p t) {c : Nat} (hc : c < 6) : fSs_touching t (nI c) = rI (orf (fun i => tch (pm t) i c) s) t := by
  have hr := h.rng
  have := for_fo (fun f k b => fSs_touching_l4 f t (nI c) b (nI k)) s (fun k b => if tch (pm t) k c = true then b ||| ((1 : Int32) <<< (nI k &&& 31)) else b) (fun b => rI b t)
    (fun f b => by
      have e9 : nI s ≤ nI s := Int32.le_refl _
      show fSs_touching_4 _ t (nI c) b (nI s) = _
      simp only [fSs_touching_4, gI_0, pI_0, rc_0, gI_1, pI_1, rc_1, ln_2, ql_2, al_3, as_3, ln_3, al_4, as_4, ln_4, gI_5, pI_5, rc_5, ln_6, ql_6, al_7, as_7, ln_7, al_8, as_8, ln_8, ln_9, ql_9, gI_10, pI_10, rc_10, al_11, as_11, ln_11, al_12, as_12, ln_12, gI_13, pI_13, rc_13, al_14, as_14, ln_14, ln_15, ql_15, gI_16, pI_16, rc_16, al_17, as_17, ln_17, al_18, as_18, ln_18, al_19, as_19, ln_19, al_20, as_20, ln_20, bl_21, bs_21, ln_21, gI_22, pI_22, rc_22, al_23, as_23, ln_23, al_24, as_24, ln_24, al_25, as_25, ln_25, gI_31, pI_31, rc_31, al_32, as_32, ln_32, gI_33, pI_33, rc_33, al_34, as_34, ln_34, gI_35, pI_35, rc_35, al_36, as_36, ln_36, gI_37, pI_37, rc_37, al_38, as_38, ln_38, gC_0_3, gC_0_4, gC_0_5, gC_0_7, gC_0_10, gC_0_11, gC_0_12, gC_0_13, gC_0_14, gC_0_15, gC_0_16, gC_0_17, gC_1_0, gC_1_2, gC_1_3, gC_5_0, gC_5_2, gC_10_0, gC_10_7, gC_13_5, gC_16_0, gC_16_2, gC_22_0, gC_22_1, gC_22_2, gC_22_3, gC_31_2, gC_33_2, gC_35_2, gC_37_2, bI_rI, bV_rV, bQ_rN, bQ_rR, bz_0, bz_1, bz_Z, hZ0, hZ1, Lay_setI, Lay_setA, h.lay, h.st', e9, if_true])
    (fun f k b hk => by
      have e9 : ¬ nI s ≤ nI k := nI_ge hk (by omega)
      obtain ⟨q, e1, _, hq⟩ := streetAt_in h hk
      show fSs_touching_4 _ t (nI c) b (nI k) = _
      simp only [fSs_touching_4, gI_0, pI_0, rc_0, gI_1, pI_1, rc_1, ln_2, ql_2, al_3, as_3, ln_3, al_4, as_4, ln_4, gI_5, pI_5, rc_5, ln_6, ql_6, al_7, as_7, ln_7, al_8, as_8, ln_8, ln_9, ql_9, gI_10, pI_10, rc_10, al_11, as_11, ln_11, al_12, as_12, ln_12, gI_13, pI_13, rc_13, al_14, as_14, ln_14, ln_15, ql_15, gI_16, pI_16, rc_16, al_17, as_17, ln_17, al_18, as_18, ln_18, al_19, as_19, ln_19, al_20, as_20, ln_20, bl_21, bs_21, ln_21, gI_22, pI_22, rc_22, al_23, as_23, ln_23, al_24, as_24, ln_24, al_25, as_25, ln_25, gI_31, pI_31, rc_31, al_32, as_32, ln_32, gI_33, pI_33, rc_33, al_34, as_34, ln_34, gI_35, pI_35, rc_35, al_36, as_36, ln_36, gI_37, pI_37, rc_37, al_38, as_38, ln_38, gC_0_3, gC_0_4, gC_0_5, gC_0_7, gC_0_10, gC_0_11, gC_0_12, gC_0_13, gC_0_14, gC_0_15, gC_0_16, gC_0_17, gC_1_0, gC_1_2, gC_1_3, gC_5_0, gC_5_2, gC_10_0, gC_10_7, gC_13_5, gC_16_0, gC_16_2, gC_22_0, gC_22_1, gC_22_2, gC_22_3, gC_31_2, gC_33_2, gC_35_2, gC_37_2, bI_rI, bV_rV, bQ_rN, bQ_rR, bz_0, bz_1, bz_Z, hZ0, hZ1, Lay_setI, Lay_setA, h.lay, h.st', e9, if_false, e1, hq.rc, touches_v h hk hq hc, nI_1]
      cases tch (pm t) k c
      · simp
      · simp)
    0 s 0 1000000 (by omega) (by omega)
  exact this
theorem openAt_v {G : GG} {L : List Nat} (hl : Lay u) (hs : s ≤ 12) (h : SEE G s L u) {p w : Nat} (hp : p < 6) (hw : w < 7) : fAW_openAt u (nI p) (nI w) = rI (orf (fun i => oL G L w i && tch G i p) s) u := by
  have n1 := L_nai (t := u) (k := 24) (N := 7) (i := w) hl (by decide) rfl hw
  have n2 := L_nai (t := u) (k := 25) (N := 6) (i := p) hl (by decide) rfl hp
  rw [h.1 w hw] at n1
  rw [h.2 p hp] at n2
  simp only [fAW_openAt, gI_0, pI_0, rc_0, gI_1, pI_1, rc_1, ln_2, ql_2, al_3, as_3, ln_3, al_4, as_4, ln_4, gI_5, pI_5, rc_5, ln_6, ql_6, al_7, as_7, ln_7, al_8, as_8, ln_8, ln_9, ql_9, gI_10, pI_10, rc_10, al_11, as_11, ln_11, al_12, as_12, ln_12, gI_13, pI_13, rc_13, al_14, as_14, ln_14, ln_15, ql_15, gI_16, pI_16, rc_16, al_17, as_17, ln_17, al_18, as_18, ln_18, al_19, as_19, ln_19, al_20, as_20, ln_20, bl_21, bs_21, ln_21, gI_22, pI_22, rc_22, al_23, as_23, ln_23, al_24, as_24, ln_24, al_25, as_25, ln_25, gI_31, pI_31, rc_31, al_32, as_32, ln_32, gI_33, pI_33, rc_33, al_34, as_34, ln_34, gI_35, pI_35, rc_35, al_36, as_36, ln_36, gI_37, pI_37, rc_37, al_38, as_38, ln_38, gC_0_3, gC_0_4, gC_0_5, gC_0_7, gC_0_10, gC_0_11, gC_0_12, gC_0_13, gC_0_14, gC_0_15, gC_0_16, gC_0_17, gC_1_0, gC_1_2, gC_1_3, gC_5_0, gC_5_2, gC_10_0, gC_10_7, gC_13_5, gC_16_0, gC_16_2, gC_22_0, gC_22_1, gC_22_2, gC_22_3, gC_31_2, gC_33_2, gC_35_2, gC_37_2, bI_rI, bV_rV, bQ_rN, bQ_rR, bz_0, bz_1, bz_Z, hZ0, hZ1, Lay_setI, Lay_setA, hl, n1, n2, orf_and (show s ≤ 31 by omega)]
theorem lookingLike_v {G : GG} {L : List Nat} {K : Nat} (hl : Lay u) (hs : s ≤ 12) (h : SEE G s L u) {p w S : Nat} (hp : p < 6) (hw : w < 7) (hK : K ≤ 7) (hS : S < 2 ^ K) : fAW_lookingLike u (nI w) (nI p) (nI S) = rI (nI (LK (EL G s L) K S w p)) u := by
  have hS7 := pw7 hK hS
  have e0 : orf (fun v => S.testBit v && EL G s L p v w) 7 = nI (LK (EL G s L) K S w p) := by
    rw [← (LK_eq (E := EL G s L) (S := S) (w := w) (p := p) hK).1]
    apply b_ext
    intro i hi
    rw [bt_orf _ _ (by omega) i hi, bt_orf _ _ (by omega) i hi]
    cases c : S.testBit i
    · simp
    · have := tb_ltK hS c
      rw [decide_eq_true this, decide_eq_true (show i < 7 by omega)]
  rw [← e0]
  have := for_fo (fun f v b => fAW_lookingLike_l6 f u (nI w) (nI p) (nI S) b (nI v)) 7 (fun v b => if (S.testBit v && EL G s L p v w) = true then b ||| ((1 : Int32) <<< (nI v &&& 31)) else b) (fun b => rI b u)
    (fun f b => by
      show fAW_lookingLike_6 _ u (nI w) (nI p) (nI S) b (nI 7) = _
      unfold fAW_lookingLike_6
      rw [if_pos (show (7 : Int32) ≤ nI 7 from Int32.le_refl _)])
    (fun f v b hv => by
      have e8 : ¬ (7 : Int32) ≤ nI v := nI_ge (b := 7) hv (by decide)
      show fAW_lookingLike_6 _ u (nI w) (nI p) (nI S) b (nI v) = _
      simp only [fAW_lookingLike_6, gI_0, pI_0, rc_0, gI_1, pI_1, rc_1, ln_2, ql_2, al_3, as_3, ln_3, al_4, as_4, ln_4, gI_5, pI_5, rc_5, ln_6, ql_6, al_7, as_7, ln_7, al_8, as_8, ln_8, ln_9, ql_9, gI_10, pI_10, rc_10, al_11, as_11, ln_11, al_12, as_12, ln_12, gI_13, pI_13, rc_13, al_14, as_14, ln_14, ln_15, ql_15, gI_16, pI_16, rc_16, al_17, as_17, ln_17, al_18, as_18, ln_18, al_19, as_19, ln_19, al_20, as_20, ln_20, bl_21, bs_21, ln_21, gI_22, pI_22, rc_22, al_23, as_23, ln_23, al_24, as_24, ln_24, al_25, as_25, ln_25, gI_31, pI_31, rc_31, al_32, as_32, ln_32, gI_33, pI_33, rc_33, al_34, as_34, ln_34, gI_35, pI_35, rc_35, al_36, as_36, ln_36, gI_37, pI_37, rc_37, al_38, as_38, ln_38, gC_0_3, gC_0_4, gC_0_5, gC_0_7, gC_0_10, gC_0_11, gC_0_12, gC_0_13, gC_0_14, gC_0_15, gC_0_16, gC_0_17, gC_1_0, gC_1_2, gC_1_3, gC_5_0, gC_5_2, gC_10_0, gC_10_7, gC_13_5, gC_16_0, gC_16_2, gC_22_0, gC_22_1, gC_22_2, gC_22_3, gC_31_2, gC_33_2, gC_35_2, gC_37_2, bI_rI, bV_rV, bQ_rN, bQ_rR, bz_0, bz_1, bz_Z, hZ0, hZ1, Lay_setI, Lay_setA, hl, e8, if_false, b_bit _ (show v < 32 by omega), b_ni _ _ (show S < 2 ^ 32 by omega), openAt_v hl hs h hp hv, openAt_v hl hs h hp hw, nI_1, orf_inj (show s ≤ 31 by omega)]
      cases c : S.testBit v
      · simp only [Bool.false_and, Bool.false_eq_true, if_false]
      · have ee : (∀ i, i < s → (oL G L v i && tch G i p) = (oL G L w i && tch G i p)) ↔ EL G s L p v w = true := by
          rw [EL_t]
          constructor
          · intro h1 i hi ht
            have := h1 i hi
            rw [ht, Bool.and_true, Bool.and_true] at this; exact this
          · intro h1 i hi
            cases ht : tch G i p
            · simp
            · rw [h1 i hi ht]
        simp only [ee, Bool.true_and, if_true]
        split <;> rfl)
    0 7 0 1000000 (by omega) (by omega)
  exact this
theorem longestFor_v (hl : Lay u) {p S : Nat} (hp : p < 6) (hS : S < 128) : fAW_longestFor u (nI p) (nI S) = rI (mI u 23 (128 * p + S)) u := by
  have n1 := L_nai (t := u) (k := 23) (N := 768) (i := 128 * p + S) hl (by decide) rfl (by omega)
  simp only [fAW_longestFor, gI_0, pI_0, rc_0, gI_1, pI_1, rc_1, ln_2, ql_2, al_3, as_3, ln_3, al_4, as_4, ln_4, gI_5, pI_5, rc_5, ln_6, ql_6, al_7, as_7, ln_7, al_8, as_8, ln_8, ln_9, ql_9, gI_10, pI_10, rc_10, al_11, as_11, ln_11, al_12, as_12, ln_12, gI_13, pI_13, rc_13, al_14, as_14, ln_14, ln_15, ql_15, gI_16, pI_16, rc_16, al_17, as_17, ln_17, al_18, as_18, ln_18, al_19, as_19, ln_19, al_20, as_20, ln_20, bl_21, bs_21, ln_21, gI_22, pI_22, rc_22, al_23, as_23, ln_23, al_24, as_24, ln_24, al_25, as_25, ln_25, gI_31, pI_31, rc_31, al_32, as_32, ln_32, gI_33, pI_33, rc_33, al_34, as_34, ln_34, gI_35, pI_35, rc_35, al_36, as_36, ln_36, gI_37, pI_37, rc_37, al_38, as_38, ln_38, gC_0_3, gC_0_4, gC_0_5, gC_0_7, gC_0_10, gC_0_11, gC_0_12, gC_0_13, gC_0_14, gC_0_15, gC_0_16, gC_0_17, gC_1_0, gC_1_2, gC_1_3, gC_5_0, gC_5_2, gC_10_0, gC_10_7, gC_13_5, gC_16_0, gC_16_2, gC_22_0, gC_22_1, gC_22_2, gC_22_3, gC_31_2, gC_33_2, gC_35_2, gC_37_2, bI_rI, bV_rV, bQ_rN, bQ_rR, bz_0, bz_1, bz_Z, hZ0, hZ1, Lay_setI, Lay_setA, hl, r128, nI_add, n1]
theorem setLong_v (hl : Lay u) {p S : Nat} (hp : p < 6) (hS : S < 128) (v : Int32) : fx_setNumber u 23 ((nI p * 128) + nI S) v = rV (setI u 23 (128 * p + S) v) := by
  rw [r128, nI_add, L_sni hl (by decide : 23 < 68) (rfl : layF 23 = (20, 768)) (by omega)]
/-- the table, by sets below one; a row of one set -/
def RW (k : Nat) (u : SM) (T : Nat → NN) (N : Nat) : Prop := ∀ S p, 1 ≤ S → S < N → p < 6 → mI u k (128 * p + S) = nI (T S p)
def RowS (u : SM) (S : Nat) (d : NN) (N : Nat) : Prop := ∀ p, p < N → mI u 23 (128 * p + S) = nI (d p)
theorem RW.st {k : Nat} {T : Nat → NN} {N p v : Nat} (h : RW k u T N) (hN : N ≤ 127) (z : Int32) (hv : v = 128 * p + N) : RW k (setI u k v z) T N := by
  intro S q h1 h2 h3
  rw [setI_I, if_neg (fun e => by omega)]
  exact h S q h1 h2 h3
theorem RowS.st {S N : Nat} {d d' : NN} (h : RowS u S d N) (hS : S ≤ 127) {q : Nat} {z : Nat} (h1 : ∀ p, p ≠ q → d' p = d p) (h2 : d' q = z) : RowS (setI u 23 (128 * q + S) (nI z)) S d' N := by
  intro p hp
  rw [setI_I]
  by_cases c : p = q
  · subst c; rw [if_pos ⟨rfl, rfl⟩, h2]
  · rw [if_neg (fun e => by omega), h1 p c]
    exact h p hp
theorem wmax_up {f : Nat → Nat} {S K : Nat} (hS : S < 2 ^ K) : ∀ j, K ≤ j → wmax f S j = wmax f S K := by
  intro j
  induction j with
  | zero => intro h; obtain rfl : K = 0 := by omega
            rfl
  | succ j ih =>
    intro h
    by_cases c : K ≤ j
    · rw [wmax_s, if_neg (fun e => by have := tb_ltK hS e; omega)]; exact ih c
    · obtain rfl : K = j + 1 := by omega
      rfl
theorem worstOfParts_v {G : GG} {L : List Nat} {K : Nat} {T : Nat → NN} (hl : Lay u) (hs : s ≤ 12) (h : SEE G s L u) {p S : Nat} (hp : p < 6) (hK : K ≤ 7) (hS : S < 2 ^ K) (h1 : 1 ≤ S) (hr : RW 23 u T S) (hT : ∀ S p, T S p ≤ 1000000) (hn : ¬ nt (EL G s L) K S p) :
    fAW_worstOfParts u (nI p) (nI S) = rI (nI (wmax (fun w => T (LK (EL G s L) K S w p) p) S K)) u := by
  have hS7 := pw7 hK hS
  have hmil : ∀ j, wmax (fun w => T (LK (EL G s L) K S w p) p) S j ≤ 1000000 := fun j => wmax_le j (fun w _ _ => hT _ _)
  rw [← wmax_up hS 7 hK]
  refine for_up (β := Nat) (fun f w v a => fAW_worstOfParts_l5 f w (nI p) (nI S) (nI a) (nI v)) (fun r => r = rI (nI (wmax (fun w => T (LK (EL G s L) K S w p) p) S 7)) u) 7
    (fun v w a => w = u ∧ a = wmax (fun w => T (LK (EL G s L) K S w p) p) S v) ?_ ?_ 7 0 u 0 1000000 (by omega) ⟨rfl, rfl⟩ (by omega)
  · intro f w a ⟨ew, ea⟩
    subst ew
    show fAW_worstOfParts_5 _ w (nI p) (nI S) (nI a) (nI 7) = _
    unfold fAW_worstOfParts_5
    rw [if_pos (show (7 : Int32) ≤ nI 7 from Int32.le_refl _), ea]
  · intro f w v a hv ⟨ew, ea⟩ ih
    subst ew
    have e8 : ¬ (7 : Int32) ≤ nI v := nI_ge (b := 7) hv (by decide)
    have ha := hmil v
    rw [← ea] at ha
    show fAW_worstOfParts_5 _ w (nI p) (nI S) (nI a) (nI v) = _
    simp only [fAW_worstOfParts_5, gI_0, pI_0, rc_0, gI_1, pI_1, rc_1, ln_2, ql_2, al_3, as_3, ln_3, al_4, as_4, ln_4, gI_5, pI_5, rc_5, ln_6, ql_6, al_7, as_7, ln_7, al_8, as_8, ln_8, ln_9, ql_9, gI_10, pI_10, rc_10, al_11, as_11, ln_11, al_12, as_12, ln_12, gI_13, pI_13, rc_13, al_14, as_14, ln_14, ln_15, ql_15, gI_16, pI_16, rc_16, al_17, as_17, ln_17, al_18, as_18, ln_18, al_19, as_19, ln_19, al_20, as_20, ln_20, bl_21, bs_21, ln_21, gI_22, pI_22, rc_22, al_23, as_23, ln_23, al_24, as_24, ln_24, al_25, as_25, ln_25, gI_31, pI_31, rc_31, al_32, as_32, ln_32, gI_33, pI_33, rc_33, al_34, as_34, ln_34, gI_35, pI_35, rc_35, al_36, as_36, ln_36, gI_37, pI_37, rc_37, al_38, as_38, ln_38, gC_0_3, gC_0_4, gC_0_5, gC_0_7, gC_0_10, gC_0_11, gC_0_12, gC_0_13, gC_0_14, gC_0_15, gC_0_16, gC_0_17, gC_1_0, gC_1_2, gC_1_3, gC_5_0, gC_5_2, gC_10_0, gC_10_7, gC_13_5, gC_16_0, gC_16_2, gC_22_0, gC_22_1, gC_22_2, gC_22_3, gC_31_2, gC_33_2, gC_35_2, gC_37_2, bI_rI, bV_rV, bQ_rN, bQ_rR, bz_0, bz_1, bz_Z, hZ0, hZ1, Lay_setI, Lay_setA, hl, e8, if_false, b_bit _ (show v < 32 by omega), b_ni _ _ (show S < 2 ^ 32 by omega), lookingLike_v hl hs h hp hv hK hS, nI_1]
    cases c : S.testBit v
    · simp only [Bool.false_eq_true, if_false]
      exact ih w a ⟨rfl, by rw [wmax_s, c, if_neg (by decide)]; exact ea⟩
    · have hlt := LK_lt (p := p) (EL_eqv G s L) hK hS h1 hn c
      have hpo := tb_pos (LK_pos (p := p) (EL_eqv G s L) hK hS c)
      have hv2 := hr _ p hpo hlt hp
      have hT2 := hT (LK (EL G s L) K S v p) p
      simp only [if_true, longestFor_v hl hp (show LK (EL G s L) K S v p < 128 by omega), hv2, bI_rI, fjM_max_v, mx2_I (show a < 2 ^ 31 by omega) (show T (LK (EL G s L) K S v p) p < 2 ^ 31 by omega)]
      exact ih w _ ⟨rfl, by rw [wmax_s, c, if_pos rfl, ← ea]⟩
end
