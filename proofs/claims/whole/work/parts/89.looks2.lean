section
variable {n m s g x p : Nat} {t0 t u : SM}
theorem whichHave_v {L : List Nat} (h : Lay u) (hf : FdC L u) (hl : L.length ≤ 7) (hb : ∀ w, w ∈ L → w < 512) {c : Nat} (hc : c < 9) : fWd_whichHave u (nI c) = rI (nI (hvN L c)) u := by
  rw [← (hvN_eq hl c).1]
  have := for_fo (fun f k b => fWd_whichHave_l4 f u (nI c) b (nI k)) L.length (fun k b => if (L.getD k 0).testBit c = true then b ||| ((1 : Int32) <<< (nI k &&& 31)) else b) (fun b => rI b u)
    (fun f b => by
      have e9 : nI L.length ≤ nI L.length := Int32.le_refl _
      show fWd_whichHave_4 _ u (nI c) b (nI L.length) = _
      simp only [fWd_whichHave_4, gI_0, pI_0, rc_0, gI_1, pI_1, rc_1, ln_2, ql_2, al_3, as_3, ln_3, al_4, as_4, ln_4, gI_5, pI_5, rc_5, ln_6, ql_6, al_7, as_7, ln_7, al_8, as_8, ln_8, ln_9, ql_9, gI_10, pI_10, rc_10, al_11, as_11, ln_11, al_12, as_12, ln_12, gI_13, pI_13, rc_13, al_14, as_14, ln_14, ln_15, ql_15, gI_16, pI_16, rc_16, al_17, as_17, ln_17, al_18, as_18, ln_18, al_19, as_19, ln_19, al_20, as_20, ln_20, bl_21, bs_21, ln_21, gI_22, pI_22, rc_22, al_23, as_23, ln_23, al_24, as_24, ln_24, al_25, as_25, ln_25, gI_31, pI_31, rc_31, al_32, as_32, ln_32, gI_33, pI_33, rc_33, al_34, as_34, ln_34, gI_35, pI_35, rc_35, al_36, as_36, ln_36, gI_37, pI_37, rc_37, al_38, as_38, ln_38, gC_0_3, gC_0_4, gC_0_5, gC_0_7, gC_0_10, gC_0_11, gC_0_12, gC_0_13, gC_0_14, gC_0_15, gC_0_16, gC_0_17, gC_1_0, gC_1_2, gC_1_3, gC_5_0, gC_5_2, gC_10_0, gC_10_7, gC_13_5, gC_16_0, gC_16_2, gC_22_0, gC_22_1, gC_22_2, gC_22_3, gC_31_2, gC_33_2, gC_35_2, gC_37_2, bI_rI, bV_rV, bQ_rN, bQ_rR, bz_0, bz_1, bz_Z, hZ0, hZ1, Lay_setI, Lay_setA, h, hf.1, e9, if_true])
    (fun f k b hk => by
      have e9 : ¬ nI L.length ≤ nI k := nI_ge hk (by omega)
      have e8 : ¬ (7 : Int32) ≤ nI k := nI_ge (b := 7) (show k < 7 by omega) (by decide)
      have hw := hb _ (getD_mem hk)
      show fWd_whichHave_4 _ u (nI c) b (nI k) = _
      simp only [fWd_whichHave_4, gI_0, pI_0, rc_0, gI_1, pI_1, rc_1, ln_2, ql_2, al_3, as_3, ln_3, al_4, as_4, ln_4, gI_5, pI_5, rc_5, ln_6, ql_6, al_7, as_7, ln_7, al_8, as_8, ln_8, ln_9, ql_9, gI_10, pI_10, rc_10, al_11, as_11, ln_11, al_12, as_12, ln_12, gI_13, pI_13, rc_13, al_14, as_14, ln_14, ln_15, ql_15, gI_16, pI_16, rc_16, al_17, as_17, ln_17, al_18, as_18, ln_18, al_19, as_19, ln_19, al_20, as_20, ln_20, bl_21, bs_21, ln_21, gI_22, pI_22, rc_22, al_23, as_23, ln_23, al_24, as_24, ln_24, al_25, as_25, ln_25, gI_31, pI_31, rc_31, al_32, as_32, ln_32, gI_33, pI_33, rc_33, al_34, as_34, ln_34, gI_35, pI_35, rc_35, al_36, as_36, ln_36, gI_37, pI_37, rc_37, al_38, as_38, ln_38, gC_0_3, gC_0_4, gC_0_5, gC_0_7, gC_0_10, gC_0_11, gC_0_12, gC_0_13, gC_0_14, gC_0_15, gC_0_16, gC_0_17, gC_1_0, gC_1_2, gC_1_3, gC_5_0, gC_5_2, gC_10_0, gC_10_7, gC_13_5, gC_16_0, gC_16_2, gC_22_0, gC_22_1, gC_22_2, gC_22_3, gC_31_2, gC_33_2, gC_35_2, gC_37_2, bI_rI, bV_rV, bQ_rN, bQ_rR, bz_0, bz_1, bz_Z, hZ0, hZ1, Lay_setI, Lay_setA, h, hf.1, e9, e8, if_false, fWd_townAt_v h hf (show L.length ≤ 512 by omega), twn_i hk (show L.length ≤ 512 by omega), nI_1, b_bit _ (show c < 32 by omega), b_ni _ _ (show L.getD k 0 < 2 ^ 32 by omega)]
      congr 1
      cases (L.getD k 0).testBit c
      · show b ||| ((0 : Int32) <<< (nI k &&& 31)) = b
        apply b_ext
        intro i hi
        rw [b_or, b_shl k (by omega) 0 hi, b_0]; simp
      · rfl)
    0 L.length 0 1000000 (by omega) (by omega)
  exact this
def LkR (k : Nat) (f : Nat → Nat) (S : Nat) (u : SM) : Prop := ∀ q, 1 ≤ q → q < S → mI u k q = nI (f q)
theorem mx2_I {a b : Nat} (ha : a < 2 ^ 31) (hb : b < 2 ^ 31) : (if nI a < nI b then nI b else nI a) = nI (mx2 a b) := by
  unfold mx2
  by_cases c : a < b
  · rw [if_pos c, if_pos (nI_lt c hb)]
  · rw [if_neg c, if_neg (nI_nlt (by omega) ha)]
theorem mx2_lt {a b N : Nat} (ha : a < N) (hb : b < N) : mx2 a b < N := by unfold mx2; split <;> omega
theorem looksFor_v {L : List Nat} {f : Nat → Nat} {S : Nat} (h : Lay u) (hf : FdC L u) (hl : L.length ≤ 7) (hb : ∀ w, w ∈ L → w < 512) (hn : n ≤ 9) (hS : S < 128) (hr : LkR 18 f S u) (hfs : ∀ q, f q ≤ 9) :
    fWd_looksFor u (nI S) (nI n) = rI (nI (lkv f (hvN L) n S)) u := by
  have hp7 : pc S ≤ 7 := by
    by_cases e : S = 0
    · subst e; decide
    · exact (pc_pos S hS (by omega)).2
  unfold fWd_looksFor lkv
  simp only [bc_on u (show S < 512 by omega), bI_rI, onc_nI, pc_cn S hS]
  by_cases c1 : pc S ≤ 1
  · rw [if_neg (show ¬ (1 : Int32) < nI (pc S) from nI_nlt (a := 1) c1 (by decide)), if_pos c1]; rfl
  · rw [if_pos (show (1 : Int32) < nI (pc S) from nI_lt (a := 1) (by omega) (by omega)), if_neg c1]
    refine for_up (β := Nat) (fun F w c a => fWd_looksFor_l16 F w (nI S) (nI n) (nI a) (nI c)) (fun r => r = rI (nI (lkf f (hvN L) S 9 n)) u) n
      (fun c w a => w = u ∧ a = lkf f (hvN L) S 9 c) ?_ ?_ n 0 u 9 1000000 (by omega) ⟨rfl, rfl⟩ (by omega)
    · intro F w a ⟨ew, ea⟩
      subst ew
      have e9 : nI n ≤ nI n := Int32.le_refl _
      show fWd_looksFor_16 _ w (nI S) (nI n) (nI a) (nI n) = _
      simp only [fWd_looksFor_16, e9, if_true, ea]
    · intro F w c a hc ⟨ew, ea⟩ ih
      subst ew
      have e9 : ¬ nI n ≤ nI c := nI_ge hc (by omega)
      have hH := hvN_lt hl c
      have ha9 : a ≤ 9 := by rw [ea]; exact lkf_le _ _ _ _ _
      show fWd_looksFor_16 _ w (nI S) (nI n) (nI a) (nI c) = _
      simp only [fWd_looksFor_16, gI_0, pI_0, rc_0, gI_1, pI_1, rc_1, ln_2, ql_2, al_3, as_3, ln_3, al_4, as_4, ln_4, gI_5, pI_5, rc_5, ln_6, ql_6, al_7, as_7, ln_7, al_8, as_8, ln_8, ln_9, ql_9, gI_10, pI_10, rc_10, al_11, as_11, ln_11, al_12, as_12, ln_12, gI_13, pI_13, rc_13, al_14, as_14, ln_14, ln_15, ql_15, gI_16, pI_16, rc_16, al_17, as_17, ln_17, al_18, as_18, ln_18, al_19, as_19, ln_19, al_20, as_20, ln_20, bl_21, bs_21, ln_21, gI_22, pI_22, rc_22, al_23, as_23, ln_23, al_24, as_24, ln_24, al_25, as_25, ln_25, gI_31, pI_31, rc_31, al_32, as_32, ln_32, gI_33, pI_33, rc_33, al_34, as_34, ln_34, gI_35, pI_35, rc_35, al_36, as_36, ln_36, gI_37, pI_37, rc_37, al_38, as_38, ln_38, gC_0_3, gC_0_4, gC_0_5, gC_0_7, gC_0_10, gC_0_11, gC_0_12, gC_0_13, gC_0_14, gC_0_15, gC_0_16, gC_0_17, gC_1_0, gC_1_2, gC_1_3, gC_5_0, gC_5_2, gC_10_0, gC_10_7, gC_13_5, gC_16_0, gC_16_2, gC_22_0, gC_22_1, gC_22_2, gC_22_3, gC_31_2, gC_33_2, gC_35_2, gC_37_2, bI_rI, bV_rV, bQ_rN, bQ_rR, bz_0, bz_1, bz_Z, hZ0, hZ1, Lay_setI, Lay_setA, h, e9, if_false, whichHave_v h hf hl hb (show c < 9 by omega), nI_and, nI_sub0 hS, nI_subS hS, nI_1]
      by_cases q0 : S &&& hvN L c = 0
      · rw [if_pos q0]
        exact ih w a ⟨rfl, by rw [lkf_s, ← ea]; unfold lkc; rw [if_pos q0]⟩
      · rw [if_neg q0]
        by_cases q1 : S &&& hvN L c = S
        · rw [if_pos q1]
          exact ih w a ⟨rfl, by rw [lkf_s, ← ea]; unfold lkc; rw [if_neg q0, if_pos q1]⟩
        · rw [if_neg q1]
          obtain ⟨a1, a2, a3, a4, a5⟩ := set_f S hS (hvN L c) hH q0 q1
          have f1 := hfs (S &&& hvN L c)
          have f2 := hfs (S ^^^ (S &&& hvN L c))
          have n1 := L_nai (t := w) (k := 18) (N := 128) (i := S &&& hvN L c) h (by decide) rfl (by omega)
          have n2 := L_nai (t := w) (k := 18) (N := 128) (i := S ^^^ (S &&& hvN L c)) h (by decide) rfl (by omega)
          rw [hr _ a1 a2] at n1
          rw [hr _ a3 a4] at n2
          have m9 : mx2 (f (S &&& hvN L c)) (f (S ^^^ (S &&& hvN L c))) < 10 := mx2_lt (by omega) (by omega)
          have e1 : (1 : Int32) + nI (mx2 (f (S &&& hvN L c)) (f (S ^^^ (S &&& hvN L c)))) = nI (1 + mx2 (f (S &&& hvN L c)) (f (S ^^^ (S &&& hvN L c)))) := nI_add 1 _
          simp only [n1, nI_rest hS hH, n2, gI_0, pI_0, rc_0, gI_1, pI_1, rc_1, ln_2, ql_2, al_3, as_3, ln_3, al_4, as_4, ln_4, gI_5, pI_5, rc_5, ln_6, ql_6, al_7, as_7, ln_7, al_8, as_8, ln_8, ln_9, ql_9, gI_10, pI_10, rc_10, al_11, as_11, ln_11, al_12, as_12, ln_12, gI_13, pI_13, rc_13, al_14, as_14, ln_14, ln_15, ql_15, gI_16, pI_16, rc_16, al_17, as_17, ln_17, al_18, as_18, ln_18, al_19, as_19, ln_19, al_20, as_20, ln_20, bl_21, bs_21, ln_21, gI_22, pI_22, rc_22, al_23, as_23, ln_23, al_24, as_24, ln_24, al_25, as_25, ln_25, gI_31, pI_31, rc_31, al_32, as_32, ln_32, gI_33, pI_33, rc_33, al_34, as_34, ln_34, gI_35, pI_35, rc_35, al_36, as_36, ln_36, gI_37, pI_37, rc_37, al_38, as_38, ln_38, gC_0_3, gC_0_4, gC_0_5, gC_0_7, gC_0_10, gC_0_11, gC_0_12, gC_0_13, gC_0_14, gC_0_15, gC_0_16, gC_0_17, gC_1_0, gC_1_2, gC_1_3, gC_5_0, gC_5_2, gC_10_0, gC_10_7, gC_13_5, gC_16_0, gC_16_2, gC_22_0, gC_22_1, gC_22_2, gC_22_3, gC_31_2, gC_33_2, gC_35_2, gC_37_2, bI_rI, bV_rV, bQ_rN, bQ_rR, bz_0, bz_1, bz_Z, hZ0, hZ1, Lay_setI, Lay_setA, h, fjM_max_v, fjM_min_v, mx2_I (show f (S &&& hvN L c) < 2 ^ 31 by omega) (show f (S ^^^ (S &&& hvN L c)) < 2 ^ 31 by omega), e1]
          have e2 : (if nI (1 + mx2 (f (S &&& hvN L c)) (f (S ^^^ (S &&& hvN L c)))) < nI a then nI (1 + mx2 (f (S &&& hvN L c)) (f (S ^^^ (S &&& hvN L c)))) else nI a) = nI (lkc f (hvN L) S c a) := by
            unfold lkc
            rw [if_neg q0, if_neg q1]
            by_cases q2 : 1 + mx2 (f (S &&& hvN L c)) (f (S ^^^ (S &&& hvN L c))) < a
            · rw [if_pos q2, if_pos (nI_lt q2 (by omega))]
            · rw [if_neg q2, if_neg (nI_nlt (by omega) (by omega))]
          rw [e2]
          exact ih w _ ⟨rfl, by rw [lkf_s, ← ea]⟩
theorem LkR.set {k : Nat} {H : Nat → Nat} {S : Nat} (h : LkR k (lkt H n S) S u) : LkR k (lkt H n (S + 1)) (S + 1) (setI u k S (nI (lkv (lkt H n S) H n S))) := by
  intro q h1 h2
  show _ = nI (if q = S then _ else lkt H n S q)
  by_cases e : q = S
  · rw [if_pos e, setI_eq rfl e]
  · rw [if_neg e, setI_I, if_neg (fun a => e a.2)]
    exact h q h1 (by omega)
theorem lkt_9 {H : Nat → Nat} (hH : ∀ c, H c < 128) {K : Nat} (hK : K ≤ 128) (hs : Spl H n K) {k : Nat} (hk : k ≤ K) : ∀ q, lkt H n k q ≤ 9 := by
  intro q
  by_cases c : q < k
  · by_cases d : 1 ≤ q
    · have := lkt_le hH hK hs k hk q d c
      have := (pc_pos q (by omega) d).2
      omega
    · obtain rfl : q = 0 := by omega
      clear c
      induction k with
      | zero => exact Nat.zero_le _
      | succ k ih =>
        show (if 0 = k then _ else lkt H n k 0) ≤ 9
        by_cases e : 0 = k
        · rw [if_pos e]
          unfold lkv
          rw [← e, if_pos (show pc 0 ≤ 1 by decide)]; exact Nat.zero_le _
        · rw [if_neg e]; exact ih (by omega)
  · rw [lkt_hi _ _ _ _ (by omega)]; exact Nat.zero_le _
def lkA (L : List Nat) (n : Nat) : Nat := lkt (hvN L) n (2 ^ L.length) (2 ^ L.length - 1)
theorem looksAtWorst_v {L : List Nat} (h : Lay u) (hf : FdC L u) (hl : L.length ≤ 7) (h1 : 1 ≤ L.length) (hb : ∀ w, w ∈ L → w < 512) (hn : n ≤ 9) (hs : Spl (hvN L) n (2 ^ L.length)) :
    ∃ u', fWd_looksAtWorst u (nI n) = rI (nI (lkA L n)) u' ∧ FS [18] u u' := by
  have h7 : 2 ^ L.length ≤ 2 ^ 7 := Nat.pow_le_pow_right (by decide) hl
  have h2 : 2 ^ 1 ≤ 2 ^ L.length := Nat.pow_le_pow_right (by decide) h1
  have e7 : ¬ (7 : Int32) < nI L.length := nI_nlt (a := 7) hl (by decide)
  unfold fWd_looksAtWorst
  simp only [gI_0, pI_0, rc_0, gI_1, pI_1, rc_1, ln_2, ql_2, al_3, as_3, ln_3, al_4, as_4, ln_4, gI_5, pI_5, rc_5, ln_6, ql_6, al_7, as_7, ln_7, al_8, as_8, ln_8, ln_9, ql_9, gI_10, pI_10, rc_10, al_11, as_11, ln_11, al_12, as_12, ln_12, gI_13, pI_13, rc_13, al_14, as_14, ln_14, ln_15, ql_15, gI_16, pI_16, rc_16, al_17, as_17, ln_17, al_18, as_18, ln_18, al_19, as_19, ln_19, al_20, as_20, ln_20, bl_21, bs_21, ln_21, gI_22, pI_22, rc_22, al_23, as_23, ln_23, al_24, as_24, ln_24, al_25, as_25, ln_25, gI_31, pI_31, rc_31, al_32, as_32, ln_32, gI_33, pI_33, rc_33, al_34, as_34, ln_34, gI_35, pI_35, rc_35, al_36, as_36, ln_36, gI_37, pI_37, rc_37, al_38, as_38, ln_38, gC_0_3, gC_0_4, gC_0_5, gC_0_7, gC_0_10, gC_0_11, gC_0_12, gC_0_13, gC_0_14, gC_0_15, gC_0_16, gC_0_17, gC_1_0, gC_1_2, gC_1_3, gC_5_0, gC_5_2, gC_10_0, gC_10_7, gC_13_5, gC_16_0, gC_16_2, gC_22_0, gC_22_1, gC_22_2, gC_22_3, gC_31_2, gC_33_2, gC_35_2, gC_37_2, bI_rI, bV_rV, bQ_rN, bQ_rR, bz_0, bz_1, bz_Z, hZ0, hZ1, Lay_setI, Lay_setA, h, hf.1, fjM_min_v, if_neg e7, b_mask L.length (show L.length < 31 by omega)]
  refine for_up (β := Unit) (fun F w S _ => fWd_looksAtWorst_l16 (fun t u2 => fWd_looksAtWorst_41 t u2) F w (nI n) (nI (2 ^ L.length - 1)) (nI S)) (fun r => ∃ u', r = rI (nI (lkA L n)) u' ∧ FS [18] u u') (2 ^ L.length)
    (fun S w _ => FS [18] u w ∧ LkR 18 (lkt (hvN L) n S) S w) ?_ ?_ (2 ^ L.length - 1) 1 u () 1000000 (by omega) ⟨FS.refl _ _, fun q h1 h2 => absurd h2 (by omega)⟩ (by omega)
  · intro F w _ ⟨fw, hr⟩
    have hw : Lay w := fw.1.lay h
    have e1 : nI (2 ^ L.length - 1) < nI (2 ^ L.length) := nI_lt (by omega) (by omega)
    have na := L_nai (t := w) (k := 18) (N := 128) (i := 2 ^ L.length - 1) hw (by decide) rfl (by omega)
    rw [hr _ (by omega) (by omega)] at na
    refine ⟨w, ?_, fw⟩
    show fWd_looksAtWorst_16 _ _ w (nI n) (nI (2 ^ L.length - 1)) (nI (2 ^ L.length)) = _
    simp only [fWd_looksAtWorst_16, e1, if_true, fWd_looksAtWorst_41, gI_0, pI_0, rc_0, gI_1, pI_1, rc_1, ln_2, ql_2, al_3, as_3, ln_3, al_4, as_4, ln_4, gI_5, pI_5, rc_5, ln_6, ql_6, al_7, as_7, ln_7, al_8, as_8, ln_8, ln_9, ql_9, gI_10, pI_10, rc_10, al_11, as_11, ln_11, al_12, as_12, ln_12, gI_13, pI_13, rc_13, al_14, as_14, ln_14, ln_15, ql_15, gI_16, pI_16, rc_16, al_17, as_17, ln_17, al_18, as_18, ln_18, al_19, as_19, ln_19, al_20, as_20, ln_20, bl_21, bs_21, ln_21, gI_22, pI_22, rc_22, al_23, as_23, ln_23, al_24, as_24, ln_24, al_25, as_25, ln_25, gI_31, pI_31, rc_31, al_32, as_32, ln_32, gI_33, pI_33, rc_33, al_34, as_34, ln_34, gI_35, pI_35, rc_35, al_36, as_36, ln_36, gI_37, pI_37, rc_37, al_38, as_38, ln_38, gC_0_3, gC_0_4, gC_0_5, gC_0_7, gC_0_10, gC_0_11, gC_0_12, gC_0_13, gC_0_14, gC_0_15, gC_0_16, gC_0_17, gC_1_0, gC_1_2, gC_1_3, gC_5_0, gC_5_2, gC_10_0, gC_10_7, gC_13_5, gC_16_0, gC_16_2, gC_22_0, gC_22_1, gC_22_2, gC_22_3, gC_31_2, gC_33_2, gC_35_2, gC_37_2, bI_rI, bV_rV, bQ_rN, bQ_rR, bz_0, bz_1, bz_Z, hZ0, hZ1, Lay_setI, Lay_setA, hw, na]
    rfl
  · intro F w S _ hS ⟨fw, hr⟩ ih
    have hw : Lay w := fw.1.lay h
    have e1 : ¬ nI (2 ^ L.length - 1) < nI S := nI_nlt (by omega) (by omega)
    have hf' : FdC L w := ⟨(fw.row 16 rfl (by decide) 1).trans hf.1, fun k hk => (fw.row 17 rfl (by decide) k).trans (hf.2 k hk)⟩
    have hfs : ∀ q, lkt (hvN L) n S q ≤ 9 := lkt_9 (hvN_lt hl) h7 hs (by omega)
    have lv := looksFor_v (n := n) hw hf' hl hb hn (show S < 128 by omega) hr hfs
    have sn := L_sni (t := w) (k := 18) (N := 128) (i := S) (c := nI (lkv (lkt (hvN L) n S) (hvN L) n S)) hw (by decide) rfl (by omega)
    show ∃ u', fWd_looksAtWorst_16 _ _ w (nI n) (nI (2 ^ L.length - 1)) (nI S) = _ ∧ _
    simp only [fWd_looksAtWorst_16, e1, if_false, gI_0, pI_0, rc_0, gI_1, pI_1, rc_1, ln_2, ql_2, al_3, as_3, ln_3, al_4, as_4, ln_4, gI_5, pI_5, rc_5, ln_6, ql_6, al_7, as_7, ln_7, al_8, as_8, ln_8, ln_9, ql_9, gI_10, pI_10, rc_10, al_11, as_11, ln_11, al_12, as_12, ln_12, gI_13, pI_13, rc_13, al_14, as_14, ln_14, ln_15, ql_15, gI_16, pI_16, rc_16, al_17, as_17, ln_17, al_18, as_18, ln_18, al_19, as_19, ln_19, al_20, as_20, ln_20, bl_21, bs_21, ln_21, gI_22, pI_22, rc_22, al_23, as_23, ln_23, al_24, as_24, ln_24, al_25, as_25, ln_25, gI_31, pI_31, rc_31, al_32, as_32, ln_32, gI_33, pI_33, rc_33, al_34, as_34, ln_34, gI_35, pI_35, rc_35, al_36, as_36, ln_36, gI_37, pI_37, rc_37, al_38, as_38, ln_38, gC_0_3, gC_0_4, gC_0_5, gC_0_7, gC_0_10, gC_0_11, gC_0_12, gC_0_13, gC_0_14, gC_0_15, gC_0_16, gC_0_17, gC_1_0, gC_1_2, gC_1_3, gC_5_0, gC_5_2, gC_10_0, gC_10_7, gC_13_5, gC_16_0, gC_16_2, gC_22_0, gC_22_1, gC_22_2, gC_22_3, gC_31_2, gC_33_2, gC_35_2, gC_37_2, bI_rI, bV_rV, bQ_rN, bQ_rR, bz_0, bz_1, bz_Z, hZ0, hZ1, Lay_setI, Lay_setA, hw, lv, sn, nI_1]
    exact ih _ () ⟨fw.st rfl (by decide), hr.set⟩
def few (L : List Nat) : Bool := decide (1 ≤ L.length) && decide (L.length ≤ 7)
theorem findFewWorlds_v (h : Inv n m s g x p t0) : IS [16, 17] t0 (fx_findFewWorlds t0) (bz (few (WL n m (pm t0) (evB m)))) (FdC (WL n m (pm t0) (evB m))) := by
  have hr := h.rng
  obtain ⟨u, eu, fu, gu⟩ := fx_findWorlds_v h (evB m)
  have hl := WL_le (m := m) (show n ≤ 9 by omega) (pm t0) (evB m)
  refine ⟨u, ?_, fu, gu⟩
  simp only [fx_findFewWorlds, gI_0, pI_0, rc_0, gI_1, pI_1, rc_1, ln_2, ql_2, al_3, as_3, ln_3, al_4, as_4, ln_4, gI_5, pI_5, rc_5, ln_6, ql_6, al_7, as_7, ln_7, al_8, as_8, ln_8, ln_9, ql_9, gI_10, pI_10, rc_10, al_11, as_11, ln_11, al_12, as_12, ln_12, gI_13, pI_13, rc_13, al_14, as_14, ln_14, ln_15, ql_15, gI_16, pI_16, rc_16, al_17, as_17, ln_17, al_18, as_18, ln_18, al_19, as_19, ln_19, al_20, as_20, ln_20, bl_21, bs_21, ln_21, gI_22, pI_22, rc_22, al_23, as_23, ln_23, al_24, as_24, ln_24, al_25, as_25, ln_25, gI_31, pI_31, rc_31, al_32, as_32, ln_32, gI_33, pI_33, rc_33, al_34, as_34, ln_34, gI_35, pI_35, rc_35, al_36, as_36, ln_36, gI_37, pI_37, rc_37, al_38, as_38, ln_38, gC_0_3, gC_0_4, gC_0_5, gC_0_7, gC_0_10, gC_0_11, gC_0_12, gC_0_13, gC_0_14, gC_0_15, gC_0_16, gC_0_17, gC_1_0, gC_1_2, gC_1_3, gC_5_0, gC_5_2, gC_10_0, gC_10_7, gC_13_5, gC_16_0, gC_16_2, gC_22_0, gC_22_1, gC_22_2, gC_22_3, gC_31_2, gC_33_2, gC_35_2, gC_37_2, bI_rI, bV_rV, bQ_rN, bQ_rR, bz_0, bz_1, bz_Z, hZ0, hZ1, Lay_setI, Lay_setA, h.lay, fAt_everyMap_v h, eu]
  generalize WL n m (pm t0) (evB m) = L at *
  unfold few
  have e1 : (nI L.length < 1) = (L.length < 1) := propext (nI_ltI (b := 1) (by omega) (by decide))
  have e2 : ((7 : Int32) < nI L.length) = (7 < L.length) := propext (nI_ltI (a := 7) (by decide) (by omega))
  simp only [e1, e2]
  by_cases c1 : L.length < 1
  · rw [if_pos c1, decide_eq_false (by omega)]; rfl
  · rw [if_neg c1, decide_eq_true (by omega)]
    by_cases c2 : 7 < L.length
    · rw [if_pos c2, decide_eq_false (by omega)]; rfl
    · rw [if_neg c2, decide_eq_true (by omega)]; rfl
theorem WL_nd (G : GG) (set : Int32) : (WL n m G set).Nodup := List.Nodup.sublist List.filter_sublist List.nodup_range
def s_looks (n m : Nat) (G : GG) : Int32 := if few (WL n m G (evB m)) = true then nI (lkA (WL n m G (evB m)) n) else -3
theorem few_t {L : List Nat} (h : few L = true) : 1 ≤ L.length ∧ L.length ≤ 7 := by
  unfold few at h
  simpa using h
theorem xq_looks (h : Inv n m s g x p t) : QQ t (fx_looks t) (s_looks n m (pm t)) := by
  have hr := h.rng
  have hpw := pw_lt (n := n) (by omega)
  obtain ⟨u, eu, fu, gu⟩ := findFewWorlds_v h
  have hu := h.fr fu.1
  unfold s_looks
  simp only [fx_looks, gI_0, pI_0, rc_0, gI_1, pI_1, rc_1, ln_2, ql_2, al_3, as_3, ln_3, al_4, as_4, ln_4, gI_5, pI_5, rc_5, ln_6, ql_6, al_7, as_7, ln_7, al_8, as_8, ln_8, ln_9, ql_9, gI_10, pI_10, rc_10, al_11, as_11, ln_11, al_12, as_12, ln_12, gI_13, pI_13, rc_13, al_14, as_14, ln_14, ln_15, ql_15, gI_16, pI_16, rc_16, al_17, as_17, ln_17, al_18, as_18, ln_18, al_19, as_19, ln_19, al_20, as_20, ln_20, bl_21, bs_21, ln_21, gI_22, pI_22, rc_22, al_23, as_23, ln_23, al_24, as_24, ln_24, al_25, as_25, ln_25, gI_31, pI_31, rc_31, al_32, as_32, ln_32, gI_33, pI_33, rc_33, al_34, as_34, ln_34, gI_35, pI_35, rc_35, al_36, as_36, ln_36, gI_37, pI_37, rc_37, al_38, as_38, ln_38, gC_0_3, gC_0_4, gC_0_5, gC_0_7, gC_0_10, gC_0_11, gC_0_12, gC_0_13, gC_0_14, gC_0_15, gC_0_16, gC_0_17, gC_1_0, gC_1_2, gC_1_3, gC_5_0, gC_5_2, gC_10_0, gC_10_7, gC_13_5, gC_16_0, gC_16_2, gC_22_0, gC_22_1, gC_22_2, gC_22_3, gC_31_2, gC_33_2, gC_35_2, gC_37_2, bI_rI, bV_rV, bQ_rN, bQ_rR, bz_0, bz_1, bz_Z, hZ0, hZ1, Lay_setI, Lay_setA, h.lay, eu]
  cases c : few (WL n m (pm t) (evB m))
  · simp only [if_true]; exact ⟨u, rfl, fu.1⟩
  · obtain ⟨c1, c2⟩ := few_t c
    have hb : ∀ w, w ∈ WL n m (pm t) (evB m) → w < 512 := fun w hw => by have := WL_lt (pm t) (evB m) w hw; omega
    obtain ⟨u', e2, f2⟩ := looksAtWorst_v (n := n) hu.lay gu c2 c1 hb (by omega) (spl_L c2 (WL_lt _ _) (WL_nd _ _))
    simp only [if_true, if_false, Bool.true_eq_false, gI_0, pI_0, rc_0, gI_1, pI_1, rc_1, ln_2, ql_2, al_3, as_3, ln_3, al_4, as_4, ln_4, gI_5, pI_5, rc_5, ln_6, ql_6, al_7, as_7, ln_7, al_8, as_8, ln_8, ln_9, ql_9, gI_10, pI_10, rc_10, al_11, as_11, ln_11, al_12, as_12, ln_12, gI_13, pI_13, rc_13, al_14, as_14, ln_14, ln_15, ql_15, gI_16, pI_16, rc_16, al_17, as_17, ln_17, al_18, as_18, ln_18, al_19, as_19, ln_19, al_20, as_20, ln_20, bl_21, bs_21, ln_21, gI_22, pI_22, rc_22, al_23, as_23, ln_23, al_24, as_24, ln_24, al_25, as_25, ln_25, gI_31, pI_31, rc_31, al_32, as_32, ln_32, gI_33, pI_33, rc_33, al_34, as_34, ln_34, gI_35, pI_35, rc_35, al_36, as_36, ln_36, gI_37, pI_37, rc_37, al_38, as_38, ln_38, gC_0_3, gC_0_4, gC_0_5, gC_0_7, gC_0_10, gC_0_11, gC_0_12, gC_0_13, gC_0_14, gC_0_15, gC_0_16, gC_0_17, gC_1_0, gC_1_2, gC_1_3, gC_5_0, gC_5_2, gC_10_0, gC_10_7, gC_13_5, gC_16_0, gC_16_2, gC_22_0, gC_22_1, gC_22_2, gC_22_3, gC_31_2, gC_33_2, gC_35_2, gC_37_2, bI_rI, bV_rV, bQ_rN, bQ_rR, bz_0, bz_1, bz_Z, hZ0, hZ1, Lay_setI, Lay_setA, hu.lay, hu.ch', e2]
    exact ⟨u', rfl, fu.1.trans f2.1⟩
end
