section
variable {n m s g x p : Nat} {t0 t u : SM}
/-- nothing but the table changes, and of it one set's row -/
def FW (S : Nat) (t u : SM) : Prop := FS [23] t u ∧ ∀ S' p, S' < 128 → p < 6 → S' ≠ S → mI u 23 (128 * p + S') = mI t 23 (128 * p + S')
theorem FW.refl (S : Nat) (t : SM) : FW S t t := ⟨FS.refl _ _, fun _ _ _ _ _ => rfl⟩
theorem FW.tr {S : Nat} {t u w : SM} (h : FW S t u) (h2 : FW S u w) : FW S t w := ⟨h.1.tr h2.1, fun S' p a b c => (h2.2 S' p a b c).trans (h.2 S' p a b c)⟩
theorem FW.st {S q : Nat} {v : Int32} (h : FW S t u) (hS : S < 128) : FW S t (setI u 23 (128 * q + S) v) := ⟨h.1.st rfl (by decide), fun S' p a b c => by
  rw [setI_I, if_neg (fun e => by omega)]; exact h.2 S' p a b c⟩
theorem FW.see {S : Nat} {G : GG} {L : List Nat} (h : FW S t u) (hs : SEE G s L t) : SEE G s L u := ⟨fun w hw => (h.1.row 24 rfl (by decide) w).trans (hs.1 w hw), fun p hp => (h.1.row 25 rfl (by decide) p).trans (hs.2 p hp)⟩
theorem FW.rw {S : Nat} {T : Nat → NN} (h : FW S t u) (hr : RW 23 t T S) (hS : S < 128) : RW 23 u T S := fun S' p a b c => (h.2 S' p (by omega) c (by omega)).trans (hr S' p a b c)
theorem shortW_v {d : NN} {i q b S : Nat} (h : Inv n m s g x p t0) (hl : FS [22, 23, 24, 25] t0 t) (hi : i < s) (hq : StA (pm t0) (mT t0) (mN t0) i q) (hd : RowS t S d 6) (hb : ∀ p, d p ≤ 1000000) (hbb : b < 6) (hS : S < 128) :
    ∃ u, fAW_shorten t q (nI b) (nI S) = rI (bz (decide (d (ote (pm t0) i b) + sk (pm t0) i < d b))) u ∧ FW S t u ∧ RowS u S (rx b (ote (pm t0) i b) (sk (pm t0) i) d) 6 := by
  have ht := h.fr hl.1
  obtain ⟨⟨k1, k2, k3, k4, k5⟩, q1, q2, q3⟩ := st_v h hi
  have ho := ote_lt (SV.of h) hi b
  have hq' : StA (pm t) (mT t) (mN t) i q := by rw [hl.1.2, hl.1.T, hl.1.N]; exact hq
  have h1 := hb b; have h2 := hb (ote (pm t0) i b)
  have e1 : (nI (sk (pm t0) i + d (ote (pm t0) i b)) < nI (d b)) = (d (ote (pm t0) i b) + sk (pm t0) i < d b) := propext (by rw [Nat.add_comm]; exact nI_ltI (by omega) (by omega))
  simp only [fAW_shorten, gI_0, pI_0, rc_0, gI_1, pI_1, rc_1, ln_2, ql_2, al_3, as_3, ln_3, al_4, as_4, ln_4, gI_5, pI_5, rc_5, ln_6, ql_6, al_7, as_7, ln_7, al_8, as_8, ln_8, ln_9, ql_9, gI_10, pI_10, rc_10, al_11, as_11, ln_11, al_12, as_12, ln_12, gI_13, pI_13, rc_13, al_14, as_14, ln_14, ln_15, ql_15, gI_16, pI_16, rc_16, al_17, as_17, ln_17, al_18, as_18, ln_18, al_19, as_19, ln_19, al_20, as_20, ln_20, bl_21, bs_21, ln_21, gI_22, pI_22, rc_22, al_23, as_23, ln_23, al_24, as_24, ln_24, al_25, as_25, ln_25, gI_31, pI_31, rc_31, al_32, as_32, ln_32, gI_33, pI_33, rc_33, al_34, as_34, ln_34, gI_35, pI_35, rc_35, al_36, as_36, ln_36, gI_37, pI_37, rc_37, al_38, as_38, ln_38, gC_0_3, gC_0_4, gC_0_5, gC_0_7, gC_0_10, gC_0_11, gC_0_12, gC_0_13, gC_0_14, gC_0_15, gC_0_16, gC_0_17, gC_1_0, gC_1_2, gC_1_3, gC_5_0, gC_5_2, gC_10_0, gC_10_7, gC_13_5, gC_16_0, gC_16_2, gC_22_0, gC_22_1, gC_22_2, gC_22_3, gC_31_2, gC_33_2, gC_35_2, gC_37_2, bI_rI, bV_rV, bQ_rN, bQ_rR, bz_0, bz_1, bz_Z, hZ0, hZ1, Lay_setI, Lay_setA, ht.lay, hq'.i3, hq'.rc, otherEnd_v ht hi hq' hbb, hl.1.2, q3, longestFor_v ht.lay ho hS, longestFor_v ht.lay hbb hS, hd _ ho, hd _ hbb, nI_add, e1]
  by_cases c : d (ote (pm t0) i b) + sk (pm t0) i < d b
  · rw [if_pos c, decide_eq_true c]
    have hsn := setLong_v (v := nI (sk (pm t0) i + d (ote (pm t0) i b))) ht.lay hbb hS
    rw [r128, nI_add] at hsn
    simp only [r128, nI_add, hsn, bV_rV]
    refine ⟨_, rfl, (FW.refl S t).st hS, RowS.st hd (by omega) (fun p hp => by unfold rx; rw [if_neg hp]) (by unfold rx; rw [if_pos rfl, if_pos c, Nat.add_comm])⟩
  · rw [if_neg c, decide_eq_false c, rx_no c]
    exact ⟨t, rfl, FW.refl _ _, hd⟩
theorem swd_mil {G : GG} {o dc : Nat → Bool} {d : NN} (h : ∀ p, d p ≤ 1000000) (s : Nat) : ∀ p, swd G o dc s d p ≤ 1000000 := fun p => Nat.le_trans (swd_le _ _ _) (h p)
theorem bt_z {x : Int32} {i : Nat} (hi : i < 32) : (((x >>> (nI i &&& 31)) &&& 1) = 0) = (bt x i = false) := by rw [b_bit x hi, bz_0]
theorem bt_o {x : Int32} {i : Nat} (hi : i < 32) : (((x >>> (nI i &&& 31)) &&& 1) = 1) = (bt x i = true) := by rw [b_bit x hi, bz_1]
theorem or_z (v : Int32) : v ||| 0 = v := by apply b_ext; intro i _; rw [b_or, b_0, Bool.or_false]
/-- both ends of a street, each where one sees nothing new -/
theorem rxd_f {dc : Nat → Bool} {a b w : Nat} {d : NN} (h : dc a = false) : rxd dc a b w d = rx a b w d := if_neg (by rw [h]; decide)
theorem rxd_t {dc : Nat → Bool} {a b w : Nat} {d : NN} (h : dc a = true) : rxd dc a b w d = d := if_pos h
theorem shortAll_v {d : NN} {S W : Nat} {L : List Nat} {dc : Nat → Bool} {D : Int32} (h : Inv n m s g x p t0) (hl : FS [22, 23, 24, 25] t0 t) (hsee : SEE (pm t0) s L t) (hW : W < 7) (hD : ∀ p, p < 6 → bt D p = dc p) (hd : RowS t S d 6) (hb : ∀ p, d p ≤ 1000000) (hS : S < 128) :
    ∃ u b, fAW_shortenAll t (nI S) (nI W) D = rI (bz b) u ∧ FW S t u ∧ RowS u S (swd (pm t0) (oL (pm t0) L W) dc s d) 6 ∧ (b = false → swd (pm t0) (oL (pm t0) L W) dc s d = d) := by
  have hr := h.rng
  refine for_up (β := Int32) (fun f w i fl => fAW_shortenAll_l6 f w (nI S) (nI W) D fl (nI i)) (fun r => ∃ u b, r = rI (bz b) u ∧ FW S t u ∧ RowS u S (swd (pm t0) (oL (pm t0) L W) dc s d) 6 ∧ (b = false → swd (pm t0) (oL (pm t0) L W) dc s d = d)) s
    (fun i w fl => FW S t w ∧ RowS w S (swd (pm t0) (oL (pm t0) L W) dc i d) 6 ∧ ∃ b, fl = bz b ∧ (b = false → swd (pm t0) (oL (pm t0) L W) dc i d = d)) ?_ ?_ s 0 t 0 1000000 (by omega) ⟨FW.refl _ _, hd, false, rfl, fun _ => rfl⟩ (by omega)
  · intro f w fl ⟨fw, hw, b, hfl, hfix⟩
    have hwl := hl.tu fw.1 (by decide)
    have hi := h.fr hwl.1
    have e9 : nI s ≤ nI s := Int32.le_refl _
    refine ⟨w, b, ?_, fw, hw, hfix⟩
    show fAW_shortenAll_6 _ w (nI S) (nI W) D fl (nI s) = _
    simp only [fAW_shortenAll_6, gI_0, pI_0, rc_0, gI_1, pI_1, rc_1, ln_2, ql_2, al_3, as_3, ln_3, al_4, as_4, ln_4, gI_5, pI_5, rc_5, ln_6, ql_6, al_7, as_7, ln_7, al_8, as_8, ln_8, ln_9, ql_9, gI_10, pI_10, rc_10, al_11, as_11, ln_11, al_12, as_12, ln_12, gI_13, pI_13, rc_13, al_14, as_14, ln_14, ln_15, ql_15, gI_16, pI_16, rc_16, al_17, as_17, ln_17, al_18, as_18, ln_18, al_19, as_19, ln_19, al_20, as_20, ln_20, bl_21, bs_21, ln_21, gI_22, pI_22, rc_22, al_23, as_23, ln_23, al_24, as_24, ln_24, al_25, as_25, ln_25, gI_31, pI_31, rc_31, al_32, as_32, ln_32, gI_33, pI_33, rc_33, al_34, as_34, ln_34, gI_35, pI_35, rc_35, al_36, as_36, ln_36, gI_37, pI_37, rc_37, al_38, as_38, ln_38, gC_0_3, gC_0_4, gC_0_5, gC_0_7, gC_0_10, gC_0_11, gC_0_12, gC_0_13, gC_0_14, gC_0_15, gC_0_16, gC_0_17, gC_1_0, gC_1_2, gC_1_3, gC_5_0, gC_5_2, gC_10_0, gC_10_7, gC_13_5, gC_16_0, gC_16_2, gC_22_0, gC_22_1, gC_22_2, gC_22_3, gC_31_2, gC_33_2, gC_35_2, gC_37_2, bI_rI, bV_rV, bQ_rN, bQ_rR, bz_0, bz_1, bz_Z, hZ0, hZ1, Lay_setI, Lay_setA, hi.lay, hi.st', e9, if_true, hfl]
  · intro f w i fl hi2 ⟨fw, hw, b, hfl, hfix⟩ ih
    have hwl := hl.tu fw.1 (by decide)
    have hi := h.fr hwl.1
    have e9 : ¬ nI s ≤ nI i := nI_ge hi2 (by omega)
    obtain ⟨q, e1, _, hc⟩ := streetAt_in hi hi2
    obtain ⟨⟨k1, k2, k3, k4, k5⟩, q1, q2, q3⟩ := st_v h hi2
    have hq0 : StA (pm t0) (mT t0) (mN t0) i q := by rw [hwl.1.2, hwl.1.T, hwl.1.N] at hc; exact hc
    have n24 := L_nai (t := w) (k := 24) (N := 7) (i := W) hi.lay (by decide) rfl hW
    rw [(fw.see hsee).1 W hW] at n24
    have ob : bt (orf (oL (pm t0) L W) s) i = oL (pm t0) L W i := by rw [bt_orf _ _ (by omega) i (by omega), decide_eq_true hi2, Bool.true_and]
    have hsw := swd_s (G := pm t0) (o := oL (pm t0) L W) (dc := dc) d i
    have hbd := swd_mil (G := pm t0) (o := oL (pm t0) L W) (dc := dc) hb i
    have ou : ote (pm t0) i (su (pm t0) i) = sv (pm t0) i := if_pos rfl
    have ov : ote (pm t0) i (sv (pm t0) i) = su (pm t0) i := if_neg k3
    have i45 : ∀ {c : Int32 → OR}, hGetI w 6 q 0 c = c (nI (su (pm t0) i)) := fun {c} => by rw [hc.i0, hwl.1.2, q1]
    have i46 : ∀ {c : Int32 → OR}, hGetI w 6 q 1 c = c (nI (sv (pm t0) i)) := fun {c} => by rw [hc.i1, hwl.1.2, q2]
    generalize hdd : swd (pm t0) (oL (pm t0) L W) dc i d = dd at *
    show ∃ u b, fAW_shortenAll_6 _ w (nI S) (nI W) D fl (nI i) = _ ∧ _
    simp only [fAW_shortenAll_6, gI_0, pI_0, rc_0, gI_1, pI_1, rc_1, ln_2, ql_2, al_3, as_3, ln_3, al_4, as_4, ln_4, gI_5, pI_5, rc_5, ln_6, ql_6, al_7, as_7, ln_7, al_8, as_8, ln_8, ln_9, ql_9, gI_10, pI_10, rc_10, al_11, as_11, ln_11, al_12, as_12, ln_12, gI_13, pI_13, rc_13, al_14, as_14, ln_14, ln_15, ql_15, gI_16, pI_16, rc_16, al_17, as_17, ln_17, al_18, as_18, ln_18, al_19, as_19, ln_19, al_20, as_20, ln_20, bl_21, bs_21, ln_21, gI_22, pI_22, rc_22, al_23, as_23, ln_23, al_24, as_24, ln_24, al_25, as_25, ln_25, gI_31, pI_31, rc_31, al_32, as_32, ln_32, gI_33, pI_33, rc_33, al_34, as_34, ln_34, gI_35, pI_35, rc_35, al_36, as_36, ln_36, gI_37, pI_37, rc_37, al_38, as_38, ln_38, gC_0_3, gC_0_4, gC_0_5, gC_0_7, gC_0_10, gC_0_11, gC_0_12, gC_0_13, gC_0_14, gC_0_15, gC_0_16, gC_0_17, gC_1_0, gC_1_2, gC_1_3, gC_5_0, gC_5_2, gC_10_0, gC_10_7, gC_13_5, gC_16_0, gC_16_2, gC_22_0, gC_22_1, gC_22_2, gC_22_3, gC_31_2, gC_33_2, gC_35_2, gC_37_2, bI_rI, bV_rV, bQ_rN, bQ_rR, bz_0, bz_1, bz_Z, hZ0, hZ1, Lay_setI, Lay_setA, hi.lay, hi.st', e9, if_false, e1, n24, bt_o (show i < 32 by omega), ob, i45, i46, bt_z (show su (pm t0) i < 32 by omega), bt_z (show sv (pm t0) i < 32 by omega), hD _ k1, hD _ k2, nI_1]
    cases co : oL (pm t0) L W i
    · rw [if_neg (by decide)]
      have e : swd (pm t0) (oL (pm t0) L W) dc (i + 1) d = dd := by rw [hsw, co]; rfl
      exact ih w fl ⟨fw, by rw [e]; exact hw, b, hfl, by rw [e]; exact hfix⟩
    · rw [if_pos rfl]
      rw [co, if_pos rfl] at hsw
      cases cu : dc (su (pm t0) i)
      · rw [rxd_f cu] at hsw
        obtain ⟨w1, ew, fw1, hw1⟩ := shortW_v h hwl hi2 hq0 hw hbd k1 hS
        rw [ou] at ew hw1
        have hbd1 : ∀ p, rx (su (pm t0) i) (sv (pm t0) i) (sk (pm t0) i) dd p ≤ 1000000 := fun p => Nat.le_trans (rx_le _ _ _ _ p) (hbd p)
        have hwl1 := hwl.tu fw1.1 (by decide)
        have hi1 := h.fr hwl1.1
        have hc1 : StA (pm w1) (mT w1) (mN w1) i q := by rw [hwl1.1.2, hwl1.1.T, hwl1.1.N]; exact hq0
        have j46 : ∀ {c : Int32 → OR}, hGetI w1 6 q 1 c = c (nI (sv (pm t0) i)) := fun {c} => by rw [hc1.i1, hwl1.1.2, q2]
        rw [if_pos rfl]
        simp only [ew, bI_rI, bz_0, j46, bt_z (show sv (pm t0) i < 32 by omega), hD _ k2, rc_22 hi1.lay, decide_eq_false_iff_not]
        cases cv : dc (sv (pm t0) i)
        · rw [rxd_f cv] at hsw
          obtain ⟨w2, ew2, fw2, hw2⟩ := shortW_v h hwl1 hi2 hq0 hw1 hbd1 k2 hS
          rw [ov] at ew2 hw2
          simp only [if_true, ew2, bI_rI, bz_0, decide_eq_false_iff_not, or_z]
          have done : ∀ z b', z = bz b' → (b' = false → ¬ dd (sv (pm t0) i) + sk (pm t0) i < dd (su (pm t0) i) ∧ ¬ rx (su (pm t0) i) (sv (pm t0) i) (sk (pm t0) i) dd (su (pm t0) i) + sk (pm t0) i < rx (su (pm t0) i) (sv (pm t0) i) (sk (pm t0) i) dd (sv (pm t0) i) ∧ b = false) →
              ∃ u b, fAW_shortenAll_l6 f w2 (nI S) (nI W) D z (nI (i + 1)) = rI (bz b) u ∧ FW S t u ∧ RowS u S (swd (pm t0) (oL (pm t0) L W) dc s d) 6 ∧ (b = false → swd (pm t0) (oL (pm t0) L W) dc s d = d) := by
            intro z b' hz hfx
            refine ih w2 z ⟨(fw.tr fw1).tr fw2, by rw [hsw]; exact hw2, b', hz, fun c => ?_⟩
            obtain ⟨c1, c2, c3⟩ := hfx c
            rw [hsw, rx_no c2, rx_no c1]; exact hfix c3
          by_cases c1 : dd (sv (pm t0) i) + sk (pm t0) i < dd (su (pm t0) i)
          · simp only [c1, not_true, if_false]
            split
            · exact done _ true (by rw [hfl]; cases b <;> decide) (fun c => absurd c (by decide))
            · exact done _ true (by rw [hfl]; cases b <;> decide) (fun c => absurd c (by decide))
          · simp only [c1, not_false_eq_true, if_true]
            split
            · rename_i c2; exact done _ b hfl (fun c => ⟨c1, c2, c⟩)
            · exact done _ true (by rw [hfl]; cases b <;> decide) (fun c => absurd c (by decide))
        · rw [rxd_t cv] at hsw
          simp only [Bool.true_eq_false, if_false, or_z]
          split
          · rename_i c1
            refine ih w1 _ ⟨fw.tr fw1, by rw [hsw]; exact hw1, b, hfl, fun c => ?_⟩
            rw [hsw, rx_no c1]; exact hfix c
          · refine ih w1 _ ⟨fw.tr fw1, by rw [hsw]; exact hw1, true, by rw [hfl]; cases b <;> decide, fun c => absurd c (by decide)⟩
      · rw [rxd_t cu] at hsw
        simp only [Bool.true_eq_false, if_false]
        cases cv : dc (sv (pm t0) i)
        · rw [rxd_f cv] at hsw
          obtain ⟨w2, ew2, fw2, hw2⟩ := shortW_v h hwl hi2 hq0 hw hbd k2 hS
          rw [ov] at ew2 hw2
          simp only [if_true, ew2, bI_rI, bz_0, decide_eq_false_iff_not, or_z]
          split
          · rename_i c1
            refine ih w2 _ ⟨fw.tr fw2, by rw [hsw]; exact hw2, b, hfl, fun c => ?_⟩
            rw [hsw, rx_no c1]; exact hfix c
          · refine ih w2 _ ⟨fw.tr fw2, by rw [hsw]; exact hw2, true, by rw [hfl]; cases b <;> decide, fun c => absurd c (by decide)⟩
        · rw [rxd_t cv] at hsw
          simp only [Bool.true_eq_false, if_false, or_z]
          exact ih w _ ⟨fw, by rw [hsw]; exact hw, b, hfl, fun c => by rw [hsw]; exact hfix c⟩
/-- the rounds -/
theorem rounds_v {d : NN} {S W : Nat} {L : List Nat} {dc : Nat → Bool} {D : Int32} (h : Inv n m s g x p t0) (hl : FS [22, 23, 24, 25] t0 t) (hsee : SEE (pm t0) s L t) (hW : W < 7) (hD : ∀ p, p < 6 → bt D p = dc p) (hd : RowS t S d 6) (hb : ∀ p, d p ≤ 1000000) (hS : S < 128) :
    ∃ u, fAW_settle_l118 1000000 t (nI S) (nI W) D 1 0 = rV u ∧ FW S t u ∧ RowS u S (itr (swd (pm t0) (oL (pm t0) L W) dc s) d 6) 6 := by
  refine for_up (β := Int32) (fun f w k fl => fAW_settle_l118 f w (nI S) (nI W) D fl (nI k)) (fun r => ∃ u, r = rV u ∧ FW S t u ∧ RowS u S (itr (swd (pm t0) (oL (pm t0) L W) dc s) d 6) 6) 6
    (fun k w fl => FW S t w ∧ RowS w S (itr (swd (pm t0) (oL (pm t0) L W) dc s) d k) 6 ∧ ∃ b, fl = bz b ∧ (b = false → swd (pm t0) (oL (pm t0) L W) dc s (itr (swd (pm t0) (oL (pm t0) L W) dc s) d k) = itr (swd (pm t0) (oL (pm t0) L W) dc s) d k)) ?_ ?_ 6 0 t 1 1000000 (by omega) ⟨FW.refl _ _, hd, true, rfl, fun c => absurd c (by decide)⟩ (by omega)
  · intro f w fl ⟨fw, hw, _⟩
    refine ⟨w, ?_, fw, hw⟩
    show fAW_settle_118 _ w (nI S) (nI W) D fl (nI 6) = _
    unfold fAW_settle_118
    rw [if_pos (show (6 : Int32) ≤ nI 6 from Int32.le_refl _)]
  · intro f w k fl hk ⟨fw, hw, b, hfl, hfix⟩ ih
    have hwl := hl.tu fw.1 (by decide)
    have hi := h.fr hwl.1
    show ∃ u, fAW_settle_118 _ w (nI S) (nI W) D fl (nI k) = _ ∧ _
    unfold fAW_settle_118
    rw [if_neg (show ¬ (6 : Int32) ≤ nI k from nI_ge (b := 6) hk (by decide)), hfl]
    simp only [bz_0]
    cases b
    · rw [if_pos rfl]
      refine ⟨w, rfl, fw, ?_⟩
      have := itr_stay (hfix rfl) (6 - k)
      rw [show k + (6 - k) = 6 by omega] at this
      rw [this]; exact hw
    · rw [if_neg (by decide), rc_22 hi.lay]
      have hbk : ∀ p, itr (swd (pm t0) (oL (pm t0) L W) dc s) d k p ≤ 1000000 := fun p => by
        have := itr_dec (sw := swd (pm t0) (oL (pm t0) L W) dc s) (d0 := d) (fun d p => swd_le d s p) 0 k p
        rw [Nat.zero_add] at this
        exact Nat.le_trans this (hb p)
      obtain ⟨w1, b1, e1, f1, r1, x1⟩ := shortAll_v h hwl (fw.see hsee) hW hD hw hbk hS
      rw [e1, bI_rI, nI_1]
      exact ih w1 _ ⟨fw.tr f1, by rw [itr_s]; exact r1, b1, rfl, fun c => by rw [itr_s, x1 c, x1 c]⟩
end
