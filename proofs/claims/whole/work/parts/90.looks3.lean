section
variable {n m s g x p : Nat} {t0 t u : SM}
theorem and1 (A B : Int32) : ((A &&& B) &&& 1) = ((A &&& 1) &&& (B &&& 1)) := by
  apply b_ext
  intro k _
  simp only [b_and]
  cases bt A k <;> cases bt B k <;> cases bt 1 k <;> rfl
theorem b_bit2 (x y : Int32) {i j : Nat} (hi : i < 32) (hj : j < 32) : (((x >>> (nI i &&& 31)) &&& (y >>> (nI j &&& 31))) &&& 1) = bz (bt x i && bt y j) := by
  rw [and1, b_bit x hi, b_bit y hj]
  cases bt x i <;> cases bt y j <;> decide
theorem so_eq {L : List Nat} (h : L.length ≤ 7) {S c : Nat} (hS : S < 128) : orf (fun k => S.testBit k && (L.getD k 0).testBit c) L.length = nI (S &&& hvN L c) := by
  have hH := hvN_lt h c
  have h3 : S &&& hvN L c < 128 := Nat.lt_of_le_of_lt Nat.and_le_left hS
  apply b_ext
  intro i hi
  rw [bt_orf _ _ (by omega) i hi, b_ni _ _ (by omega), Nat.testBit_and, hvN_bit h c i hi]
  cases S.testBit i <;> cases (L.getD i 0).testBit c <;> cases decide (i < L.length) <;> rfl
theorem ml63 {L : List Nat} (h : Lay u) (hf : FdM L u) (hl : L.length ≤ 7) (hb : ∀ w, w ∈ L → w < 512) {S c : Nat} (hS : S < 128) (hc : c < 9) (k102 : SM → Int32 → Int32 → Int32 → Int32 → OR) (b : Int32) :
    fm_looks_l63 k102 1000000 u (nI S) b (nI c) 0 0 = k102 u (nI S) b (nI c) (nI (S &&& hvN L c)) := by
  rw [← so_eq hl hS]
  have := for_fo (fun f k a => fm_looks_l63 k102 f u (nI S) b (nI c) a (nI k)) L.length (fun k a => if (S.testBit k && (L.getD k 0).testBit c) = true then a ||| ((1 : Int32) <<< (nI k &&& 31)) else a) (fun a => k102 u (nI S) b (nI c) a)
    (fun f a => by
      have e9 : nI L.length ≤ nI L.length := Int32.le_refl _
      show fm_looks_63 k102 _ u (nI S) b (nI c) a (nI L.length) = _
      simp only [fm_looks_63, gI_39, pI_39, rc_39, al_40, as_40, ln_40, al_41, as_41, ln_41, al_42, as_42, ln_42, al_43, as_43, ln_43, al_44, as_44, ln_44, al_45, as_45, ln_45, al_46, as_46, ln_46, al_47, as_47, ln_47, al_48, as_48, ln_48, al_49, as_49, ln_49, al_50, as_50, ln_50, al_51, as_51, ln_51, al_52, as_52, ln_52, al_53, as_53, ln_53, al_54, as_54, ln_54, al_55, as_55, ln_55, al_56, as_56, ln_56, al_57, as_57, ln_57, al_58, as_58, ln_58, al_59, as_59, ln_59, al_60, as_60, ln_60, al_61, as_61, ln_61, al_62, as_62, ln_62, al_63, as_63, ln_63, al_64, as_64, ln_64, al_65, as_65, ln_65, al_66, as_66, ln_66, al_67, as_67, ln_67, gC_39_4, gC_39_5, gC_39_6, gC_39_7, gC_39_8, gC_39_10, gC_39_11, gC_39_12, gC_39_13, gC_39_15, gC_39_16, gC_39_18, gC_39_19, gC_39_27, gC_39_28, gC_39_29, gC_39_30, gC_39_31, gC_39_36, gC_39_37, gC_39_41, gC_39_42, gC_39_43, gC_39_44, gC_39_46, gC_39_47, gC_39_48, gC_39_49, bI_rI, bV_rV, bQ_rN, bQ_rR, bz_0, bz_1, bz_Z, hZ0, hZ1, Lay_setI, Lay_setA, h, hf.1, e9, if_true])
    (fun f k a hk => by
      have e9 : ¬ nI L.length ≤ nI k := nI_ge hk (by omega)
      have k512 : k < 512 := by omega
      have hw := hb _ (getD_mem hk)
      show fm_looks_63 k102 _ u (nI S) b (nI c) a (nI k) = _
      simp only [fm_looks_63, gI_39, pI_39, rc_39, al_40, as_40, ln_40, al_41, as_41, ln_41, al_42, as_42, ln_42, al_43, as_43, ln_43, al_44, as_44, ln_44, al_45, as_45, ln_45, al_46, as_46, ln_46, al_47, as_47, ln_47, al_48, as_48, ln_48, al_49, as_49, ln_49, al_50, as_50, ln_50, al_51, as_51, ln_51, al_52, as_52, ln_52, al_53, as_53, ln_53, al_54, as_54, ln_54, al_55, as_55, ln_55, al_56, as_56, ln_56, al_57, as_57, ln_57, al_58, as_58, ln_58, al_59, as_59, ln_59, al_60, as_60, ln_60, al_61, as_61, ln_61, al_62, as_62, ln_62, al_63, as_63, ln_63, al_64, as_64, ln_64, al_65, as_65, ln_65, al_66, as_66, ln_66, al_67, as_67, ln_67, gC_39_4, gC_39_5, gC_39_6, gC_39_7, gC_39_8, gC_39_10, gC_39_11, gC_39_12, gC_39_13, gC_39_15, gC_39_16, gC_39_18, gC_39_19, gC_39_27, gC_39_28, gC_39_29, gC_39_30, gC_39_31, gC_39_36, gC_39_37, gC_39_41, gC_39_42, gC_39_43, gC_39_44, gC_39_46, gC_39_47, gC_39_48, gC_39_49, bI_rI, bV_rV, bQ_rN, bQ_rR, bz_0, bz_1, bz_Z, hZ0, hZ1, Lay_setI, Lay_setA, h, hf.1, e9, if_false, k512, hf.2 k hk, nI_1, b_bit2 _ _ (show k < 32 by omega) (show c < 32 by omega), b_ni _ _ (show L.getD k 0 < 2 ^ 32 by omega), b_ni _ _ (show S < 2 ^ 32 by omega)]
      congr 1
      cases (S.testBit k && (L.getD k 0).testBit c)
      · show a ||| ((0 : Int32) <<< (nI k &&& 31)) = a
        apply b_ext
        intro i hi
        rw [b_or, b_shl k (by omega) 0 hi, b_0]; simp
      · rfl)
    0 L.length 0 1000000 (by omega) (by omega)
  exact this
theorem ml102 {f H : Nat → Nat} {S c a : Nat} (h : Lay u) (hS : S < 128) (hH : H c < 128) (hr : LkR 66 f S u) (hfs : ∀ q, f q ≤ 9) (ha : a ≤ 1000000) (r : SM → Int32 → Int32 → Int32 → OR) :
    fm_looks_102 r u (nI S) (nI a) (nI c) (nI (S &&& H c)) = r u (nI S) (nI (lkc f H S c a)) (nI (c + 1)) := by
  unfold lkc
  simp only [fm_looks_102, nI_sub0 hS, nI_subS hS, nI_1]
  by_cases q0 : S &&& H c = 0
  · rw [if_pos q0, if_pos q0]
  · rw [if_neg q0, if_neg q0]
    by_cases q1 : S &&& H c = S
    · rw [if_pos q1, if_pos q1]
    · rw [if_neg q1, if_neg q1]
      obtain ⟨a1, a2, a3, a4, a5⟩ := set_f S hS (H c) hH q0 q1
      have f1 := hfs (S &&& H c)
      have f2 := hfs (S ^^^ (S &&& H c))
      have l1 : S &&& H c < 128 := by omega
      have l2 : S ^^^ (S &&& H c) < 128 := by omega
      have e1 : (nI (f (S &&& H c)) ≤ nI (f (S ^^^ (S &&& H c)))) = (f (S &&& H c) ≤ f (S ^^^ (S &&& H c))) := propext (nI_leI (by omega) (by omega))
      have e2 : (nI a ≤ nI (f (S ^^^ (S &&& H c)) + 1)) = (a ≤ f (S ^^^ (S &&& H c)) + 1) := propext (nI_leI (by omega) (by omega))
      have e3 : (nI a ≤ nI (f (S &&& H c) + 1)) = (a ≤ f (S &&& H c) + 1) := propext (nI_leI (by omega) (by omega))
      simp only [gI_39, pI_39, rc_39, al_40, as_40, ln_40, al_41, as_41, ln_41, al_42, as_42, ln_42, al_43, as_43, ln_43, al_44, as_44, ln_44, al_45, as_45, ln_45, al_46, as_46, ln_46, al_47, as_47, ln_47, al_48, as_48, ln_48, al_49, as_49, ln_49, al_50, as_50, ln_50, al_51, as_51, ln_51, al_52, as_52, ln_52, al_53, as_53, ln_53, al_54, as_54, ln_54, al_55, as_55, ln_55, al_56, as_56, ln_56, al_57, as_57, ln_57, al_58, as_58, ln_58, al_59, as_59, ln_59, al_60, as_60, ln_60, al_61, as_61, ln_61, al_62, as_62, ln_62, al_63, as_63, ln_63, al_64, as_64, ln_64, al_65, as_65, ln_65, al_66, as_66, ln_66, al_67, as_67, ln_67, gC_39_4, gC_39_5, gC_39_6, gC_39_7, gC_39_8, gC_39_10, gC_39_11, gC_39_12, gC_39_13, gC_39_15, gC_39_16, gC_39_18, gC_39_19, gC_39_27, gC_39_28, gC_39_29, gC_39_30, gC_39_31, gC_39_36, gC_39_37, gC_39_41, gC_39_42, gC_39_43, gC_39_44, gC_39_46, gC_39_47, gC_39_48, gC_39_49, bI_rI, bV_rV, bQ_rN, bQ_rR, bz_0, bz_1, bz_Z, hZ0, hZ1, Lay_setI, Lay_setA, h, l1, l2, nI_rest hS hH, hr _ a1 a2, hr _ a3 a4, e1, nI_1, e2, e3]
      generalize f (S &&& H c) = y1 at *
      generalize f (S ^^^ (S &&& H c)) = y2 at *
      unfold mx2
      by_cases c1 : y1 ≤ y2
      · rw [if_pos c1]
        have em : (if y1 < y2 then y2 else y1) = y2 := by split <;> omega
        rw [em]
        by_cases c2 : a ≤ y2 + 1
        · rw [if_pos c2, if_neg (by omega)]
        · rw [if_neg c2, if_pos (by omega), Nat.add_comm 1 y2]
      · rw [if_neg c1]
        have em : (if y1 < y2 then y2 else y1) = y1 := by split <;> omega
        rw [em]
        by_cases c2 : a ≤ y1 + 1
        · rw [if_pos c2, if_neg (by omega)]
        · rw [if_neg c2, if_pos (by omega), Nat.add_comm 1 y1]
theorem ml49 {L : List Nat} {f : Nat → Nat} {S b : Nat} (hu : Inv n m s g x p u) (hf : FdM L u) (hl : L.length ≤ 7) (hb : ∀ w, w ∈ L → w < 512) (hS : S < 128) (hr : LkR 66 f S u) (hfs : ∀ q, f q ≤ 9) (hb2 : b ≤ 1000000) (k180 : SM → Int32 → Int32 → OR) :
    fm_looks_l49 k180 1000000 u (nI S) (nI b) 0 = k180 u (nI S) (nI (lkf f (hvN L) S b n)) := by
  have hrg := hu.rng
  refine for_up (β := Nat) (fun F w c a => fm_looks_l49 k180 F w (nI S) (nI a) (nI c)) (fun r => r = k180 u (nI S) (nI (lkf f (hvN L) S b n))) n
    (fun c w a => w = u ∧ a = lkf f (hvN L) S b c) ?_ ?_ n 0 u b 1000000 (by omega) ⟨rfl, rfl⟩ (by omega)
  · intro F w a ⟨ew, ea⟩
    subst ew
    have e9 : nI n ≤ nI n := Int32.le_refl _
    show fm_looks_49 _ _ w (nI S) (nI a) (nI n) = _
    simp only [fm_looks_49, gI_39, pI_39, rc_39, al_40, as_40, ln_40, al_41, as_41, ln_41, al_42, as_42, ln_42, al_43, as_43, ln_43, al_44, as_44, ln_44, al_45, as_45, ln_45, al_46, as_46, ln_46, al_47, as_47, ln_47, al_48, as_48, ln_48, al_49, as_49, ln_49, al_50, as_50, ln_50, al_51, as_51, ln_51, al_52, as_52, ln_52, al_53, as_53, ln_53, al_54, as_54, ln_54, al_55, as_55, ln_55, al_56, as_56, ln_56, al_57, as_57, ln_57, al_58, as_58, ln_58, al_59, as_59, ln_59, al_60, as_60, ln_60, al_61, as_61, ln_61, al_62, as_62, ln_62, al_63, as_63, ln_63, al_64, as_64, ln_64, al_65, as_65, ln_65, al_66, as_66, ln_66, al_67, as_67, ln_67, gC_39_4, gC_39_5, gC_39_6, gC_39_7, gC_39_8, gC_39_10, gC_39_11, gC_39_12, gC_39_13, gC_39_15, gC_39_16, gC_39_18, gC_39_19, gC_39_27, gC_39_28, gC_39_29, gC_39_30, gC_39_31, gC_39_36, gC_39_37, gC_39_41, gC_39_42, gC_39_43, gC_39_44, gC_39_46, gC_39_47, gC_39_48, gC_39_49, bI_rI, bV_rV, bQ_rN, bQ_rR, bz_0, bz_1, bz_Z, hZ0, hZ1, Lay_setI, Lay_setA, hu.lay, hu.ch, e9, if_true, ea]
  · intro F w c a hc ⟨ew, ea⟩ ih
    subst ew
    have e9 : ¬ nI n ≤ nI c := nI_ge hc (by omega)
    have ha : a ≤ 1000000 := by rw [ea]; exact Nat.le_trans (lkf_le _ _ _ _ _) hb2
    show fm_looks_49 _ _ w (nI S) (nI a) (nI c) = _
    simp only [fm_looks_49, gI_39, pI_39, rc_39, al_40, as_40, ln_40, al_41, as_41, ln_41, al_42, as_42, ln_42, al_43, as_43, ln_43, al_44, as_44, ln_44, al_45, as_45, ln_45, al_46, as_46, ln_46, al_47, as_47, ln_47, al_48, as_48, ln_48, al_49, as_49, ln_49, al_50, as_50, ln_50, al_51, as_51, ln_51, al_52, as_52, ln_52, al_53, as_53, ln_53, al_54, as_54, ln_54, al_55, as_55, ln_55, al_56, as_56, ln_56, al_57, as_57, ln_57, al_58, as_58, ln_58, al_59, as_59, ln_59, al_60, as_60, ln_60, al_61, as_61, ln_61, al_62, as_62, ln_62, al_63, as_63, ln_63, al_64, as_64, ln_64, al_65, as_65, ln_65, al_66, as_66, ln_66, al_67, as_67, ln_67, gC_39_4, gC_39_5, gC_39_6, gC_39_7, gC_39_8, gC_39_10, gC_39_11, gC_39_12, gC_39_13, gC_39_15, gC_39_16, gC_39_18, gC_39_19, gC_39_27, gC_39_28, gC_39_29, gC_39_30, gC_39_31, gC_39_36, gC_39_37, gC_39_41, gC_39_42, gC_39_43, gC_39_44, gC_39_46, gC_39_47, gC_39_48, gC_39_49, bI_rI, bV_rV, bQ_rN, bQ_rR, bz_0, bz_1, bz_Z, hZ0, hZ1, Lay_setI, Lay_setA, hu.lay, hu.ch, e9, if_false, ml63 hu.lay hf hl hb hS (show c < 9 by omega), ml102 hu.lay hS (hvN_lt hl c) hr hfs ha]
    exact ih w _ ⟨rfl, by rw [lkf_s, ← ea]⟩
theorem mlooks {L : List Nat} (hu : Inv n m s g x p u) (hf : FdM L u) (hl : L.length ≤ 7) (h1 : 1 ≤ L.length) (hb : ∀ w, w ∈ L → w < 512) (hs : Spl (hvN L) n (2 ^ L.length)) :
    ∃ u', fm_looks_l22 (fun t => fm_looks_193 t) 1000000 u 1 = rI (nI (lkA L n)) u' ∧ FS [66] u u' := by
  have h7 : 2 ^ L.length ≤ 2 ^ 7 := Nat.pow_le_pow_right (by decide) hl
  have h2 : 2 ^ 1 ≤ 2 ^ L.length := Nat.pow_le_pow_right (by decide) h1
  refine for_up (β := Unit) (fun F w S _ => fm_looks_l22 (fun t => fm_looks_193 t) F w (nI S)) (fun r => ∃ u', r = rI (nI (lkA L n)) u' ∧ FS [66] u u') (2 ^ L.length)
    (fun S w _ => FS [66] u w ∧ LkR 66 (lkt (hvN L) n S) S w) ?_ ?_ (2 ^ L.length - 1) 1 u () 1000000 (by omega) ⟨FS.refl _ _, fun q h1 h2 => absurd h2 (by omega)⟩ (by omega)
  · intro F w _ ⟨fw, hr⟩
    have hw := hu.fr fw.1
    have e1 : nI (2 ^ L.length) ≤ nI (2 ^ L.length) := Int32.le_refl _
    have w45 : mI w 39 45 = nI L.length := (fw.row 39 rfl (by decide) 45).trans hf.1
    have l1 : 2 ^ L.length - 1 < 128 := by omega
    have na := hr (2 ^ L.length - 1) (by omega) (by omega)
    have em1 : nI (2 ^ L.length) - 1 = nI (2 ^ L.length - 1) := pk_sub (b := 1) (by omega)
    refine ⟨w, ?_, fw⟩
    show fm_looks_22 _ _ w (nI (2 ^ L.length)) = _
    simp only [fm_looks_22, gI_39, pI_39, rc_39, al_40, as_40, ln_40, al_41, as_41, ln_41, al_42, as_42, ln_42, al_43, as_43, ln_43, al_44, as_44, ln_44, al_45, as_45, ln_45, al_46, as_46, ln_46, al_47, as_47, ln_47, al_48, as_48, ln_48, al_49, as_49, ln_49, al_50, as_50, ln_50, al_51, as_51, ln_51, al_52, as_52, ln_52, al_53, as_53, ln_53, al_54, as_54, ln_54, al_55, as_55, ln_55, al_56, as_56, ln_56, al_57, as_57, ln_57, al_58, as_58, ln_58, al_59, as_59, ln_59, al_60, as_60, ln_60, al_61, as_61, ln_61, al_62, as_62, ln_62, al_63, as_63, ln_63, al_64, as_64, ln_64, al_65, as_65, ln_65, al_66, as_66, ln_66, al_67, as_67, ln_67, gC_39_4, gC_39_5, gC_39_6, gC_39_7, gC_39_8, gC_39_10, gC_39_11, gC_39_12, gC_39_13, gC_39_15, gC_39_16, gC_39_18, gC_39_19, gC_39_27, gC_39_28, gC_39_29, gC_39_30, gC_39_31, gC_39_36, gC_39_37, gC_39_41, gC_39_42, gC_39_43, gC_39_44, gC_39_46, gC_39_47, gC_39_48, gC_39_49, bI_rI, bV_rV, bQ_rN, bQ_rR, bz_0, bz_1, bz_Z, hZ0, hZ1, Lay_setI, Lay_setA, hw.lay, w45, b_pow L.length (show L.length < 31 by omega), e1, if_true, fm_looks_193, em1, l1, na]
    rfl
  · intro F w S _ hS ⟨fw, hr⟩ ih
    have hw := hu.fr fw.1
    have w45 : mI w 39 45 = nI L.length := (fw.row 39 rfl (by decide) 45).trans hf.1
    have hf' : FdM L w := ⟨w45, fun k hk => (fw.row 63 rfl (by decide) k).trans (hf.2 k hk)⟩
    have e1 : ¬ nI (2 ^ L.length) ≤ nI S := nI_ge hS (by omega)
    have S128 : S < 128 := by omega
    have hfs : ∀ q, lkt (hvN L) n S q ≤ 9 := lkt_9 (hvN_lt hl) h7 hs (by omega)
    have hpc : pc S ≤ 7 := by
      by_cases e : S = 0
      · subst e; decide
      · exact (pc_pos S S128 (by omega)).2
    have e2 : (nI (pc S) = 1) = (pc S = 1) := propext (nI_eq (b := 1) (by omega) (by decide))
    have key : ∀ b : Nat, (b = 0 ∧ pc S = 1 ∨ b = 1000000 ∧ ¬ pc S = 1) → S ≠ 0 → lkf (lkt (hvN L) n S) (hvN L) S b n = lkv (lkt (hvN L) n S) (hvN L) n S := by
      intro b hb hS0
      unfold lkv
      rcases hb with ⟨rfl, c⟩ | ⟨rfl, c⟩
      · rw [if_pos (by omega)]
        have := lkf_le (lkt (hvN L) n S) (hvN L) S 0 n
        omega
      · have := (pc_pos S S128 (by omega)).1
        rw [if_neg (by omega)]
        exact lkf_far (hvN_lt hl) h7 hs hS (by omega)
    show ∃ u', fm_looks_22 _ _ w (nI S) = _ ∧ _
    simp only [fm_looks_22, gI_39, pI_39, rc_39, al_40, as_40, ln_40, al_41, as_41, ln_41, al_42, as_42, ln_42, al_43, as_43, ln_43, al_44, as_44, ln_44, al_45, as_45, ln_45, al_46, as_46, ln_46, al_47, as_47, ln_47, al_48, as_48, ln_48, al_49, as_49, ln_49, al_50, as_50, ln_50, al_51, as_51, ln_51, al_52, as_52, ln_52, al_53, as_53, ln_53, al_54, as_54, ln_54, al_55, as_55, ln_55, al_56, as_56, ln_56, al_57, as_57, ln_57, al_58, as_58, ln_58, al_59, as_59, ln_59, al_60, as_60, ln_60, al_61, as_61, ln_61, al_62, as_62, ln_62, al_63, as_63, ln_63, al_64, as_64, ln_64, al_65, as_65, ln_65, al_66, as_66, ln_66, al_67, as_67, ln_67, gC_39_4, gC_39_5, gC_39_6, gC_39_7, gC_39_8, gC_39_10, gC_39_11, gC_39_12, gC_39_13, gC_39_15, gC_39_16, gC_39_18, gC_39_19, gC_39_27, gC_39_28, gC_39_29, gC_39_30, gC_39_31, gC_39_36, gC_39_37, gC_39_41, gC_39_42, gC_39_43, gC_39_44, gC_39_46, gC_39_47, gC_39_48, gC_39_49, bI_rI, bV_rV, bQ_rN, bQ_rR, bz_0, bz_1, bz_Z, hZ0, hZ1, Lay_setI, Lay_setA, hw.lay, w45, b_pow L.length (show L.length < 31 by omega), e1, if_false, fm_ones_v, onc_nI, pc_cn S S128, e2]
    by_cases hS0 : S = 0
    · subst hS0
      rw [if_neg (by decide), show (1000000 : Int32) = nI 1000000 from rfl, ml49 hw hf' hl hb S128 hr hfs (Nat.le_refl _)]
      simp only [fm_looks_180, gI_39, pI_39, rc_39, al_40, as_40, ln_40, al_41, as_41, ln_41, al_42, as_42, ln_42, al_43, as_43, ln_43, al_44, as_44, ln_44, al_45, as_45, ln_45, al_46, as_46, ln_46, al_47, as_47, ln_47, al_48, as_48, ln_48, al_49, as_49, ln_49, al_50, as_50, ln_50, al_51, as_51, ln_51, al_52, as_52, ln_52, al_53, as_53, ln_53, al_54, as_54, ln_54, al_55, as_55, ln_55, al_56, as_56, ln_56, al_57, as_57, ln_57, al_58, as_58, ln_58, al_59, as_59, ln_59, al_60, as_60, ln_60, al_61, as_61, ln_61, al_62, as_62, ln_62, al_63, as_63, ln_63, al_64, as_64, ln_64, al_65, as_65, ln_65, al_66, as_66, ln_66, al_67, as_67, ln_67, gC_39_4, gC_39_5, gC_39_6, gC_39_7, gC_39_8, gC_39_10, gC_39_11, gC_39_12, gC_39_13, gC_39_15, gC_39_16, gC_39_18, gC_39_19, gC_39_27, gC_39_28, gC_39_29, gC_39_30, gC_39_31, gC_39_36, gC_39_37, gC_39_41, gC_39_42, gC_39_43, gC_39_44, gC_39_46, gC_39_47, gC_39_48, gC_39_49, bI_rI, bV_rV, bQ_rN, bQ_rR, bz_0, bz_1, bz_Z, hZ0, hZ1, Lay_setI, Lay_setA, hw.lay, S128, nI_1]
      refine ih _ () ⟨fw.st rfl (by decide), fun q h1 h2 => absurd h2 (by omega)⟩
    · by_cases c : pc S = 1
      · have m0 : ∀ k180 : SM → Int32 → Int32 → OR, fm_looks_l49 k180 1000000 w (nI S) 0 0 = k180 w (nI S) (nI (lkf (lkt (hvN L) n S) (hvN L) S 0 n)) := fun k180 => ml49 (b := 0) hw hf' hl hb S128 hr hfs (by omega) k180
        rw [if_pos c, m0]
        simp only [fm_looks_180, gI_39, pI_39, rc_39, al_40, as_40, ln_40, al_41, as_41, ln_41, al_42, as_42, ln_42, al_43, as_43, ln_43, al_44, as_44, ln_44, al_45, as_45, ln_45, al_46, as_46, ln_46, al_47, as_47, ln_47, al_48, as_48, ln_48, al_49, as_49, ln_49, al_50, as_50, ln_50, al_51, as_51, ln_51, al_52, as_52, ln_52, al_53, as_53, ln_53, al_54, as_54, ln_54, al_55, as_55, ln_55, al_56, as_56, ln_56, al_57, as_57, ln_57, al_58, as_58, ln_58, al_59, as_59, ln_59, al_60, as_60, ln_60, al_61, as_61, ln_61, al_62, as_62, ln_62, al_63, as_63, ln_63, al_64, as_64, ln_64, al_65, as_65, ln_65, al_66, as_66, ln_66, al_67, as_67, ln_67, gC_39_4, gC_39_5, gC_39_6, gC_39_7, gC_39_8, gC_39_10, gC_39_11, gC_39_12, gC_39_13, gC_39_15, gC_39_16, gC_39_18, gC_39_19, gC_39_27, gC_39_28, gC_39_29, gC_39_30, gC_39_31, gC_39_36, gC_39_37, gC_39_41, gC_39_42, gC_39_43, gC_39_44, gC_39_46, gC_39_47, gC_39_48, gC_39_49, bI_rI, bV_rV, bQ_rN, bQ_rR, bz_0, bz_1, bz_Z, hZ0, hZ1, Lay_setI, Lay_setA, hw.lay, S128, nI_1, key 0 (Or.inl ⟨rfl, c⟩) hS0]
        exact ih _ () ⟨fw.st rfl (by decide), hr.set⟩
      · rw [if_neg c, show (1000000 : Int32) = nI 1000000 from rfl, ml49 hw hf' hl hb S128 hr hfs (Nat.le_refl _)]
        simp only [fm_looks_180, gI_39, pI_39, rc_39, al_40, as_40, ln_40, al_41, as_41, ln_41, al_42, as_42, ln_42, al_43, as_43, ln_43, al_44, as_44, ln_44, al_45, as_45, ln_45, al_46, as_46, ln_46, al_47, as_47, ln_47, al_48, as_48, ln_48, al_49, as_49, ln_49, al_50, as_50, ln_50, al_51, as_51, ln_51, al_52, as_52, ln_52, al_53, as_53, ln_53, al_54, as_54, ln_54, al_55, as_55, ln_55, al_56, as_56, ln_56, al_57, as_57, ln_57, al_58, as_58, ln_58, al_59, as_59, ln_59, al_60, as_60, ln_60, al_61, as_61, ln_61, al_62, as_62, ln_62, al_63, as_63, ln_63, al_64, as_64, ln_64, al_65, as_65, ln_65, al_66, as_66, ln_66, al_67, as_67, ln_67, gC_39_4, gC_39_5, gC_39_6, gC_39_7, gC_39_8, gC_39_10, gC_39_11, gC_39_12, gC_39_13, gC_39_15, gC_39_16, gC_39_18, gC_39_19, gC_39_27, gC_39_28, gC_39_29, gC_39_30, gC_39_31, gC_39_36, gC_39_37, gC_39_41, gC_39_42, gC_39_43, gC_39_44, gC_39_46, gC_39_47, gC_39_48, gC_39_49, bI_rI, bV_rV, bQ_rN, bQ_rR, bz_0, bz_1, bz_Z, hZ0, hZ1, Lay_setI, Lay_setA, hw.lay, S128, nI_1, key 1000000 (Or.inr ⟨rfl, c⟩) hS0]
        exact ih _ () ⟨fw.st rfl (by decide), hr.set⟩
theorem in_few {L : List Nat} (hl : L.length ≤ 512) : (decide ((1 : Int32) ≤ nI L.length) && decide (nI L.length ≤ 7)) = few L := by
  unfold few
  have e1 : ((1 : Int32) ≤ nI L.length) = (1 ≤ L.length) := propext (nI_leI (a := 1) (by decide) (by omega))
  have e2 : (nI L.length ≤ 7) = (L.length ≤ 7) := propext (nI_leI (b := 7) (by omega) (by decide))
  simp only [e1, e2]
theorem mq_looks (h : Inv n m s g x p t) : QQ t (fm_looks t) (s_looks n m (pm t)) := by
  have hr := h.rng
  have hpw := pw_lt (n := n) (by omega)
  obtain ⟨u, eu, fu, _, gu⟩ := fm_findsWorlds_v h
  have hu := h.fr fu.1
  have hl := WL_le (m := m) (show n ≤ 9 by omega) (pm t) (evB m)
  unfold s_looks
  simp only [fm_looks, gI_39, pI_39, rc_39, al_40, as_40, ln_40, al_41, as_41, ln_41, al_42, as_42, ln_42, al_43, as_43, ln_43, al_44, as_44, ln_44, al_45, as_45, ln_45, al_46, as_46, ln_46, al_47, as_47, ln_47, al_48, as_48, ln_48, al_49, as_49, ln_49, al_50, as_50, ln_50, al_51, as_51, ln_51, al_52, as_52, ln_52, al_53, as_53, ln_53, al_54, as_54, ln_54, al_55, as_55, ln_55, al_56, as_56, ln_56, al_57, as_57, ln_57, al_58, as_58, ln_58, al_59, as_59, ln_59, al_60, as_60, ln_60, al_61, as_61, ln_61, al_62, as_62, ln_62, al_63, as_63, ln_63, al_64, as_64, ln_64, al_65, as_65, ln_65, al_66, as_66, ln_66, al_67, as_67, ln_67, gC_39_4, gC_39_5, gC_39_6, gC_39_7, gC_39_8, gC_39_10, gC_39_11, gC_39_12, gC_39_13, gC_39_15, gC_39_16, gC_39_18, gC_39_19, gC_39_27, gC_39_28, gC_39_29, gC_39_30, gC_39_31, gC_39_36, gC_39_37, gC_39_41, gC_39_42, gC_39_43, gC_39_44, gC_39_46, gC_39_47, gC_39_48, gC_39_49, bI_rI, bV_rV, bQ_rN, bQ_rR, bz_0, bz_1, bz_Z, hZ0, hZ1, Lay_setI, Lay_setA, h.lay, eu, hu.lay, gu.1, fm_in_v, in_few hl]
  cases c : few (WL n m (pm t) (evB m))
  · simp only [if_true]; exact ⟨u, rfl, fu.1⟩
  · obtain ⟨c1, c2⟩ := few_t c
    have hb : ∀ w, w ∈ WL n m (pm t) (evB m) → w < 512 := fun w hw => by have := WL_lt (pm t) (evB m) w hw; omega
    obtain ⟨u', e2, f2⟩ := mlooks hu gu c2 c1 hb (spl_L c2 (WL_lt _ _) (WL_nd _ _))
    simp only [if_true, if_false, Bool.true_eq_false, e2]
    exact ⟨u', rfl, fu.1.trans f2.1⟩
theorem ok_looks (h : Inv n m s g x p t) : Okk t (fun t => fx_looks t) (fun t => fm_looks t) := okq h (xq_looks h) (fun u hu e => e ▸ mq_looks hu)
end
