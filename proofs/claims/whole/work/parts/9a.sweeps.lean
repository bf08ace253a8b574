section
variable {n m s g x p : Nat} {t0 t u : SM} {E : Nat → Nat → Nat → Bool} {K : Nat}
theorem RW.set {k S q v N : Nat} {W : Nat → NN} (h : RW k u W N) (hN : N ≤ 128) (hS : S < 128) : RW k (setI u k (128 * q + S) (nI v)) (upd2 W S q v) N := by
  intro S' q' a b c
  unfold upd2
  rw [setI_I]
  by_cases e : S' = S ∧ q' = q
  · rw [if_pos e, if_pos ⟨rfl, by rw [e.1, e.2]⟩]
  · rw [if_neg e, if_neg (fun z => e (by omega))]
    exact h S' q' a b c
def Chg (E : Nat → Nat → Nat → Bool) (K : Nat) (W W' : Nat → NN) : Prop := ∃ S q, 1 ≤ S ∧ S < 2 ^ K ∧ q < 6 ∧ nt E K S q ∧ W' S q < W S q
def Flg (E : Nat → Nat → Nat → Bool) (K : Nat) (b : Bool) (W W' : Nat → NN) : Prop := (b = false → W' = W) ∧ (b = true → Chg E K W W') ∧ ∀ S q, W' S q ≤ W S q
theorem Flg.refl (W : Nat → NN) : Flg E K false W W := ⟨fun _ => rfl, fun h => absurd h (by decide), fun _ _ => Nat.le_refl _⟩
theorem Flg.tr {b b2 : Bool} {W W' W2 : Nat → NN} (h : Flg E K b W W') (h2 : Flg E K b2 W' W2) : Flg E K (b || b2) W W2 := by
  refine ⟨fun e => ?_, fun e => ?_, fun S q => Nat.le_trans (h2.2.2 S q) (h.2.2 S q)⟩
  · rw [Bool.or_eq_false_iff] at e
    rw [h2.1 e.2, h.1 e.1]
  · rw [Bool.or_eq_true] at e
    rcases e with e | e
    · obtain ⟨S, q, a1, a2, a3, a4, a5⟩ := h.2.1 e
      exact ⟨S, q, a1, a2, a3, a4, Nat.lt_of_le_of_lt (h2.2.2 S q) a5⟩
    · obtain ⟨S, q, a1, a2, a3, a4, a5⟩ := h2.2.1 e
      exact ⟨S, q, a1, a2, a3, a4, Nat.lt_of_lt_of_le a5 (h.2.2 S q)⟩
theorem Flg.bet {G : GG} {W : Nat → NN} {S q i : Nat} (h1 : 1 ≤ S) (hS : S < 2 ^ K) (hq : q < 6) (hn : nt E K S q) : Flg E K (decide (byv G E K W S q i < W S q)) W (betI G E K S q i W) := by
  refine ⟨fun e => ?_, fun e => ?_, fun S' q' => bet_le _ _ _ _ _ _⟩
  · unfold betI
    rw [if_neg (of_decide_eq_false e)]
  · have c := of_decide_eq_true e
    refine ⟨S, q, h1, hS, hq, hn, ?_⟩
    exact Nat.lt_of_le_of_lt (bet_at _ _ _ _) c
theorem FdM.fr {L : List Nat} (h : FdM L t) (f : FS [65] t u) : FdM L u := ⟨(f.row 39 rfl (by decide) 45).trans h.1, fun k hk => (f.row 63 rfl (by decide) k).trans (h.2 k hk)⟩
theorem betters_v {S q : Nat} {L : List Nat} {W : Nat → NN} (h : Inv n m s g x p u) (hf : FdM L u) (hl : L.length ≤ 7) (h1 : 1 ≤ S) (hS : S < 2 ^ L.length) (hq : q < 6) (hn : nt (EL (pm u) s L) L.length S q) (hr : RW 65 u W (2 ^ L.length)) (hW : ∀ S p, W S p ≤ 1000000) :
    ∃ u' b, fm_betters u (nI S) (nI q) = rI (bz b) u' ∧ FS [65] u u' ∧ RW 65 u' (bets (pm u) (oL (pm u) L) (EL (pm u) s L) L.length S q W s) (2 ^ L.length) ∧ Flg (EL (pm u) s L) L.length b W (bets (pm u) (oL (pm u) L) (EL (pm u) s L) L.length S q W s) := by
  have hrg := h.rng
  have hS7 := pw7 hl hS
  have h7 : 2 ^ L.length ≤ 2 ^ 7 := Nat.pow_le_pow_right (by decide) hl
  have hfN := tb_ltK hS (fsN_t hl hS h1)
  have f512 : fsN S < 512 := by omega
  have idx : 128 * q + S < 768 := by omega
  unfold fm_betters
  rw [rc_39 h.lay, mfirst_v u hS7 h1, bI_rI]
  refine for_up (β := Int32) (fun f w i fl => fm_betters_l12 f w (nI S) (nI q) (nI (fsN S)) fl (nI i)) (fun r => ∃ u' b, r = rI (bz b) u' ∧ FS [65] u u' ∧ RW 65 u' (bets (pm u) (oL (pm u) L) (EL (pm u) s L) L.length S q W s) (2 ^ L.length) ∧ Flg (EL (pm u) s L) L.length b W (bets (pm u) (oL (pm u) L) (EL (pm u) s L) L.length S q W s)) s
    (fun i w fl => FS [65] u w ∧ RW 65 w (bets (pm u) (oL (pm u) L) (EL (pm u) s L) L.length S q W i) (2 ^ L.length) ∧ ∃ b, fl = bz b ∧ Flg (EL (pm u) s L) L.length b W (bets (pm u) (oL (pm u) L) (EL (pm u) s L) L.length S q W i)) ?_ ?_ s 0 u 0 1000000 (by omega) ⟨FS.refl _ _, hr, false, rfl, Flg.refl _⟩ (by omega)
  · intro f w fl ⟨fw, rw1, b, hfl, hb⟩
    have hi := h.fr fw.1
    have e9 : nI s ≤ nI s := Int32.le_refl _
    refine ⟨w, b, ?_, fw, rw1, hb⟩
    show fm_betters_12 _ w (nI S) (nI q) (nI (fsN S)) fl (nI s) = _
    simp only [fm_betters_12, gI_39, pI_39, rc_39, al_40, as_40, ln_40, al_41, as_41, ln_41, al_42, as_42, ln_42, al_43, as_43, ln_43, al_44, as_44, ln_44, al_45, as_45, ln_45, al_46, as_46, ln_46, al_47, as_47, ln_47, al_48, as_48, ln_48, al_49, as_49, ln_49, al_50, as_50, ln_50, al_51, as_51, ln_51, al_52, as_52, ln_52, al_53, as_53, ln_53, al_54, as_54, ln_54, al_55, as_55, ln_55, al_56, as_56, ln_56, al_57, as_57, ln_57, al_58, as_58, ln_58, al_59, as_59, ln_59, al_60, as_60, ln_60, al_61, as_61, ln_61, al_62, as_62, ln_62, al_63, as_63, ln_63, al_64, as_64, ln_64, al_65, as_65, ln_65, al_66, as_66, ln_66, al_67, as_67, ln_67, gC_39_4, gC_39_5, gC_39_6, gC_39_7, gC_39_8, gC_39_10, gC_39_11, gC_39_12, gC_39_13, gC_39_15, gC_39_16, gC_39_18, gC_39_19, gC_39_27, gC_39_28, gC_39_29, gC_39_30, gC_39_31, gC_39_36, gC_39_37, gC_39_41, gC_39_42, gC_39_43, gC_39_44, gC_39_46, gC_39_47, gC_39_48, gC_39_49, bI_rI, bV_rV, bQ_rN, bQ_rR, bz_0, bz_1, bz_Z, hZ0, hZ1, Lay_setI, Lay_setA, hi.lay, hi.st, e9, if_true, hfl]
  · intro f w i fl hi2 ⟨fw, rw1, b, hfl, hb⟩ ih
    have hi := h.fr fw.1
    have e9 : ¬ nI s ≤ nI i := nI_ge hi2 (by omega)
    have hfw := hf.fr fw
    have hWi : ∀ S' p', bets (pm u) (oL (pm u) L) (EL (pm u) s L) L.length S q W i S' p' ≤ 1000000 := fun S' p' => Nat.le_trans (bets_le _ _ _ _ _ _) (hW S' p')
    have bs := bets_s (G := pm u) (o := oL (pm u) L) (E := EL (pm u) s L) (K := L.length) S q W i
    have bsv := byStreet_v hi hfw hl hS hq hi2 rw1 hWi
    have ets := endsAt_t hi hi2 hq
    have ops := fm_isOpen_v hi hi2 (nI (L.getD (fsN S) 0))
    rw [fw.1.2] at bsv ets ops
    have rv := rw1 S q h1 hS hq
    have l1 : byv (pm u) (EL (pm u) s L) L.length (bets (pm u) (oL (pm u) L) (EL (pm u) s L) L.length S q W i) S q i ≤ 1000000 := by unfold byv; split <;> omega
    have l2 := hWi S q
    have hst := RW.set (S := S) (q := q) (v := byv (pm u) (EL (pm u) s L) L.length (bets (pm u) (oL (pm u) L) (EL (pm u) s L) L.length S q W i) S q i) rw1 (by omega) hS7
    have hfb := Flg.bet (G := pm u) (W := bets (pm u) (oL (pm u) L) (EL (pm u) s L) L.length S q W i) (i := i) h1 hS hq hn
    generalize bets (pm u) (oL (pm u) L) (EL (pm u) s L) L.length S q W i = Wi at *
    have e2 : (nI (Wi S q) ≤ nI (byv (pm u) (EL (pm u) s L) L.length Wi S q i)) = (Wi S q ≤ byv (pm u) (EL (pm u) s L) L.length Wi S q i) := propext (nI_leI (by omega) (by omega))
    show ∃ u' b, fm_betters_12 _ w (nI S) (nI q) (nI (fsN S)) fl (nI i) = _ ∧ _
    simp only [fm_betters_12, gI_39, pI_39, rc_39, al_40, as_40, ln_40, al_41, as_41, ln_41, al_42, as_42, ln_42, al_43, as_43, ln_43, al_44, as_44, ln_44, al_45, as_45, ln_45, al_46, as_46, ln_46, al_47, as_47, ln_47, al_48, as_48, ln_48, al_49, as_49, ln_49, al_50, as_50, ln_50, al_51, as_51, ln_51, al_52, as_52, ln_52, al_53, as_53, ln_53, al_54, as_54, ln_54, al_55, as_55, ln_55, al_56, as_56, ln_56, al_57, as_57, ln_57, al_58, as_58, ln_58, al_59, as_59, ln_59, al_60, as_60, ln_60, al_61, as_61, ln_61, al_62, as_62, ln_62, al_63, as_63, ln_63, al_64, as_64, ln_64, al_65, as_65, ln_65, al_66, as_66, ln_66, al_67, as_67, ln_67, gC_39_4, gC_39_5, gC_39_6, gC_39_7, gC_39_8, gC_39_10, gC_39_11, gC_39_12, gC_39_13, gC_39_15, gC_39_16, gC_39_18, gC_39_19, gC_39_27, gC_39_28, gC_39_29, gC_39_30, gC_39_31, gC_39_36, gC_39_37, gC_39_41, gC_39_42, gC_39_43, gC_39_44, gC_39_46, gC_39_47, gC_39_48, gC_39_49, bI_rI, bV_rV, bQ_rN, bQ_rR, bz_0, bz_1, bz_Z, hZ0, hZ1, Lay_setI, Lay_setA, hi.lay, hi.st, e9, if_false, ets, f512, hfw.2 _ hfN, ops, bsv, l128, nI_add, idx, rv, e2, nI_1]
    cases ct : tch (pm u) i q
    · rw [if_pos rfl]
      rw [ct, if_neg (by decide)] at bs
      exact ih w fl ⟨fw, by rw [bs]; exact rw1, b, hfl, by rw [bs]; exact hb⟩
    · rw [if_neg (by decide)]
      rw [ct, if_pos rfl] at bs
      cases co : opn (pm u) (nI (L.getD (fsN S) 0)) i
      · rw [if_pos rfl]
        rw [show oL (pm u) L (fsN S) i = false from co, if_neg (by decide)] at bs
        exact ih w fl ⟨fw, by rw [bs]; exact rw1, b, hfl, by rw [bs]; exact hb⟩
      · rw [if_neg (by decide)]
        rw [show oL (pm u) L (fsN S) i = true from co, if_pos rfl] at bs
        by_cases c : Wi S q ≤ byv (pm u) (EL (pm u) s L) L.length Wi S q i
        · rw [if_pos c]
          have eb : betI (pm u) (EL (pm u) s L) L.length S q i Wi = Wi := by unfold betI; rw [if_neg (by omega)]
          rw [eb] at bs
          exact ih w fl ⟨fw, by rw [bs]; exact rw1, b, hfl, by rw [bs]; exact hb⟩
        · rw [if_neg c]
          have eb : betI (pm u) (EL (pm u) s L) L.length S q i Wi = upd2 Wi S q (byv (pm u) (EL (pm u) s L) L.length Wi S q i) := by unfold betI; rw [if_pos (by omega)]
          rw [decide_eq_true (by omega)] at hfb
          have hf2 := hb.tr hfb
          rw [Bool.or_true] at hf2
          exact ih _ 1 ⟨fw.st rfl (by decide), by rw [bs, eb]; exact hst, true, rfl, by rw [bs]; exact hf2⟩
/-- one place, all sets -/
theorem sets_v {q e : Nat} {L : List Nat} {W W0 : Nat → NN} {b0 : Bool} (h : Inv n m s g x p u) (hf : FdM L u) (hl : L.length ≤ 7) (hl1 : 1 ≤ L.length) (hq : q < 6) (he : e < 6) (hqe : q ≠ e) (hr : RW 65 u W (2 ^ L.length)) (hW : ∀ S p, W S p ≤ 1000000) (hb : Flg (EL (pm u) s L) L.length b0 W0 W) (k115 : SM → Int32 → Int32 → Int32 → OR) :
    ∃ u' b, fm_findsWorst_l55 k115 1000000 u (nI e) (bz b0) (nI q) 1 = k115 u' (nI e) (bz b) (nI q) ∧ FS [65] u u' ∧ RW 65 u' (swS (pm u) (oL (pm u) L) s (EL (pm u) s L) L.length q W (2 ^ L.length - 1)) (2 ^ L.length) ∧ Flg (EL (pm u) s L) L.length b W0 (swS (pm u) (oL (pm u) L) s (EL (pm u) s L) L.length q W (2 ^ L.length - 1)) := by
  have hrg := h.rng
  have h7 : 2 ^ L.length ≤ 2 ^ 7 := Nat.pow_le_pow_right (by decide) hl
  have h2 : 2 ^ 1 ≤ 2 ^ L.length := Nat.pow_le_pow_right (by decide) hl1
  have eqe : ¬ nI q = nI e := fun c => hqe ((nI_eq (by omega) (by omega)).mp c)
  refine for_up (β := Int32) (fun f w S fl => fm_findsWorst_l55 k115 f w (nI e) fl (nI q) (nI S)) (fun r => ∃ u' b, r = k115 u' (nI e) (bz b) (nI q) ∧ FS [65] u u' ∧ RW 65 u' (swS (pm u) (oL (pm u) L) s (EL (pm u) s L) L.length q W (2 ^ L.length - 1)) (2 ^ L.length) ∧ Flg (EL (pm u) s L) L.length b W0 (swS (pm u) (oL (pm u) L) s (EL (pm u) s L) L.length q W (2 ^ L.length - 1))) (2 ^ L.length)
    (fun S w fl => 1 ≤ S ∧ FS [65] u w ∧ RW 65 w (swS (pm u) (oL (pm u) L) s (EL (pm u) s L) L.length q W (S - 1)) (2 ^ L.length) ∧ ∃ b, fl = bz b ∧ Flg (EL (pm u) s L) L.length b W0 (swS (pm u) (oL (pm u) L) s (EL (pm u) s L) L.length q W (S - 1))) ?_ ?_ (2 ^ L.length - 1) 1 u (bz b0) 1000000 (by omega) ⟨Nat.le_refl _, FS.refl _ _, hr, b0, rfl, hb⟩ (by omega)
  · intro f w fl ⟨_, fw, rw1, b, hfl, hb⟩
    have hi := h.fr fw.1
    have e9 : nI (2 ^ L.length) ≤ nI (2 ^ L.length) := Int32.le_refl _
    refine ⟨w, b, ?_, fw, rw1, hb⟩
    show fm_findsWorst_55 k115 _ w (nI e) fl (nI q) (nI (2 ^ L.length)) = _
    simp only [fm_findsWorst_55, gI_39, pI_39, rc_39, al_40, as_40, ln_40, al_41, as_41, ln_41, al_42, as_42, ln_42, al_43, as_43, ln_43, al_44, as_44, ln_44, al_45, as_45, ln_45, al_46, as_46, ln_46, al_47, as_47, ln_47, al_48, as_48, ln_48, al_49, as_49, ln_49, al_50, as_50, ln_50, al_51, as_51, ln_51, al_52, as_52, ln_52, al_53, as_53, ln_53, al_54, as_54, ln_54, al_55, as_55, ln_55, al_56, as_56, ln_56, al_57, as_57, ln_57, al_58, as_58, ln_58, al_59, as_59, ln_59, al_60, as_60, ln_60, al_61, as_61, ln_61, al_62, as_62, ln_62, al_63, as_63, ln_63, al_64, as_64, ln_64, al_65, as_65, ln_65, al_66, as_66, ln_66, al_67, as_67, ln_67, gC_39_4, gC_39_5, gC_39_6, gC_39_7, gC_39_8, gC_39_10, gC_39_11, gC_39_12, gC_39_13, gC_39_15, gC_39_16, gC_39_18, gC_39_19, gC_39_27, gC_39_28, gC_39_29, gC_39_30, gC_39_31, gC_39_36, gC_39_37, gC_39_41, gC_39_42, gC_39_43, gC_39_44, gC_39_46, gC_39_47, gC_39_48, gC_39_49, bI_rI, bV_rV, bQ_rN, bQ_rR, bz_0, bz_1, bz_Z, hZ0, hZ1, Lay_setI, Lay_setA, hi.lay, (hf.fr fw).1, b_pow L.length (show L.length < 31 by omega), e9, if_true, hfl]
  · intro f w S fl hS ⟨S1, fw, rw1, b, hfl, hb⟩ ih
    have hi := h.fr fw.1
    have hfw := hf.fr fw
    have hS7 : S < 128 := by omega
    have e9 : ¬ nI (2 ^ L.length) ≤ nI S := nI_ge hS (by omega)
    have hfl7 := tb_ltK hS (fsN_t hl hS S1)
    have lk := like_v (w := fsN S) hi hfw hl hS7 hfl7 hq
    rw [fw.1.2] at lk
    have hWi : ∀ S' p', swS (pm u) (oL (pm u) L) s (EL (pm u) s L) L.length q W (S - 1) S' p' ≤ 1000000 := fun S' p' => Nat.le_trans (swS_le _ _ _ _ _) (hW S' p')
    have ss := swS_s (G := pm u) (o := oL (pm u) L) (s := s) (E := EL (pm u) s L) (K := L.length) q W (S - 1)
    rw [show S - 1 + 1 = S by omega] at ss
    have en : S + 1 - 1 = S := by omega
    show ∃ u' b, fm_findsWorst_55 k115 _ w (nI e) fl (nI q) (nI S) = _ ∧ _
    simp only [fm_findsWorst_55, gI_39, pI_39, rc_39, al_40, as_40, ln_40, al_41, as_41, ln_41, al_42, as_42, ln_42, al_43, as_43, ln_43, al_44, as_44, ln_44, al_45, as_45, ln_45, al_46, as_46, ln_46, al_47, as_47, ln_47, al_48, as_48, ln_48, al_49, as_49, ln_49, al_50, as_50, ln_50, al_51, as_51, ln_51, al_52, as_52, ln_52, al_53, as_53, ln_53, al_54, as_54, ln_54, al_55, as_55, ln_55, al_56, as_56, ln_56, al_57, as_57, ln_57, al_58, as_58, ln_58, al_59, as_59, ln_59, al_60, as_60, ln_60, al_61, as_61, ln_61, al_62, as_62, ln_62, al_63, as_63, ln_63, al_64, as_64, ln_64, al_65, as_65, ln_65, al_66, as_66, ln_66, al_67, as_67, ln_67, gC_39_4, gC_39_5, gC_39_6, gC_39_7, gC_39_8, gC_39_10, gC_39_11, gC_39_12, gC_39_13, gC_39_15, gC_39_16, gC_39_18, gC_39_19, gC_39_27, gC_39_28, gC_39_29, gC_39_30, gC_39_31, gC_39_36, gC_39_37, gC_39_41, gC_39_42, gC_39_43, gC_39_44, gC_39_46, gC_39_47, gC_39_48, gC_39_49, bI_rI, bV_rV, bQ_rN, bQ_rR, bz_0, bz_1, bz_Z, hZ0, hZ1, Lay_setI, Lay_setA, hi.lay, hfw.1, b_pow L.length (show L.length < 31 by omega), e9, if_false, eqe, mfirst_v w hS7 S1, lk, LK_S hl hS, nI_1]
    by_cases c : LK (EL (pm u) s L) L.length S (fsN S) q = S
    · rw [if_pos c]
      rw [if_pos c] at ss
      have hn : nt (EL (pm w) s L) L.length S q := by rw [fw.1.2]; exact c
      obtain ⟨w2, b2, e2, f2, r2, g2⟩ := betters_v hi hfw hl S1 hS hq hn rw1 hWi
      rw [fw.1.2, ← ss] at r2 g2
      have g3 := hb.tr g2
      have ob : ∀ z, z = bz (b || b2) → ∃ u' b, fm_findsWorst_l55 k115 f w2 (nI e) z (nI q) (nI (S + 1)) = k115 u' (nI e) (bz b) (nI q) ∧ FS [65] u u' ∧ RW 65 u' (swS (pm u) (oL (pm u) L) s (EL (pm u) s L) L.length q W (2 ^ L.length - 1)) (2 ^ L.length) ∧ Flg (EL (pm u) s L) L.length b W0 (swS (pm u) (oL (pm u) L) s (EL (pm u) s L) L.length q W (2 ^ L.length - 1)) := by
        intro z hz
        refine ih w2 z ⟨by omega, fw.tr f2, ?_, b || b2, hz, ?_⟩
        · rw [en]; exact r2
        · rw [en]; exact g3
      rw [hfl]
      simp only [e2, bI_rI, bz_0]
      cases b2
      · rw [if_pos rfl]
        cases b
        · rw [if_pos rfl]; exact ob 0 rfl
        · rw [if_neg (by decide)]; exact ob 1 rfl
      · rw [if_neg (by decide)]
        exact ob 1 (by cases b <;> rfl)
    · rw [if_neg c]
      rw [if_neg c] at ss
      refine ih w fl ⟨by omega, fw, ?_, b, hfl, ?_⟩
      · rw [en, ss]; exact rw1
      · rw [en, ss]; exact hb
/-- one sweep over all places -/
theorem sweep_v {e : Nat} {L : List Nat} {W : Nat → NN} (h : Inv n m s g x p u) (hf : FdM L u) (hl : L.length ≤ 7) (hl1 : 1 ≤ L.length) (he : e < 6) (hr : RW 65 u W (2 ^ L.length)) (hW : ∀ S p, W S p ≤ 1000000) (k121 : SM → Int32 → Int32 → OR) :
    ∃ u' b, fm_findsWorst_l46 k121 1000000 u (nI e) 0 0 = k121 u' (nI e) (bz b) ∧ FS [65] u u' ∧ RW 65 u' (swP (pm u) (oL (pm u) L) s (EL (pm u) s L) L.length e W 6) (2 ^ L.length) ∧ Flg (EL (pm u) s L) L.length b W (swP (pm u) (oL (pm u) L) s (EL (pm u) s L) L.length e W 6) := by
  have h7 : 2 ^ L.length ≤ 2 ^ 7 := Nat.pow_le_pow_right (by decide) hl
  have h2 : 2 ^ 1 ≤ 2 ^ L.length := Nat.pow_le_pow_right (by decide) hl1
  refine for_up (β := Int32) (fun f w q fl => fm_findsWorst_l46 k121 f w (nI e) fl (nI q)) (fun r => ∃ u' b, r = k121 u' (nI e) (bz b) ∧ FS [65] u u' ∧ RW 65 u' (swP (pm u) (oL (pm u) L) s (EL (pm u) s L) L.length e W 6) (2 ^ L.length) ∧ Flg (EL (pm u) s L) L.length b W (swP (pm u) (oL (pm u) L) s (EL (pm u) s L) L.length e W 6)) 6
    (fun q w fl => FS [65] u w ∧ RW 65 w (swP (pm u) (oL (pm u) L) s (EL (pm u) s L) L.length e W q) (2 ^ L.length) ∧ ∃ b, fl = bz b ∧ Flg (EL (pm u) s L) L.length b W (swP (pm u) (oL (pm u) L) s (EL (pm u) s L) L.length e W q)) ?_ ?_ 6 0 u 0 1000000 (by omega) ⟨FS.refl _ _, hr, false, rfl, Flg.refl _⟩ (by omega)
  · intro f w fl ⟨fw, rw1, b, hfl, hb⟩
    refine ⟨w, b, ?_, fw, rw1, hb⟩
    show fm_findsWorst_46 k121 _ w (nI e) fl (nI 6) = _
    unfold fm_findsWorst_46
    rw [if_pos (show (6 : Int32) ≤ nI 6 from Int32.le_refl _), hfl]
  · intro f w q fl hq ⟨fw, rw1, b, hfl, hb⟩ ih
    have hi := h.fr fw.1
    have hfw := hf.fr fw
    have hWi : ∀ S' p', swP (pm u) (oL (pm u) L) s (EL (pm u) s L) L.length e W q S' p' ≤ 1000000 := fun S' p' => Nat.le_trans (swP_le _ _ _ _) (hW S' p')
    have ss := swP_s (G := pm u) (o := oL (pm u) L) (s := s) (E := EL (pm u) s L) (K := L.length) (e := e) W q
    show ∃ u' b, fm_findsWorst_46 k121 _ w (nI e) fl (nI q) = _ ∧ _
    unfold fm_findsWorst_46
    rw [if_neg (show ¬ (6 : Int32) ≤ nI q from nI_ge (b := 6) hq (by decide)), hfl]
    by_cases c : q = e
    · rw [if_pos c] at ss
      have e9 : ¬ nI (2 ^ L.length) ≤ 1 := nI_ge (a := 1) (by omega) (by omega)
      have one : fm_findsWorst_l55 (fun t u1 u2 u3 => fm_findsWorst_115 (fm_findsWorst_l46 k121 f) t u1 u2 u3) 1000000 w (nI e) (bz b) (nI q) 1 = fm_findsWorst_l46 k121 f w (nI e) (bz b) (nI (q + 1)) := by
        show fm_findsWorst_55 _ _ w (nI e) (bz b) (nI q) 1 = _
        simp only [fm_findsWorst_55, gI_39, pI_39, rc_39, al_40, as_40, ln_40, al_41, as_41, ln_41, al_42, as_42, ln_42, al_43, as_43, ln_43, al_44, as_44, ln_44, al_45, as_45, ln_45, al_46, as_46, ln_46, al_47, as_47, ln_47, al_48, as_48, ln_48, al_49, as_49, ln_49, al_50, as_50, ln_50, al_51, as_51, ln_51, al_52, as_52, ln_52, al_53, as_53, ln_53, al_54, as_54, ln_54, al_55, as_55, ln_55, al_56, as_56, ln_56, al_57, as_57, ln_57, al_58, as_58, ln_58, al_59, as_59, ln_59, al_60, as_60, ln_60, al_61, as_61, ln_61, al_62, as_62, ln_62, al_63, as_63, ln_63, al_64, as_64, ln_64, al_65, as_65, ln_65, al_66, as_66, ln_66, al_67, as_67, ln_67, gC_39_4, gC_39_5, gC_39_6, gC_39_7, gC_39_8, gC_39_10, gC_39_11, gC_39_12, gC_39_13, gC_39_15, gC_39_16, gC_39_18, gC_39_19, gC_39_27, gC_39_28, gC_39_29, gC_39_30, gC_39_31, gC_39_36, gC_39_37, gC_39_41, gC_39_42, gC_39_43, gC_39_44, gC_39_46, gC_39_47, gC_39_48, gC_39_49, bI_rI, bV_rV, bQ_rN, bQ_rR, bz_0, bz_1, bz_Z, hZ0, hZ1, Lay_setI, Lay_setA, hi.lay, hfw.1, b_pow L.length (show L.length < 31 by omega), e9, if_false, c, if_true, fm_findsWorst_115, nI_1]
      rw [one]
      exact ih w _ ⟨fw, by rw [ss]; exact rw1, b, rfl, by rw [ss]; exact hb⟩
    · rw [if_neg c] at ss
      generalize swP (pm u) (oL (pm u) L) s (EL (pm u) s L) L.length e W q = Wq at *
      rw [← fw.1.2] at hb
      obtain ⟨w2, b2, e2, f2, r2, g2⟩ := sets_v hi hfw hl hl1 hq he c rw1 hWi hb (fun t u1 u2 u3 => fm_findsWorst_115 (fm_findsWorst_l46 k121 f) t u1 u2 u3)
      rw [fw.1.2, ← ss] at r2 g2
      rw [e2]
      simp only [fm_findsWorst_115, nI_1]
      exact ih w2 _ ⟨fw.tr f2, r2, b2, rfl, g2⟩
end
