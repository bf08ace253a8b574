section
variable {n m s g x p : Nat} {t0 t u : SM}
theorem endsAt_t (h : Inv n m s g x p t) {i c : Nat} (hi : i < s) (hc : c < 6) : fm_endsAt t (nI i) (nI c) = rI (bz (tch (pm t) i c)) t := by
  obtain ⟨⟨k1, k2, _⟩, q1, q2, _⟩ := st_v h hi
  have e1 : (nI (su (pm t) i) = nI c) = (su (pm t) i = c) := propext (nI_eq (by omega) (by omega))
  have e2 : (nI (sv (pm t) i) = nI c) = (sv (pm t) i = c) := propext (nI_eq (by omega) (by omega))
  rw [endsAt_v h hi, q1, q2]
  unfold tch
  simp only [e1, e2]
theorem beyond_t (h : Inv n m s g x p t) {i c : Nat} (hi : i < s) (hc : c < 6) : fm_beyond t (nI i) (nI c) = rI (nI (ote (pm t) i c)) t := by
  obtain ⟨⟨k1, k2, _⟩, q1, q2, _⟩ := st_v h hi
  have e1 : (nI (su (pm t) i) = nI c) = (su (pm t) i = c) := propext (nI_eq (by omega) (by omega))
  rw [beyond_v h hi, q1, q2]
  unfold ote
  simp only [e1]
  split <;> rfl
theorem EL_s (G : GG) (i : Nat) (L : List Nat) (p v w : Nat) : EL G (i + 1) L p v w = (EL G i L p v w && (!tch G i p || (oL G L v i == oL G L w i))) := by
  unfold EL
  rw [List.range_succ, List.all_append]
  simp
theorem EL_f {G : GG} {i s : Nat} {L : List Nat} {p v w : Nat} (h : i ≤ s) (hf : EL G i L p v w = false) : EL G s L p v w = false := by
  cases c : EL G s L p v w
  · rfl
  · have : EL G i L p v w = true := EL_t.mpr fun j hj ht => EL_t.mp c j (by omega) ht
    rw [this] at hf; exact hf
theorem like_v {p' S w p : Nat} {L : List Nat} (h : Inv n m s g x p' u) (hf : FdM L u) (hl : L.length ≤ 7) (hS : S < 128) (hw : w < L.length) (hp : p < 6) : fm_like u (nI S) (nI w) (nI p) = rI (nI (LK (EL (pm u) s L) L.length S w p)) u := by
  have hr := h.rng
  rw [← (LK_eq (E := EL (pm u) s L) (S := S) (w := w) (p := p) hl).1]
  have inner : ∀ (k100 : SM → Int32 → Int32 → Int32 → Int32 → Int32 → Int32 → OR) (a : Int32) (v : Nat) (b0 : Bool), v < L.length → fm_like_l35 k100 1000000 u (nI S) (nI w) (nI p) a (nI v) (bz b0) 0 = k100 u (nI S) (nI w) (nI p) a (nI v) (bz (b0 && EL (pm u) s L p v w)) := by
    intro k100 a v b0 hv
    refine for_up (β := Bool) (fun f t i b => fm_like_l35 k100 f t (nI S) (nI w) (nI p) a (nI v) (bz b) (nI i)) (fun r => r = k100 u (nI S) (nI w) (nI p) a (nI v) (bz (b0 && EL (pm u) s L p v w))) s
      (fun i t b => t = u ∧ b = (b0 && EL (pm u) i L p v w)) ?_ ?_ s 0 u b0 1000000 (by omega) ⟨rfl, by show b0 = (b0 && true); simp⟩ (by omega)
    · intro f t b ⟨et, eb⟩
      subst et
      have e9 : nI s ≤ nI s := Int32.le_refl _
      show fm_like_35 k100 _ t (nI S) (nI w) (nI p) a (nI v) (bz b) (nI s) = _
      simp only [fm_like_35, gI_39, pI_39, rc_39, al_40, as_40, ln_40, al_41, as_41, ln_41, al_42, as_42, ln_42, al_43, as_43, ln_43, al_44, as_44, ln_44, al_45, as_45, ln_45, al_46, as_46, ln_46, al_47, as_47, ln_47, al_48, as_48, ln_48, al_49, as_49, ln_49, al_50, as_50, ln_50, al_51, as_51, ln_51, al_52, as_52, ln_52, al_53, as_53, ln_53, al_54, as_54, ln_54, al_55, as_55, ln_55, al_56, as_56, ln_56, al_57, as_57, ln_57, al_58, as_58, ln_58, al_59, as_59, ln_59, al_60, as_60, ln_60, al_61, as_61, ln_61, al_62, as_62, ln_62, al_63, as_63, ln_63, al_64, as_64, ln_64, al_65, as_65, ln_65, al_66, as_66, ln_66, al_67, as_67, ln_67, gC_39_4, gC_39_5, gC_39_6, gC_39_7, gC_39_8, gC_39_10, gC_39_11, gC_39_12, gC_39_13, gC_39_15, gC_39_16, gC_39_18, gC_39_19, gC_39_27, gC_39_28, gC_39_29, gC_39_30, gC_39_31, gC_39_36, gC_39_37, gC_39_41, gC_39_42, gC_39_43, gC_39_44, gC_39_46, gC_39_47, gC_39_48, gC_39_49, bI_rI, bV_rV, bQ_rN, bQ_rR, bz_0, bz_1, bz_Z, hZ0, hZ1, Lay_setI, Lay_setA, h.lay, h.st, e9, if_true, eb]
    · intro f t i b hi ⟨et, eb⟩ ih
      subst et
      have e9 : ¬ nI s ≤ nI i := nI_ge hi (by omega)
      have v512 : v < 512 := by omega
      have w512 : w < 512 := by omega
      show fm_like_35 k100 _ t (nI S) (nI w) (nI p) a (nI v) (bz b) (nI i) = _
      simp only [fm_like_35, gI_39, pI_39, rc_39, al_40, as_40, ln_40, al_41, as_41, ln_41, al_42, as_42, ln_42, al_43, as_43, ln_43, al_44, as_44, ln_44, al_45, as_45, ln_45, al_46, as_46, ln_46, al_47, as_47, ln_47, al_48, as_48, ln_48, al_49, as_49, ln_49, al_50, as_50, ln_50, al_51, as_51, ln_51, al_52, as_52, ln_52, al_53, as_53, ln_53, al_54, as_54, ln_54, al_55, as_55, ln_55, al_56, as_56, ln_56, al_57, as_57, ln_57, al_58, as_58, ln_58, al_59, as_59, ln_59, al_60, as_60, ln_60, al_61, as_61, ln_61, al_62, as_62, ln_62, al_63, as_63, ln_63, al_64, as_64, ln_64, al_65, as_65, ln_65, al_66, as_66, ln_66, al_67, as_67, ln_67, gC_39_4, gC_39_5, gC_39_6, gC_39_7, gC_39_8, gC_39_10, gC_39_11, gC_39_12, gC_39_13, gC_39_15, gC_39_16, gC_39_18, gC_39_19, gC_39_27, gC_39_28, gC_39_29, gC_39_30, gC_39_31, gC_39_36, gC_39_37, gC_39_41, gC_39_42, gC_39_43, gC_39_44, gC_39_46, gC_39_47, gC_39_48, gC_39_49, bI_rI, bV_rV, bQ_rN, bQ_rR, bz_0, bz_1, bz_Z, hZ0, hZ1, Lay_setI, Lay_setA, h.lay, h.st, e9, if_false, endsAt_t h hi hp, v512, w512, hf.2 v hv, hf.2 w hw, fm_isOpen_v h hi, bz_eq, nI_1]
      cases b
      · rw [if_pos rfl]
        have : (b0 && EL (pm t) s L p v w) = false := by
          cases b0
          · rfl
          · rw [Bool.true_and] at eb ⊢
            exact EL_f (Nat.le_of_lt hi) eb.symm
        rw [this]
      · rw [if_neg (by decide)]
        have es := EL_s (pm t) i L p v w
        cases ct : tch (pm t) i p
        · rw [if_pos rfl]
          exact ih t true ⟨rfl, by rw [es, ct]; simpa using eb⟩
        · rw [if_neg (by decide)]
          by_cases co : opn (pm t) (nI (L.getD v 0)) i = opn (pm t) (nI (L.getD w 0)) i
          · rw [if_pos co]
            refine ih t true ⟨rfl, ?_⟩
            rw [es, ct, show oL (pm t) L v i = oL (pm t) L w i from co]; simpa using eb
          · rw [if_neg co]
            refine ih t false ⟨rfl, ?_⟩
            have : (oL (pm t) L v i == oL (pm t) L w i) = false := beq_eq_false_iff_ne.mpr co
            rw [es, ct, this]; simp
  have := for_fo (fun f v b => fm_like_l6 f u (nI S) (nI w) (nI p) b (nI v)) L.length (fun v b => if (S.testBit v && EL (pm u) s L p v w) = true then b ||| ((1 : Int32) <<< (nI v &&& 31)) else b) (fun b => rI b u)
    (fun f b => by
      have e9 : nI L.length ≤ nI L.length := Int32.le_refl _
      show fm_like_6 _ u (nI S) (nI w) (nI p) b (nI L.length) = _
      simp only [fm_like_6, gI_39, pI_39, rc_39, al_40, as_40, ln_40, al_41, as_41, ln_41, al_42, as_42, ln_42, al_43, as_43, ln_43, al_44, as_44, ln_44, al_45, as_45, ln_45, al_46, as_46, ln_46, al_47, as_47, ln_47, al_48, as_48, ln_48, al_49, as_49, ln_49, al_50, as_50, ln_50, al_51, as_51, ln_51, al_52, as_52, ln_52, al_53, as_53, ln_53, al_54, as_54, ln_54, al_55, as_55, ln_55, al_56, as_56, ln_56, al_57, as_57, ln_57, al_58, as_58, ln_58, al_59, as_59, ln_59, al_60, as_60, ln_60, al_61, as_61, ln_61, al_62, as_62, ln_62, al_63, as_63, ln_63, al_64, as_64, ln_64, al_65, as_65, ln_65, al_66, as_66, ln_66, al_67, as_67, ln_67, gC_39_4, gC_39_5, gC_39_6, gC_39_7, gC_39_8, gC_39_10, gC_39_11, gC_39_12, gC_39_13, gC_39_15, gC_39_16, gC_39_18, gC_39_19, gC_39_27, gC_39_28, gC_39_29, gC_39_30, gC_39_31, gC_39_36, gC_39_37, gC_39_41, gC_39_42, gC_39_43, gC_39_44, gC_39_46, gC_39_47, gC_39_48, gC_39_49, bI_rI, bV_rV, bQ_rN, bQ_rR, bz_0, bz_1, bz_Z, hZ0, hZ1, Lay_setI, Lay_setA, h.lay, hf.1, e9, if_true])
    (fun f v b hv => by
      have e9 : ¬ nI L.length ≤ nI v := nI_ge hv (by omega)
      have i1 : ∀ k100 a, fm_like_l35 k100 1000000 u (nI S) (nI w) (nI p) a (nI v) 1 0 = k100 u (nI S) (nI w) (nI p) a (nI v) (bz (true && EL (pm u) s L p v w)) := fun k100 a => inner k100 a v true hv
      have i0 : ∀ k100 a, fm_like_l35 k100 1000000 u (nI S) (nI w) (nI p) a (nI v) 0 0 = k100 u (nI S) (nI w) (nI p) a (nI v) (bz (false && EL (pm u) s L p v w)) := fun k100 a => inner k100 a v false hv
      show fm_like_6 _ u (nI S) (nI w) (nI p) b (nI v) = _
      simp only [fm_like_6, gI_39, pI_39, rc_39, al_40, as_40, ln_40, al_41, as_41, ln_41, al_42, as_42, ln_42, al_43, as_43, ln_43, al_44, as_44, ln_44, al_45, as_45, ln_45, al_46, as_46, ln_46, al_47, as_47, ln_47, al_48, as_48, ln_48, al_49, as_49, ln_49, al_50, as_50, ln_50, al_51, as_51, ln_51, al_52, as_52, ln_52, al_53, as_53, ln_53, al_54, as_54, ln_54, al_55, as_55, ln_55, al_56, as_56, ln_56, al_57, as_57, ln_57, al_58, as_58, ln_58, al_59, as_59, ln_59, al_60, as_60, ln_60, al_61, as_61, ln_61, al_62, as_62, ln_62, al_63, as_63, ln_63, al_64, as_64, ln_64, al_65, as_65, ln_65, al_66, as_66, ln_66, al_67, as_67, ln_67, gC_39_4, gC_39_5, gC_39_6, gC_39_7, gC_39_8, gC_39_10, gC_39_11, gC_39_12, gC_39_13, gC_39_15, gC_39_16, gC_39_18, gC_39_19, gC_39_27, gC_39_28, gC_39_29, gC_39_30, gC_39_31, gC_39_36, gC_39_37, gC_39_41, gC_39_42, gC_39_43, gC_39_44, gC_39_46, gC_39_47, gC_39_48, gC_39_49, bI_rI, bV_rV, bQ_rN, bQ_rR, bz_0, bz_1, bz_Z, hZ0, hZ1, Lay_setI, Lay_setA, h.lay, hf.1, e9, if_false, bt_o (show v < 32 by omega), b_ni _ _ (show S < 2 ^ 32 by omega), i1, i0, fm_like_100, nI_1, or_z]
      cases S.testBit v
      · simp
      · cases EL (pm u) s L p v w
        · simp
        · simp)
    0 L.length 0 1000000 (by omega) (by omega)
  exact this
theorem mfirst_v (t : SM) {S : Nat} (hS : S < 128) (h1 : 1 ≤ S) : fm_firstOf t (nI S) = rI (nI (fsN S)) t := by
  obtain ⟨_, f2, f3, f4⟩ := fsN_f S hS h1
  refine for_up (β := Unit) (fun f w k _ => fm_firstOf_l2 f w (nI S) (nI k)) (fun r => r = rI (nI (fsN S)) t) (fsN S) (fun k w _ => w = t) ?_ ?_ (fsN S) 0 t () 1000000 (by omega) rfl (by omega)
  · intro f w _ e
    subst e
    show fm_firstOf_2 _ w (nI S) (nI (fsN S)) = _
    simp only [fm_firstOf_2, bt_z (show fsN S < 32 by omega), b_ni _ _ (show S < 2 ^ 32 by omega), f2, Bool.true_eq_false, if_false]
  · intro f w k _ hk e ih
    subst e
    show fm_firstOf_2 _ w (nI S) (nI k) = _
    simp only [fm_firstOf_2, bt_z (show k < 32 by omega), b_ni _ _ (show S < 2 ^ 32 by omega), f4 k hk, if_true, nI_1]
    exact ih w () rfl

theorem longest_v {p' S p : Nat} {L : List Nat} {W : Nat → NN} (h : Inv n m s g x p' u) (hf : FdM L u) (hl : L.length ≤ 7) (hS : S < 2 ^ L.length) (hp : p < 6) (hr : RW 65 u W (2 ^ L.length)) (hW : ∀ S p, W S p ≤ 1000000) : fm_longest u (nI S) (nI p) = rI (nI (Mx (EL (pm u) s L) L.length W S p)) u := by
  have hS7 := pw7 hl hS
  have h7 : 2 ^ L.length ≤ 2 ^ 7 := Nat.pow_le_pow_right (by decide) hl
  refine for_up (β := Nat) (fun f w v a => fm_longest_l5 f w (nI S) (nI p) (nI a) (nI v)) (fun r => r = rI (nI (Mx (EL (pm u) s L) L.length W S p)) u) L.length
    (fun v w a => w = u ∧ a = wmax (fun w => W (LK (EL (pm u) s L) L.length S w p) p) S v) ?_ ?_ L.length 0 u 0 1000000 (by omega) ⟨rfl, rfl⟩ (by omega)
  · intro f w a ⟨ew, ea⟩
    subst ew
    have e9 : nI L.length ≤ nI L.length := Int32.le_refl _
    show fm_longest_5 _ w (nI S) (nI p) (nI a) (nI L.length) = _
    simp only [fm_longest_5, gI_39, pI_39, rc_39, al_40, as_40, ln_40, al_41, as_41, ln_41, al_42, as_42, ln_42, al_43, as_43, ln_43, al_44, as_44, ln_44, al_45, as_45, ln_45, al_46, as_46, ln_46, al_47, as_47, ln_47, al_48, as_48, ln_48, al_49, as_49, ln_49, al_50, as_50, ln_50, al_51, as_51, ln_51, al_52, as_52, ln_52, al_53, as_53, ln_53, al_54, as_54, ln_54, al_55, as_55, ln_55, al_56, as_56, ln_56, al_57, as_57, ln_57, al_58, as_58, ln_58, al_59, as_59, ln_59, al_60, as_60, ln_60, al_61, as_61, ln_61, al_62, as_62, ln_62, al_63, as_63, ln_63, al_64, as_64, ln_64, al_65, as_65, ln_65, al_66, as_66, ln_66, al_67, as_67, ln_67, gC_39_4, gC_39_5, gC_39_6, gC_39_7, gC_39_8, gC_39_10, gC_39_11, gC_39_12, gC_39_13, gC_39_15, gC_39_16, gC_39_18, gC_39_19, gC_39_27, gC_39_28, gC_39_29, gC_39_30, gC_39_31, gC_39_36, gC_39_37, gC_39_41, gC_39_42, gC_39_43, gC_39_44, gC_39_46, gC_39_47, gC_39_48, gC_39_49, bI_rI, bV_rV, bQ_rN, bQ_rR, bz_0, bz_1, bz_Z, hZ0, hZ1, Lay_setI, Lay_setA, h.lay, hf.1, e9, if_true, ea]
    rfl
  · intro f w v a hv ⟨ew, ea⟩ ih
    subst ew
    have e9 : ¬ nI L.length ≤ nI v := nI_ge hv (by omega)
    have ha : a ≤ 1000000 := by rw [ea]; exact wmax_le v (fun w _ _ => hW _ _)
    show fm_longest_5 _ w (nI S) (nI p) (nI a) (nI v) = _
    simp only [fm_longest_5, gI_39, pI_39, rc_39, al_40, as_40, ln_40, al_41, as_41, ln_41, al_42, as_42, ln_42, al_43, as_43, ln_43, al_44, as_44, ln_44, al_45, as_45, ln_45, al_46, as_46, ln_46, al_47, as_47, ln_47, al_48, as_48, ln_48, al_49, as_49, ln_49, al_50, as_50, ln_50, al_51, as_51, ln_51, al_52, as_52, ln_52, al_53, as_53, ln_53, al_54, as_54, ln_54, al_55, as_55, ln_55, al_56, as_56, ln_56, al_57, as_57, ln_57, al_58, as_58, ln_58, al_59, as_59, ln_59, al_60, as_60, ln_60, al_61, as_61, ln_61, al_62, as_62, ln_62, al_63, as_63, ln_63, al_64, as_64, ln_64, al_65, as_65, ln_65, al_66, as_66, ln_66, al_67, as_67, ln_67, gC_39_4, gC_39_5, gC_39_6, gC_39_7, gC_39_8, gC_39_10, gC_39_11, gC_39_12, gC_39_13, gC_39_15, gC_39_16, gC_39_18, gC_39_19, gC_39_27, gC_39_28, gC_39_29, gC_39_30, gC_39_31, gC_39_36, gC_39_37, gC_39_41, gC_39_42, gC_39_43, gC_39_44, gC_39_46, gC_39_47, gC_39_48, gC_39_49, bI_rI, bV_rV, bQ_rN, bQ_rR, bz_0, bz_1, bz_Z, hZ0, hZ1, Lay_setI, Lay_setA, h.lay, hf.1, e9, if_false, bt_o (show v < 32 by omega), b_ni _ _ (show S < 2 ^ 32 by omega), like_v h hf hl hS7 hv hp, nI_1, l128, nI_add]
    cases c : S.testBit v
    · simp only [Bool.false_eq_true, if_false]
      exact ih w a ⟨rfl, by rw [wmax_s, c, if_neg (by decide)]; exact ea⟩
    · have hle := LK_le (E := EL (pm w) s L) (S := S) (w := v) (p := p) hl
      have hpo := tb_pos (LK_pos (p := p) (EL_eqv (pm w) s L) hl hS c)
      have hv2 := hr _ p hpo (show LK (EL (pm w) s L) L.length S v p < 2 ^ L.length by omega) hp
      have hw2 := hW (LK (EL (pm w) s L) L.length S v p) p
      have idx : 128 * p + LK (EL (pm w) s L) L.length S v p < 768 := by omega
      have e2 : (nI (W (LK (EL (pm w) s L) L.length S v p) p) ≤ nI a) = (W (LK (EL (pm w) s L) L.length S v p) p ≤ a) := propext (nI_leI (by omega) (by omega))
      simp only [if_true, gI_39, pI_39, rc_39, al_40, as_40, ln_40, al_41, as_41, ln_41, al_42, as_42, ln_42, al_43, as_43, ln_43, al_44, as_44, ln_44, al_45, as_45, ln_45, al_46, as_46, ln_46, al_47, as_47, ln_47, al_48, as_48, ln_48, al_49, as_49, ln_49, al_50, as_50, ln_50, al_51, as_51, ln_51, al_52, as_52, ln_52, al_53, as_53, ln_53, al_54, as_54, ln_54, al_55, as_55, ln_55, al_56, as_56, ln_56, al_57, as_57, ln_57, al_58, as_58, ln_58, al_59, as_59, ln_59, al_60, as_60, ln_60, al_61, as_61, ln_61, al_62, as_62, ln_62, al_63, as_63, ln_63, al_64, as_64, ln_64, al_65, as_65, ln_65, al_66, as_66, ln_66, al_67, as_67, ln_67, gC_39_4, gC_39_5, gC_39_6, gC_39_7, gC_39_8, gC_39_10, gC_39_11, gC_39_12, gC_39_13, gC_39_15, gC_39_16, gC_39_18, gC_39_19, gC_39_27, gC_39_28, gC_39_29, gC_39_30, gC_39_31, gC_39_36, gC_39_37, gC_39_41, gC_39_42, gC_39_43, gC_39_44, gC_39_46, gC_39_47, gC_39_48, gC_39_49, bI_rI, bV_rV, bQ_rN, bQ_rR, bz_0, bz_1, bz_Z, hZ0, hZ1, Lay_setI, Lay_setA, h.lay, idx, hv2, e2]
      have em : wmax (fun w_1 => W (LK (EL (pm w) s L) L.length S w_1 p) p) S (v + 1) = mx2 a (W (LK (EL (pm w) s L) L.length S v p) p) := by rw [wmax_s, c, if_pos rfl, ← ea]
      by_cases c2 : W (LK (EL (pm w) s L) L.length S v p) p ≤ a
      · rw [if_pos c2]
        exact ih w a ⟨rfl, by rw [em]; unfold mx2; rw [if_neg (by omega)]⟩
      · rw [if_neg c2]
        exact ih w _ ⟨rfl, by rw [em]; unfold mx2; rw [if_pos (by omega)]⟩
theorem byStreet_v {p' S c i : Nat} {L : List Nat} {W : Nat → NN} (h : Inv n m s g x p' u) (hf : FdM L u) (hl : L.length ≤ 7) (hS : S < 2 ^ L.length) (hc : c < 6) (hi : i < s) (hr : RW 65 u W (2 ^ L.length)) (hW : ∀ S p, W S p ≤ 1000000) : fm_byStreet u (nI i) (nI S) (nI c) = rI (nI (byv (pm u) (EL (pm u) s L) L.length W S c i)) u := by
  have hrg := h.rng
  have i12 : i < 12 := by omega
  obtain ⟨⟨k1, k2, k3, k4, k5⟩, q1, q2, q3⟩ := st_v h hi
  have ho := ote_lt (SV.of h) hi c
  have hm : Mx (EL (pm u) s L) L.length W S (ote (pm u) i c) ≤ 1000000 := wmax_le _ (fun w _ _ => hW _ _)
  have e1 : (nI (sk (pm u) i + Mx (EL (pm u) s L) L.length W S (ote (pm u) i c)) ≤ 1000000) = (sk (pm u) i + Mx (EL (pm u) s L) L.length W S (ote (pm u) i c) ≤ 1000000) := propext (nI_leI (b := 1000000) (by omega) (by decide))
  simp only [fm_byStreet, gI_39, pI_39, rc_39, al_40, as_40, ln_40, al_41, as_41, ln_41, al_42, as_42, ln_42, al_43, as_43, ln_43, al_44, as_44, ln_44, al_45, as_45, ln_45, al_46, as_46, ln_46, al_47, as_47, ln_47, al_48, as_48, ln_48, al_49, as_49, ln_49, al_50, as_50, ln_50, al_51, as_51, ln_51, al_52, as_52, ln_52, al_53, as_53, ln_53, al_54, as_54, ln_54, al_55, as_55, ln_55, al_56, as_56, ln_56, al_57, as_57, ln_57, al_58, as_58, ln_58, al_59, as_59, ln_59, al_60, as_60, ln_60, al_61, as_61, ln_61, al_62, as_62, ln_62, al_63, as_63, ln_63, al_64, as_64, ln_64, al_65, as_65, ln_65, al_66, as_66, ln_66, al_67, as_67, ln_67, gC_39_4, gC_39_5, gC_39_6, gC_39_7, gC_39_8, gC_39_10, gC_39_11, gC_39_12, gC_39_13, gC_39_15, gC_39_16, gC_39_18, gC_39_19, gC_39_27, gC_39_28, gC_39_29, gC_39_30, gC_39_31, gC_39_36, gC_39_37, gC_39_41, gC_39_42, gC_39_43, gC_39_44, gC_39_46, gC_39_47, gC_39_48, gC_39_49, bI_rI, bV_rV, bQ_rN, bQ_rR, bz_0, bz_1, bz_Z, hZ0, hZ1, Lay_setI, Lay_setA, h.lay, i12, rp_3, rp_8, rp_11, rp_14, rp_32, rp_34, rp_36, rp_38, rp_40, rp_41, rp_42, rp_43, rp_44, rp_45, rp_46, rp_47, rp_48, rp_49, rp_50, rp_51, rp_52, rp_53, rp_54, rp_55, rp_56, rp_57, rp_58, q3, beyond_t h hi hc, longest_v h hf hl hS ho hr hW, nI_add, e1]
  unfold byv
  by_cases c1 : sk (pm u) i + Mx (EL (pm u) s L) L.length W S (ote (pm u) i c) ≤ 1000000
  · rw [if_pos c1, if_neg (by omega)]
  · rw [if_neg c1, if_pos (by omega)]; rfl
end
