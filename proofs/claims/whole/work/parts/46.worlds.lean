section
/-! counting, listing -/
def cnt (p : Nat → Bool) (N : Nat) : Nat := fo (fun j a => if p j = true then a + 1 else a) 0 N
theorem cnt_s (p : Nat → Bool) (N : Nat) : cnt p (N + 1) = if p N = true then cnt p N + 1 else cnt p N := rfl
theorem cnt_le (p : Nat → Bool) : ∀ N, cnt p N ≤ N := by
  intro N
  induction N with
  | zero => exact Nat.le_refl 0
  | succ N ih => rw [cnt_s]; split <;> omega
theorem cnt_cg {p q : Nat → Bool} : ∀ N, (∀ j, j < N → p j = q j) → cnt p N = cnt q N := by
  intro N
  induction N with
  | zero => intro _; rfl
  | succ N ih => intro h; rw [cnt_s, cnt_s, ih (fun j hj => h j (by omega)), h N (by omega)]
theorem cnt_mono {p q : Nat → Bool} : ∀ N, (∀ j, j < N → p j = true → q j = true) → cnt p N ≤ cnt q N := by
  intro N
  induction N with
  | zero => intro _; exact Nat.le_refl 0
  | succ N ih =>
    intro h
    have h1 := ih (fun j hj => h j (by omega))
    have h2 := h N (by omega)
    rw [cnt_s, cnt_s]
    cases hp : p N
    · simp only [Bool.false_eq_true, if_false]; split <;> omega
    · rw [h2 hp]; simp only [if_true]; omega
def wls (p : Nat → Bool) (N : Nat) : List Nat := (List.range N).filter p
theorem wls_s (p : Nat → Bool) (N : Nat) : wls p (N + 1) = if p N = true then wls p N ++ [N] else wls p N := by
  unfold wls
  rw [List.range_succ, List.filter_append]
  cases hp : p N <;> simp [hp]
theorem wls_len (p : Nat → Bool) : ∀ N, (wls p N).length = cnt p N := by
  intro N
  induction N with
  | zero => rfl
  | succ N ih => rw [wls_s, cnt_s]; split <;> simp [ih]
theorem wls_mem {p : Nat → Bool} {N w : Nat} : w ∈ wls p N ↔ w < N ∧ p w = true := by
  unfold wls; simp
theorem wls_cg {p q : Nat → Bool} (N : Nat) (h : ∀ j, j < N → p j = q j) : wls p N = wls q N := by
  unfold wls
  exact List.filter_congr (fun j hj => h j (List.mem_range.mp hj))
theorem wls_get {p : Nat → Bool} {N k : Nat} (h : k < (wls p N).length) : (wls p N).getD k 0 < N ∧ p ((wls p N).getD k 0) = true := by
  have : (wls p N).getD k 0 ∈ wls p N := by
    rw [List.getD_eq_getElem?_getD, List.getElem?_eq_getElem h]
    exact List.getElem_mem h
  exact wls_mem.mp this
/-- a row holds a list -/
def RwL (f : Nat → Int32) (L : List Nat) : Prop := ∀ k, k < L.length → f k = nI (L.getD k 0)
theorem RwL.snoc {f f' : Nat → Int32} {L : List Nat} {w : Nat} (h : RwL f L) (h1 : ∀ k, k < L.length → f' k = f k) (h2 : f' L.length = nI w) : RwL f' (L ++ [w]) := by
  intro k hk
  rw [List.length_append, List.length_singleton] at hk
  by_cases e : k = L.length
  · subst e; rw [h2, List.getD_eq_getElem?_getD, List.getElem?_append_right (Nat.le_refl _)]; simp
  · have hl : k < L.length := by omega
    rw [h1 k hl, h k hl, List.getD_eq_getElem?_getD, List.getD_eq_getElem?_getD, List.getElem?_append_left hl]
theorem orf_nI (p : Nat → Bool) : ∀ n, ∃ r, r < 2 ^ n ∧ (n ≤ 30 → orf p n = nI r) := by
  intro n
  induction n with
  | zero => exact ⟨0, by decide, fun _ => rfl⟩
  | succ n ih =>
    obtain ⟨r, hr, he⟩ := ih
    cases hp : p n
    · refine ⟨r, by rw [Nat.pow_succ]; omega, fun hn => ?_⟩
      show (if p n = true then _ else orf p n) = _
      rw [hp]; exact he (by omega)
    · refine ⟨r ||| 2 ^ n, ?_, fun hn => ?_⟩
      · exact Nat.or_lt_two_pow (by rw [Nat.pow_succ]; omega) (by rw [Nat.pow_succ]; have := Nat.two_pow_pos n; omega)
      · show (if p n = true then orf p n ||| ((1 : Int32) <<< (nI n &&& 31)) else orf p n) = _
        rw [if_pos hp, he (by omega), b_pow n (by omega), nI_or]
variable {n m s g x p : Nat} {t0 t u : SM}
theorem agB_nI (G : GG) (m : Nat) (w : Int32) (h : m ≤ 8) : ∃ r, r < 2 ^ m ∧ agB G m w = nI r := by
  obtain ⟨r, hr, he⟩ := orf_nI (fun i => agr G i w) m
  exact ⟨r, hr, he (by omega)⟩
def agv (G : GG) (m : Nat) (w : Int32) : Int32 := if act G w = true then agB G m w else -1
/-- a world by some maps -/
def wp (G : GG) (m : Nat) (set w : Int32) : Bool := act G w && decide ((agB G m w &&& set) = set)
theorem agv_neg (G : GG) (m : Nat) (w : Int32) (h : m ≤ 8) : (agv G m w < 0) = (act G w = false) := by
  unfold agv
  cases c : act G w
  · simp
  · simp only [if_true]
    obtain ⟨r, hr, he⟩ := agB_nI G m w h
    have := Nat.pow_le_pow_right (n := 2) (by decide) h
    rw [he]
    have e := nI_pos (n := r) (by omega)
    simp [e]
theorem agv_t {G : GG} {m : Nat} {w : Int32} (h : act G w = true) : agv G m w = agB G m w := if_pos h
/-- the model's row of agreeing maps -/
def Agd (G : GG) (n m : Nat) (u : SM) : Prop := ∀ j, j < 2 ^ n → mI u 62 j = agv G m (nI j)
theorem agrees_in (h : Inv n m s g x p t0) : VS [60, 61, 62] t0 (fm_agree t0) (Agd (pm t0) n m) := by
  have hr := h.rng
  have hpw := pw_lt (n := n) (by omega)
  unfold fm_agree
  refine for_up (β := Unit) (fun f t i _ => fm_agree_l2 f t (nI i)) (fun r => VS [60, 61, 62] t0 r (Agd (pm t0) n m)) (2 ^ n)
    (fun i u _ => FS [60, 61, 62] t0 u ∧ ∀ j, j < i → mI u 62 j = agv (pm t0) m (nI j)) ?_ ?_ (2 ^ n) 0 t0 () 1000000 (by omega) ⟨FS.refl _ _, fun k hk => absurd hk (by omega)⟩ (by omega)
  · intro f u _ ⟨fu, hu⟩
    have hi := h.fr fu.1
    have e1 : nI (2 ^ n) ≤ nI (2 ^ n) := Int32.le_refl _
    show VS _ t0 (fm_agree_2 _ u (nI (2 ^ n))) _
    simp only [fm_agree_2, gI_39, pI_39, rc_39, al_40, as_40, ln_40, al_41, as_41, ln_41, al_42, as_42, ln_42, al_43, as_43, ln_43, al_44, as_44, ln_44, al_45, as_45, ln_45, al_46, as_46, ln_46, al_47, as_47, ln_47, al_48, as_48, ln_48, al_49, as_49, ln_49, al_50, as_50, ln_50, al_51, as_51, ln_51, al_52, as_52, ln_52, al_53, as_53, ln_53, al_54, as_54, ln_54, al_55, as_55, ln_55, al_56, as_56, ln_56, al_57, as_57, ln_57, al_58, as_58, ln_58, al_59, as_59, ln_59, al_60, as_60, ln_60, al_61, as_61, ln_61, al_62, as_62, ln_62, al_63, as_63, ln_63, al_64, as_64, ln_64, al_65, as_65, ln_65, al_66, as_66, ln_66, al_67, as_67, ln_67, gC_39_4, gC_39_5, gC_39_6, gC_39_7, gC_39_8, gC_39_10, gC_39_11, gC_39_12, gC_39_13, gC_39_15, gC_39_16, gC_39_18, gC_39_19, gC_39_27, gC_39_28, gC_39_29, gC_39_30, gC_39_31, gC_39_36, gC_39_37, gC_39_41, gC_39_42, gC_39_43, gC_39_44, gC_39_46, gC_39_47, gC_39_48, gC_39_49, bI_rI, bV_rV, bQ_rN, bQ_rR, bz_0, bz_1, bz_Z, hZ0, hZ1, Lay_setI, Lay_setA, hi.lay, hi.ch, b_pow n (by omega), e1, if_true]
    exact ⟨u, rfl, fu, hu⟩
  · intro f u i _ hi2 ⟨fu, hu⟩ ih
    have hi := h.fr fu.1
    have i512 : i < 512 := by omega
    have e1 : ¬ nI (2 ^ n) ≤ nI i := nI_ge hi2 (by omega)
    show VS _ t0 (fm_agree_2 (fm_agree_l2 f) u (nI i)) _
    simp only [fm_agree_2, gI_39, pI_39, rc_39, al_40, as_40, ln_40, al_41, as_41, ln_41, al_42, as_42, ln_42, al_43, as_43, ln_43, al_44, as_44, ln_44, al_45, as_45, ln_45, al_46, as_46, ln_46, al_47, as_47, ln_47, al_48, as_48, ln_48, al_49, as_49, ln_49, al_50, as_50, ln_50, al_51, as_51, ln_51, al_52, as_52, ln_52, al_53, as_53, ln_53, al_54, as_54, ln_54, al_55, as_55, ln_55, al_56, as_56, ln_56, al_57, as_57, ln_57, al_58, as_58, ln_58, al_59, as_59, ln_59, al_60, as_60, ln_60, al_61, as_61, ln_61, al_62, as_62, ln_62, al_63, as_63, ln_63, al_64, as_64, ln_64, al_65, as_65, ln_65, al_66, as_66, ln_66, al_67, as_67, ln_67, gC_39_4, gC_39_5, gC_39_6, gC_39_7, gC_39_8, gC_39_10, gC_39_11, gC_39_12, gC_39_13, gC_39_15, gC_39_16, gC_39_18, gC_39_19, gC_39_27, gC_39_28, gC_39_29, gC_39_30, gC_39_31, gC_39_36, gC_39_37, gC_39_41, gC_39_42, gC_39_43, gC_39_44, gC_39_46, gC_39_47, gC_39_48, gC_39_49, bI_rI, bV_rV, bQ_rN, bQ_rR, bz_0, bz_1, bz_Z, hZ0, hZ1, Lay_setI, Lay_setA, hi.lay, hi.ch, b_pow n (by omega), e1, if_false, i512]
    have f1 : FS [60, 61, 62] t0 (setI u 62 i (-1)) := fu.st rfl (by decide)
    have r1 : ∀ j, j < i → mI (setI u 62 i (-1)) 62 j = agv (pm t0) m (nI j) := fun j hj => by rw [setI_I, if_neg (by omega)]; exact hu j hj
    have r2 : mI (setI u 62 i (-1)) 62 i = -1 := setI_eq rfl rfl
    generalize setI u 62 i (-1) = u1 at f1 r1 r2
    have h1 := h.fr f1.1
    rw [h1.sn, h1.so, f1.1.2]
    have no : act (pm t0) (nI i) = false → VS [60, 61, 62] t0 (fm_agree_88 (fm_agree_l2 f) u1 (nI i)) (Agd (pm t0) n m) := by
      intro c
      unfold fm_agree_88
      rw [nI_1]
      refine ih u1 () ⟨f1, fun j hj => ?_⟩
      by_cases e : j = i
      · subst e; rw [r2]; unfold agv; rw [c]; rfl
      · exact r1 j (by omega)
    by_cases c1 : (nI i &&& pm t0 39 1) = pm t0 39 2
    · rw [if_pos c1]
      obtain ⟨u2, e2, f2⟩ := fm_mayBe_v h1 (FS.refl _ _) hi2
      rw [e2, bI_rI, f1.1.2]
      simp only [bz_0]
      have fr2 : FS [60, 61, 62] t0 u2 := f1.tu f2 (by decide)
      have g1 : ∀ j, mI u2 62 j = mI u1 62 j := f2.row 62 rfl (by decide)
      have h2 := h.fr fr2.1
      cases c2 : may (pm t0) (nI i)
      · simp only [if_true]
        unfold fm_agree_88
        rw [nI_1]
        refine ih u2 () ⟨fr2, fun j hj => ?_⟩
        rw [g1]
        by_cases e : j = i
        · subst e; rw [r2]; unfold agv act; rw [c2, Bool.and_false]; rfl
        · exact r1 j (by omega)
      · have ca : act (pm t0) (nI i) = true := by unfold act; rw [c2, decide_eq_true c1]; rfl
        simp only [if_false, gI_39, pI_39, rc_39, al_40, as_40, ln_40, al_41, as_41, ln_41, al_42, as_42, ln_42, al_43, as_43, ln_43, al_44, as_44, ln_44, al_45, as_45, ln_45, al_46, as_46, ln_46, al_47, as_47, ln_47, al_48, as_48, ln_48, al_49, as_49, ln_49, al_50, as_50, ln_50, al_51, as_51, ln_51, al_52, as_52, ln_52, al_53, as_53, ln_53, al_54, as_54, ln_54, al_55, as_55, ln_55, al_56, as_56, ln_56, al_57, as_57, ln_57, al_58, as_58, ln_58, al_59, as_59, ln_59, al_60, as_60, ln_60, al_61, as_61, ln_61, al_62, as_62, ln_62, al_63, as_63, ln_63, al_64, as_64, ln_64, al_65, as_65, ln_65, al_66, as_66, ln_66, al_67, as_67, ln_67, gC_39_4, gC_39_5, gC_39_6, gC_39_7, gC_39_8, gC_39_10, gC_39_11, gC_39_12, gC_39_13, gC_39_15, gC_39_16, gC_39_18, gC_39_19, gC_39_27, gC_39_28, gC_39_29, gC_39_30, gC_39_31, gC_39_36, gC_39_37, gC_39_41, gC_39_42, gC_39_43, gC_39_44, gC_39_46, gC_39_47, gC_39_48, gC_39_49, bI_rI, bV_rV, bQ_rN, bQ_rR, bz_0, bz_1, bz_Z, hZ0, hZ1, Lay_setI, Lay_setA, h2.lay, i512, Bool.true_eq_false]
        have f3 : FS [60, 61, 62] t0 (setI u2 62 i 0) := fr2.st rfl (by decide)
        have r3 : ∀ j, j < i → mI (setI u2 62 i 0) 62 j = agv (pm t0) m (nI j) := fun j hj => by rw [setI_I, if_neg (by omega), g1]; exact r1 j hj
        have r4 : mI (setI u2 62 i 0) 62 i = orf (fun k => agr (pm t0) k (nI i)) 0 := setI_eq rfl rfl
        generalize setI u2 62 i 0 = u3 at f3 r3 r4
        refine for_up (β := Unit) (fun f' t k _ => fm_agree_l49 (fun t u1 => fm_agree_88 (fm_agree_l2 f) t u1) f' t (nI i) (nI k)) (fun r => VS [60, 61, 62] t0 r (Agd (pm t0) n m)) m
          (fun k u _ => FS [60, 61, 62] t0 u ∧ (∀ j, j < i → mI u 62 j = agv (pm t0) m (nI j)) ∧ mI u 62 i = orf (fun k => agr (pm t0) k (nI i)) k) ?_ ?_ m 0 u3 () 1000000 (by omega) ⟨f3, r3, r4⟩ (by omega)
        · intro f' v _ ⟨fv, v1, v2⟩
          have hv := h.fr fv.1
          have e9 : nI m ≤ nI m := Int32.le_refl _
          show VS _ t0 (fm_agree_49 _ _ v (nI i) (nI m)) _
          simp only [fm_agree_49, gI_39, pI_39, rc_39, al_40, as_40, ln_40, al_41, as_41, ln_41, al_42, as_42, ln_42, al_43, as_43, ln_43, al_44, as_44, ln_44, al_45, as_45, ln_45, al_46, as_46, ln_46, al_47, as_47, ln_47, al_48, as_48, ln_48, al_49, as_49, ln_49, al_50, as_50, ln_50, al_51, as_51, ln_51, al_52, as_52, ln_52, al_53, as_53, ln_53, al_54, as_54, ln_54, al_55, as_55, ln_55, al_56, as_56, ln_56, al_57, as_57, ln_57, al_58, as_58, ln_58, al_59, as_59, ln_59, al_60, as_60, ln_60, al_61, as_61, ln_61, al_62, as_62, ln_62, al_63, as_63, ln_63, al_64, as_64, ln_64, al_65, as_65, ln_65, al_66, as_66, ln_66, al_67, as_67, ln_67, gC_39_4, gC_39_5, gC_39_6, gC_39_7, gC_39_8, gC_39_10, gC_39_11, gC_39_12, gC_39_13, gC_39_15, gC_39_16, gC_39_18, gC_39_19, gC_39_27, gC_39_28, gC_39_29, gC_39_30, gC_39_31, gC_39_36, gC_39_37, gC_39_41, gC_39_42, gC_39_43, gC_39_44, gC_39_46, gC_39_47, gC_39_48, gC_39_49, bI_rI, bV_rV, bQ_rN, bQ_rR, bz_0, bz_1, bz_Z, hZ0, hZ1, Lay_setI, Lay_setA, hv.lay, hv.mp, e9, if_true, fm_agree_88, nI_1]
          refine ih v () ⟨fv, fun j hj => ?_⟩
          by_cases e : j = i
          · subst e; rw [v2, agv_t ca]; rfl
          · exact v1 j (by omega)
        · intro f' v k _ hk ⟨fv, v1, v2⟩ ih2
          have hv := h.fr fv.1
          have e9 : ¬ nI m ≤ nI k := nI_ge hk (by omega)
          show VS _ t0 (fm_agree_49 _ _ v (nI i) (nI k)) _
          simp only [fm_agree_49, gI_39, pI_39, rc_39, al_40, as_40, ln_40, al_41, as_41, ln_41, al_42, as_42, ln_42, al_43, as_43, ln_43, al_44, as_44, ln_44, al_45, as_45, ln_45, al_46, as_46, ln_46, al_47, as_47, ln_47, al_48, as_48, ln_48, al_49, as_49, ln_49, al_50, as_50, ln_50, al_51, as_51, ln_51, al_52, as_52, ln_52, al_53, as_53, ln_53, al_54, as_54, ln_54, al_55, as_55, ln_55, al_56, as_56, ln_56, al_57, as_57, ln_57, al_58, as_58, ln_58, al_59, as_59, ln_59, al_60, as_60, ln_60, al_61, as_61, ln_61, al_62, as_62, ln_62, al_63, as_63, ln_63, al_64, as_64, ln_64, al_65, as_65, ln_65, al_66, as_66, ln_66, al_67, as_67, ln_67, gC_39_4, gC_39_5, gC_39_6, gC_39_7, gC_39_8, gC_39_10, gC_39_11, gC_39_12, gC_39_13, gC_39_15, gC_39_16, gC_39_18, gC_39_19, gC_39_27, gC_39_28, gC_39_29, gC_39_30, gC_39_31, gC_39_36, gC_39_37, gC_39_41, gC_39_42, gC_39_43, gC_39_44, gC_39_46, gC_39_47, gC_39_48, gC_39_49, bI_rI, bV_rV, bQ_rN, bQ_rR, bz_0, bz_1, bz_Z, hZ0, hZ1, Lay_setI, Lay_setA, hv.lay, hv.mp, e9, if_false, fm_agrees_v hv (nI i) hk, i512, v2, fv.1.2, nI_1]
          cases ck : agr (pm t0) k (nI i)
          · simp only [if_true]
            refine ih2 _ () ⟨fv.st rfl (by decide), fun j hj => by rw [setI_I, if_neg (by omega)]; exact v1 j hj, ?_⟩
            rw [setI_eq rfl rfl]
            show _ = (if agr (pm t0) k (nI i) = true then _ else orf (fun k => agr (pm t0) k (nI i)) k)
            rw [ck]
            simp
          · simp only [if_false, Bool.true_eq_false]
            refine ih2 _ () ⟨fv.st rfl (by decide), fun j hj => by rw [setI_I, if_neg (by omega)]; exact v1 j hj, ?_⟩
            rw [setI_eq rfl rfl]
            show _ = (if agr (pm t0) k (nI i) = true then orf (fun k => agr (pm t0) k (nI i)) k ||| ((1 : Int32) <<< (nI k &&& 31)) else _)
            rw [ck]
            simp
    · rw [if_neg c1]
      exact no (by unfold act; rw [decide_eq_false c1]; rfl)
theorem fm_countBy_v (h : Inv n m s g x p t) (ha : Agd (pm t) n m t) (set : Int32) : fm_countBy t set = rI (nI (cnt (fun j => wp (pm t) m set (nI j)) (2 ^ n))) t := by
  have hr := h.rng
  have hpw := pw_lt (n := n) (by omega)
  unfold fm_countBy
  refine for_up (β := Nat) (fun f t i a => fm_countBy_l4 f t set (nI a) (nI i)) (fun r => r = rI (nI (cnt (fun j => wp (pm t) m set (nI j)) (2 ^ n))) t) (2 ^ n)
    (fun i u a => u = t ∧ a = cnt (fun j => wp (pm t) m set (nI j)) i) ?_ ?_ (2 ^ n) 0 t 0 1000000 (by omega) ⟨rfl, rfl⟩ (by omega)
  · intro f u a ⟨e, ea⟩
    subst e; subst ea
    have e1 : nI (2 ^ n) ≤ nI (2 ^ n) := Int32.le_refl _
    show fm_countBy_4 _ u set _ (nI (2 ^ n)) = _
    simp only [fm_countBy_4, gI_39, pI_39, rc_39, al_40, as_40, ln_40, al_41, as_41, ln_41, al_42, as_42, ln_42, al_43, as_43, ln_43, al_44, as_44, ln_44, al_45, as_45, ln_45, al_46, as_46, ln_46, al_47, as_47, ln_47, al_48, as_48, ln_48, al_49, as_49, ln_49, al_50, as_50, ln_50, al_51, as_51, ln_51, al_52, as_52, ln_52, al_53, as_53, ln_53, al_54, as_54, ln_54, al_55, as_55, ln_55, al_56, as_56, ln_56, al_57, as_57, ln_57, al_58, as_58, ln_58, al_59, as_59, ln_59, al_60, as_60, ln_60, al_61, as_61, ln_61, al_62, as_62, ln_62, al_63, as_63, ln_63, al_64, as_64, ln_64, al_65, as_65, ln_65, al_66, as_66, ln_66, al_67, as_67, ln_67, gC_39_4, gC_39_5, gC_39_6, gC_39_7, gC_39_8, gC_39_10, gC_39_11, gC_39_12, gC_39_13, gC_39_15, gC_39_16, gC_39_18, gC_39_19, gC_39_27, gC_39_28, gC_39_29, gC_39_30, gC_39_31, gC_39_36, gC_39_37, gC_39_41, gC_39_42, gC_39_43, gC_39_44, gC_39_46, gC_39_47, gC_39_48, gC_39_49, bI_rI, bV_rV, bQ_rN, bQ_rR, bz_0, bz_1, bz_Z, hZ0, hZ1, Lay_setI, Lay_setA, h.lay, h.ch, b_pow n (by omega), e1, if_true]
  · intro f u i a hi ⟨e, ea⟩ ih
    subst e
    have i512 : i < 512 := by omega
    have e1 : ¬ nI (2 ^ n) ≤ nI i := nI_ge hi (by omega)
    show fm_countBy_4 _ u set _ (nI i) = _
    simp only [fm_countBy_4, gI_39, pI_39, rc_39, al_40, as_40, ln_40, al_41, as_41, ln_41, al_42, as_42, ln_42, al_43, as_43, ln_43, al_44, as_44, ln_44, al_45, as_45, ln_45, al_46, as_46, ln_46, al_47, as_47, ln_47, al_48, as_48, ln_48, al_49, as_49, ln_49, al_50, as_50, ln_50, al_51, as_51, ln_51, al_52, as_52, ln_52, al_53, as_53, ln_53, al_54, as_54, ln_54, al_55, as_55, ln_55, al_56, as_56, ln_56, al_57, as_57, ln_57, al_58, as_58, ln_58, al_59, as_59, ln_59, al_60, as_60, ln_60, al_61, as_61, ln_61, al_62, as_62, ln_62, al_63, as_63, ln_63, al_64, as_64, ln_64, al_65, as_65, ln_65, al_66, as_66, ln_66, al_67, as_67, ln_67, gC_39_4, gC_39_5, gC_39_6, gC_39_7, gC_39_8, gC_39_10, gC_39_11, gC_39_12, gC_39_13, gC_39_15, gC_39_16, gC_39_18, gC_39_19, gC_39_27, gC_39_28, gC_39_29, gC_39_30, gC_39_31, gC_39_36, gC_39_37, gC_39_41, gC_39_42, gC_39_43, gC_39_44, gC_39_46, gC_39_47, gC_39_48, gC_39_49, bI_rI, bV_rV, bQ_rN, bQ_rR, bz_0, bz_1, bz_Z, hZ0, hZ1, Lay_setI, Lay_setA, h.lay, h.ch, b_pow n (by omega), e1, if_false, i512, ha i hi, agv_neg (pm u) m (nI i) (by omega), nI_1, Int32.add_zero]
    cases c : act (pm u) (nI i)
    · simp only [if_true]
      refine ih u a ⟨rfl, ?_⟩
      rw [cnt_s, ← ea]; simp [wp, c]
    · simp only [if_false, Bool.true_eq_false, agv_t c]
      by_cases c2 : (agB (pm u) m (nI i) &&& set) = set
      · rw [if_pos c2]
        refine ih u (a + 1) ⟨rfl, ?_⟩
        rw [cnt_s, ← ea]; simp [wp, c, c2]
      · rw [if_neg c2]
        refine ih u a ⟨rfl, ?_⟩
        rw [cnt_s, ← ea]; simp [wp, c, c2]
end
