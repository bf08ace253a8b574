section
/-! the model's reading in memory -/
def PM (x k j : Nat) : Bool := (k == 39 && (j == 32 || (j == 33 || (j == 34 || (j == 35 || (j == 38 || (j == 39 || j == 40))))))) || (k == 59 || (k == 51 && decide (200 * x ≤ j)))
def PW (x k j : Nat) : Bool := (k == 39 && (j == 38 || (j == 39 || j == 40))) || (k == 59 || (k == 51 && decide (200 * x ≤ j)))
theorem PL_M (x k j : Nat) (h : PL k j = true) : PM x k j = true := by
  simp only [PL, PM, Bool.and_eq_true, Bool.or_eq_true, beq_iff_eq, decide_eq_true_eq] at h ⊢; omega
theorem PW_M (x k j : Nat) (h : PW x k j = true) : PM x k j = true := by
  simp only [PW, PM, Bool.and_eq_true, Bool.or_eq_true, beq_iff_eq, decide_eq_true_eq] at h ⊢; omega
theorem PW_51 {x k : Nat} : PW x 51 (200 * x + k) = true := by
  unfold PW; rw [decide_eq_true (show 200 * x ≤ 200 * x + k from Nat.le_add_right _ _)]; rfl
variable {x p : Nat} {B : Nat → Nat} {t u w : SM}
theorem MB.cM (h : MB B p t) (f : FF (PM x) t u) : MB B p u := ⟨f.lay h.1, by rw [f.2 39 17 rfl]; exact h.2.1, fun j hj => by rw [f.2 50 j rfl]; exact h.2.2.1 j hj, fun j hj => by rw [f.2 58 j rfl]; exact h.2.2.2.1 j hj, h.2.2.2.2⟩
def MS (x : Nat) (u : SM) (H O : List Nat) : Prop := Lay u ∧ mI u 39 20 = nI x ∧ mI u 39 38 = nI H.length ∧ Stk (mI u 59) (H.map nI) ∧ mI u 39 39 = nI (zp H) ∧ mI u 39 40 = nI O.length ∧ (∀ k, k < O.length → mI u 51 (200 * x + k) = nI (O.getD k 0)) ∧ ∀ c ∈ H, c ≤ 19
theorem MS.cL {H O : List Nat} (h : MS x u H O) (f : FF PL u w) : MS x w H O := by
  obtain ⟨h1, h2, h3, h4, h5, h6, h7, h8⟩ := h
  have e59 : mI w 59 = mI u 59 := funext fun j => f.2 59 j rfl
  exact ⟨f.lay h1, by rw [f.2 39 20 rfl]; exact h2, by rw [f.2 39 38 rfl]; exact h3, by rw [e59]; exact h4, by rw [f.2 39 39 rfl]; exact h5, by rw [f.2 39 40 rfl]; exact h6, fun k hk => by rw [f.2 51 _ rfl]; exact h7 k hk, h8⟩
theorem zp_le : ∀ H : List Nat, zp H ≤ H.length
  | [] => Nat.le_refl _
  | c :: r => by
    have := zp_le r
    show (if _ then _ else _) + zp r ≤ r.length + 1
    split <;> omega
theorem rank_v {c : Nat} (hc : c ≤ 19) (t : SM) : fm_rank t (nI c) = rI (nI (zr c)) t := by
  have e : ∀ k : Nat, k < 100 → (nI c = nI k) = (c = k) := fun k hk => propext (nI_eq (by omega) (by omega))
  have l : ∀ k : Nat, k < 100 → (nI k < nI c) = (k < c) := fun k hk => propext (nI_ltI (by omega) (by omega))
  have e0 : (nI c = 0) = (c = 0) := e 0 (by decide)
  have e1 : (nI c = 11) = (c = 11) := e 11 (by decide)
  have e2 : (nI c = 12) = (c = 12) := e 12 (by decide)
  have e3 : (nI c = 13) = (c = 13) := e 13 (by decide)
  have e4 : (nI c = 18) = (c = 18) := e 18 (by decide)
  have l5 : ((15 : Int32) < nI c) = (15 < c) := l 15 (by decide)
  have l7 : ((17 : Int32) < nI c) = (17 < c) := l 17 (by decide)
  unfold fm_rank zr
  simp only [e0, e1, e2, e3, e4, l5, l7]
  by_cases a0 : c = 0
  · rw [if_pos a0, if_pos a0]; rfl
  · rw [if_neg a0, if_neg a0]
    by_cases a1 : c = 11
    · rw [if_pos a1, if_pos a1]; rfl
    · rw [if_neg a1, if_neg a1]
      by_cases a2 : c = 12
      · rw [if_pos a2, if_pos a2]; rfl
      · rw [if_neg a2, if_neg a2]
        by_cases a3 : c = 13
        · rw [if_pos a3, if_pos a3]; rfl
        · rw [if_neg a3, if_neg a3]
          by_cases a5 : 15 < c
          · rw [if_pos a5, if_neg (show ¬ c ≤ 15 by omega)]
            by_cases a7 : 17 < c
            · rw [if_pos a7, if_neg (show ¬ c ≤ 17 by omega)]
              by_cases a8 : c = 18
              · rw [if_pos a8, if_pos a8]; rfl
              · rw [if_neg a8, if_neg a8]; rfl
            · rw [if_neg a7, if_pos (show c ≤ 17 by omega)]; rfl
          · rw [if_neg a5, if_pos (show c ≤ 15 by omega)]; rfl
theorem puts_v {H O : List Nat} (h : MS x u H O) (hx : x ≤ 5) (hO : O.length < 200) (c : Nat) : ∃ w, fm_puts u (nI c) = rV w ∧ MS x w H (O ++ [c]) ∧ FF (PW x) u w := by
  obtain ⟨h1, h2, h3, h4, h5, h6, h7, h8⟩ := h
  have e200 : (200 : Int32) * nI x + nI O.length = nI (200 * x + O.length) := by rw [show (200 : Int32) * nI x = nI (200 * x) from pk_mul 200 x, nI_add]
  have k1 : 200 * x + O.length < 1200 := by omega
  have v : mI (setI u 51 (200 * x + O.length) (nI c)) 39 40 = nI O.length := by rw [setI_I, if_neg (by omega)]; exact h6
  refine ⟨setI (setI u 51 (200 * x + O.length) (nI c)) 39 40 (nI (O.length + 1)), ?_, ?_, ((FF.refl _ u).st PW_51).st rfl⟩
  · simp only [fm_puts, gI_39, pI_39, rc_39, al_40, as_40, ln_40, al_41, as_41, ln_41, al_42, as_42, ln_42, al_43, as_43, ln_43, al_44, as_44, ln_44, al_45, as_45, ln_45, al_46, as_46, ln_46, al_47, as_47, ln_47, al_48, as_48, ln_48, al_49, as_49, ln_49, al_50, as_50, ln_50, al_51, as_51, ln_51, al_52, as_52, ln_52, al_53, as_53, ln_53, al_54, as_54, ln_54, al_55, as_55, ln_55, al_56, as_56, ln_56, al_57, as_57, ln_57, al_58, as_58, ln_58, al_59, as_59, ln_59, al_60, as_60, ln_60, al_61, as_61, ln_61, al_62, as_62, ln_62, al_63, as_63, ln_63, al_64, as_64, ln_64, al_65, as_65, ln_65, al_66, as_66, ln_66, al_67, as_67, ln_67, gC_39_4, gC_39_5, gC_39_6, gC_39_7, gC_39_8, gC_39_10, gC_39_11, gC_39_12, gC_39_13, gC_39_15, gC_39_16, gC_39_18, gC_39_19, gC_39_27, gC_39_28, gC_39_29, gC_39_30, gC_39_31, gC_39_36, gC_39_37, gC_39_41, gC_39_42, gC_39_43, gC_39_44, gC_39_46, gC_39_47, gC_39_48, gC_39_49, bI_rI, bV_rV, bQ_rN, bQ_rR, bz_0, bz_1, bz_Z, hZ0, hZ1, Lay_setI, Lay_setA, h1, h2, h6, e200, k1, v, nI_1]
  · have el : (O ++ [c]).length = O.length + 1 := by simp
    refine ⟨h1, by rw [setI_I, if_neg (by omega), setI_I, if_neg (by omega)]; exact h2, by rw [setI_I, if_neg (by omega), setI_I, if_neg (by omega)]; exact h3, ?_, by rw [setI_I, if_neg (by omega), setI_I, if_neg (by omega)]; exact h5, by rw [el]; exact setI_eq rfl rfl, fun k hk => ?_, h8⟩
    · rw [setI_ne (by decide), setI_ne (by decide)]; exact h4
    · rw [setI_I, if_neg (by omega)]
      by_cases q : k = O.length
      · rw [setI_I, if_pos ⟨rfl, by omega⟩, q, List.getD_eq_getElem?_getD, List.getElem?_append_right (Nat.le_refl _)]; simp
      · rw [setI_I, if_neg (by omega), h7 k (by omega), List.getD_eq_getElem?_getD, List.getD_eq_getElem?_getD, List.getElem?_append_left (by omega)]
theorem unwinds_v (hx : x ≤ 5) {l : Nat} (hl : 1 ≤ l ∧ l ≤ 7) : ∀ (H O : List Nat) (u : SM) (f : Nat), H.length < f → O.length + H.length ≤ 199 → MS x u H O → ∃ w, fm_unwinds_l0 f u (nI l) = rV w ∧ MS x w (zu l H) (O ++ zo l H) ∧ FF (PW x) u w := by
  intro H
  induction H with
  | nil =>
    intro O u f hf hO h
    obtain ⟨f, rfl⟩ : ∃ f', f = f' + 1 := ⟨f - 1, by omega⟩
    refine ⟨u, ?_, ?_, FF.refl _ _⟩
    · show fm_unwinds_0 _ u _ = _
      unfold fm_unwinds_0
      rw [gI_39 h.1, h.2.2.1, if_pos (show nI ([] : List Nat).length ≤ 0 from Int32.le_refl _)]
    · show MS x u [] (O ++ []); rw [List.append_nil]; exact h
  | cons c r ih =>
    intro O u f hf hO h
    obtain ⟨f, rfl⟩ : ∃ f', f = f' + 1 := ⟨f - 1, by omega⟩
    have hlen : (c :: r).length = r.length + 1 := rfl
    obtain ⟨h1, h2, h3, h4, h5, h6, h7, h8⟩ := h
    have hc : c ≤ 19 := h8 c (List.mem_cons_self ..)
    have n0 : ¬ nI (c :: r).length ≤ 0 := nI_ge (a := 0) (by omega) (by omega)
    have er : nI (c :: r).length - 1 = nI r.length := nI_pred _
    have r200 : r.length < 200 := by omega
    have e59 : mI u 59 r.length = nI c := by have := h4.1; rw [List.length_map] at this; exact this
    have lz : (nI (zr c) < nI l) = (zr c < l) := by
      have : zr c ≤ 7 := by unfold zr; split; omega; split; omega; split; omega; split; omega; split; omega; split; omega; split <;> omega
      exact propext (nI_ltI (by omega) (by omega))
    show ∃ w, fm_unwinds_0 _ u (nI l) = _ ∧ _
    unfold fm_unwinds_0
    rw [gI_39 h1, h3, if_neg n0, gC_39_37 h1, gI_39 h1, h3, er, al_59 h1 r200, e59, rank_v hc, bI_rI]
    simp only [lz]
    by_cases cz : zr c < l
    · rw [if_pos cz]
      refine ⟨u, rfl, ?_, FF.refl _ _⟩
      have z := zu_top (l := l) (H := c :: r) cz
      rw [z.1, z.2, List.append_nil]
      exact ⟨h1, h2, h3, h4, h5, h6, h7, h8⟩
    · rw [if_neg cz, gI_39 h1, h3, er, pI_39 h1]
      have z := zu_c (l := l) (c := c) (r := r) (by omega)
      have l2 : Lay (setI u 39 38 (nI r.length)) := h1
      have v38 : mI (setI u 39 38 (nI r.length)) 39 38 = nI r.length := setI_eq rfl rfl
      have v59 : mI (setI u 39 38 (nI r.length)) 59 r.length = nI c := by rw [setI_ne (by decide)]; exact e59
      have v39 : mI (setI u 39 38 (nI r.length)) 39 39 = nI (zp (c :: r)) := by rw [setI_I, if_neg (by decide)]; exact h5
      rw [gC_39_37 l2, gI_39 l2, v38, al_59 l2 r200, v59, gI_39 l2, v39]
      have e13 : (nI c = 13) = (c = 13) := propext (nI_eq (b := 13) (by omega) (by decide))
      have e19 : (nI c = 19) = (c = 19) := propext (nI_eq (b := 19) (by omega) (by decide))
      simp only [e13, e19, pI_39 l2]
      have fin : ∀ (y : Int32), y = nI (zp r) → ∃ w, (hRecv (setI (setI u 39 38 (nI r.length)) 39 39 y) 11 39 <| bV (fm_puts (setI (setI u 39 38 (nI r.length)) 39 39 y) (nI c)) fun t12 => fm_unwinds_l0 f t12 (nI l)) = rV w ∧ MS x w (zu l (c :: r)) (O ++ zo l (c :: r)) ∧ FF (PW x) u w := by
        intro y hy
        subst hy
        have m2 : MS x (setI (setI u 39 38 (nI r.length)) 39 39 (nI (zp r))) r O := by
          refine ⟨h1, by rw [setI_I, if_neg (by omega), setI_I, if_neg (by omega)]; exact h2, by rw [setI_I, if_neg (by omega)]; exact setI_eq rfl rfl, ?_, setI_eq rfl rfl, by rw [setI_I, if_neg (by omega), setI_I, if_neg (by omega)]; exact h6, fun k hk => by rw [setI_I, if_neg (by omega), setI_I, if_neg (by omega)]; exact h7 k hk, fun q hq => h8 q (List.mem_cons_of_mem _ hq)⟩
          rw [setI_ne (by decide), setI_ne (by decide)]; exact h4.2
        obtain ⟨w1, r1, m1, f1⟩ := puts_v m2 hx (by omega) c
        obtain ⟨w2, r2, m3, f3⟩ := ih (O ++ [c]) w1 f (by omega) (by rw [List.length_append]; show O.length + 1 + r.length ≤ 199; omega) m1
        refine ⟨w2, by rw [rc_39 m2.1, r1, bV_rV, r2], ?_, ((((FF.refl (PW x) u).st rfl).st rfl).tr f1).tr f3⟩
        rw [z.1, z.2]
        rw [List.append_assoc] at m3
        exact m3
      by_cases c13 : c = 13
      · rw [if_pos c13]
        refine fin _ ?_
        have : zp (c :: r) = zp r + 1 := by show (if _ then _ else _) + zp r = _; rw [if_pos (by omega)]; omega
        rw [this]; exact nI_pred _
      · rw [if_neg c13]
        by_cases c19 : c = 19
        · rw [if_pos c19]
          refine fin _ ?_
          have : zp (c :: r) = zp r + 1 := by show (if _ then _ else _) + zp r = _; rw [if_pos (by omega)]; omega
          rw [this]; exact nI_pred _
        · rw [if_neg c19]
          refine fin _ ?_
          have : c ≠ 0 := fun q => by subst q; exact cz (by show (0 : Nat) < l; omega)
          have : zp (c :: r) = zp r := by show (if _ then _ else _) + zp r = _; rw [if_neg (by omega)]; omega
          rw [this]; exact pk_sub (b := 0) (Nat.zero_le _)
end
