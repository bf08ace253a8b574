section
def PE (k j : Nat) : Bool := (k == 10 && j == 8) || k == 12
theorem PE_C (k j : Nat) (h : PE k j = true) : PC k j = true := by
  simp only [PC, PE, Bool.and_eq_true, Bool.or_eq_true, beq_iff_eq] at h ⊢; omega
def Cd (u : SM) (C : List Nat) : Prop := C.length ≤ 160 ∧ mI u 10 8 = nI C.length ∧ ∀ k, k < C.length → mI u 12 k = trn (C.getD k 0)
/-- the class's reader at a token, with codes so far -/
def CSt (t0 : SM) (p : Nat) (u : SM) (a : Nat) (C : List Nat) : Prop := FF PC t0 u ∧ TK (pm t0) p u a ∧ Cd u C ∧ C.length ≤ a ∧ a ≤ p
/-- behind a fault -/
def CBr (t0 u : SM) (b : Nat) : Prop := FF PC t0 u ∧ mI u 10 4 = 257 ∧ mI u 10 2 = nI b ∧ b ≤ 160 ∧ ∃ z, z ≤ 160 ∧ mI u 10 8 = nI z
def Gd (t0 : SM) (p : Nat) (F : SM → OR) (lv o : Nat) : Prop := (∀ u b, CBr t0 u b → ∃ w, F u = rV w ∧ CBr t0 w b) ∧ ∀ u a C, CSt t0 p u a C → ∃ w, F u = rV w ∧ ((∃ b, CBr t0 w b ∧ Erc (Bt (pm t0)) p lv o a b) ∨ ∃ a' D, CSt t0 p w a' (C ++ D) ∧ a + D.length ≤ a' ∧ Wf D ∧ Okc (Bt (pm t0)) p lv o a a' D)
variable {n m s g x p a b : Nat} {t0 t u w : SM} {G : GG} {C : List Nat}
theorem TK.cg (h : TK G p u a) (f : FF PE u w) : TK G p w a := by
  obtain ⟨h1, h2, h3, h4, h5⟩ := h
  exact ⟨fun q => by rw [f.2 10 3 rfl]; exact h1 q, by rw [f.2 10 4 rfl]; exact h2, by rw [f.2 10 5 rfl]; exact h3, fun q => by rw [f.2 10 6 rfl]; exact h4 q, by rw [f.2 10 2 rfl]; exact h5⟩
theorem Cd.cg (h : Cd u C) (f : FF PA u w) : Cd w C := ⟨h.1, by rw [f.2 10 8 rfl]; exact h.2.1, fun k hk => by rw [f.2 12 k rfl]; exact h.2.2 k hk⟩
theorem emit_v (hl : Lay u) (hc : Cd u C) (h1 : C.length < 160) (c : Nat) : ∃ w, fRd_emit u (trn c) = rV w ∧ FF PE u w ∧ Cd w (C ++ [c]) := by
  have n1 : ¬ nI C.length < 0 := nI_pos (by omega)
  have n2 : ¬ nI 160 ≤ nI C.length := nI_ge h1 (by decide)
  have v : mI (setI u 12 C.length (trn c)) 10 8 = nI C.length := by rw [setI_I, if_neg (by omega)]; exact hc.2.1
  refine ⟨setI (setI u 12 C.length (trn c)) 10 8 (nI (C.length + 1)), ?_, ((FF.refl PE u).st rfl).st rfl, ?_⟩
  · simp only [fRd_emit, gI_0, pI_0, rc_0, gI_1, pI_1, rc_1, ln_2, ql_2, al_3, as_3, ln_3, al_4, as_4, ln_4, gI_5, pI_5, rc_5, ln_6, ql_6, al_7, as_7, ln_7, al_8, as_8, ln_8, ln_9, ql_9, gI_10, pI_10, rc_10, al_11, as_11, ln_11, al_12, as_12, ln_12, gI_13, pI_13, rc_13, al_14, as_14, ln_14, ln_15, ql_15, gI_16, pI_16, rc_16, al_17, as_17, ln_17, al_18, as_18, ln_18, al_19, as_19, ln_19, al_20, as_20, ln_20, bl_21, bs_21, ln_21, gI_22, pI_22, rc_22, al_23, as_23, ln_23, al_24, as_24, ln_24, al_25, as_25, ln_25, gI_31, pI_31, rc_31, al_32, as_32, ln_32, gI_33, pI_33, rc_33, al_34, as_34, ln_34, gI_35, pI_35, rc_35, al_36, as_36, ln_36, gI_37, pI_37, rc_37, al_38, as_38, ln_38, gC_0_3, gC_0_4, gC_0_5, gC_0_7, gC_0_10, gC_0_11, gC_0_12, gC_0_13, gC_0_14, gC_0_15, gC_0_16, gC_0_17, gC_1_0, gC_1_2, gC_1_3, gC_5_0, gC_5_2, gC_10_0, gC_10_7, gC_13_5, gC_16_0, gC_16_2, gC_22_0, gC_22_1, gC_22_2, gC_22_3, gC_31_2, gC_33_2, gC_35_2, gC_37_2, bI_rI, bV_rV, bQ_rN, bQ_rR, bz_0, bz_1, bz_Z, hZ0, hZ1, Lay_setI, Lay_setA, hl, hc.2.1, n1, n2, if_false, h1, v, nI_1]
  · have e : (C ++ [c]).length = C.length + 1 := by simp
    refine ⟨by omega, by rw [e]; exact setI_eq rfl rfl, fun k hk => ?_⟩
    rw [setI_I, if_neg (by omega)]
    by_cases q : k = C.length
    · rw [setI_I, if_pos ⟨rfl, q⟩, q, List.getD_eq_getElem?_getD, List.getElem?_append_right (Nat.le_refl _)]; simp
    · rw [setI_I, if_neg (by omega), hc.2.2 k (by omega), List.getD_eq_getElem?_getD, List.getD_eq_getElem?_getD, List.getElem?_append_left (by omega)]
theorem emit_b (h : Lay t0) (hc : CBr t0 u b) (v : Int32) : ∃ w, fRd_emit u v = rV w ∧ CBr t0 w b := by
  obtain ⟨f, h4, h2, hb, z, hz, h8⟩ := hc
  have hl := f.lay h
  have n1 : ¬ nI z < 0 := nI_pos (by omega)
  by_cases c : z < 160
  · have n2 : ¬ nI 160 ≤ nI z := nI_ge c (by decide)
    have w8 : mI (setI u 12 z v) 10 8 = nI z := by rw [setI_I, if_neg (by omega)]; exact h8
    refine ⟨setI (setI u 12 z v) 10 8 (nI (z + 1)), ?_, (f.st rfl).st rfl, ?_, ?_, hb, z + 1, by omega, setI_eq rfl rfl⟩
    · simp only [fRd_emit, gI_0, pI_0, rc_0, gI_1, pI_1, rc_1, ln_2, ql_2, al_3, as_3, ln_3, al_4, as_4, ln_4, gI_5, pI_5, rc_5, ln_6, ql_6, al_7, as_7, ln_7, al_8, as_8, ln_8, ln_9, ql_9, gI_10, pI_10, rc_10, al_11, as_11, ln_11, al_12, as_12, ln_12, gI_13, pI_13, rc_13, al_14, as_14, ln_14, ln_15, ql_15, gI_16, pI_16, rc_16, al_17, as_17, ln_17, al_18, as_18, ln_18, al_19, as_19, ln_19, al_20, as_20, ln_20, bl_21, bs_21, ln_21, gI_22, pI_22, rc_22, al_23, as_23, ln_23, al_24, as_24, ln_24, al_25, as_25, ln_25, gI_31, pI_31, rc_31, al_32, as_32, ln_32, gI_33, pI_33, rc_33, al_34, as_34, ln_34, gI_35, pI_35, rc_35, al_36, as_36, ln_36, gI_37, pI_37, rc_37, al_38, as_38, ln_38, gC_0_3, gC_0_4, gC_0_5, gC_0_7, gC_0_10, gC_0_11, gC_0_12, gC_0_13, gC_0_14, gC_0_15, gC_0_16, gC_0_17, gC_1_0, gC_1_2, gC_1_3, gC_5_0, gC_5_2, gC_10_0, gC_10_7, gC_13_5, gC_16_0, gC_16_2, gC_22_0, gC_22_1, gC_22_2, gC_22_3, gC_31_2, gC_33_2, gC_35_2, gC_37_2, bI_rI, bV_rV, bQ_rN, bQ_rR, bz_0, bz_1, bz_Z, hZ0, hZ1, Lay_setI, Lay_setA, hl, h8, n1, n2, if_false, c, w8, nI_1]
    · rw [setI_I, if_neg (by omega), setI_I, if_neg (by omega)]; exact h4
    · rw [setI_I, if_neg (by omega), setI_I, if_neg (by omega)]; exact h2
  · have n2 : nI 160 ≤ nI z := nI_le (by omega) (by omega)
    refine ⟨u, ?_, f, h4, h2, hb, z, hz, h8⟩
    simp only [fRd_emit, gI_0, pI_0, rc_0, gI_1, pI_1, rc_1, ln_2, ql_2, al_3, as_3, ln_3, al_4, as_4, ln_4, gI_5, pI_5, rc_5, ln_6, ql_6, al_7, as_7, ln_7, al_8, as_8, ln_8, ln_9, ql_9, gI_10, pI_10, rc_10, al_11, as_11, ln_11, al_12, as_12, ln_12, gI_13, pI_13, rc_13, al_14, as_14, ln_14, ln_15, ql_15, gI_16, pI_16, rc_16, al_17, as_17, ln_17, al_18, as_18, ln_18, al_19, as_19, ln_19, al_20, as_20, ln_20, bl_21, bs_21, ln_21, gI_22, pI_22, rc_22, al_23, as_23, ln_23, al_24, as_24, ln_24, al_25, as_25, ln_25, gI_31, pI_31, rc_31, al_32, as_32, ln_32, gI_33, pI_33, rc_33, al_34, as_34, ln_34, gI_35, pI_35, rc_35, al_36, as_36, ln_36, gI_37, pI_37, rc_37, al_38, as_38, ln_38, gC_0_3, gC_0_4, gC_0_5, gC_0_7, gC_0_10, gC_0_11, gC_0_12, gC_0_13, gC_0_14, gC_0_15, gC_0_16, gC_0_17, gC_1_0, gC_1_2, gC_1_3, gC_5_0, gC_5_2, gC_10_0, gC_10_7, gC_13_5, gC_16_0, gC_16_2, gC_22_0, gC_22_1, gC_22_2, gC_22_3, gC_31_2, gC_33_2, gC_35_2, gC_37_2, bI_rI, bV_rV, bQ_rN, bQ_rR, bz_0, bz_1, bz_Z, hZ0, hZ1, Lay_setI, Lay_setA, hl, h8, n1, n2, if_false, if_true]
theorem adv_c (h : Inv n m s g x p t0) (hc : CSt t0 p u a C) (h1 : tC (Bt (pm t0)) p a ≠ 257) : ∃ w, fRd_advance u = rV w ∧ CSt t0 p w (tN (Bt (pm t0)) p a) C := by
  obtain ⟨f, k, d, l1, l2⟩ := hc
  have hN := tN_le (B := Bt (pm t0)) l2
  have hb := tB_le (B := Bt (pm t0)) l2
  obtain ⟨w, q1, q2, q3⟩ := advance_v h (f.fr PC_s) hN.2 (k.1 h1) (by rw [k.2.2.2.2, if_neg h1])
  exact ⟨w, q1, f.tr (q2.up PA_C), q3, d.cg q2, by omega, hN.2⟩
theorem fail_c (h : Inv n m s g x p t0) (hc : CSt t0 p u a C) : ∃ w, fRd_fail u = rV w ∧ CBr t0 w (tB (Bt (pm t0)) p a) := by
  obtain ⟨f, ⟨k1, k2, k3, k4, k5⟩, d, l1, l2⟩ := hc
  have hb := tB_le (B := Bt (pm t0)) l2
  have hr := h.rng
  have hl := f.lay h.lay
  by_cases c : tC (Bt (pm t0)) p a = 257
  · rw [if_pos c] at k5
    refine ⟨_, fail1 hl k5 (by omega), f.st rfl, setI_eq rfl rfl, by rw [setI_I, if_neg (by omega)]; exact k5, by omega, C.length, d.1, by rw [setI_I, if_neg (by omega)]; exact d.2.1⟩
  · rw [if_neg c] at k5
    refine ⟨_, fail0 hl k5 k3, (f.st rfl).st rfl, setI_eq rfl rfl, by rw [setI_I, if_neg (by omega)]; exact setI_eq rfl rfl, by omega, C.length, d.1, by rw [setI_I, if_neg (by omega), setI_I, if_neg (by omega)]; exact d.2.1⟩
theorem fail_b (h : Lay t0) (hc : CBr t0 u b) : ∃ w, fRd_fail u = rV w ∧ CBr t0 w b := by
  obtain ⟨f, h4, h2, hb, z, hz, h8⟩ := hc
  exact ⟨_, fail1 (f.lay h) h2 (by omega), f.st rfl, setI_eq rfl rfl, by rw [setI_I, if_neg (by omega)]; exact h2, hb, z, hz, by rw [setI_I, if_neg (by omega)]; exact h8⟩
theorem accept_b (h : Lay t0) (hc : CBr t0 u b) {k : Int32} (hk : k ≠ 257) : ∃ w, fRd_accept u k = rV w ∧ CBr t0 w b := by
  obtain ⟨w, h1, h2⟩ := fail_b h hc
  refine ⟨w, ?_, h2⟩
  have hl := hc.1.lay h
  have e : ¬ (257 : Int32) = k := fun e => hk e.symm
  simp only [fRd_accept, gI_10 hl, hc.2.1, if_neg e, rc_10 hl, h1, bV_rV]
theorem accept_y (h : Inv n m s g x p t0) (hc : CSt t0 p u a C) {k : Nat} (hk : k < 312 ∧ k ≠ 257) (e : tC (Bt (pm t0)) p a = k) : ∃ w, fRd_accept u (nI k) = rV w ∧ CSt t0 p w (tN (Bt (pm t0)) p a) C := by
  obtain ⟨w, h1, h2⟩ := adv_c h hc (by omega)
  have hl := hc.1.lay h.lay
  refine ⟨w, ?_, h2⟩
  have e4 : mI u 10 4 = nI k := by rw [hc.2.1.2.1, e]
  simp only [fRd_accept, gI_10 hl, e4, if_true, rc_10 hl, h1, bV_rV]
theorem accept_n (h : Inv n m s g x p t0) (hc : CSt t0 p u a C) {k : Nat} (hk : k < 312) (e : tC (Bt (pm t0)) p a ≠ k) : ∃ w, fRd_accept u (nI k) = rV w ∧ CBr t0 w (tB (Bt (pm t0)) p a) := by
  obtain ⟨w, h1, h2⟩ := fail_c h hc
  have hl := hc.1.lay h.lay
  have hlt := tC_lt (pm t0) h rfl a hc.2.2.2.2
  refine ⟨w, ?_, h2⟩
  have e4 : ¬ nI (tC (Bt (pm t0)) p a) = nI k := fun q => e ((nI_eq (by omega) (by omega)).mp q)
  simp only [fRd_accept, gI_10 hl, hc.2.1.2.1, if_neg e4, rc_10 hl, h1, bV_rV]
theorem emit_c (h : Inv n m s g x p t0) {a0 : Nat} {D : List Nat} (hc : CSt t0 p u a (C ++ D)) (c : Nat) (h1 : (C ++ D).length + 1 ≤ a) : ∃ w, fRd_emit u (trn c) = rV w ∧ CSt t0 p w a (C ++ (D ++ [c])) := by
  have hr := h.rng
  obtain ⟨f, k, d, l1, l2⟩ := hc
  obtain ⟨w, q1, q2, q3⟩ := emit_v (f.lay h.lay) d (by omega) c
  rw [List.append_assoc] at q3
  refine ⟨w, q1, f.tr (q2.up PE_C), k.cg q2, q3, ?_, l2⟩
  simp only [List.length_append, List.length_cons, List.length_nil] at h1 ⊢; omega
end
section
variable {n m s g x p : Nat} {t0 : SM}
/-- a method's loop -/
theorem loop_b (h : Inv n m s g x p t0) {lv : Nat} {L : Nat → SM → Int32 → Int32 → OR} {v : Int32}
    (hN : ∀ f u i k, Lay u → mI u 10 4 = nI k → k < 312 → (∀ c, ¬ isOp lv k c) → L (f + 1) u v (nI i) = rV u) {u : SM} {b i f : Nat} (hc : CBr t0 u b) : L (f + 1) u v (nI i) = rV u :=
  hN f u i 257 (hc.1.lay h.lay) hc.2.1 (by decide) (fun c q => by have := isOp_f q; omega)
theorem loop_c (h : Inv n m s g x p t0) {lv sb o : Nat} (hsb : isSb lv sb) {L : Nat → SM → Int32 → Int32 → OR} {v : Int32} {sub : SM → OR} (hs : Gd t0 p sub sb o)
    (hL : ∀ f u i k c, Lay u → mI u 10 4 = nI k → k < 312 → i < 160 → isOp lv k c → ∀ u1 u2 u3, fRd_advance u = rV u1 → Lay u1 → sub u1 = rV u2 → Lay u2 → fRd_emit u2 (trn c) = rV u3 → L (f + 1) u v (nI i) = L f u3 v (nI (i + 1)))
    (hN : ∀ f u i k, Lay u → mI u 10 4 = nI k → k < 312 → (∀ c, ¬ isOp lv k c) → L (f + 1) u v (nI i) = rV u) :
    ∀ (d i f : Nat) (u : SM) (a a0 : Nat) (C D : List Nat), i + d = 160 → d + 1 < f → i ≤ a → CSt t0 p u a (C ++ D) → a0 + D.length ≤ a → Wf D → Lpc (Bt (pm t0)) p lv sb o a0 a D →
      ∃ w, L f u v (nI i) = rV w ∧ ((∃ b, CBr t0 w b ∧ Erc (Bt (pm t0)) p lv o a0 b) ∨ ∃ a' D', CSt t0 p w a' (C ++ D') ∧ a0 + D'.length ≤ a' ∧ Wf D' ∧ Okc (Bt (pm t0)) p lv o a0 a' D') := by
  have hr := h.rng
  have hp : p ≤ 160 := hr.2.2.2.2.2
  intro d
  induction d with
  | zero =>
    intro i f u a a0 C D hi hf hia hc hl hw hlp
    obtain ⟨f, rfl⟩ : ∃ f', f = f' + 1 := ⟨f - 1, by omega⟩
    have ha := hc.2.2.2.2
    have hb := tB_le (B := Bt (pm t0)) ha
    have e : tC (Bt (pm t0)) p a = 256 := by unfold tC; rw [if_pos (by omega)]
    have hn : ∀ c, ¬ isOp lv (tC (Bt (pm t0)) p a) c := fun c q => by have := isOp_f q; omega
    exact ⟨u, hN f u i _ (hc.1.lay h.lay) hc.2.1.2.1 (by omega) hn, Or.inr ⟨a, D, hc, hl, hw, lp_end hsb hlp hn⟩⟩
  | succ d ih =>
    intro i f u a a0 C D hi hf hia hc hl hw hlp
    obtain ⟨f, rfl⟩ : ∃ f', f = f' + 1 := ⟨f - 1, by omega⟩
    have ha := hc.2.2.2.2
    have hlt := tC_lt (pm t0) h rfl a ha
    by_cases q : ∃ c, isOp lv (tC (Bt (pm t0)) p a) c
    · obtain ⟨c, q⟩ := q
      have qf := isOp_f q
      obtain ⟨u1, r1, c1⟩ := adv_c h hc (by omega)
      have ht := tN_lt ha (show tC (Bt (pm t0)) p a ≠ 256 by omega)
      obtain ⟨u2, r2, rest⟩ := hs.2 u1 _ _ c1
      have l1 := c1.1.lay h.lay
      rcases rest with ⟨b, cb, er⟩ | ⟨a2, E, c2, hE, wE, ok⟩
      · obtain ⟨u3, r3, cb3⟩ := emit_b h.lay cb (trn c)
        refine ⟨u3, ?_, Or.inl ⟨b, cb3, lp_er hp ha hsb q hlp er⟩⟩
        rw [hL f u i _ c (hc.1.lay h.lay) hc.2.1.2.1 hlt (by omega) q u1 u2 u3 r1 l1 r2 (cb.1.lay h.lay) r3]
        obtain ⟨f, rfl⟩ : ∃ f', f = f' + 1 := ⟨f - 1, by omega⟩
        exact loop_b h hN cb3
      · have hcl := hc.2.2.2.1
        have e1 : (C ++ D ++ E).length = (C ++ D).length + E.length := List.length_append
        obtain ⟨u3, r3, c3⟩ := emit_c h (a0 := 0) c2 c (by omega)
        rw [List.append_assoc] at c3
        obtain ⟨w, r4, fin⟩ := ih (i + 1) f u3 a2 a0 C (D ++ (E ++ [c])) (by omega) (by omega) (by omega) c3 (by simp only [List.length_append, List.length_cons, List.length_nil]; omega) (Wf.bi qf.2.2.2.2.2.2.2.2.2.2.2.2 hw wE) (lp_step hp ha hsb q hlp ok)
        refine ⟨w, ?_, fin⟩
        rw [hL f u i _ c (hc.1.lay h.lay) hc.2.1.2.1 hlt (by omega) q u1 u2 u3 r1 l1 r2 (c2.1.lay h.lay) r3]
        exact r4
    · have hn : ∀ c, ¬ isOp lv (tC (Bt (pm t0)) p a) c := fun c e => q ⟨c, e⟩
      exact ⟨u, hN f u i _ (hc.1.lay h.lay) hc.2.1.2.1 hlt hn, Or.inr ⟨a, D, hc, hl, hw, lp_end hsb hlp hn⟩⟩
theorem meth_g (h : Inv n m s g x p t0) {lv sb o : Nat} (hsb : isSb lv sb) {L : Nat → SM → Int32 → Int32 → OR} {v : Int32} {F sub : SM → OR} (hs : Gd t0 p sub sb o)
    (hF : ∀ u u1, Lay u → sub u = rV u1 → F u = L 1000000 u1 v (nI 0))
    (hL : ∀ f u i k c, Lay u → mI u 10 4 = nI k → k < 312 → i < 160 → isOp lv k c → ∀ u1 u2 u3, fRd_advance u = rV u1 → Lay u1 → sub u1 = rV u2 → Lay u2 → fRd_emit u2 (trn c) = rV u3 → L (f + 1) u v (nI i) = L f u3 v (nI (i + 1)))
    (hN : ∀ f u i k, Lay u → mI u 10 4 = nI k → k < 312 → (∀ c, ¬ isOp lv k c) → L (f + 1) u v (nI i) = rV u) : Gd t0 p F lv o := by
  constructor
  · intro u b hb
    obtain ⟨w, r, cb⟩ := hs.1 u b hb
    exact ⟨w, by rw [hF u w (hb.1.lay h.lay) r]; exact loop_b (f := 999999) h hN cb, cb⟩
  · intro u a C hc
    obtain ⟨u1, r1, rest⟩ := hs.2 u a C hc
    rw [hF u u1 (hc.1.lay h.lay) r1]
    rcases rest with ⟨b, cb, er⟩ | ⟨a2, D, c2, hD, wD, ok⟩
    · exact ⟨u1, loop_b (f := 999999) h hN cb, Or.inl ⟨b, cb, er_0 hsb er⟩⟩
    · obtain ⟨w, r4, fin⟩ := loop_c h hsb hs hL hN 160 0 1000000 u1 a2 a C D (by decide) (by decide) (Nat.zero_le _) c2 hD wD (lp_0 hsb ok)
      exact ⟨w, r4, fin⟩
theorem t_eq {k c : Nat} (hk : k < 312) (hc : c < 312) : (nI k = nI c) = (k = c) := propext (nI_eq (by omega) (by omega))
def cF (R : FT) (mi o : Nat) : SM → OR := fun u => atF mi [.ref 10, .int (nI o)] u R
theorem product_g (h : Inv n m s g x p t0) {R : FT} {o : Nat} (hs : Gd t0 p (cF R 60 o) 7 o) : Gd t0 p (fun u => fRd_product R u (nI o)) 6 o := by
  refine meth_g h (sb := 7) (Or.inr (Or.inr (Or.inr ⟨rfl, rfl⟩))) (L := fRd_product_l7 R) (v := nI o) hs ?_ ?_ ?_
  · intro u u1 hl r
    have r' : atF 60 [.ref 10, .int (nI o)] u R = rV u1 := r
    show fRd_product R u (nI o) = _
    unfold fRd_product
    rw [rc_10 hl, r', bV_rV]; rfl
  · intro f u i k c hl hk hk2 hi q u1 u2 u3 r1 l1 r2 l2 r3
    have r2' : atF 60 [.ref 10, .int (nI o)] u1 R = rV u2 := r2
    obtain ⟨rfl, rfl⟩ : k = 42 ∧ c = 18 := by rcases q with ⟨w1, w2, w3⟩ | ⟨w1, w2, w3⟩ | ⟨w1, w2⟩ | ⟨w1, w2, w3⟩ <;> omega
    show fRd_product_7 R (fRd_product_l7 R f) u (nI o) (nI i) = _
    unfold fRd_product_7
    rw [if_neg (show ¬ (160 : Int32) ≤ nI i from nI_ge (b := 160) hi (by decide)), gI_10 hl, hk, if_pos (show nI 42 = 42 from rfl), rc_10 hl, r1, bV_rV, rc_10 l1, r2', bV_rV, rc_10 l2, show (-3 : Int32) = trn 18 from rfl, r3, bV_rV, nI_1]
  · intro f u i k hl hk hk2 hn
    show fRd_product_7 R (fRd_product_l7 R f) u (nI o) (nI i) = _
    have e : ¬ nI k = 42 := fun q => hn 18 (Or.inr (Or.inr (Or.inr ⟨rfl, (nI_eq (b := 42) (by omega) (by decide)).mp q, rfl⟩)))
    unfold fRd_product_7
    rw [gI_10 hl, hk, if_neg e]
    split <;> rfl
theorem sum_g (h : Inv n m s g x p t0) {R : FT} {o : Nat} (hs : Gd t0 p (cF R 59 o) 6 o) : Gd t0 p (fun u => fRd_sum R u (nI o)) 5 o := by
  refine meth_g h (sb := 6) (Or.inr (Or.inr (Or.inl ⟨rfl, rfl⟩))) (L := fRd_sum_l7 R) (v := nI o) hs ?_ ?_ ?_
  · intro u u1 hl r
    have r' : atF 59 [.ref 10, .int (nI o)] u R = rV u1 := r
    show fRd_sum R u (nI o) = _
    unfold fRd_sum
    rw [rc_10 hl, r', bV_rV]; rfl
  · intro f u i k c hl hk hk2 hi q u1 u2 u3 r1 l1 r2 l2 r3
    have r2' : atF 59 [.ref 10, .int (nI o)] u1 R = rV u2 := r2
    have q' : (k = 43 ∧ c = 16) ∨ (k = 45 ∧ c = 17) := by rcases q with ⟨w1, w2, w3⟩ | ⟨w1, w2, w3⟩ | ⟨w1, w2⟩ | ⟨w1, w2, w3⟩ <;> omega
    show fRd_sum_7 R (fRd_sum_l7 R f) u (nI o) (nI i) = _
    unfold fRd_sum_7 fRd_sum_32
    rcases q' with ⟨rfl, rfl⟩ | ⟨rfl, rfl⟩
    · rw [if_neg (show ¬ (160 : Int32) ≤ nI i from nI_ge (b := 160) hi (by decide)), gI_10 hl, hk, if_pos (show nI 43 = 43 from rfl), gI_10 hl, hk, if_pos (show nI 43 = 43 from rfl), rc_10 hl, r1, bV_rV, rc_10 l1, r2', bV_rV, rc_10 l2, show (-4 : Int32) = trn 16 from rfl, r3, bV_rV, nI_1]
    · rw [if_neg (show ¬ (160 : Int32) ≤ nI i from nI_ge (b := 160) hi (by decide)), gI_10 hl, hk, if_neg (show ¬ nI 45 = 43 by decide), gI_10 hl, hk, if_pos (show nI 45 = 45 from rfl), gI_10 hl, hk, if_neg (show ¬ nI 45 = 43 by decide), rc_10 hl, r1, bV_rV, rc_10 l1, r2', bV_rV, rc_10 l2, show (-5 : Int32) = trn 17 from rfl, r3, bV_rV, nI_1]
  · intro f u i k hl hk hk2 hn
    show fRd_sum_7 R (fRd_sum_l7 R f) u (nI o) (nI i) = _
    have e : ¬ nI k = 43 := fun q => hn 16 (Or.inr (Or.inr (Or.inl ⟨rfl, Or.inl ⟨(nI_eq (b := 43) (by omega) (by decide)).mp q, rfl⟩⟩)))
    have e2 : ¬ nI k = 45 := fun q => hn 17 (Or.inr (Or.inr (Or.inl ⟨rfl, Or.inr ⟨(nI_eq (b := 45) (by omega) (by decide)).mp q, rfl⟩⟩)))
    unfold fRd_sum_7
    rw [gI_10 hl, hk, if_neg e, gI_10 hl, hk, if_neg e2]
    split <;> rfl
theorem both_g (h : Inv n m s g x p t0) {R : FT} {o : Nat} (hs : Gd t0 p (cF R 57 o) 3 o) : Gd t0 p (fun u => fRd_both R u (nI o)) 2 o := by
  refine meth_g h (sb := 3) (Or.inr (Or.inl ⟨rfl, rfl⟩)) (L := fRd_both_l7 R) (v := nI o) hs ?_ ?_ ?_
  · intro u u1 hl r
    have r' : atF 57 [.ref 10, .int (nI o)] u R = rV u1 := r
    show fRd_both R u (nI o) = _
    unfold fRd_both
    rw [rc_10 hl, r', bV_rV]; rfl
  · intro f u i k c hl hk hk2 hi q u1 u2 u3 r1 l1 r2 l2 r3
    have r2' : atF 57 [.ref 10, .int (nI o)] u1 R = rV u2 := r2
    obtain ⟨rfl, rfl⟩ : k = 304 ∧ c = 12 := by rcases q with ⟨w1, w2, w3⟩ | ⟨w1, w2, w3⟩ | ⟨w1, w2⟩ | ⟨w1, w2, w3⟩ <;> omega
    show fRd_both_7 R (fRd_both_l7 R f) u (nI o) (nI i) = _
    unfold fRd_both_7
    rw [if_neg (show ¬ (160 : Int32) ≤ nI i from nI_ge (b := 160) hi (by decide)), gI_10 hl, hk, if_pos (show nI 304 = 304 from rfl), rc_10 hl, r1, bV_rV, rc_10 l1, r2', bV_rV, rc_10 l2, show (-8 : Int32) = trn 12 from rfl, r3, bV_rV, nI_1]
  · intro f u i k hl hk hk2 hn
    show fRd_both_7 R (fRd_both_l7 R f) u (nI o) (nI i) = _
    have e : ¬ nI k = 304 := fun q => hn 12 (Or.inr (Or.inl ⟨rfl, (nI_eq (b := 304) (by omega) (by decide)).mp q, rfl⟩))
    unfold fRd_both_7
    rw [gI_10 hl, hk, if_neg e]
    split <;> rfl
theorem either_g (h : Inv n m s g x p t0) {R : FT} {o : Nat} (hs : Gd t0 p (cF R 56 o) 2 o) : Gd t0 p (fun u => fRd_either R u (nI o)) 1 o := by
  refine meth_g h (sb := 2) (Or.inl ⟨rfl, rfl⟩) (L := fRd_either_l7 R) (v := nI o) hs ?_ ?_ ?_
  · intro u u1 hl r
    have r' : atF 56 [.ref 10, .int (nI o)] u R = rV u1 := r
    show fRd_either R u (nI o) = _
    unfold fRd_either
    rw [rc_10 hl, r', bV_rV]; rfl
  · intro f u i k c hl hk hk2 hi q u1 u2 u3 r1 l1 r2 l2 r3
    have r2' : atF 56 [.ref 10, .int (nI o)] u1 R = rV u2 := r2
    obtain ⟨rfl, rfl⟩ : k = 303 ∧ c = 11 := by rcases q with ⟨w1, w2, w3⟩ | ⟨w1, w2, w3⟩ | ⟨w1, w2⟩ | ⟨w1, w2, w3⟩ <;> omega
    show fRd_either_7 R (fRd_either_l7 R f) u (nI o) (nI i) = _
    unfold fRd_either_7
    rw [if_neg (show ¬ (160 : Int32) ≤ nI i from nI_ge (b := 160) hi (by decide)), gI_10 hl, hk, if_pos (show nI 303 = 303 from rfl), rc_10 hl, r1, bV_rV, rc_10 l1, r2', bV_rV, rc_10 l2, show (-9 : Int32) = trn 11 from rfl, r3, bV_rV, nI_1]
  · intro f u i k hl hk hk2 hn
    show fRd_either_7 R (fRd_either_l7 R f) u (nI o) (nI i) = _
    have e : ¬ nI k = 303 := fun q => hn 11 (Or.inl ⟨rfl, (nI_eq (b := 303) (by omega) (by decide)).mp q, rfl⟩)
    unfold fRd_either_7
    rw [gI_10 hl, hk, if_neg e]
    split <;> rfl
end
