section
def PT (x k j : Nat) : Bool := PM x k j || ((k == 52 && decide (4 * x ≤ j)) || (k == 39 && (j == 17 || j == 20)))
theorem PM_T (x k j : Nat) (h : PM x k j = true) : PT x k j = true := by unfold PT; rw [h]; rfl
theorem PT_52 {x k : Nat} : PT x 52 (4 * x + k) = true := by
  unfold PT; rw [decide_eq_true (show 4 * x ≤ 4 * x + k from Nat.le_add_right _ _)]; rfl
variable {x p : Nat} {B : Nat → Nat} {t u w : SM}
def MTx (x : Nat) (B : Nat → Nat) (p : Nat) (u : SM) (a : Nat) (O S : List Nat) : Prop := MB B p u ∧ mI u 39 20 = nI x ∧ mI u 39 32 = nI a ∧ mI u 39 40 = nI O.length ∧ (∀ k, k < O.length → mI u 51 (200 * x + k) = nI (O.getD k 0)) ∧ (∀ i, i < S.length → mI u 52 (4 * x + i) = nI (S.getD i 0)) ∧ O.length ≤ a ∧ a ≤ p
def TRs (x : Nat) (u : SM) (r : OR) : Sum Nat (List Nat × List Nat) → Prop
  | .inl b => ∃ z, FF (PT x) u z ∧ r = rI (-100 - nI b) z ∧ mI z 39 17 = 0 ∧ mI z 39 20 = nI x
  | .inr q => ∃ z, FF (PT x) u z ∧ r = rI (nI x) z ∧ mI z 39 17 = 0 ∧ mI z 39 20 = nI (x + 1) ∧ (∀ k, k < q.1.length → mI z 51 (200 * x + k) = nI (q.1.getD k 0)) ∧ ∀ i, i < q.2.length → mI z 52 (4 * x + i) = nI (q.2.getD i 0)
theorem TRs.pre {r : OR} {s : Sum Nat (List Nat × List Nat)} (f : FF (PT x) u w) (h : TRs x w r s) : TRs x u r s := by
  cases s with
  | inl b => obtain ⟨z, h1, h2⟩ := h; exact ⟨z, f.tr h1, h2⟩
  | inr q => obtain ⟨z, h1, h2⟩ := h; exact ⟨z, f.tr h1, h2⟩
theorem ix4 (x e : Nat) : (4 : Int32) * nI x + nI e = nI (4 * x + e) := by rw [show (4 : Int32) * nI x = nI (4 * x) from pk_mul 4 x, nI_add]
theorem bad_end {b : Nat} (hl : Lay u) (hx : x ≤ 5) (h20 : mI u 39 20 = nI x) (h33 : mI u 39 33 = nI b) : TRs x u (fm_text_122 u 0) (.inl b) := by
  have i3 : (4 : Int32) * nI x + 3 = nI (4 * x + 3) := ix4 x 3
  have k3 : 4 * x + 3 < 24 := by omega
  refine ⟨setI (setI u 52 (4 * x + 3) (mI u 39 40)) 39 17 0, ((FF.refl _ u).st PT_52).st rfl, ?_, setI_eq rfl rfl, by rw [setI_I, if_neg (by omega), setI_I, if_neg (by omega)]; exact h20⟩
  have v : mI (setI (setI u 52 (4 * x + 3) (mI u 39 40)) 39 17 0) 39 33 = nI b := by rw [setI_I, if_neg (by omega), setI_I, if_neg (by omega)]; exact h33
  simp only [fm_text_122, gI_39, pI_39, rc_39, al_40, as_40, ln_40, al_41, as_41, ln_41, al_42, as_42, ln_42, al_43, as_43, ln_43, al_44, as_44, ln_44, al_45, as_45, ln_45, al_46, as_46, ln_46, al_47, as_47, ln_47, al_48, as_48, ln_48, al_49, as_49, ln_49, al_50, as_50, ln_50, al_51, as_51, ln_51, al_52, as_52, ln_52, al_53, as_53, ln_53, al_54, as_54, ln_54, al_55, as_55, ln_55, al_56, as_56, ln_56, al_57, as_57, ln_57, al_58, as_58, ln_58, al_59, as_59, ln_59, al_60, as_60, ln_60, al_61, as_61, ln_61, al_62, as_62, ln_62, al_63, as_63, ln_63, al_64, as_64, ln_64, al_65, as_65, ln_65, al_66, as_66, ln_66, al_67, as_67, ln_67, gC_39_4, gC_39_5, gC_39_6, gC_39_7, gC_39_8, gC_39_10, gC_39_11, gC_39_12, gC_39_13, gC_39_15, gC_39_16, gC_39_18, gC_39_19, gC_39_27, gC_39_28, gC_39_29, gC_39_30, gC_39_31, gC_39_36, gC_39_37, gC_39_41, gC_39_42, gC_39_43, gC_39_44, gC_39_46, gC_39_47, gC_39_48, gC_39_49, bI_rI, bV_rV, bQ_rN, bQ_rR, bz_0, bz_1, bz_Z, hZ0, hZ1, Lay_setI, Lay_setA, hl, h20, i3, k3, if_true, v]
theorem bad_loop {b f : Nat} (hl : Lay u) (hx : x ≤ 5) (h20 : mI u 39 20 = nI x) (h33 : mI u 39 33 = nI b) (e : Int32) : TRs x u (fm_text_l26 (fun t u1 => fm_text_101 t u1) (f + 1) u 0 e) (.inl b) := by
  have := bad_end hl hx h20 h33
  show TRs x u (fm_text_26 _ _ u 0 e) _
  unfold fm_text_26
  have k : (fun t u1 => fm_text_101 t u1) u 0 = fm_text_122 u 0 := by
    show fm_text_101 u 0 = _
    unfold fm_text_101
    rw [if_pos rfl]
  rw [k]
  split
  · exact this
  · rw [if_pos rfl]; exact this
theorem text_l (hx : x ≤ 5) : ∀ (k e a f : Nat) (O S : List Nat) (u : SM), e + k = 3 → k + 1 < f → S.length = e → MTx x B p u a O S → TRs x u (fm_text_l26 (fun t u1 => fm_text_101 t u1) f u 1 (nI e)) (tX B p k e a O S) := by
  intro k
  induction k with
  | zero =>
    intro e a f O S u he hf hS hm
    obtain ⟨f, rfl⟩ : ∃ f', f = f' + 1 := ⟨f - 1, by omega⟩
    obtain rfl : e = 3 := by omega
    obtain ⟨hb, h20, h32, h40, h51, h52, ho, ha⟩ := hm
    obtain ⟨u1, r1, f1, k1, k2, k3, k4, k5, k6⟩ := nextToken_v hb ha h32
    have b1 := hb.cg f1
    obtain ⟨hlt, hO⟩ := tC_O (B := B) (fun j hj => (hb.2.2.1 j hj).2) ha
    obtain ⟨_, _, _, _, _, _, _, _, _, _, _, _, _, _, e0⟩ := tkE hlt hO
    have w20 : mI u1 39 20 = nI x := by rw [f1.2 39 20 rfl]; exact h20
    refine TRs.pre (f1.up (fun k j h => PM_T x k j (PL_M x k j h))) ?_
    show TRs x u1 (fm_text_26 _ _ u 1 (nI 3)) _
    unfold fm_text_26
    rw [if_pos (show (3 : Int32) ≤ nI 3 from Int32.le_refl _)]
    show TRs x u1 (fm_text_101 u 1) _
    unfold fm_text_101
    rw [if_neg (by decide), rc_39 hb.1, r1, bV_rV, gI_39 b1.1, k3]
    simp only [e0]
    unfold tX
    by_cases c : tC B p a = 256
    · rw [if_pos c, if_pos c]
      have i3 : (4 : Int32) * nI x + 3 = nI (4 * x + 3) := ix4 x 3
      have j3 : 4 * x + 3 < 24 := by omega
      have w40 : mI u1 39 40 = nI O.length := by rw [f1.2 39 40 rfl]; exact h40
      have v20 : mI (setI (setI u1 52 (4 * x + 3) (nI O.length)) 39 17 0) 39 20 = nI x := by rw [setI_I, if_neg (by omega), setI_I, if_neg (by omega)]; exact w20
      have v20' : mI (setI (setI (setI u1 52 (4 * x + 3) (nI O.length)) 39 17 0) 39 20 (nI (x + 1))) 39 20 = nI (x + 1) := setI_eq rfl rfl
      refine ⟨setI (setI (setI u1 52 (4 * x + 3) (nI O.length)) 39 17 0) 39 20 (nI (x + 1)), (((FF.refl _ u1).st PT_52).st rfl).st rfl, ?_, by rw [setI_I, if_neg (by omega)]; exact setI_eq rfl rfl, v20', fun k hk => ?_, fun i hi => ?_⟩
      · have n1 : ¬ (1 : Int32) = 0 := by decide
        simp only [fm_text_122, gI_39, pI_39, rc_39, al_40, as_40, ln_40, al_41, as_41, ln_41, al_42, as_42, ln_42, al_43, as_43, ln_43, al_44, as_44, ln_44, al_45, as_45, ln_45, al_46, as_46, ln_46, al_47, as_47, ln_47, al_48, as_48, ln_48, al_49, as_49, ln_49, al_50, as_50, ln_50, al_51, as_51, ln_51, al_52, as_52, ln_52, al_53, as_53, ln_53, al_54, as_54, ln_54, al_55, as_55, ln_55, al_56, as_56, ln_56, al_57, as_57, ln_57, al_58, as_58, ln_58, al_59, as_59, ln_59, al_60, as_60, ln_60, al_61, as_61, ln_61, al_62, as_62, ln_62, al_63, as_63, ln_63, al_64, as_64, ln_64, al_65, as_65, ln_65, al_66, as_66, ln_66, al_67, as_67, ln_67, gC_39_4, gC_39_5, gC_39_6, gC_39_7, gC_39_8, gC_39_10, gC_39_11, gC_39_12, gC_39_13, gC_39_15, gC_39_16, gC_39_18, gC_39_19, gC_39_27, gC_39_28, gC_39_29, gC_39_30, gC_39_31, gC_39_36, gC_39_37, gC_39_41, gC_39_42, gC_39_43, gC_39_44, gC_39_46, gC_39_47, gC_39_48, gC_39_49, bI_rI, bV_rV, bQ_rN, bQ_rR, bz_0, bz_1, bz_Z, hZ0, hZ1, Lay_setI, Lay_setA, b1.1, w20, w40, i3, j3, if_neg n1, v20, nI_1, v20', nI_pred]
      · rw [setI_ne (by decide), setI_ne (by decide), setI_ne (by decide), f1.2 51 _ rfl]; exact h51 k hk
      · rw [setI_ne (by decide), setI_ne (by decide)]
        by_cases q : i = 3
        · rw [setI_I, if_pos ⟨rfl, by omega⟩, q, List.getD_eq_getElem?_getD, List.getElem?_append_right (by omega), hS]; rfl
        · rw [List.length_append] at hi
          have hi' : i < S.length + 1 := hi
          rw [setI_I, if_neg (by omega), f1.2 52 _ rfl, h52 i (by omega), List.getD_eq_getElem?_getD, List.getD_eq_getElem?_getD, List.getElem?_append_left (by omega)]
    · rw [if_neg c, if_neg c]
      exact bad_end b1.1 hx w20 k2
  | succ k ih =>
    intro e a f O S u he hf hS hm
    obtain ⟨f, rfl⟩ : ∃ f', f = f' + 1 := ⟨f - 1, by omega⟩
    obtain ⟨hb, h20, h32, h40, h51, h52, ho, ha⟩ := hm
    have hp : p ≤ 160 := hb.2.2.2.2
    obtain ⟨u1, r1, f1, k1, k2, k3, k4, k5, k6⟩ := nextToken_v hb ha h32
    have b1 := hb.cg f1
    have hl := b1.1
    have lN := tN_le (B := B) ha
    have lB := tB_le (B := B) ha
    obtain ⟨hlt, hO⟩ := tC_O (B := B) (fun j hj => (hb.2.2.1 j hj).2) ha
    obtain ⟨_, _, _, _, _, _, _, _, _, _, _, _, _, e3, _⟩ := tkE hlt hO
    have w20 : mI u1 39 20 = nI x := by rw [f1.2 39 20 rfl]; exact h20
    have w40 : mI u1 39 40 = nI O.length := by rw [f1.2 39 40 rfl]; exact h40
    have ie : (4 : Int32) * nI x + nI e = nI (4 * x + e) := ix4 x e
    have je : 4 * x + e < 24 := by omega
    refine TRs.pre (f1.up (fun k j h => PM_T x k j (PL_M x k j h))) ?_
    show TRs x u1 (fm_text_26 _ _ u 1 (nI e)) _
    unfold fm_text_26
    rw [if_neg (show ¬ (3 : Int32) ≤ nI e from nI_ge (b := 3) (by omega) (by decide)), if_neg (by decide), rc_39 hb.1, r1, bV_rV, gI_39 hl, k3]
    simp only [e3]
    have f2 : FF (PT x) u1 (setI u1 52 (4 * x + e) (nI O.length)) := (FF.refl _ u1).st PT_52
    have l2 : Lay (setI u1 52 (4 * x + e) (nI O.length)) := hl
    have x20 : mI (setI u1 52 (4 * x + e) (nI O.length)) 39 20 = nI x := by rw [setI_ne (by decide)]; exact w20
    have x33 : mI (setI u1 52 (4 * x + e) (nI O.length)) 39 33 = nI (tB B p a) := by rw [setI_ne (by decide)]; exact k2
    have x32 : mI (setI u1 52 (4 * x + e) (nI O.length)) 39 32 = nI (tN B p a) := by rw [setI_ne (by decide)]; exact k1
    have x40 : mI (setI u1 52 (4 * x + e) (nI O.length)) 39 40 = nI O.length := by rw [setI_ne (by decide)]; exact w40
    have no : tC B p a ≠ 300 + e → TRs x u1 (fm_text_59 (fm_text_l26 (fun t u1 => fm_text_101 t u1) f) u1 (nI e)) (tX B p (k + 1) e a O S) := by
      intro c
      have et : tX B p (k + 1) e a O S = .inl (tB B p a) := tX_l (fun O => by unfold tP; rw [if_neg c])
      rw [et]
      unfold fm_text_59
      rw [gC_39_19 hl, gI_39 hl, w20, gI_39 hl, w40, ie, as_52 hl je, nI_1]
      obtain ⟨f, rfl⟩ : ∃ f', f = f' + 1 := ⟨f - 1, by omega⟩
      exact TRs.pre f2 (bad_loop l2 hx x20 x33 _)
    by_cases c3 : 300 ≤ tC B p a ∧ tC B p a ≤ 302
    · rw [if_pos c3, gI_39 hl, k5 c3.1 c3.2]
      have ev : (nI (tC B p a - 300) = nI e) = (tC B p a = 300 + e) := by
        rw [show (nI (tC B p a - 300) = nI e) = (tC B p a - 300 = e) from propext (nI_eq (by omega) (by omega))]
        exact propext ⟨fun q => by omega, fun q => by omega⟩
      simp only [ev]
      by_cases c : tC B p a = 300 + e
      · rw [if_pos c, gC_39_19 hl, gI_39 hl, w20, gI_39 hl, w40, ie, as_52 hl je, rc_39 l2]
        have htN := tN_lt ha (show tC B p a ≠ 256 by omega)
        generalize hv : setI u1 52 (4 * x + e) (nI O.length) = v at *
        have bv : MB B p v := by
          rw [← hv]
          exact ⟨hl, by rw [setI_ne (by decide)]; exact b1.2.1, fun j hj => by rw [setI_ne (by decide)]; exact b1.2.2.1 j hj, fun j hj => by rw [setI_ne (by decide)]; exact b1.2.2.2.1 j hj, hp⟩
        have fv : FF (PM x) v (setI (setI v 39 38 0) 39 39 0) := ((FF.refl _ v).st rfl).st rfl
        have mv : MS x (setI (setI v 39 38 0) 39 39 0) [] O := by
          refine ⟨l2, by rw [setI_I, if_neg (by omega), setI_I, if_neg (by omega)]; exact x20, by rw [setI_I, if_neg (by omega)]; exact setI_eq rfl rfl, trivial, setI_eq rfl rfl, by rw [setI_I, if_neg (by omega), setI_I, if_neg (by omega)]; exact x40, fun q hq => ?_, fun q hq => absurd hq (by simp)⟩
          rw [setI_ne (by decide), setI_ne (by decide), ← hv, setI_ne (by decide), f1.2 51 _ rfl]; exact h51 q hq
        have er := eRead_l hx (p + 1) (tN B p a) true true [] O (setI (setI v 39 38 0) 39 39 0) 1000000 (by omega) (by omega) lN.2 (bv.cM fv) mv (by rw [setI_I, if_neg (by omega), setI_I, if_neg (by omega)]; exact x32) (by show O.length + 0 ≤ _; omega)
        have er2 := er.pre fv
        have eq : fm_eRead v = fm_eRead_l14 (fun t => fm_eRead_159 t) 1000000 (setI (setI v 39 38 0) 39 39 0) (bz true) (bz true) := by
          unfold fm_eRead
          rw [pI_39 l2, pI_39 (show Lay (setI v 39 38 0) from l2)]; rfl
        rw [eq]
        have etP : tP B p e a O = Sr B p (tN B p a) true true [] O := by unfold tP; rw [if_pos c]
        unfold tX
        rw [etP]
        cases eS : Sr B p (tN B p a) true true [] O with
        | inl b =>
          rw [eS] at er2
          obtain ⟨z, z1, z2, z3, z4⟩ := er2
          rw [z2, bI_rI, if_pos rfl, nI_1]
          obtain ⟨f, rfl⟩ : ∃ f', f = f' + 1 := ⟨f - 1, by omega⟩
          exact TRs.pre f2 (TRs.pre (z1.up (PM_T x)) (bad_loop (z1.lay l2) hx (by rw [z1.2 39 20 rfl]; exact x20) z3 _))
        | inr q =>
          rw [eS] at er2
          obtain ⟨z, z1, z2, z3, z4, z5, z6, z7⟩ := er2
          rw [z2, bI_rI, if_neg (by decide), nI_1]
          refine TRs.pre f2 (TRs.pre (z1.up (PM_T x)) ?_)
          refine ih (e + 1) q.1 f q.2 (S ++ [O.length]) z (by omega) (by omega) (by simp; omega) ⟨bv.cM z1, by rw [z1.2 39 20 rfl]; exact x20, z3, z6, z7, fun i hi => ?_, z5, z4⟩
          rw [z1.2 52 _ rfl, ← hv]
          by_cases qe : i = e
          · rw [setI_I, if_pos ⟨rfl, by omega⟩, qe, List.getD_eq_getElem?_getD, List.getElem?_append_right (by omega), hS, Nat.sub_self]; rfl
          · rw [List.length_append] at hi
            have hi' : i < S.length + 1 := hi
            rw [setI_I, if_neg (by omega), f1.2 52 _ rfl, h52 i (by omega), List.getD_eq_getElem?_getD, List.getD_eq_getElem?_getD, List.getElem?_append_left (by omega)]
      · rw [if_neg c]; exact no c
    · rw [if_neg c3]; exact no (by omega)
theorem fm_text_v (hx : x ≤ 5) (h : MB B p u) (h20 : mI u 39 20 = nI x) : TRs x u (fm_text u) (tX B p 3 0 0 [] []) := by
  have hl := h.1
  have n6 : ¬ nI x = 6 := fun q => by have := (nI_eq (b := 6) (by omega) (by decide)).mp q; omega
  unfold fm_text
  rw [gI_39 hl, h20, if_neg n6, pI_39 hl, pI_39 (show Lay (setI u 39 32 0) from hl)]
  have f2 : FF (PM x) u (setI (setI u 39 32 0) 39 40 0) := ((FF.refl _ u).st rfl).st rfl
  refine TRs.pre (f2.up (PM_T x)) ?_
  exact text_l hx 3 0 0 1000000 [] [] _ (by decide) (by decide) rfl ⟨h.cM f2, by rw [f2.2 39 20 rfl]; exact h20, by rw [setI_I, if_neg (by decide)]; exact setI_eq rfl rfl, setI_eq rfl rfl, fun k hk => absurd hk (by simp), fun i hi => absurd hi (by simp), Nat.le_refl _, Nat.zero_le _⟩
end
