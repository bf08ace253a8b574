section
variable {n m s g x p : Nat} {t0 t u : SM}
def clp (v : Int32) : Int32 := if (0 : Int32) ≤ v then if v ≤ 999 then v else 999 else 0
theorem fm_asksOf_v (h : Inv n m s g x p t0) (fr : FS [60, 61] t0 t) {l e a : Nat} (hl : l < x) (he : e < 3) (hw : pm t0 39 21 = nI l) (ha : a < 2 ^ n) (far wo : Int32) :
    QS [60, 61] t0 (fm_asksOf t (nI e) (nI a) far wo) (if e = 0 then evn (nms (nI a) far wo) (cds (pm t0) l e) else clp (evn (nms (nI a) far wo) (cds (pm t0) l e))) := by
  have hr := h.rng
  have hpw := pw_lt (n := n) (by omega)
  unfold fm_asksOf
  refine for_up (β := Unit) (fun f t i _ => fm_asksOf_l3 (fun t u1 u3 u4 => fm_asksOf_41 t u1 u3 u4) f t (nI e) (nI a) far wo (nI i)) (fun r => QS [60, 61] t0 r (if e = 0 then evn (nms (nI a) far wo) (cds (pm t0) l e) else clp (evn (nms (nI a) far wo) (cds (pm t0) l e)))) 4
    (fun i u _ => FS [60, 61] t0 u ∧ ∀ k, k < i → mI u 61 k = nms (nI a) far wo k) ?_ ?_ 4 0 t () 1000000 (by omega) ⟨fr, fun k hk => absurd hk (by omega)⟩ (by omega)
  · intro f u _ ⟨fu, hu⟩
    have hi := h.fr fu.1
    show QS [60, 61] t0 (fm_asksOf_3 _ _ u (nI e) (nI a) far wo (nI 4)) _
    have e4 : (4 : Int32) ≤ nI 4 := Int32.le_refl _
    have k4 : ∀ c : SM → OR, ∀ v, Lay (u : SM) → hASt u 61 4 v c = c (setI u 61 4 v) := fun c v hl => as_61 (n := 4) hl (by decide)
    have k5 : ∀ w : SM, ∀ c : SM → OR, ∀ v, Lay w → hASt w 61 5 v c = c (setI w 61 5 v) := fun w c v hl => as_61 (n := 5) hl (by decide)
    simp only [fm_asksOf_3, e4, if_true, fm_asksOf_41, gI_39, pI_39, rc_39, al_40, as_40, ln_40, al_41, as_41, ln_41, al_42, as_42, ln_42, al_43, as_43, ln_43, al_44, as_44, ln_44, al_45, as_45, ln_45, al_46, as_46, ln_46, al_47, as_47, ln_47, al_48, as_48, ln_48, al_49, as_49, ln_49, al_50, as_50, ln_50, al_51, as_51, ln_51, al_52, as_52, ln_52, al_53, as_53, ln_53, al_54, as_54, ln_54, al_55, as_55, ln_55, al_56, as_56, ln_56, al_57, as_57, ln_57, al_58, as_58, ln_58, al_59, as_59, ln_59, al_60, as_60, ln_60, al_61, as_61, ln_61, al_62, as_62, ln_62, al_63, as_63, ln_63, al_64, as_64, ln_64, al_65, as_65, ln_65, al_66, as_66, ln_66, al_67, as_67, ln_67, gC_39_4, gC_39_5, gC_39_6, gC_39_7, gC_39_8, gC_39_10, gC_39_11, gC_39_12, gC_39_13, gC_39_15, gC_39_16, gC_39_18, gC_39_19, gC_39_27, gC_39_28, gC_39_29, gC_39_30, gC_39_31, gC_39_36, gC_39_37, gC_39_41, gC_39_42, gC_39_43, gC_39_44, gC_39_46, gC_39_47, gC_39_48, gC_39_49, bI_rI, bV_rV, bQ_rN, bQ_rR, bz_0, bz_1, bz_Z, hZ0, hZ1, Lay_setI, Lay_setA, hi.lay, k4, k5]
    have fw : FS [60, 61] t0 (setI (setI u 61 4 far) 61 5 wo) := (fu.st rfl (by decide)).st rfl (by decide)
    obtain ⟨v, hv, fv⟩ := fm_worthOf_v h fw hl he hw (nms (nI a) far wo) (by
      intro k hk
      by_cases c5 : k = 5
      · rw [setI_eq rfl c5, c5]; rfl
      · rw [setI_I, if_neg (by omega)]
        by_cases c4 : k = 4
        · rw [setI_eq rfl c4, c4]; rfl
        · rw [setI_I, if_neg (by omega)]
          exact hu k (by omega))
    rw [hv, bI_rI]
    by_cases c0 : e = 0
    · rw [if_pos c0, if_pos (by rw [c0]; rfl)]
      exact ⟨v, rfl, fv⟩
    · rw [if_neg c0, if_neg (nI_ne0 (by omega) (by omega))]
      unfold clp
      refine ⟨v, ?_, fv⟩
      split
      · split <;> rfl
      · rfl
  · intro f u i _ hi4 ⟨fu, hu⟩ ih
    have hi := h.fr fu.1
    show QS [60, 61] t0 (fm_asksOf_3 _ _ u (nI e) (nI a) far wo (nI i)) _
    have e4 : ¬ (4 : Int32) ≤ nI i := nI_ge (b := 4) hi4 (by decide)
    have i6 : i < 6 := by omega
    have ev : nms (nI a) far wo i = bz (a.testBit i) := by
      unfold nms; rw [if_pos hi4, b_bit _ (by omega), b_ni _ _ (by omega)]
    simp only [fm_asksOf_3, e4, if_false, gI_39, pI_39, rc_39, al_40, as_40, ln_40, al_41, as_41, ln_41, al_42, as_42, ln_42, al_43, as_43, ln_43, al_44, as_44, ln_44, al_45, as_45, ln_45, al_46, as_46, ln_46, al_47, as_47, ln_47, al_48, as_48, ln_48, al_49, as_49, ln_49, al_50, as_50, ln_50, al_51, as_51, ln_51, al_52, as_52, ln_52, al_53, as_53, ln_53, al_54, as_54, ln_54, al_55, as_55, ln_55, al_56, as_56, ln_56, al_57, as_57, ln_57, al_58, as_58, ln_58, al_59, as_59, ln_59, al_60, as_60, ln_60, al_61, as_61, ln_61, al_62, as_62, ln_62, al_63, as_63, ln_63, al_64, as_64, ln_64, al_65, as_65, ln_65, al_66, as_66, ln_66, al_67, as_67, ln_67, gC_39_4, gC_39_5, gC_39_6, gC_39_7, gC_39_8, gC_39_10, gC_39_11, gC_39_12, gC_39_13, gC_39_15, gC_39_16, gC_39_18, gC_39_19, gC_39_27, gC_39_28, gC_39_29, gC_39_30, gC_39_31, gC_39_36, gC_39_37, gC_39_41, gC_39_42, gC_39_43, gC_39_44, gC_39_46, gC_39_47, gC_39_48, gC_39_49, bI_rI, bV_rV, bQ_rN, bQ_rR, bz_0, bz_1, bz_Z, hZ0, hZ1, Lay_setI, Lay_setA, hi.lay, hi.ch, i6, nI_1]
    by_cases c : nI n ≤ nI i
    · have cn : n ≤ i := by
        cases Nat.lt_or_ge i n with
        | inl hlt => exact absurd c (nI_ge hlt (by omega))
        | inr hge => exact hge
      rw [if_pos c]
      refine ih _ () ⟨fu.st rfl (by decide), fun k hk => ?_⟩
      by_cases ck : k = i
      · rw [setI_eq rfl ck, ck, ev, Nat.testBit_lt_two_pow (Nat.lt_of_lt_of_le ha (Nat.pow_le_pow_right (by decide) cn))]; rfl
      · rw [setI_I, if_neg (by omega)]; exact hu k (by omega)
    · rw [if_neg c]
      refine ih _ () ⟨fu.st rfl (by decide), fun k hk => ?_⟩
      by_cases ck : k = i
      · rw [setI_eq rfl ck, ck]; unfold nms; rw [if_pos hi4]
      · rw [setI_I, if_neg (by omega)]; exact hu k (by omega)
theorem fm_mayBe_v (h : Inv n m s g x p t0) (fr : FS [60, 61] t0 t) {a : Nat} (ha : a < 2 ^ n) : QS [60, 61] t0 (fm_mayBe t (nI a)) (bz (may (pm t0) (nI a))) := by
  obtain ⟨l, hl, hw⟩ := h.lwE
  have hi := h.fr fr.1
  have hr := h.rng
  have := fm_asksOf_v h fr hl (e := 0) (by decide) hw ha 0 0
  rw [if_pos rfl] at this
  obtain ⟨u, hu, fu⟩ := this
  unfold fm_mayBe
  rw [rc_39 hi.lay, show fm_asksOf t 0 (nI a) 0 0 = _ from hu, bI_rI]
  refine ⟨u, ?_, fu⟩
  unfold may
  rw [hw, cN, nI_clamp (by omega), bz_ite]
/-! the class's E, worked off: o the text, q its stack, v1 the code -/
def C2 (o q : Nat) (t u : SM) : Prop := u.2 = t.2 ∧ ∀ k j, ¬ (k = o ∧ j = 4) → k ≠ q → mI u k j = mI t k j
theorem C2.tr {o q : Nat} {t u w : SM} (h : C2 o q t u) (h2 : C2 o q u w) : C2 o q t w := ⟨h2.1.trans h.1, fun k j a b => (h2.2 k j a b).trans (h.2 k j a b)⟩
theorem C2.T {o q : Nat} {t u : SM} (h : C2 o q t u) : mT u = mT t := by unfold mT; rw [h.1]
theorem C2.R {o q : Nat} {t u : SM} (h : C2 o q t u) : mR u = mR t := by unfold mR; rw [h.1]
theorem C2.o {o q : Nat} {t : SM} {v : Int32} : C2 o q t (setI t o 4 v) := ⟨rfl, fun k j a _ => by rw [setI_I, if_neg a]⟩
theorem C2.q {o q j : Nat} {t : SM} {v : Int32} : C2 o q t (setI t q j v) := ⟨rfl, fun k i _ b => by rw [setI_I, if_neg (fun e => b e.1)]⟩
theorem push_v {o q k : Nat} {a : Int32} (ho : (mT t o).1 = 8) (hq : mR t o 3 = some q) (hT : mT t q = (20, 160)) (hh : mI t o 4 = nI k) (hlt : k < 160) (hoq : o ≠ q) :
    fTx_push t o a = rV (setI (setI t q k a) o 4 (nI (k + 1))) := by
  have a1 : ¬ nI k < 0 := nI_pos (by omega)
  have a2 : ¬ Int32.ofNat 160 ≤ nI k := nI_ge (b := 160) hlt (by decide)
  have a3 : inB (nI k) 160 = True := eq_true (nI_in hlt (by decide))
  have a4 : (nI k).toNatClampNeg = k := nI_clamp (by omega)
  have a5 : mI (setI t q k a) o 4 = nI k := by rw [setI_ne hoq, hh]
  simp only [fTx_push, hGetI, hGetR, hALen, hASt, hPutI, setI_T, ho, hq, hT, hh, if_true, a1, a2, a3, a4, a5, if_false, nI_1, and_self, show (20 ≤ 20 ∧ 20 < 50) = True by decide]
theorem pop_v {o q k : Nat} (ho : (mT t o).1 = 8) (hq : mR t o 3 = some q) (hT : mT t q = (20, 160)) (hh : mI t o 4 = nI (k + 1)) (hlt : k < 160) (hoq : o ≠ q) :
    fTx_pop t o = rI (mI t q k) (setI t o 4 (nI k)) := by
  have a1 : ¬ nI (k + 1) < 1 := nI_nlt (b := 1) (by omega) (by omega)
  have a2 : nI (k + 1) ≤ Int32.ofNat 160 := nI_le (b := 160) (by omega) (by decide)
  have a3 : inB (nI k) 160 = True := eq_true (nI_in hlt (by decide))
  have a4 : (nI k).toNatClampNeg = k := nI_clamp (by omega)
  have a6 : mI (setI t o 4 (nI k)) o 4 = nI k := setI_eq rfl rfl
  have a7 : mI (setI t o 4 (nI k)) q k = mI t q k := by rw [setI_ne (Ne.symm hoq)]
  simp only [fTx_pop, hGetI, hGetR, hALen, hALd, hPutI, setI_T, setI_R, ho, hq, hT, hh, if_true, a1, a2, a3, a4, nI_pred, a6, a7, if_false, and_self, show (20 ≤ 20 ∧ 20 < 50) = True by decide]
theorem fTx_joined_v {c : Nat} (t : SM) (a b : Int32) (h : 11 ≤ c ∧ c ≤ 19 ∧ c ≠ 13 ∧ c ≠ 19) : fTx_joined t (trn c) a b = rI (op2 c a b) t := by
  have : c = 11 ∨ c = 12 ∨ c = 14 ∨ c = 15 ∨ c = 16 ∨ c = 17 ∨ c = 18 := by omega
  rcases this with rfl | rfl | rfl | rfl | rfl | rfl | rfl
  · show fTx_joined t (-9) a b = rI (if a = 0 ∧ b = 0 then 0 else 1) t
    unfold fTx_joined
    rw [if_neg (by decide), if_neg (by decide), if_neg (by decide), if_neg (by decide), if_neg (by decide), if_neg (by decide)]
    by_cases h1 : a = 0 <;> by_cases h2 : b = 0 <;> simp [h1, h2]
  · show fTx_joined t (-8) a b = rI (if a = 0 ∨ b = 0 then 0 else 1) t
    unfold fTx_joined
    rw [if_pos rfl]
    by_cases h1 : a = 0 <;> by_cases h2 : b = 0 <;> simp [h1, h2]
  · show fTx_joined t (-6) a b = rI (if a < b then 1 else 0) t
    unfold fTx_joined
    rw [if_neg (by decide), if_neg (by decide), if_pos rfl]
    by_cases h1 : b ≤ a
    · rw [if_pos h1, if_neg (Int32.not_lt.mpr h1)]
    · rw [if_neg h1, if_pos (Int32.not_le.mp h1)]
  · show fTx_joined t (-7) a b = rI (if a = b then 1 else 0) t
    unfold fTx_joined
    rw [if_neg (by decide), if_pos rfl]
    by_cases h1 : a = b <;> simp [h1]
  · show fTx_joined t (-4) a b = rI (a + b) t
    unfold fTx_joined
    rw [if_neg (by decide), if_neg (by decide), if_neg (by decide), if_neg (by decide), if_pos rfl]
  · show fTx_joined t (-5) a b = rI (a - b) t
    unfold fTx_joined
    rw [if_neg (by decide), if_neg (by decide), if_neg (by decide), if_pos rfl]
  · show fTx_joined t (-3) a b = rI (a * b) t
    unfold fTx_joined
    rw [if_neg (by decide), if_neg (by decide), if_neg (by decide), if_neg (by decide), if_neg (by decide), if_pos rfl]
theorem vo_loop {o q v1 N : Nat} (ho : (mT t0 o).1 = 8) (hq : mR t0 o 3 = some q) (hT : mT t0 q = (20, 160)) (hoq : o ≠ q) (hv : v1 ≠ q) (hvo : v1 ≠ o) (hN : mT t0 v1 = (20, N)) (hN2 : N ≤ 160) (w far wo : Int32) :
    ∀ (r : List Nat) (i : Nat) (st : List Int32) (t : SM) (f : Nat), C2 o q t0 t → mI t o 4 = nI st.length → Stk (mI t q) st →
      (∀ k, k < r.length → vcd (r.getD k 0) ∧ mI t0 v1 (i + k) = trn (r.getD k 0)) → i + r.length = N → st.length + r.length ≤ 160 → dpt r st.length = some 1 → r.length < f →
      ∃ u, fTx_valueOf_l8 (fun t u0 => fTx_valueOf_152 t u0) f t o v1 w far wo (nI i) = rI ((r.foldl (stp (nms w far wo)) st).headD 0) u ∧ C2 o q t0 u := by
  intro r
  induction r with
  | nil =>
    intro i st t f fr hh hs hc hi hn hdp hf
    obtain ⟨f, rfl⟩ : ∃ f', f = f' + 1 := ⟨f - 1, by omega⟩
    have hi' : i = N := by simpa using hi
    have hst : st.length = 1 := by
      unfold dpt at hdp; exact Option.some.inj hdp
    obtain ⟨a, rfl⟩ : ∃ a, st = [a] := List.length_eq_one_iff.mp hst
    have ho' : (mT t o).1 = 8 := by rw [fr.T]; exact ho
    have hq' : mR t o 3 = some q := by rw [fr.R]; exact hq
    have hT' : mT t q = (20, 160) := by rw [fr.T]; exact hT
    have hN' : mT t v1 = (20, N) := by rw [fr.T]; exact hN
    have e1 : Int32.ofNat N ≤ nI i := by rw [hi']; exact Int32.le_refl _
    refine ⟨setI t o 4 (nI 0), ?_, fr.tr C2.o⟩
    show fTx_valueOf_8 _ _ t o v1 w far wo (nI i) = _
    simp only [fTx_valueOf_8, hALen, hN', show (20 ≤ 20 ∧ 20 < 50) = True by decide, if_true, e1, fTx_valueOf_152, hRecv, ho', pop_v (k := 0) ho' hq' hT' hh (by decide) hoq, bI_rI]
    have := hs.1
    simp only [List.length_nil] at this
    rw [this]; rfl
  | cons c r ih =>
    intro i st t f fr hh hs hc hi hn hdp hf
    obtain ⟨f, rfl⟩ : ∃ f', f = f' + 1 := ⟨f - 1, by omega⟩
    have hlen : (c :: r).length = r.length + 1 := rfl
    have hi' : i < N := by omega
    have ho' : (mT t o).1 = 8 := by rw [fr.T]; exact ho
    have hq' : mR t o 3 = some q := by rw [fr.R]; exact hq
    have hT' : mT t q = (20, 160) := by rw [fr.T]; exact hT
    have hN' : mT t v1 = (20, N) := by rw [fr.T]; exact hN
    have e1 : ¬ Int32.ofNat N ≤ nI i := nI_ge hi' (by omega)
    obtain ⟨hvc, hc0⟩ := hc 0 (by omega)
    have hvc' : vcd c := hvc
    have hc1 : mI t v1 i = trn c := by rw [fr.2 v1 i (fun e => hvo e.1) hv]; exact hc0
    have hcr : ∀ k, k < r.length → vcd (r.getD k 0) ∧ mI t0 v1 (i + 1 + k) = trn (r.getD k 0) := by
      intro k hk
      have := hc (k + 1) (by omega)
      rw [show i + 1 + k = i + (k + 1) by omega]
      exact this
    have a3 : inB (nI i) N = True := eq_true (nI_in hi' (by omega))
    have a4 : (nI i).toNatClampNeg = i := nI_clamp (by omega)
    show ∃ u, fTx_valueOf_8 _ _ t o v1 w far wo (nI i) = _ ∧ _
    simp only [fTx_valueOf_8, hALen, hALd, hN', show (20 ≤ 20 ∧ 20 < 50) = True by decide, if_true, e1, if_false, a3, and_self, a4, hc1]
    show ∃ u, _ = rI ((r.foldl (stp (nms w far wo)) (stp (nms w far wo) st c)).headD 0) u ∧ _
    have step : ∀ (v : Int32) (st' : List Int32) (t' : SM), C2 o q t0 t' → mI t' o 4 = nI st'.length → Stk (mI t' q) st' → st'.length < 160 → stp (nms w far wo) st c = v :: st' → dpt r (st'.length + 1) = some 1 → st'.length + 1 + r.length ≤ 160 →
        ∃ u, (hRecv t' 8 o <| bV (fTx_push t' o v) fun t9 => fTx_valueOf_l8 (fun t u0 => fTx_valueOf_152 t u0) f t9 o v1 w far wo (nI i + 1)) = rI ((r.foldl (stp (nms w far wo)) (stp (nms w far wo) st c)).headD 0) u ∧ C2 o q t0 u := by
      intro v st' t' fr' hh' hs' hl' hst hdp' hn'
      have k1 : (mT t' o).1 = 8 := by rw [fr'.T]; exact ho
      have k2 : mR t' o 3 = some q := by rw [fr'.R]; exact hq
      have k3 : mT t' q = (20, 160) := by rw [fr'.T]; exact hT
      rw [hst, hRecv, if_pos k1, push_v k1 k2 k3 hh' hl' hoq, bV_rV, nI_1]
      refine ih (i + 1) (v :: st') _ f ((fr'.tr C2.q).tr C2.o) (setI_eq rfl rfl) ?_ hcr (by omega) hn' hdp' (by omega)
      refine ⟨?_, Stk.cg (fun j hj => ?_) hs'⟩
      · rw [setI_ne (Ne.symm hoq), setI_eq rfl rfl]
      · rw [setI_ne (Ne.symm hoq), setI_I, if_neg (by omega)]
    rcases hvc' with hA | hB | hC
    · have b1 : trn c = nI (c - 100000) := by unfold trn; rw [if_pos hA.1]
      have b2 : ¬ nI (c - 100000) < 0 := nI_pos (by omega)
      rw [b1, if_neg b2]
      exact step _ st t fr hh hs (by omega) (stp_n hA.1) (dp_push (Or.inl hA.1) hdp) (by omega)
    · have hs6 : c = 0 ∨ c = 1 ∨ c = 2 ∨ c = 3 ∨ c = 4 ∨ c = 5 := by omega
      have hst := stp_m (nm := nms w far wo) (st := st) (c := c) (by omega)
      have hd2 := dp_push (Or.inr (by omega)) hdp
      rcases hs6 with rfl | rfl | rfl | rfl | rfl | rfl
      · rw [show trn 0 = -20 by decide, if_pos (by decide), if_neg (by decide), if_neg (by decide), if_neg (by decide)]
        exact step _ st t fr hh hs (by omega) hst hd2 (by omega)
      · rw [show trn 1 = -21 by decide, if_pos (by decide), if_neg (by decide), if_neg (by decide), if_neg (by decide)]
        exact step _ st t fr hh hs (by omega) hst hd2 (by omega)
      · rw [show trn 2 = -22 by decide, if_pos (by decide), if_neg (by decide), if_neg (by decide), if_neg (by decide)]
        exact step _ st t fr hh hs (by omega) hst hd2 (by omega)
      · rw [show trn 3 = -23 by decide, if_pos (by decide), if_neg (by decide), if_neg (by decide), if_neg (by decide)]
        exact step _ st t fr hh hs (by omega) hst hd2 (by omega)
      · rw [show trn 4 = -24 by decide, if_pos (by decide), if_neg (by decide), if_pos (by decide)]
        exact step _ st t fr hh hs (by omega) hst hd2 (by omega)
      · rw [show trn 5 = -25 by decide, if_pos (by decide), if_neg (by decide), if_neg (by decide), if_pos (by decide)]
        exact step _ st t fr hh hs (by omega) hst hd2 (by omega)
    · have cut1 : ∀ a st', st = a :: st' → mI t q st'.length = a ∧ Stk (mI t q) st' ∧ hRecv t 8 o (α := RR) = fun c => c := by
        intro a st' e
        subst e
        exact ⟨hs.1, hs.2, funext fun c => by unfold hRecv; rw [if_pos ho']⟩
      by_cases h13 : c = 13
      · subst h13
        obtain ⟨d1, d2⟩ := dp_one (Or.inl rfl) hdp
        obtain ⟨a, st', rfl⟩ : ∃ a st', st = a :: st' := by
          cases st with
          | nil => simp at d1
          | cons a st' => exact ⟨a, st', rfl⟩
        have b3 : st'.length < 160 := by simp at hn; omega
        rw [show trn 13 = -2 by decide, if_pos (by decide), if_pos (by decide), if_neg (by decide), if_pos (by decide), hRecv, if_pos ho', pop_v ho' hq' hT' hh b3 hoq, bI_rI, hs.1]
        have hs2 : Stk (mI (setI t o 4 (nI st'.length)) q) st' := by rw [setI_ne (Ne.symm hoq)]; exact hs.2
        by_cases ha : a = 0
        · rw [if_pos ha]
          exact step 1 st' _ (fr.tr C2.o) (setI_eq rfl rfl) hs2 b3 (by rw [stp_13, if_pos ha]) d2 (by simp at hn; omega)
        · rw [if_neg ha]
          exact step 0 st' _ (fr.tr C2.o) (setI_eq rfl rfl) hs2 b3 (by rw [stp_13, if_neg ha]) d2 (by simp at hn; omega)
      · by_cases h19 : c = 19
        · subst h19
          obtain ⟨d1, d2⟩ := dp_one (Or.inr rfl) hdp
          obtain ⟨a, st', rfl⟩ : ∃ a st', st = a :: st' := by
            cases st with
            | nil => simp at d1
            | cons a st' => exact ⟨a, st', rfl⟩
          have b3 : st'.length < 160 := by simp at hn; omega
          rw [show trn 19 = -1 by decide, if_pos (by decide), if_pos (by decide), if_pos (by decide), hRecv, if_pos ho', pop_v ho' hq' hT' hh b3 hoq, bI_rI, hs.1]
          have hs2 : Stk (mI (setI t o 4 (nI st'.length)) q) st' := by rw [setI_ne (Ne.symm hoq)]; exact hs.2
          exact step (-a) st' _ (fr.tr C2.o) (setI_eq rfl rfl) hs2 b3 rfl d2 (by simp at hn; omega)
        · have h2 : 11 ≤ c ∧ c ≤ 19 ∧ c ≠ 13 ∧ c ≠ 19 := ⟨hC.1, hC.2, h13, h19⟩
          obtain ⟨d1, d2⟩ := dp_two h2 hdp
          obtain ⟨b, a, st', rfl⟩ : ∃ b a st', st = b :: a :: st' := by
            cases st with
            | nil => simp at d1
            | cons b st2 =>
              cases st2 with
              | nil => simp at d1
              | cons a st' => exact ⟨b, a, st', rfl⟩
          have b3 : st'.length < 160 := by simp at hn; omega
          have b4 : st'.length + 1 < 160 := by simp at hn; omega
          have q1 : mI t q (st'.length + 1) = b := hs.1
          have q2 : mI t q st'.length = a := hs.2.1
          have hneg : trn c < 0 ∧ -20 < trn c ∧ ¬ trn c = -1 ∧ ¬ trn c = -2 := by
            have : c = 11 ∨ c = 12 ∨ c = 14 ∨ c = 15 ∨ c = 16 ∨ c = 17 ∨ c = 18 := by omega
            rcases this with rfl | rfl | rfl | rfl | rfl | rfl | rfl <;> decide
          have k1 : (mT (setI t o 4 (nI (st'.length + 1))) o).1 = 8 := ho'
          have k2 : mR (setI t o 4 (nI (st'.length + 1))) o 3 = some q := hq'
          have k3 : mT (setI t o 4 (nI (st'.length + 1))) q = (20, 160) := hT'
          rw [if_pos hneg.1, if_pos hneg.2.1, if_neg hneg.2.2.1, if_neg hneg.2.2.2, hRecv, if_pos ho', pop_v (k := st'.length + 1) ho' hq' hT' hh b4 hoq, bI_rI, hRecv, if_pos k1,
            pop_v (k := st'.length) k1 k2 k3 (setI_eq rfl rfl) b3 hoq, bI_rI, setI_ne (Ne.symm hoq), q1, q2, fTx_joined_v _ a b h2, bI_rI]
          exact step _ st' _ ((fr.tr C2.o).tr C2.o) (setI_eq rfl rfl) (by rw [setI_ne (Ne.symm hoq), setI_ne (Ne.symm hoq)]; exact hs.2.2) b3 (stp_2 h2) d2 (by simp at hn; omega)
theorem fTx_valueOf_v {o q v1 : Nat} (ho : (mT t o).1 = 8) (hq : mR t o 3 = some q) (hT : mT t q = (20, 160)) (hoq : o ≠ q) (hv : v1 ≠ q) (hvo : v1 ≠ o) (cs : List Nat) (hN : mT t v1 = (20, cs.length)) (hN2 : cs.length ≤ 160)
    (hcs : ∀ k, k < cs.length → vcd (cs.getD k 0) ∧ mI t v1 k = trn (cs.getD k 0)) (hdp : dpt cs 0 = some 1) (w far wo : Int32) :
    ∃ u, fTx_valueOf t o v1 w far wo = rI (evn (nms w far wo) cs) u ∧ C2 o q t u := by
  unfold fTx_valueOf hPutI
  rw [if_pos ho]
  obtain ⟨u, hu, fu⟩ := vo_loop (t0 := setI t o 4 0) ho hq hT hoq hv hvo hN hN2 w far wo cs 0 [] (setI t o 4 0) 1000000 ⟨rfl, fun _ _ _ _ => rfl⟩ (setI_eq rfl rfl) trivial
    (fun k hk => ⟨(hcs k hk).1, by rw [Nat.zero_add, setI_ne hvo]; exact (hcs k hk).2⟩) (by omega) (by simp; omega) hdp (by omega)
  exact ⟨u, hu, C2.o.tr fu⟩
end
section
variable {n m s g x p : Nat} {t0 t u : SM}
theorem tx_tag {G : GG} {R : Nat → Nat → Option Nat} {T : Nat → Nat × Nat} {N i q : Nat} (h : TxA G R T N i q) : (T (q - 1)).1 = 20 ∧ (T (q - 1 - 1)).1 = 20 ∧ (T (q - 1 - 1 - 1)).1 = 20 := by
  have h1 := h.1.1
  obtain ⟨_, b, d, _, _, _, _, e2, _⟩ := h.2.2.2.2.2.1 2 (by decide)
  obtain ⟨_, b1, d1, _, _, _, _, e1, _⟩ := h.2.2.2.2.2.1 1 (by decide)
  obtain ⟨_, b0, d0, _, _, _, _, e0, _⟩ := h.2.2.2.2.2.1 0 (by decide)
  refine ⟨?_, ?_, ?_⟩
  · rw [show q - 1 = q - 3 + 2 by omega, e2]
  · rw [show q - 1 - 1 = q - 3 + 1 by omega, e1]
  · rw [show q - 1 - 1 - 1 = q - 3 + 0 by omega, e0]
theorem scrF_29 {q j : Nat} (h : (26 ≤ q ∧ q ≤ 30) ∨ 68 ≤ q) : scrF q j = false := by
  rcases h with h | h
  · have : q = 26 ∨ q = 27 ∨ q = 28 ∨ q = 29 ∨ q = 30 := by omega
    rcases this with rfl | rfl | rfl | rfl | rfl <;> rfl
  · exact scrF_hi h
/-- a text's row of allowed towns -/
theorem tx_alw {i q : Nat} (h : TxA (pm t) (mR t) (mT t) (mN t) i q) : mI t q 5 = pm t q 5 :=
  pm_hp (scrF_29 (by have := h.1.1; omega)) (fun _ => by decide) (by rw [(tx_tag h).1]; decide)
theorem lawText_v (h : Inv n m s g x p t) : ∃ q l, fx_lawText t = rR q t ∧ l < x ∧ pm t 39 21 = nI l ∧ TxA (pm t) (mR t) (mT t) (mN t) l q := by
  have hr := h.rng
  obtain ⟨l, hl, hw⟩ := h.lwE
  obtain ⟨q, hq, hx⟩ := h.txs l hl
  refine ⟨q, l, ?_, hl, hw, hx⟩
  have hw' : mI t 0 9 = nI l := h.lw'.trans hw
  have e1 : ¬ nI l < 0 := nI_pos (by omega)
  have e2 : ¬ nI 6 ≤ nI l := nI_ge (by omega) (by omega)
  simp only [fx_lawText, gI_0, pI_0, rc_0, gI_1, pI_1, rc_1, ln_2, ql_2, al_3, as_3, ln_3, al_4, as_4, ln_4, gI_5, pI_5, rc_5, ln_6, ql_6, al_7, as_7, ln_7, al_8, as_8, ln_8, ln_9, ql_9, gI_10, pI_10, rc_10, al_11, as_11, ln_11, al_12, as_12, ln_12, gI_13, pI_13, rc_13, al_14, as_14, ln_14, ln_15, ql_15, gI_16, pI_16, rc_16, al_17, as_17, ln_17, al_18, as_18, ln_18, al_19, as_19, ln_19, al_20, as_20, ln_20, bl_21, bs_21, ln_21, gI_22, pI_22, rc_22, al_23, as_23, ln_23, al_24, as_24, ln_24, al_25, as_25, ln_25, gI_31, pI_31, rc_31, al_32, as_32, ln_32, gI_33, pI_33, rc_33, al_34, as_34, ln_34, gI_35, pI_35, rc_35, al_36, as_36, ln_36, gI_37, pI_37, rc_37, al_38, as_38, ln_38, gC_0_3, gC_0_4, gC_0_5, gC_0_7, gC_0_10, gC_0_11, gC_0_12, gC_0_13, gC_0_14, gC_0_15, gC_0_16, gC_0_17, gC_1_0, gC_1_2, gC_1_3, gC_5_0, gC_5_2, gC_10_0, gC_10_7, gC_13_5, gC_16_0, gC_16_2, gC_22_0, gC_22_1, gC_22_2, gC_22_3, gC_31_2, gC_33_2, gC_35_2, gC_37_2, bI_rI, bV_rV, bQ_rN, bQ_rR, bz_0, bz_1, bz_Z, hZ0, hZ1, Lay_setI, Lay_setA, h.lay, hw', e1, e2, if_false]
  exact ql_9 h.lay (by omega) hq
theorem nms_16 {w : Nat} (far wo : Int32) (hw : w < 512) : nms (nI (w % 16)) far wo = nms (nI w) far wo := by
  funext k
  unfold nms
  by_cases hk : k < 4
  · rw [if_pos hk, if_pos hk, b_bit _ (by omega), b_bit _ (by omega), b_ni _ _ (by omega), b_ni _ _ (by omega)]
    congr 1
    rw [show (16 : Nat) = 2 ^ 4 from rfl, Nat.testBit_mod_two_pow]
    simp [hk]
  · rw [if_neg hk, if_neg hk]
theorem fx_lawAllows_v (h : Inv n m s g x p t) {w : Nat} (hw : w < 2 ^ n) : fx_lawAllows t (nI w) = rI (bz (may (pm t) (nI w))) t := by
  have hr := h.rng
  have hpw := pw_lt (n := n) (by omega)
  obtain ⟨q, l, e1, hl, hl2, hx⟩ := lawText_v h
  have e15 : nI w &&& 15 = nI (w % 16) := by
    show nI w &&& nI 15 = _
    rw [nI_and]
    exact congrArg nI (Nat.and_two_pow_sub_one_eq_mod w 4)
  have k1 : ∀ c : OR, hRecv t 8 q c = c := fun c => if_pos hx.2.1
  have k2 : ∀ c : Int32 → OR, hGetI t 8 q 5 c = c (pm t q 5) := fun c => by unfold hGetI; rw [if_pos hx.2.1, tx_alw hx]
  simp only [fx_lawAllows, gI_0, pI_0, rc_0, gI_1, pI_1, rc_1, ln_2, ql_2, al_3, as_3, ln_3, al_4, as_4, ln_4, gI_5, pI_5, rc_5, ln_6, ql_6, al_7, as_7, ln_7, al_8, as_8, ln_8, ln_9, ql_9, gI_10, pI_10, rc_10, al_11, as_11, ln_11, al_12, as_12, ln_12, gI_13, pI_13, rc_13, al_14, as_14, ln_14, ln_15, ql_15, gI_16, pI_16, rc_16, al_17, as_17, ln_17, al_18, as_18, ln_18, al_19, as_19, ln_19, al_20, as_20, ln_20, bl_21, bs_21, ln_21, gI_22, pI_22, rc_22, al_23, as_23, ln_23, al_24, as_24, ln_24, al_25, as_25, ln_25, gI_31, pI_31, rc_31, al_32, as_32, ln_32, gI_33, pI_33, rc_33, al_34, as_34, ln_34, gI_35, pI_35, rc_35, al_36, as_36, ln_36, gI_37, pI_37, rc_37, al_38, as_38, ln_38, gC_0_3, gC_0_4, gC_0_5, gC_0_7, gC_0_10, gC_0_11, gC_0_12, gC_0_13, gC_0_14, gC_0_15, gC_0_16, gC_0_17, gC_1_0, gC_1_2, gC_1_3, gC_5_0, gC_5_2, gC_10_0, gC_10_7, gC_13_5, gC_16_0, gC_16_2, gC_22_0, gC_22_1, gC_22_2, gC_22_3, gC_31_2, gC_33_2, gC_35_2, gC_37_2, bI_rI, bV_rV, bQ_rN, bQ_rR, bz_0, bz_1, bz_Z, hZ0, hZ1, Lay_setI, Lay_setA, h.lay, e1, k1, fTx_allows, k2, e15]
  rw [b_bit _ (by omega), hx.2.2.2.2.2.2 (w % 16) (by omega), nms_16 0 0 (by omega)]
  unfold may
  rw [hl2, cN, nI_clamp (by omega)]
  by_cases c : evn (nms (nI w) 0 0) (cds (pm t) l 0) = 0
  · simp [c, bz, bI_rI]
  · simp [c, bz, bI_rI]
/-- whether a town may be the right one by law and sight -/
def act (G : GG) (w : Int32) : Bool := decide ((w &&& G 39 1) = G 39 2) && may G w
theorem fx_mayBeRight_v (h : Inv n m s g x p t) {w : Nat} (hw : w < 2 ^ n) : fx_mayBeRight t (nI w) = rI (bz (act (pm t) (nI w))) t := by
  simp only [fx_mayBeRight, gI_0, pI_0, rc_0, gI_1, pI_1, rc_1, ln_2, ql_2, al_3, as_3, ln_3, al_4, as_4, ln_4, gI_5, pI_5, rc_5, ln_6, ql_6, al_7, as_7, ln_7, al_8, as_8, ln_8, ln_9, ql_9, gI_10, pI_10, rc_10, al_11, as_11, ln_11, al_12, as_12, ln_12, gI_13, pI_13, rc_13, al_14, as_14, ln_14, ln_15, ql_15, gI_16, pI_16, rc_16, al_17, as_17, ln_17, al_18, as_18, ln_18, al_19, as_19, ln_19, al_20, as_20, ln_20, bl_21, bs_21, ln_21, gI_22, pI_22, rc_22, al_23, as_23, ln_23, al_24, as_24, ln_24, al_25, as_25, ln_25, gI_31, pI_31, rc_31, al_32, as_32, ln_32, gI_33, pI_33, rc_33, al_34, as_34, ln_34, gI_35, pI_35, rc_35, al_36, as_36, ln_36, gI_37, pI_37, rc_37, al_38, as_38, ln_38, gC_0_3, gC_0_4, gC_0_5, gC_0_7, gC_0_10, gC_0_11, gC_0_12, gC_0_13, gC_0_14, gC_0_15, gC_0_16, gC_0_17, gC_1_0, gC_1_2, gC_1_3, gC_5_0, gC_5_2, gC_10_0, gC_10_7, gC_13_5, gC_16_0, gC_16_2, gC_22_0, gC_22_1, gC_22_2, gC_22_3, gC_31_2, gC_33_2, gC_35_2, gC_37_2, bI_rI, bV_rV, bQ_rN, bQ_rR, bz_0, bz_1, bz_Z, hZ0, hZ1, Lay_setI, Lay_setA, h.lay, h.sn', h.so', fx_lawAllows_v h hw, bz_b0, act]
  by_cases c : (nI w &&& pm t 39 1) = pm t 39 2
  · rw [if_pos c, decide_eq_true c, Bool.true_and]
  · rw [if_neg c, decide_eq_false c]; rfl
/-- the maps that agree, as bits -/
def agB (G : GG) (m : Nat) (w : Int32) : Int32 := orf (fun i => agr G i w) m
theorem bt_agB {G : GG} {m : Nat} {w : Int32} (hm : m ≤ 8) {i : Nat} (hi : i < 32) : bt (agB G m w) i = (decide (i < m) && agr G i w) := bt_orf _ m (by omega) i hi
theorem fAt_agreeingWith_v (h : Inv n m s g x p t) {w : Nat} (hw : w < 512) : fAt_agreeingWith t (nI w) = rI (agB (pm t) m (nI w)) t := by
  have hr := h.rng
  obtain ⟨r, hr2, hr3, hr4⟩ := h.agg w hw
  simp only [fAt_agreeingWith, gI_0, pI_0, rc_0, gI_1, pI_1, rc_1, ln_2, ql_2, al_3, as_3, ln_3, al_4, as_4, ln_4, gI_5, pI_5, rc_5, ln_6, ql_6, al_7, as_7, ln_7, al_8, as_8, ln_8, ln_9, ql_9, gI_10, pI_10, rc_10, al_11, as_11, ln_11, al_12, as_12, ln_12, gI_13, pI_13, rc_13, al_14, as_14, ln_14, ln_15, ql_15, gI_16, pI_16, rc_16, al_17, as_17, ln_17, al_18, as_18, ln_18, al_19, as_19, ln_19, al_20, as_20, ln_20, bl_21, bs_21, ln_21, gI_22, pI_22, rc_22, al_23, as_23, ln_23, al_24, as_24, ln_24, al_25, as_25, ln_25, gI_31, pI_31, rc_31, al_32, as_32, ln_32, gI_33, pI_33, rc_33, al_34, as_34, ln_34, gI_35, pI_35, rc_35, al_36, as_36, ln_36, gI_37, pI_37, rc_37, al_38, as_38, ln_38, gC_0_3, gC_0_4, gC_0_5, gC_0_7, gC_0_10, gC_0_11, gC_0_12, gC_0_13, gC_0_14, gC_0_15, gC_0_16, gC_0_17, gC_1_0, gC_1_2, gC_1_3, gC_5_0, gC_5_2, gC_10_0, gC_10_7, gC_13_5, gC_16_0, gC_16_2, gC_22_0, gC_22_1, gC_22_2, gC_22_3, gC_31_2, gC_33_2, gC_35_2, gC_37_2, bI_rI, bV_rV, bQ_rN, bQ_rR, bz_0, bz_1, bz_Z, hZ0, hZ1, Lay_setI, Lay_setA, h.lay, L_nai h.lay (by decide : 3 < 68) (rfl : layF 3 = (20, 512)) hw, rp_3, hr3, fAt_everyMap_v h]
  congr 1
  apply b_ext
  intro i hi
  rw [b_and, bt_mask (by omega), bt_agB (by omega) hi, b_ni _ _ (by omega)]
  by_cases c : i < m
  · simp [c, hr4 i c]
  · simp [c]
end
