section
/-! a stack in a row -/
/-- what stays, and all fixed cells but some -/
def FS (S : List Nat) (t u : SM) : Prop := Fr t u ∧ ∀ k, fxB k = true → k ∉ S → mI u k = mI t k
def QS (S : List Nat) (t : SM) (r : OR) (v : Int32) : Prop := ∃ u, r = rI v u ∧ FS S t u
def VS (S : List Nat) (t : SM) (r : OR) (P : SM → Prop) : Prop := ∃ u, r = rV u ∧ FS S t u ∧ P u
theorem FS.refl (S : List Nat) (t : SM) : FS S t t := ⟨Fr.refl t, fun _ _ _ => rfl⟩
theorem FS.tr {S : List Nat} {t u w : SM} (h : FS S t u) (h2 : FS S u w) : FS S t w := ⟨h.1.trans h2.1, fun k a b => (h2.2 k a b).trans (h.2 k a b)⟩
theorem FS.up {S S' : List Nat} {t u : SM} (h : FS S t u) (hs : (S.all fun k => S'.contains k) = true) : FS S' t u :=
  ⟨h.1, fun k a b => h.2 k a (fun c => b (List.elem_iff.mp (List.all_eq_true.mp hs k c)))⟩
/-- the same behind a call's own frame -/
theorem FS.tu {S S' : List Nat} {t u w : SM} (h : FS S' t u) (h2 : FS S u w) (hs : (S.all fun k => S'.contains k) = true) : FS S' t w := h.tr (h2.up hs)
def IS (S : List Nat) (t : SM) (r : OR) (v : Int32) (P : SM → Prop) : Prop := ∃ u, r = rI v u ∧ FS S t u ∧ P u
theorem FS.st {S : List Nat} {t u : SM} {k j : Nat} {v : Int32} (h : FS S t u) (h1 : scrF k j = true) (h2 : k ∈ S) : FS S t (setI u k j v) :=
  ⟨h.1.trans (Fr.setF h1), fun q a b => (setI_ne (k := k) (q := q) (fun e => b (by rw [e]; exact h2))).trans (h.2 q a b)⟩
theorem FS.row {S : List Nat} {t u : SM} (h : FS S t u) (k : Nat) (h1 : fxB k = true) (h2 : k ∉ S) (j : Nat) : mI u k j = mI t k j := by rw [h.2 k h1 h2]
def Stk (f : Nat → Int32) : List Int32 → Prop
  | [] => True
  | a :: r => f r.length = a ∧ Stk f r
theorem Stk.cg {f f' : Nat → Int32} : ∀ {st : List Int32}, (∀ i, i < st.length → f' i = f i) → Stk f st → Stk f' st
  | [], _, _ => trivial
  | a :: r, h, hs => ⟨by rw [h r.length (Nat.lt_succ_self _)]; exact hs.1, Stk.cg (fun i hi => h i (Nat.lt_succ_of_lt hi)) hs.2⟩
theorem dp_push {c : Nat} {r : List Nat} {d e : Nat} (h : 100000 ≤ c ∨ c < 11) (hd : dpt (c :: r) d = some e) : dpt r (d + 1) = some e := by
  unfold dpt at hd; rw [if_pos h] at hd; exact hd
theorem dp_one {c : Nat} {r : List Nat} {d e : Nat} (h : c = 13 ∨ c = 19) (hd : dpt (c :: r) d = some e) : 1 ≤ d ∧ dpt r d = some e := by
  unfold dpt at hd
  rw [if_neg (by omega), if_pos h] at hd
  by_cases h1 : d < 1
  · rw [if_pos h1] at hd; exact absurd hd (by simp)
  · rw [if_neg h1] at hd; exact ⟨by omega, hd⟩
theorem dp_two {c : Nat} {r : List Nat} {d e : Nat} (h : 11 ≤ c ∧ c ≤ 19 ∧ c ≠ 13 ∧ c ≠ 19) (hd : dpt (c :: r) d = some e) : 2 ≤ d ∧ dpt r (d - 1) = some e := by
  unfold dpt at hd
  rw [if_neg (by omega), if_neg (by omega)] at hd
  by_cases h1 : d < 2
  · rw [if_pos h1] at hd; exact absurd hd (by simp)
  · rw [if_neg h1] at hd; exact ⟨by omega, hd⟩
variable {nm : Nat → Int32} {st : List Int32} {c : Nat}
theorem stp_n (h : 100000 ≤ c) : stp nm st c = nI (c - 100000) :: st := by unfold stp; rw [if_pos h]
theorem stp_m (h : c < 11) : stp nm st c = nm c :: st := by unfold stp; rw [if_neg (by omega), if_pos h]
theorem stp_13 {a : Int32} : stp nm (a :: st) 13 = (if a = 0 then 1 else 0) :: st := rfl
theorem stp_19 {a : Int32} : stp nm (a :: st) 19 = (-a) :: st := rfl
theorem stp_2 {a b : Int32} (h : 11 ≤ c ∧ c ≤ 19 ∧ c ≠ 13 ∧ c ≠ 19) : stp nm (b :: a :: st) c = op2 c a b :: st := by
  unfold stp; rw [if_neg (by omega), if_neg (by omega), if_neg (by omega), if_neg (by omega)]
theorem fm_two_v (t : SM) (a b : Int32) (h : 11 ≤ c ∧ c ≤ 19 ∧ c ≠ 13 ∧ c ≠ 19) : fm_two t (nI c) a b = rI (op2 c a b) t := by
  have : c = 11 ∨ c = 12 ∨ c = 14 ∨ c = 15 ∨ c = 16 ∨ c = 17 ∨ c = 18 := by omega
  rcases this with rfl | rfl | rfl | rfl | rfl | rfl | rfl
  · show _ = rI (if a = 0 ∧ b = 0 then 0 else 1) t
    unfold fm_two
    rw [if_pos (by decide)]
    by_cases h1 : a = 0 <;> by_cases h2 : b = 0 <;> simp [h1, h2]
  · show _ = rI (if a = 0 ∨ b = 0 then 0 else 1) t
    unfold fm_two
    rw [if_neg (by decide), if_pos (by decide)]
    by_cases h1 : a = 0 <;> by_cases h2 : b = 0 <;> simp [h1, h2]
  · show _ = rI (if a < b then 1 else 0) t
    unfold fm_two
    rw [if_neg (by decide), if_neg (by decide), if_neg (by decide), if_pos (by decide)]
    by_cases h1 : b ≤ a
    · rw [if_pos h1, if_neg (Int32.not_lt.mpr h1)]
    · rw [if_neg h1, if_pos (Int32.not_le.mp h1)]
  · show _ = rI (if a = b then 1 else 0) t
    unfold fm_two
    rw [if_neg (by decide), if_neg (by decide), if_neg (by decide), if_neg (by decide), if_pos (by decide)]
    by_cases h1 : a = b <;> simp [h1]
  · show _ = rI (a + b) t
    unfold fm_two
    rw [if_neg (by decide), if_neg (by decide), if_neg (by decide), if_neg (by decide), if_neg (by decide), if_pos (by decide)]
  · show _ = rI (a - b) t
    unfold fm_two
    rw [if_neg (by decide), if_neg (by decide), if_neg (by decide), if_neg (by decide), if_neg (by decide), if_neg (by decide), if_pos (by decide)]
  · show _ = rI (a * b) t
    unfold fm_two
    rw [if_neg (by decide), if_neg (by decide), if_neg (by decide), if_neg (by decide), if_neg (by decide), if_neg (by decide), if_neg (by decide)]
theorem l4 (a : Nat) : (4 : Int32) * nI a = nI (4 * a) := pk_mul 4 a
theorem l200 (a : Nat) : (200 : Int32) * nI a = nI (200 * a) := pk_mul 200 a
theorem l40 (a : Nat) : (40 : Int32) * nI a = nI (40 * a) := pk_mul 40 a
theorem l128 (a : Nat) : (128 : Int32) * nI a = nI (128 * a) := pk_mul 128 a
theorem al0_60 {t : SM} {f : Int32 → OR} (h : Lay t) : hALd t 60 0 f = f (mI t 60 0) := al_60 (n := 0) h (by decide)
end
section
variable {n m s g x p : Nat} {t0 t u : SM}
/-- the model's E, worked off -/
theorem wo_loop (h : Inv n m s g x p t0) {l d e : Nat} (hl : l < 6) (he : e < 3) (hw : pm t0 39 21 = nI l) (hd : pm t0 52 (4 * l + e + 1) = nI d) (hd2 : d ≤ 160) (nm : Nat → Int32) :
    ∀ (r : List Nat) (i : Nat) (st : List Int32) (t : SM) (f : Nat), FS [60, 61] t0 t → (∀ k, k < 6 → mI t 61 k = nm k) →
      (∀ k, k < r.length → vcd (r.getD k 0) ∧ pm t0 51 (200 * l + (i + k)) = nI (r.getD k 0)) → i + r.length = d → st.length + r.length ≤ 200 → Stk (mI t 60) st → dpt r st.length = some 1 → r.length < f →
      QS [60, 61] t0 (fm_worthOf_l16 (fun t => fm_worthOf_197 t) f t (nI e) (nI st.length) (nI i)) ((r.foldl (stp nm) st).headD 0) := by
  intro r
  induction r with
  | nil =>
    intro i st t f fr hnm hc hi hn hs hdp hf
    obtain ⟨f, rfl⟩ : ∃ f', f = f' + 1 := ⟨f - 1, by omega⟩
    have ht := h.fr fr.1
    have hi' : i = d := by simpa using hi
    have e52 : 4 * l + e + 1 < 24 := by omega
    have hd' : pm t 52 (4 * l + e + 1) = nI d := by rw [fr.1.2]; exact hd
    have hw' : mI t 39 21 = nI l := by rw [ht.lw, fr.1.2]; exact hw
    have e1 : nI d ≤ nI i := by rw [hi']; exact Int32.le_refl _
    have hst : st.length = 1 := by
      unfold dpt at hdp; exact Option.some.inj hdp
    obtain ⟨a, rfl⟩ : ∃ a, st = [a] := List.length_eq_one_iff.mp hst
    refine ⟨t, ?_, fr⟩
    show fm_worthOf_16 _ _ t (nI e) _ (nI i) = _
    simp only [fm_worthOf_16, gI_39, pI_39, rc_39, al_40, as_40, ln_40, al_41, as_41, ln_41, al_42, as_42, ln_42, al_43, as_43, ln_43, al_44, as_44, ln_44, al_45, as_45, ln_45, al_46, as_46, ln_46, al_47, as_47, ln_47, al_48, as_48, ln_48, al_49, as_49, ln_49, al_50, as_50, ln_50, al_51, as_51, ln_51, al_52, as_52, ln_52, al_53, as_53, ln_53, al_54, as_54, ln_54, al_55, as_55, ln_55, al_56, as_56, ln_56, al_57, as_57, ln_57, al_58, as_58, ln_58, al_59, as_59, ln_59, al_60, as_60, ln_60, al_61, as_61, ln_61, al_62, as_62, ln_62, al_63, as_63, ln_63, al_64, as_64, ln_64, al_65, as_65, ln_65, al_66, as_66, ln_66, al_67, as_67, ln_67, gC_39_4, gC_39_5, gC_39_6, gC_39_7, gC_39_8, gC_39_10, gC_39_11, gC_39_12, gC_39_13, gC_39_15, gC_39_16, gC_39_18, gC_39_19, gC_39_27, gC_39_28, gC_39_29, gC_39_30, gC_39_31, gC_39_36, gC_39_37, gC_39_41, gC_39_42, gC_39_43, gC_39_44, gC_39_46, gC_39_47, gC_39_48, gC_39_49, bI_rI, bV_rV, bQ_rN, bQ_rR, bz_0, bz_1, bz_Z, hZ0, hZ1, Lay_setI, Lay_setA, ht.lay, hw', l4, nI_add, nI_1, e52, rp_52, hd', e1, if_true, fm_worthOf_197, al0_60]
    have := hs.1
    simp only [List.length_nil] at this
    rw [this]; rfl
  | cons c r ih =>
    intro i st t f fr hnm hc hi hn hs hdp hf
    obtain ⟨f, rfl⟩ : ∃ f', f = f' + 1 := ⟨f - 1, by omega⟩
    have ht := h.fr fr.1
    have hlen : (c :: r).length = r.length + 1 := rfl
    have hi' : i < d := by omega
    have e52 : 4 * l + e + 1 < 24 := by omega
    have hd' : pm t 52 (4 * l + e + 1) = nI d := by rw [fr.1.2]; exact hd
    have hw' : mI t 39 21 = nI l := by rw [ht.lw, fr.1.2]; exact hw
    have e1 : ¬ nI d ≤ nI i := nI_ge hi' (by omega)
    have e51 : 200 * l + i < 1200 := by omega
    obtain ⟨hv, hc0⟩ := hc 0 (by omega)
    have hc1 : pm t 51 (200 * l + i) = nI c := by rw [fr.1.2]; exact hc0
    have hv' : vcd c := hv
    have hcr : ∀ k, k < r.length → vcd (r.getD k 0) ∧ pm t0 51 (200 * l + (i + 1 + k)) = nI (r.getD k 0) := by
      intro k hk
      have := hc (k + 1) (by omega)
      rw [show i + 1 + k = i + (k + 1) by omega]
      exact this
    show QS [60, 61] t0 (fm_worthOf_16 _ _ t (nI e) _ (nI i)) _
    simp only [fm_worthOf_16, gI_39, pI_39, rc_39, al_40, as_40, ln_40, al_41, as_41, ln_41, al_42, as_42, ln_42, al_43, as_43, ln_43, al_44, as_44, ln_44, al_45, as_45, ln_45, al_46, as_46, ln_46, al_47, as_47, ln_47, al_48, as_48, ln_48, al_49, as_49, ln_49, al_50, as_50, ln_50, al_51, as_51, ln_51, al_52, as_52, ln_52, al_53, as_53, ln_53, al_54, as_54, ln_54, al_55, as_55, ln_55, al_56, as_56, ln_56, al_57, as_57, ln_57, al_58, as_58, ln_58, al_59, as_59, ln_59, al_60, as_60, ln_60, al_61, as_61, ln_61, al_62, as_62, ln_62, al_63, as_63, ln_63, al_64, as_64, ln_64, al_65, as_65, ln_65, al_66, as_66, ln_66, al_67, as_67, ln_67, gC_39_4, gC_39_5, gC_39_6, gC_39_7, gC_39_8, gC_39_10, gC_39_11, gC_39_12, gC_39_13, gC_39_15, gC_39_16, gC_39_18, gC_39_19, gC_39_27, gC_39_28, gC_39_29, gC_39_30, gC_39_31, gC_39_36, gC_39_37, gC_39_41, gC_39_42, gC_39_43, gC_39_44, gC_39_46, gC_39_47, gC_39_48, gC_39_49, bI_rI, bV_rV, bQ_rN, bQ_rR, bz_0, bz_1, bz_Z, hZ0, hZ1, Lay_setI, Lay_setA, ht.lay, hw', l4, l200, nI_add, nI_1, e52, e51, rp_52, rp_51, hd', hc1, e1, if_false, fm_worthOf_66]
    show QS [60, 61] t0 _ ((r.foldl (stp nm) (stp nm st c)).headD 0)
    have step : ∀ (v : Int32) (st' : List Int32), st'.length < 200 → stp nm st c = v :: st' → Stk (mI t 60) st' → dpt r (st'.length + 1) = some 1 → st'.length + 1 + r.length ≤ 200 →
        QS [60, 61] t0 (fm_worthOf_l16 (fun t => fm_worthOf_197 t) f (setI t 60 st'.length v) (nI e) (nI (st'.length + 1)) (nI (i + 1))) ((r.foldl (stp nm) (stp nm st c)).headD 0) := by
      intro v st' hl' hst hs' hdp' hn'
      rw [hst]
      refine ih (i + 1) (v :: st') _ f (fr.st rfl (by decide)) ?_ hcr (by omega) (by show st'.length + 1 + r.length ≤ 200; omega) ?_ hdp' (by omega)
      · intro k hk
        rw [setI_ne (by decide)]; exact hnm k hk
      · refine ⟨setI_eq rfl rfl, Stk.cg (fun j hj => ?_) hs'⟩
        rw [setI_I, if_neg (by omega)]
    rcases hv' with hA | hB | hC
    · have a1 : (100000 : Int32) ≤ nI c := nI_le (a := 100000) hA.1 (by omega)
      have a2 : (11 : Int32) ≤ nI c := nI_le (a := 11) (by omega) (by omega)
      have a3 : nI c - 100000 = nI (c - 100000) := pk_sub (b := 100000) hA.1
      have a4 : st.length < 200 := by omega
      simp only [a1, a2, if_true, a3, as_60, ht.lay, a4]
      exact step _ st a4 (stp_n hA.1) hs (dp_push (Or.inl hA.1) hdp) (by omega)
    · have a1 : ¬ (100000 : Int32) ≤ nI c := nI_ge (b := 100000) (by omega) (by omega)
      have a2 : ¬ (11 : Int32) ≤ nI c := nI_ge (b := 11) (by omega) (by omega)
      have a4 : st.length < 200 := by omega
      simp only [a1, a2, if_false, as_60, al_61, ht.lay, a4, hB, hnm c hB]
      exact step _ st a4 (stp_m (by omega)) hs (dp_push (Or.inr (by omega)) hdp) (by omega)
    · have a1 : ¬ (100000 : Int32) ≤ nI c := nI_ge (b := 100000) (by omega) (by omega)
      have a2 : (11 : Int32) ≤ nI c := nI_le (a := 11) (by omega) (by omega)
      simp only [a1, a2, if_false, if_true]
      by_cases h13 : c = 13
      · subst h13
        obtain ⟨d1, d2⟩ := dp_one (Or.inl rfl) hdp
        obtain ⟨a, st', rfl⟩ : ∃ a st', st = a :: st' := by
          cases st with
          | nil => simp at d1
          | cons a st' => exact ⟨a, st', rfl⟩
        have b1 : nI 13 = (13 : Int32) := rfl
        have b2 : nI (a :: st').length - 1 = nI st'.length := nI_pred _
        have b3 : st'.length < 200 := by simp at hn; omega
        simp only [b1, b2, if_true, al_60, as_60, ht.lay, b3, hs.1]
        by_cases ha : a = 0
        · simp only [ha, if_true]
          have := step 1 st' b3 (by rw [stp_13, if_pos ha]) hs.2 d2 (by simp at hn; omega)
          rw [ha] at this; exact this
        · simp only [ha, if_false]
          exact step 0 st' b3 (by rw [stp_13, if_neg ha]) hs.2 d2 (by simp at hn; omega)
      · have h13' : ¬ nI c = 13 := fun e => h13 ((nI_eq (b := 13) (by omega) (by decide)).mp e)
        simp only [h13', if_false]
        by_cases h19 : c = 19
        · subst h19
          obtain ⟨d1, d2⟩ := dp_one (Or.inr rfl) hdp
          obtain ⟨a, st', rfl⟩ : ∃ a st', st = a :: st' := by
            cases st with
            | nil => simp at d1
            | cons a st' => exact ⟨a, st', rfl⟩
          have b1 : nI 19 = (19 : Int32) := rfl
          have b2 : nI (a :: st').length - 1 = nI st'.length := nI_pred _
          have b3 : st'.length < 200 := by simp at hn; omega
          simp only [b1, b2, if_true, al_60, as_60, ht.lay, b3, hs.1]
          exact step (-a) st' b3 rfl hs.2 d2 (by simp at hn; omega)
        · have h19' : ¬ nI c = 19 := fun e => h19 ((nI_eq (b := 19) (by omega) (by decide)).mp e)
          have h2 : 11 ≤ c ∧ c ≤ 19 ∧ c ≠ 13 ∧ c ≠ 19 := ⟨hC.1, hC.2, h13, h19⟩
          obtain ⟨d1, d2⟩ := dp_two h2 hdp
          obtain ⟨b, a, st', rfl⟩ : ∃ b a st', st = b :: a :: st' := by
            cases st with
            | nil => simp at d1
            | cons b st2 =>
              cases st2 with
              | nil => simp at d1
              | cons a st' => exact ⟨b, a, st', rfl⟩
          have b0 : nI (b :: a :: st').length + (-1) = nI (st'.length + 1) := pk_m1 _
          have b2 : nI (st'.length + 1) - 1 = nI st'.length := nI_pred _
          have b3 : st'.length < 200 := by simp at hn; omega
          have b4 : st'.length + 1 < 200 := by simp at hn; omega
          have q1 : mI t 60 (st'.length + 1) = b := hs.1
          have q2 : mI t 60 st'.length = a := hs.2.1
          simp only [h19', if_false, b0, b2, al_60, as_60, ht.lay, b3, b4, q1, q2, fm_two_v t a b h2, bI_rI]
          exact step _ st' b3 (stp_2 h2) hs.2.2 d2 (by simp at hn; omega)
theorem cds_get {G : GG} {l e b d : Nat} (hb : G 52 (4 * l + e) = nI b) (hd : G 52 (4 * l + e + 1) = nI d) (h1 : b < 2 ^ 31) (h2 : d < 2 ^ 31) :
    (cds G l e).length = d - b ∧ ∀ k c, k < d - b → G 51 (200 * l + b + k) = nI c → c < 2 ^ 31 → (cds G l e).getD k 0 = c := by
  unfold cds
  rw [hb, hd, cN, cN, nI_clamp h1, nI_clamp h2]
  refine ⟨by simp, ?_⟩
  intro k c hk hc h3
  rw [List.getD_eq_getElem?_getD, List.getElem?_map, List.getElem?_range hk]
  show cN (G 51 (200 * l + b + k)) = c
  rw [hc, cN, nI_clamp h3]
theorem fm_worthOf_v (h : Inv n m s g x p t0) (fr : FS [60, 61] t0 t) {l e : Nat} (hl : l < x) (he : e < 3) (hw : pm t0 39 21 = nI l) (nm : Nat → Int32) (hnm : ∀ k, k < 6 → mI t 61 k = nm k) :
    QS [60, 61] t0 (fm_worthOf t (nI e)) (evn nm (cds (pm t0) l e)) := by
  have hr := h.rng
  have ht := h.fr fr.1
  obtain ⟨q, _, hq⟩ := h.txs l hl
  obtain ⟨_, b, d, hbd, hd160, eb, ed, _, hcs, hdp⟩ := hq.2.2.2.2.2.1 e he
  obtain ⟨hlen, hget⟩ := cds_get eb ed (by omega) (by omega)
  have hw' : mI t 39 21 = nI l := by rw [ht.lw, fr.1.2]; exact hw
  have hb' : pm t 52 (4 * l + e) = nI b := by rw [fr.1.2]; exact eb
  have e52 : 4 * l + e < 24 := by omega
  simp only [fm_worthOf, gI_39, pI_39, rc_39, al_40, as_40, ln_40, al_41, as_41, ln_41, al_42, as_42, ln_42, al_43, as_43, ln_43, al_44, as_44, ln_44, al_45, as_45, ln_45, al_46, as_46, ln_46, al_47, as_47, ln_47, al_48, as_48, ln_48, al_49, as_49, ln_49, al_50, as_50, ln_50, al_51, as_51, ln_51, al_52, as_52, ln_52, al_53, as_53, ln_53, al_54, as_54, ln_54, al_55, as_55, ln_55, al_56, as_56, ln_56, al_57, as_57, ln_57, al_58, as_58, ln_58, al_59, as_59, ln_59, al_60, as_60, ln_60, al_61, as_61, ln_61, al_62, as_62, ln_62, al_63, as_63, ln_63, al_64, as_64, ln_64, al_65, as_65, ln_65, al_66, as_66, ln_66, al_67, as_67, ln_67, gC_39_4, gC_39_5, gC_39_6, gC_39_7, gC_39_8, gC_39_10, gC_39_11, gC_39_12, gC_39_13, gC_39_15, gC_39_16, gC_39_18, gC_39_19, gC_39_27, gC_39_28, gC_39_29, gC_39_30, gC_39_31, gC_39_36, gC_39_37, gC_39_41, gC_39_42, gC_39_43, gC_39_44, gC_39_46, gC_39_47, gC_39_48, gC_39_49, bI_rI, bV_rV, bQ_rN, bQ_rR, bz_0, bz_1, bz_Z, hZ0, hZ1, Lay_setI, Lay_setA, ht.lay, hw', l4, nI_add, e52, rp_52, hb']
  refine wo_loop h (by omega) he hw ed hd160 nm (cds (pm t0) l e) b [] t 1000000 fr hnm ?_ (by omega) (by simp; omega) trivial hdp (by omega)
  intro k hk
  rw [hlen] at hk
  obtain ⟨c, hv, hc1, _⟩ := hcs k hk
  have : c < 2 ^ 31 := by rcases hv with a | a | a <;> omega
  rw [hget k c hk hc1 this]
  refine ⟨hv, ?_⟩
  rw [← Nat.add_assoc]; exact hc1
end
