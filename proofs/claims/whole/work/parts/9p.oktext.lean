section
variable {n m s g x p : Nat} {t u w z : SM}
theorem grow_pt (hT : ∀ k, k < mN t → mT z k = mT t k) {k j : Nat} (hk : k < mN t) (hI : scrF k j = false → mI z k j = mI t k j) : pm z k j = pm t k j := by
  unfold pm scr
  rw [hT k hk, hT (k - 1) (by omega)]
  by_cases e : (scrF k j || (((mT t k).1 == 8 && j == 4) || (mT t (k - 1)).1 == 8)) = true
  · rw [if_pos e, if_pos e]
  · rw [if_neg e, if_neg e]
    refine hI ?_
    cases q : scrF k j
    · rfl
    · rw [q] at e; exact absurd rfl e
/-- the numbers that a text changes -/
def sp1 (x k j : Nat) : Prop := (k = 10 ∧ j = 1) ∨ (k = 0 ∧ j = 8) ∨ (k = 39 ∧ (j = 17 ∨ j = 20)) ∨ (k = 51 ∧ 200 * x ≤ j) ∨ (k = 52 ∧ 4 * x ≤ j)
theorem tx_inv (h : Inv n m s g x p t) {x' : Nat} (hx' : x ≤ x' ∧ x' ≤ 6) (hN : mN t ≤ mN z) (hT : ∀ k, k < mN t → mT z k = mT t k) (hR : ∀ k, k < mN t → k ≠ 9 → mR z k = mR t k) (hR9 : ∀ i, i < x → mR z 9 i = mR t 9 i)
    (hI : ∀ k j, k < mN t → scrF k j = false → ¬ sp1 x k j → mI z k j = mI t k j) (v1 : mI z 10 1 = 0) (v2 : mI z 39 17 = 0) (v3 : mI z 0 8 = nI x') (v4 : mI z 39 20 = nI x') (hB : IvB (mT z) (mN z))
    (hX : ∀ i, x ≤ i → i < x' → ∃ q, mR z 9 i = some q ∧ TxA (pm z) (mR z) (mT z) (mN z) i q) : Inv n m s g x' 0 z := by
  have hl := h.lay
  have hr := h.rng
  have h68 := hl.1
  have lz : Lay z := grow_lay hl hN hT (fun k hk h9 => hR k (by omega) h9)
  have pt : ∀ k j, k < mN t → ¬ sp1 x k j → pm z k j = pm t k j := fun k j hk hs => grow_pt hT hk (fun q => hI k j hk q hs)
  have row : ∀ k, k < mN t → k ≠ 10 → k ≠ 0 → k ≠ 39 → k ≠ 51 → k ≠ 52 → pm z k = pm t k := fun k hk a1 a2 a3 a4 a5 => funext fun j => pt k j hk (by unfold sp1; omega)
  have q : ∀ k, k < 68 → k ≠ 10 → k ≠ 0 → k ≠ 39 → k ≠ 51 → k ≠ 52 → pm z k = pm t k := fun k hk a1 a2 a3 a4 a5 => row k (by omega) a1 a2 a3 a4 a5
  have hp : ∀ k, 68 ≤ k → k < mN t → pm z k = pm t k := fun k h1 h2 => row k h2 (by omega) (by omega) (by omega) (by omega) (by omega)
  have r39 : ∀ j, j ≠ 17 → j ≠ 20 → pm z 39 j = pm t 39 j := fun j a b => pt 39 j (by omega) (by unfold sp1; omega)
  have r0 : ∀ j, j ≠ 8 → pm z 0 j = pm t 0 j := fun j a => pt 0 j (by omega) (by unfold sp1; omega)
  have w1 : pm z 10 1 = nI 0 := by rw [← pm_fx lz rfl rfl]; exact v1
  have w2 : pm z 39 17 = nI 0 := by rw [← pm_fx lz rfl rfl]; exact v2
  have w3 : pm z 0 8 = nI x' := by rw [← pm_fx lz rfl rfl]; exact v3
  have w4 : pm z 39 20 = nI x' := by rw [← pm_fx lz rfl rfl]; exact v4
  obtain ⟨_, ⟨a3, a4⟩, ⟨b3, b4⟩, ⟨c3, c4⟩, ⟨d3, d4⟩, ⟨e3, e4⟩, ⟨g1, g2⟩, g3, g4, g5, gl1, gl2, gl3⟩ := h.num
  have z1 := q 1 (by decide) (by decide) (by decide) (by decide) (by decide) (by decide)
  have z5 := q 5 (by decide) (by decide) (by decide) (by decide) (by decide) (by decide)
  refine ⟨lz, IvN.mk ⟨hr.1, hr.2.1, hr.2.2.1, hr.2.2.2.1, by omega, by omega⟩ (by rw [r39 0 (by decide) (by decide)]; exact a3) (by rw [r0 0 (by decide)]; exact a4) (by rw [r39 3 (by decide) (by decide)]; exact b3) (by rw [z1]; exact b4) (by rw [r39 9 (by decide) (by decide)]; exact c3) (by rw [z5]; exact c4) (by rw [r39 14 (by decide) (by decide)]; exact d3) (by rw [r0 6 (by decide)]; exact d4) w4 w3 w2 w1 (by rw [r39 1 (by decide) (by decide), r0 1 (by decide)]; exact g3) (by rw [r39 2 (by decide) (by decide), r0 2 (by decide)]; exact g4) (by rw [r39 21 (by decide) (by decide), r0 9 (by decide)]; exact g5) ⟨gl1, by omega, by rw [r39 21 (by decide) (by decide)]; exact gl3⟩,
    ?_, ?_, ?_, ?_, ?_, ?_, ?_, ?_, ?_, hB, ?_⟩
  · have := h.gos; unfold IvG at *; rw [q 8 (by decide) (by decide) (by decide) (by decide) (by decide) (by decide), q 49 (by decide) (by decide) (by decide) (by decide) (by decide) (by decide)]; exact this
  · intro i hi; omega
  · obtain ⟨i1, i2, i3, i4, i5, i6, k, l, i7, i8, i9⟩ := h.img
    unfold IvI
    rw [q 13 (by decide) (by decide) (by decide) (by decide) (by decide) (by decide), q 14 (by decide) (by decide) (by decide) (by decide) (by decide) (by decide), q 53 (by decide) (by decide) (by decide) (by decide) (by decide) (by decide), r39 22 (by decide) (by decide), r39 23 (by decide) (by decide), r39 24 (by decide) (by decide), r39 25 (by decide) (by decide), r39 26 (by decide) (by decide)]
    exact ⟨i1, i2, i3, i4, i5, i6, k, l, i7, by omega, i9⟩
  · intro i hi
    rw [q (31 + 2 * i) (by omega) (by omega) (by omega) (by omega) (by omega) (by omega), q (32 + 2 * i) (by omega) (by omega) (by omega) (by omega) (by omega) (by omega), q 54 (by decide) (by decide) (by decide) (by decide) (by decide) (by decide), q 55 (by decide) (by decide) (by decide) (by decide) (by decide) (by decide), q 56 (by decide) (by decide) (by decide) (by decide) (by decide) (by decide)]
    exact h.shs i hi
  · have := h.mps; unfold IvM at *; rw [q 40 (by decide) (by decide) (by decide) (by decide) (by decide) (by decide), q 41 (by decide) (by decide) (by decide) (by decide) (by decide) (by decide), q 42 (by decide) (by decide) (by decide) (by decide) (by decide) (by decide), q 43 (by decide) (by decide) (by decide) (by decide) (by decide) (by decide)]; exact this
  · exact h.chs.gr (q 40 (by decide) (by decide) (by decide) (by decide) (by decide) (by decide)) (q 41 (by decide) (by decide) (by decide) (by decide) (by decide) (by decide)) (q 42 (by decide) (by decide) (by decide) (by decide) (by decide) (by decide)) (q 43 (by decide) (by decide) (by decide) (by decide) (by decide) (by decide)) (q 44 (by decide) (by decide) (by decide) (by decide) (by decide) (by decide)) hp hT (fun i hi => by rw [hR 2 (by omega) (by decide)]) hN
  · exact h.agg.gr (q 3 (by decide) (by decide) (by decide) (by decide) (by decide) (by decide)) (q 40 (by decide) (by decide) (by decide) (by decide) (by decide) (by decide)) (q 41 (by decide) (by decide) (by decide) (by decide) (by decide) (by decide)) (q 42 (by decide) (by decide) (by decide) (by decide) (by decide) (by decide)) (q 43 (by decide) (by decide) (by decide) (by decide) (by decide) (by decide))
  · exact h.sts.gr (q 45 (by decide) (by decide) (by decide) (by decide) (by decide) (by decide)) (q 46 (by decide) (by decide) (by decide) (by decide) (by decide) (by decide)) (q 47 (by decide) (by decide) (by decide) (by decide) (by decide) (by decide)) (q 48 (by decide) (by decide) (by decide) (by decide) (by decide) (by decide)) hp hT (fun i hi => by rw [hR 6 (by omega) (by decide)]) hN
  · intro i hi
    by_cases hix : i < x
    · obtain ⟨o, ho, a, b, c, d, e, f, gg⟩ := h.txs i hix
      have h51 : ∀ j, j < 200 * x → pm z 51 j = pm t 51 j := fun j hj => pt 51 j (by omega) (by unfold sp1; omega)
      have h52 : ∀ j, j < 4 * x → pm z 52 j = pm t 52 j := fun j hj => pt 52 j (by omega) (by unfold sp1; omega)
      have a1 := a.1; have a2 := a.2
      have er : mR z o = mR t o := hR o (by omega) (by omega)
      have ec : ∀ y, y < 3 → cds (pm z) i y = cds (pm t) i y := fun y hy => by
        obtain ⟨_, b1, d1, f2, f3, f4, f5, _⟩ := f y hy
        unfold cds
        rw [h52 (4 * i + y) (by omega), h52 (4 * i + y + 1) (by omega), f4, f5, cN_i (by omega), cN_i (by omega)]
        refine List.map_congr_left fun k hk => ?_
        rw [List.mem_range] at hk
        rw [h51 _ (by omega)]
      refine ⟨o, by rw [hR9 i hix]; exact ho, ⟨a1, by omega⟩, by rw [hT o (by omega)]; exact b, by rw [hT (o - 4) (by omega)]; exact c, by rw [hT (o + 1) (by omega)]; exact d, by rw [er]; exact e, fun y hy => ?_, fun y hy => ?_⟩
      · obtain ⟨f1, b1, d1, f2, f3, f4, f5, f6, f7, f8⟩ := f y hy
        refine ⟨by rw [er]; exact f1, b1, d1, f2, f3, by rw [h52 _ (by omega)]; exact f4, by rw [h52 _ (by omega)]; exact f5, by rw [hT _ (by omega)]; exact f6, fun k hk2 => ?_, by rw [ec y hy]; exact f8⟩
        obtain ⟨cc, y1, y2, y3⟩ := f7 k hk2
        exact ⟨cc, y1, by rw [h51 _ (by omega)]; exact y2, by rw [row _ (by omega) (by omega) (by omega) (by omega) (by omega) (by omega)]; exact y3⟩
      · rw [row o (by omega) (by omega) (by omega) (by omega) (by omega) (by omega), ec 0 (by decide)]; exact gg y hy
    · exact hX i (by omega) hi
  · have := h.wds; unfold IvW at *; rw [q 58 (by decide) (by decide) (by decide) (by decide) (by decide) (by decide)]; exact this
/-- the new text, as it lies there -/
theorem tx_mk (ht : IvB (mT t) (mN t)) (h68 : 68 ≤ mN t) {D0 D1 D2 : List Nat} (hw : TXo t w D0 D1 D2) (hl : Lay z) (hT : mT z = mT w) (hTt : ∀ k, k < mN t → mT w k = mT t k) (hN : mN z = mN w) (hI : ∀ k, 68 ≤ k → mI z k = mI w k) (hR : ∀ k, 68 ≤ k → mR z k = mR w k) {i : Nat} (hi : i ≤ 5)
    (h51 : ∀ k, k < (D0 ++ D1 ++ D2).length → mI z 51 (200 * i + k) = nI ((D0 ++ D1 ++ D2).getD k 0)) (h52 : ∀ k, k < 4 → mI z 52 (4 * i + k) = nI ([0, D0.length, (D0 ++ D1).length, (D0 ++ D1 ++ D2).length].getD k 0)) : TxA (pm z) (mR z) (mT z) (mN z) i (mN t + 3) := by
  obtain ⟨o1, o2, o3, o4, o5, o6, o7⟩ := hw
  have tb : ∀ k, k < mN t → (mT t k).1 = 8 → k + 1 < mN t := fun k _ e => (ht k e).1
  have T4 : (mT z (mN t - 1)).1 ≠ 8 := by
    rw [hT, hTt _ (by omega)]
    intro e
    have := tb _ (by omega) e
    omega
  have l1 : (D0 ++ D1).length = D0.length + D1.length := List.length_append
  have l2 : (D0 ++ D1 ++ D2).length = D0.length + D1.length + D2.length := by rw [List.length_append, l1]
  have be : ∀ e, e < 3 → ∃ b, b + (Dz D0 D1 D2 e).length ≤ 160 ∧ [0, D0.length, (D0 ++ D1).length, (D0 ++ D1 ++ D2).length].getD e 0 = b ∧ [0, D0.length, (D0 ++ D1).length, (D0 ++ D1 ++ D2).length].getD (e + 1) 0 = b + (Dz D0 D1 D2 e).length ∧ b + (Dz D0 D1 D2 e).length ≤ (D0 ++ D1 ++ D2).length ∧ ∀ k, k < (Dz D0 D1 D2 e).length → (D0 ++ D1 ++ D2).getD (b + k) 0 = (Dz D0 D1 D2 e).getD k 0 := by
    intro e he
    rcases (by omega : e = 0 ∨ e = 1 ∨ e = 2) with y | y | y
    · subst y
      refine ⟨0, ?_, rfl, ?_, ?_, fun k hk => ?_⟩
      · show 0 + D0.length ≤ 160; omega
      · show D0.length = 0 + D0.length; omega
      · show 0 + D0.length ≤ _; omega
      · have hk' : k < D0.length := hk
        show _ = D0.getD k 0
        rw [Nat.zero_add, List.getD_eq_getElem?_getD, List.getD_eq_getElem?_getD, List.getElem?_append_left (by omega), List.getElem?_append_left hk']
    · subst y
      refine ⟨D0.length, ?_, rfl, ?_, ?_, fun k hk => ?_⟩
      · show D0.length + D1.length ≤ 160; omega
      · exact l1
      · show D0.length + D1.length ≤ _; omega
      · have hk' : k < D1.length := hk
        show _ = D1.getD k 0
        rw [List.getD_eq_getElem?_getD, List.getD_eq_getElem?_getD, List.getElem?_append_left (by omega), List.getElem?_append_right (by omega), Nat.add_sub_cancel_left]
    · subst y
      refine ⟨(D0 ++ D1).length, ?_, rfl, ?_, ?_, fun k hk => ?_⟩
      · show (D0 ++ D1).length + D2.length ≤ 160; omega
      · show (D0 ++ D1 ++ D2).length = (D0 ++ D1).length + D2.length; omega
      · show (D0 ++ D1).length + D2.length ≤ _; omega
      · have hk' : k < D2.length := hk
        show _ = D2.getD k 0
        rw [List.getD_eq_getElem?_getD, List.getD_eq_getElem?_getD, List.getElem?_append_right (by omega), Nat.add_sub_cancel_left]
  have p51 : ∀ k, k < (D0 ++ D1 ++ D2).length → pm z 51 (200 * i + k) = nI ((D0 ++ D1 ++ D2).getD k 0) := fun k hk => by rw [← rp_51 hl]; exact h51 k hk
  have p52 : ∀ k, k < 4 → pm z 52 (4 * i + k) = nI ([0, D0.length, (D0 ++ D1).length, (D0 ++ D1 ++ D2).length].getD k 0) := fun k hk => by rw [← rp_52 hl]; exact h52 k hk
  have ec : ∀ e, e < 3 → cds (pm z) i e = Dz D0 D1 D2 e := by
    intro e he
    obtain ⟨b, b1, b2, b3, b4, b5⟩ := be e he
    have v1 := p52 e (by omega)
    have v2 : pm z 52 (4 * i + e + 1) = _ := p52 (e + 1) (by omega)
    rw [b2] at v1
    rw [b3] at v2
    unfold cds
    rw [v1, v2, cN_i (by omega), cN_i (by omega), Nat.add_sub_cancel_left]
    refine List.ext_getElem (by simp) fun k k1 k2 => ?_
    rw [List.getElem_map, List.getElem_range, Nat.add_assoc, p51 (b + k) (by omega), b5 k k2]
    have hv := (o2 e he).2.2.1.at k2
    rw [cN_i (by rcases hv with q | q | q <;> omega), List.getD_eq_getElem?_getD, List.getElem?_eq_getElem k2]; rfl
  have nT : ∀ e, e < 3 → (mT z (mN t + e)).1 ≠ 8 := fun e he => by rw [hT, (o2 e he).1]; show (20 : Nat) ≠ 8; decide
  have vq : ∀ e, e < 3 → ∀ k, pm z (mN t + e) k = mI z (mN t + e) k := fun e he k => (pm_hp (scrF_hi (by omega)) (fun q => absurd q (nT e he)) (by
    rcases (by omega : e = 0 ∨ e = 1 ∨ e = 2) with y | y | y
    · subst y; exact T4
    · subst y; exact nT 0 (by decide)
    · subst y; exact nT 1 (by decide))).symm
  refine ⟨⟨Or.inr (by omega), by omega⟩, by rw [hT, o3], by rw [show mN t + 3 - 4 = mN t - 1 by omega]; exact T4, by rw [hT]; exact o4, by rw [hR _ (by omega)]; exact o5, fun e he => ?_, fun a ha => ?_⟩
  · obtain ⟨b, b1, b2, b3, b4, b5⟩ := be e he
    obtain ⟨s1, s2, s3, s4⟩ := o2 e he
    have e0 : mN t + 3 - 3 + e = mN t + e := by omega
    have v1 := p52 e (by omega)
    have v2 : pm z 52 (4 * i + e + 1) = _ := p52 (e + 1) (by omega)
    rw [b2] at v1
    rw [b3] at v2
    refine ⟨by rw [e0, hR _ (by omega)]; exact s4, b, b + (Dz D0 D1 D2 e).length, by omega, b1, v1, v2, by rw [e0, hT, s1, Nat.add_sub_cancel_left], fun k hk => ?_, by rw [ec e he]; exact s3.dp⟩
    rw [Nat.add_sub_cancel_left] at hk
    refine ⟨_, s3.at hk, by rw [Nat.add_assoc, p51 (b + k) (by omega), b5 k hk], by rw [e0, vq e he, hI _ (by omega)]; exact s2 k hk⟩
  · have := (pm_hp (t := z) (k := mN t + 3) (j := 5) (scrF_hi (by omega)) (fun _ => by decide) (nT 2 (by decide))).symm
    rw [this, hI _ (by omega), o7 a ha, ec 0 (by decide)]; rfl
theorem PT_f {x k j : Nat} (h : PT x k j = true) : scrF k j = true ∨ (k = 51 ∧ 200 * x ≤ j) ∨ (k = 52 ∧ 4 * x ≤ j) ∨ (k = 39 ∧ (j = 17 ∨ j = 20)) := by
  unfold PT PM at h
  simp only [Bool.and_eq_true, Bool.or_eq_true, beq_iff_eq, decide_eq_true_eq] at h
  rcases h with (⟨rfl, h⟩ | rfl | h) | h | h
  · left
    rcases h with rfl | rfl | rfl | rfl | rfl | rfl | rfl <;> rfl
  · left; rfl
  · exact Or.inr (Or.inl h)
  · exact Or.inr (Or.inr (Or.inl h))
  · exact Or.inr (Or.inr (Or.inr h))
theorem ok_text (h : Inv n m s g x p t) : Okk t (fun t => fx_text t) (fun t => fm_text t) := by
  have hr := h.rng
  have hl := h.lay
  have h68 := hl.1
  by_cases c6 : x = 6
  · refine okr h (v := -4) ?_ ?_
    · show fx_text t = _
      have n6 : ¬ nI x < 6 := nI_nlt (b := 6) (by omega) (by omega)
      unfold fx_text
      rw [gI_0 hl, h.tx', if_neg n6]
    · show fm_text t = _
      unfold fm_text
      rw [gI_39 hl, h.tx, if_pos (show nI x = 6 by rw [c6]; rfl)]
  · have x5 : x ≤ 5 := by omega
    have l6 : nI x < 6 := nI_lt (b := 6) (by omega) (by decide)
    obtain ⟨w, gw, wN, wZ, wB, rest⟩ := readText_v h
    have lw : Lay w := grow_lay hl gw.1 gw.2.1 (fun k hk _ => gw.2.2.1 k (by omega))
    have w0 : ∀ j, mI w 0 j = mI t 0 j := fun j => gw.2.2.2 0 (by omega) j rfl
    have w39 : ∀ j, mI w 39 j = mI t 39 j := fun j => gw.2.2.2 39 (by omega) j rfl
    have w50 : ∀ j, mI w 50 j = mI t 50 j := fun j => gw.2.2.2 50 (by omega) j rfl
    have w58 : ∀ j, mI w 58 j = mI t 58 j := fun j => gw.2.2.2 58 (by omega) j rfl
    have fxt : fx_text t = bQ (fRd_readText t) (fun t2 => hGetC t2 10 0 10 10 <| hRecv t2 4 10 <| bV (fRd_clear t2) fun t4 => hGetC t4 10 0 10 10 <| hGetI t4 4 10 2 fun fault5 => rI ((-100) - fault5) t4) fun q3 t2 =>
        hGetC t2 10 0 10 10 <| hRecv t2 4 10 <| bV (fRd_clear t2) fun t6 => hGetC t6 10 0 7 9 <| hGetI t6 10 0 8 fun textCount7 => hQSt t6 8 9 textCount7 q3 fun t8 => hGetI t8 10 0 8 fun textCount9 => hPutI t8 10 0 8 (textCount9 + 1) fun t10 => hGetI t10 10 0 8 fun textCount11 => rI (textCount11 - 1) t10 := by
      unfold fx_text
      rw [gI_0 hl, h.tx', if_pos l6, gC_0_10 hl, rc_10 hl]
    have clr : fRd_clear w = rV (setI w 10 1 0) := by unfold fRd_clear; rw [pI_10 lw]
    have lc : Lay (setI w 10 1 0) := lw
    have tape : ∀ j, j < p → mI t 50 j = nI (Bt (pm t) j) ∧ Bt (pm t) j < 256 := fun j hj => ⟨(bt_f h hj).2.1, (bt_f h hj).2.2⟩
    have words : ∀ j, j < 96 → mI t 58 j = nI (wdL.getD j 0) := fun j hj => by rw [rp_58 hl]; exact h.wds j hj
    rcases rest with ⟨b, hb, r, hf, hx⟩ | ⟨D0, D1, D2, r, ho, hx⟩
    · have mb : MB (Bt (pm t)) p (setI w 10 1 0) := ⟨lc, by rw [setI_ne (by decide), w39]; exact h.tp, fun j hj => by rw [setI_ne (by decide), w50]; exact tape j hj, fun j hj => by rw [setI_ne (by decide), w58]; exact words j hj, hr.2.2.2.2.2⟩
      have fm := fm_text_v x5 mb (by rw [setI_ne (by decide), w39]; exact h.tx)
      rw [hx] at fm
      obtain ⟨z, z1, z2, z3, z4⟩ := fm
      have eI : ∀ k j, PT x k j = false → ¬ (k = 10 ∧ j = 1) → mI z k j = mI w k j := fun k j q1 q2 => by rw [z1.2 k j q1, setI_I, if_neg q2]
      refine ⟨-100 - nI b, setI w 10 1 0, z, ?_, z2, ⟨n, m, s, g, x, 0, ?_⟩, by rw [z1.N, setI_N]; omega, by rw [z1.Z, setI_Z]; omega, lc⟩
      · have hf' : mI (setI w 10 1 0) 10 2 = nI b := by rw [setI_I, if_neg (by decide)]; exact hf
        show fx_text t = _
        rw [fxt, r, bQ_rN, gC_0_10 lw, rc_10 lw, clr, bV_rV, gC_0_10 lc, gI_10 lc, hf']
      · refine tx_inv h ⟨Nat.le_refl _, by omega⟩ (by rw [z1.N, setI_N]; exact gw.1) (fun k hk => by rw [z1.T, setI_T]; exact gw.2.1 k hk) (fun k hk _ => by rw [z1.R, setI_R]; exact gw.2.2.1 k hk) (fun i hi => by rw [z1.R, setI_R, gw.2.2.1 9 (by omega)]) ?_ ?_ z3 ?_ z4 (by rw [z1.T, z1.N, setI_T, setI_N]; exact wB) (fun i i1 i2 => by omega)
        · intro k j hk hs hn
          rw [eI k j ?_ (fun q => hn (Or.inl q)), gw.2.2.2 k hk j ?_]
          · cases e : PC k j
            · rfl
            · rw [PC_s k j e] at hs; exact absurd hs (by decide)
          · cases e : PT x k j
            · rfl
            · rcases PT_f e with q | q | q | q
              · rw [q] at hs; exact absurd hs (by decide)
              · exact absurd (Or.inr (Or.inr (Or.inr (Or.inl q)))) hn
              · exact absurd (Or.inr (Or.inr (Or.inr (Or.inr q)))) hn
              · exact absurd (Or.inr (Or.inr (Or.inl q))) hn
        · rw [z1.2 10 1 rfl]; exact setI_eq rfl rfl
        · rw [eI 0 8 rfl (by decide), w0]; exact h.tx'
    · have ho' := ho
      obtain ⟨o1, o2, o3, o4, o5, o6, o7⟩ := ho
      have c9 : mT (setI w 10 1 0) 9 = (38, 6) := by rw [setI_T, lw.2.1 9 (by decide)]; rfl
      have v8 : mI (setI w 10 1 0) 0 8 = nI x := by rw [setI_ne (by decide), w0]; exact h.tx'
      have l8 : Lay (setR (setI w 10 1 0) 9 x (some (mN t + 3))) := Lay_setR lc (Or.inr (Or.inr (Or.inl rfl)))
      have v8' : mI (setR (setI w 10 1 0) 9 x (some (mN t + 3))) 0 8 = nI x := v8
      have y2 : ∃ y, y = setI (setR (setI w 10 1 0) 9 x (some (mN t + 3))) 0 8 (nI (x + 1)) := ⟨_, rfl⟩
      obtain ⟨y, hy⟩ := y2
      have ly : Lay y := by rw [hy]; exact l8
      have yI : ∀ k j, mI y k j = if k = 0 ∧ j = 8 then nI (x + 1) else if k = 10 ∧ j = 1 then 0 else mI w k j := fun k j => by rw [hy, setI_I, setR_I, setI_I]
      have yT : mT y = mT w := by rw [hy]; rfl
      have yN : mN y = mN w := by rw [hy]; rfl
      have yZ : mZ y = mZ w := by rw [hy]; rfl
      have yR : ∀ k i, mR y k i = if k = 9 ∧ i = x then some (mN t + 3) else mR w k i := fun k i => by rw [hy, setI_R, setR_R, setI_R]
      have e1 : fx_text t = rI (nI x) y := by
        have tq : (mT (setI w 10 1 0) (mN t + 3)).1 = 8 := by rw [setI_T, o3]
        have yv : mI y 0 8 = nI (x + 1) := by rw [yI, if_pos ⟨rfl, rfl⟩]
        rw [fxt, r, bQ_rR, gC_0_10 lw, rc_10 lw, clr, bV_rV, gC_0_7 lc, gI_0 lc, v8]
        unfold hQSt
        rw [c9, if_pos ⟨rfl, nI_in (show x < 6 by omega) (by decide), tq⟩, nI_clamp (by omega)]
        show (hGetI (setR (setI w 10 1 0) 9 x (some (mN t + 3))) 10 0 8 fun textCount9 => hPutI (setR (setI w 10 1 0) 9 x (some (mN t + 3))) 10 0 8 (textCount9 + 1) fun t10 => hGetI t10 10 0 8 fun textCount11 => rI (textCount11 - 1) t10) = _
        rw [gI_0 l8, v8', pI_0 l8, nI_1, ← hy, gI_0 ly, yv, nI_pred]
      have mb : MB (Bt (pm t)) p y := ⟨ly, by rw [yI, if_neg (by omega), if_neg (by omega), w39]; exact h.tp, fun j hj => by rw [yI, if_neg (by omega), if_neg (by omega), w50]; exact tape j hj, fun j hj => by rw [yI, if_neg (by omega), if_neg (by omega), w58]; exact words j hj, hr.2.2.2.2.2⟩
      have fm := fm_text_v x5 mb (by rw [yI, if_neg (by omega), if_neg (by omega), w39]; exact h.tx)
      rw [hx] at fm
      obtain ⟨z, z1, z2, z3, z4, z5, z6⟩ := fm
      have eI : ∀ k j, PT x k j = false → ¬ (k = 10 ∧ j = 1) → ¬ (k = 0 ∧ j = 8) → mI z k j = mI w k j := fun k j q1 q2 q3 => by rw [z1.2 k j q1, yI, if_neg q3, if_neg q2]
      have nPT : ∀ k j, 68 ≤ k → PT x k j = false := fun k j hk => by
        cases e : PT x k j
        · rfl
        · rcases PT_f e with q | q | q | q
          · rw [scrF_hi hk] at q; exact absurd q (by decide)
          · omega
          · omega
          · omega
      refine ⟨nI x, y, z, e1, z2, ⟨n, m, s, g, x + 1, 0, ?_⟩, by rw [z1.N, yN]; omega, by rw [z1.Z, yZ]; omega, ly⟩
      have zR : ∀ k, mR z k = mR y k := fun k => by rw [z1.R]
      refine tx_inv h ⟨by omega, by omega⟩ (by rw [z1.N, yN]; exact gw.1) (fun k hk => by rw [z1.T, yT]; exact gw.2.1 k hk) (fun k hk h9 => by rw [zR]; exact funext fun i => by rw [yR, if_neg (fun q => h9 q.1), gw.2.2.1 k hk]) (fun i hi => by rw [zR, yR, if_neg (by omega), gw.2.2.1 9 (by omega)]) ?_ ?_ z3 ?_ z4 (by rw [z1.T, z1.N, yT, yN]; exact wB) (fun i i1 i2 => ?_)
      · intro k j hk hs hn
        rw [eI k j ?_ (fun q => hn (Or.inl q)) (fun q => hn (Or.inr (Or.inl q))), gw.2.2.2 k hk j ?_]
        · cases e : PC k j
          · rfl
          · rw [PC_s k j e] at hs; exact absurd hs (by decide)
        · cases e : PT x k j
          · rfl
          · rcases PT_f e with q | q | q | q
            · rw [q] at hs; exact absurd hs (by decide)
            · exact absurd (Or.inr (Or.inr (Or.inr (Or.inl q)))) hn
            · exact absurd (Or.inr (Or.inr (Or.inr (Or.inr q)))) hn
            · exact absurd (Or.inr (Or.inr (Or.inl q))) hn
      · rw [z1.2 10 1 rfl, yI, if_neg (by omega), if_pos ⟨rfl, rfl⟩]
      · rw [z1.2 0 8 rfl, yI, if_pos ⟨rfl, rfl⟩]
      · obtain rfl : i = x := by omega
        refine ⟨mN t + 3, by rw [zR, yR, if_pos ⟨rfl, rfl⟩], tx_mk h.tgs h68 ho' (z1.lay ly) (by rw [z1.T, yT]) gw.2.1 (by rw [z1.N, yN]) (fun k hk => funext fun j => by rw [eI k j (nPT k j hk) (by omega) (by omega)]) (fun k hk => funext fun j => by rw [zR, yR, if_neg (by omega)]) x5 z5 (fun k hk => z6 k hk)⟩
end
