section
variable {n m s g x p a b : Nat} {t0 t u w : SM}
/-! memory that grows -/
def GW (t w : SM) : Prop := mN t ≤ mN w ∧ (∀ k, k < mN t → mT w k = mT t k) ∧ (∀ k, k < mN t → mR w k = mR t k) ∧ ∀ k, k < mN t → ∀ j, PC k j = false → mI w k j = mI t k j
theorem GW.tr (h : GW t u) (h2 : GW u w) : GW t w := ⟨by have := h.1; have := h2.1; omega, fun k hk => (h2.2.1 k (by have := h.1; omega)).trans (h.2.1 k hk), fun k hk => (h2.2.2.1 k (by have := h.1; omega)).trans (h.2.2.1 k hk), fun k hk j hj => (h2.2.2.2 k (by have := h.1; omega) j hj).trans (h.2.2.2 k hk j hj)⟩
theorem FF.gw (h : FF PC t u) : GW t u := ⟨by rw [h.N]; exact Nat.le_refl _, fun k _ => by rw [h.T], fun k _ => by rw [h.R], fun k _ j hj => h.2 k j hj⟩
theorem grow_row (hT : ∀ k, k < mN t → mT w k = mT t k) (hI : ∀ k, k < mN t → ∀ j, scrF k j = false → mI w k j = mI t k j) {k : Nat} (hk : k < mN t) : pm w k = pm t k := by
  funext j
  unfold pm scr
  rw [hT k hk, hT (k - 1) (by omega)]
  by_cases e : (scrF k j || (((mT t k).1 == 8 && j == 4) || (mT t (k - 1)).1 == 8)) = true
  · rw [if_pos e, if_pos e]
  · rw [if_neg e, if_neg e]
    refine hI k hk j ?_
    cases q : scrF k j
    · rfl
    · rw [q] at e; exact absurd rfl e
theorem grow_lay (hl : Lay t) (hN : mN t ≤ mN w) (hT : ∀ k, k < mN t → mT w k = mT t k) (hR : ∀ k, k < 68 → k ≠ 9 → mR w k = mR t k) : Lay w := by
  have h68 := hl.1
  refine ⟨by omega, fun k hk => (hT k (by omega)).trans (hl.2.1 k hk), fun r hr => ?_⟩
  have hlt : ∀ r ∈ refL, r.1 ≠ 9 ∧ r.1 < 68 := by decide +kernel
  have := hlt r hr
  rw [hR r.1 (by omega) this.1]; exact hl.2.2 r hr
theorem Inv.grow (h : Inv n m s g x p t) (hN : mN t ≤ mN w) (hT : ∀ k, k < mN t → mT w k = mT t k) (hR : ∀ k, k < mN t → mR w k = mR t k) (hI : ∀ k, k < mN t → ∀ j, scrF k j = false → mI w k j = mI t k j) (hB : IvB (mT w) (mN w)) : Inv n m s g x p w := by
  have hl := h.lay
  have h68 := hl.1
  have rw' : ∀ k, k < mN t → pm w k = pm t k := fun k hk => grow_row hT hI hk
  have q : ∀ k, k < 68 → pm w k = pm t k := fun k hk => rw' k (by omega)
  have hp : ∀ k, 68 ≤ k → k < mN t → pm w k = pm t k := fun k _ h2 => rw' k h2
  refine ⟨grow_lay hl hN hT (fun k hk _ => hR k (by omega)), ?_, ?_, ?_, ?_, ?_, ?_, ?_, ?_, ?_, ?_, hB, ?_⟩
  · have := h.num; unfold IvN at *; rw [q 39 (by decide), q 0 (by decide), q 1 (by decide), q 5 (by decide), q 10 (by decide)]; exact this
  · have := h.gos; unfold IvG at *; rw [q 8 (by decide), q 49 (by decide)]; exact this
  · have := h.tap; unfold IvT at *; rw [q 11 (by decide), q 50 (by decide)]; exact this
  · have := h.img; unfold IvI at *; rw [q 13 (by decide), q 39 (by decide), q 14 (by decide), q 53 (by decide)]; exact this
  · intro i hi
    rw [q (31 + 2 * i) (by omega), q (32 + 2 * i) (by omega), q 54 (by decide), q 55 (by decide), q 56 (by decide)]
    exact h.shs i hi
  · have := h.mps; unfold IvM at *; rw [q 40 (by decide), q 41 (by decide), q 42 (by decide), q 43 (by decide)]; exact this
  · exact h.chs.gr (q 40 (by decide)) (q 41 (by decide)) (q 42 (by decide)) (q 43 (by decide)) (q 44 (by decide)) hp hT (fun i hi => by rw [hR 2 (by omega)]) hN
  · exact h.agg.gr (q 3 (by decide)) (q 40 (by decide)) (q 41 (by decide)) (q 42 (by decide)) (q 43 (by decide))
  · exact h.sts.gr (q 45 (by decide)) (q 46 (by decide)) (q 47 (by decide)) (q 48 (by decide)) hp hT (fun i hi => by rw [hR 6 (by omega)]) hN
  · exact h.txs.gr (q 51 (by decide)) (q 52 (by decide)) (fun k _ h2 => rw' k h2) hT (fun i hi => by rw [hR 9 (by omega)]) (fun z hz _ => hR z hz) hN
  · have := h.wds; unfold IvW at *; rw [q 58 (by decide)]; exact this
/-- a copy of the codes -/
def CP (t w : SM) (z : Nat) : Prop := mT w = (fun k => if k = mN t then (20, z) else mT t k) ∧ mR w = (fun k => if k = mN t then (fun _ => none) else mR t k) ∧ mN w = mN t + 1 ∧ mZ w = mZ t + z ∧ (∀ q, q ≠ mN t → mI w q = mI t q) ∧ ∀ k, k < z → mI w (mN t) k = mI t 12 k
theorem cpy_v (hl : Lay u) {z : Nat} (hz : z ≤ 160) : ∃ w, fjA_copyOf u 12 (nI z) = rR (mN u) w ∧ CP u w z := by
  have h68 := hl.1
  have t12 : mT u 12 = (20, 160) := hl.2.1 12 (by decide)
  have ez : (nI z = nI 160) = (z = 160) := propext (nI_eq (by omega) (by decide))
  unfold fjA_copyOf
  rw [ln_12 hl]
  simp only [ez]
  by_cases c : z = 160
  · subst c
    rw [if_pos rfl]
    refine ⟨setA (mPush u 20 160 160) (mN u) (mI u 12), ?_, ?_⟩
    · have l2 : Lay (mPush u 20 160 160) := Lay_push hl
      have e : mT (setA (mPush u 20 160 160) (mN u) (mI u 12)) (mN u) = (20, 160) := by rw [setA_T, mPush_T, if_pos rfl]
      unfold hClone
      rw [t12, if_pos rfl]
      show hALen (setA (mPush u 20 160 160) (mN u) (mI u 12)) (mN u) _ = _
      unfold hALen
      rw [e, if_pos (by decide), if_pos rfl]
    · refine ⟨rfl, rfl, rfl, rfl, fun q hq => ?_, fun k hk => ?_⟩
      · rw [setA_I, if_neg hq, mPush_I, if_neg hq]
      · rw [setA_I, if_pos rfl]
  · rw [if_neg c]
    have n0 : ¬ nI z < 0 := nI_pos (by omega)
    have cl : (nI z).toNatClampNeg = z := nI_clamp (by omega)
    have l2 : Lay (mPush u 20 z z) := Lay_push hl
    have lt : nI z < nI 160 := nI_lt (by omega) (by decide)
    have eN : mT (mPush u 20 z z) (mN u) = (20, z) := by rw [mPush_T, if_pos rfl]
    have e12 : mT (mPush u 20 z z) 12 = (20, 160) := l2.2.1 12 (by decide)
    refine ⟨setA (mPush u 20 z z) (mN u) (va_cpy (mI (mPush u 20 z z) 12) (mI (mPush u 20 z z) (mN u)) 0 0 z), ?_, ?_⟩
    · unfold hNewA
      rw [if_pos ⟨n0, by rw [cl]; omega⟩, cl]
      show hALen (mPush u 20 z z) 12 (fun n4 => bI (fjM_min (mPush u 20 z z) n4 (nI z)) fun min6 t5 => hCpy t5 12 0 (mN u) 0 min6 fun t7 => rR (mN u) t7) = _
      rw [ln_12 l2, fjM_min_v, bI_rI, if_pos lt]
      unfold hCpy
      rw [e12, eN, cl]
      have z0 : (0 : Int32).toNatClampNeg = 0 := rfl
      rw [z0, if_pos ⟨⟨rfl, rfl⟩, ⟨by decide, by decide, n0⟩, by omega, by omega⟩]
    · refine ⟨rfl, rfl, rfl, rfl, fun q hq => ?_, fun k hk => ?_⟩
      · rw [setA_I, if_neg hq, mPush_I, if_neg hq]
      · rw [setA_I, if_pos rfl]
        unfold va_cpy
        rw [if_pos (by omega), mPush_I, if_neg (by omega)]
        rw [show 0 + (k - 0) = k by omega]
theorem CP.gw {z : Nat} (c : CP t w z) : GW t w := by
  obtain ⟨c1, c2, c3, c4, c5, c6⟩ := c
  exact ⟨by omega, fun k hk => by rw [c1]; exact if_neg (by omega), fun k hk => by rw [c2]; exact if_neg (by omega), fun k hk j _ => by rw [c5 k (by omega)]⟩
theorem GW.inv (c : GW t w) (h : Inv n m s g x p t) (hB : IvB (mT w) (mN w)) : Inv n m s g x p w := h.grow c.1 c.2.1 c.2.2.1 (fun k hk j hj => c.2.2.2 k hk j (by
  cases e : PC k j
  · rfl
  · rw [PC_s k j e] at hj; exact absurd hj (by decide))) hB
theorem CP.inv {z : Nat} (c : CP t w z) (h : Inv n m s g x p t) : Inv n m s g x p w := by
  refine c.gw.inv h ?_
  rw [c.2.2.1]
  exact h.tgs.gr (q := (20, z)) (show (20 : Nat) ≠ 8 by decide) (fun k => by rw [c.1])
theorem clause_s (h : Inv n m s g x p t0) (f : FF PC t0 u) {z : Nat} (hz : z ≤ 160) (h8 : mI u 10 8 = nI z) : ∃ w, (hGetC u 4 10 7 12 <| hGetI u 4 10 8 fun codeSize5 => bI (fjM_min u codeSize5 160) fun min7 t6 => bI (fjM_max t6 0 min7) fun max9 t8 => bQ (fjA_copyOf t8 12 max9) (fun t10 => rN t10) fun q11 t10 => rR q11 t10) = rR (mN t0) w ∧ CP u w z := by
  have hl := f.lay h.lay
  obtain ⟨w, e, c⟩ := cpy_v hl hz
  refine ⟨w, ?_, c⟩
  have n1 : ¬ (160 : Int32) < nI z := nI_nlt (a := 160) hz (by decide)
  have e0 : (if (0 : Int32) < nI z then nI z else 0) = nI z := by
    by_cases q : z = 0
    · subst q; rfl
    · rw [if_pos (show (0 : Int32) < nI z from nI_lt (a := 0) (show 0 < z by omega) (by omega))]
  rw [gC_10_7 hl, gI_10 hl, h8, fjM_min_v, bI_rI, if_neg n1, fjM_max_v, bI_rI, e0, e, bQ_rR, f.N]
/-- a clause, for the model -/
def tP (B : Nat → Nat) (p e a : Nat) (O : List Nat) : SRes := if tC B p a = 300 + e then Sr B p (tN B p a) true true [] O else .inl (tB B p a)
theorem Bt_cg {G G' : GG} (h : G' 50 = G 50) : Bt G' = Bt G := by unfold Bt; rw [h]
theorem CP.st {z : Nat} (c : CP u w z) (h : Inv n m s g x p t0) {D : List Nat} (hc : CSt t0 p u a D) : CSt w p w a D := by
  obtain ⟨f, ⟨k1, k2, k3, k4, k5⟩, ⟨d1, d2, d3⟩, l1, l2⟩ := hc
  have h68 : 68 ≤ mN u := (f.lay h.lay).1
  have hi := h.fr (f.fr PC_s)
  have e50 : Bt (pm w) = Bt (pm t0) := by
    refine Bt_cg ?_
    rw [grow_row c.gw.2.1 (fun k hk j hj => by rw [c.2.2.2.2.1 k (by omega)]) (by omega), (f.fr PC_s).2]
  have e10 : mI w 10 = mI u 10 := c.2.2.2.2.1 10 (by omega)
  have e12 : mI w 12 = mI u 12 := c.2.2.2.2.1 12 (by omega)
  refine ⟨FF.refl _ _, ?_, ⟨d1, by rw [e10]; exact d2, fun k hk => by rw [e12]; exact d3 k hk⟩, l1, l2⟩
  unfold TK
  rw [e50, e10]
  exact ⟨k1, k2, k3, k4, k5⟩
theorem CP.br {z : Nat} (c : CP u w z) (h : Inv n m s g x p t0) (hc : CBr t0 u b) : CBr w w b := by
  obtain ⟨f, h4, h2, hb, y, hy, h8⟩ := hc
  have h68 : 68 ≤ mN u := (f.lay h.lay).1
  have e10 : mI w 10 = mI u 10 := c.2.2.2.2.1 10 (by omega)
  exact ⟨FF.refl _ _, by rw [e10]; exact h4, by rw [e10]; exact h2, hb, y, hy, by rw [e10]; exact h8⟩
/-- behind a clause -/
def Nx (t w : SM) (z : Nat) : Prop := GW t w ∧ mN w = mN t + 1 ∧ mZ w = mZ t + z ∧ z ≤ 160 ∧ mT w (mN t) = (20, z)
theorem CP.nx {z : Nat} (c : CP u w z) (f : FF PC t0 u) (hz : z ≤ 160) : Nx t0 w z := ⟨f.gw.tr c.gw, by rw [c.2.2.1, f.N], by rw [c.2.2.2.1, f.Z], hz, by rw [c.1, f.N]; exact if_pos rfl⟩
theorem clause_b (h : Inv n m s g x p t0) {e : Nat} (he : e < 3) (hb : CBr t0 t0 b) : ∃ w z, fRd_clause t0 (nI (300 + e)) = rR (mN t0) w ∧ Nx t0 w z ∧ Inv n m s g x p w ∧ CBr w w b := by
  obtain ⟨f, h4, h2, hb, y, hy, h8⟩ := hb
  have c0 : CBr t0 (setI t0 10 8 0) b := ⟨f.st rfl, by rw [setI_I, if_neg (by omega)]; exact h4, by rw [setI_I, if_neg (by omega)]; exact h2, hb, 0, by decide, setI_eq rfl rfl⟩
  obtain ⟨u1, r1, c1⟩ := accept_b h.lay c0 (k := nI (300 + e)) (fun q => by have := (nI_eq (b := 257) (by omega) (by decide)).mp q; omega)
  obtain ⟨u2, r2, c2⟩ := (tower h 45 1 55 6 0 (by omega) (by decide) (by decide)).1 u1 b c1
  obtain ⟨u3, r3, c3⟩ := accept_b h.lay c2 (k := 59) (by decide)
  obtain ⟨z, hz, h8'⟩ := c3.2.2.2.2
  obtain ⟨w, r4, c4⟩ := clause_s h c3.1 hz h8'
  have r2' : atF 55 [.ref 10, .int 0] u1 (FR 45) = rV u2 := r2
  refine ⟨w, z, ?_, c4.nx c3.1 hz, c4.inv (h.fr (c3.1.fr PC_s)), c4.br h c3⟩
  unfold fRd_clause
  rw [pI_10 h.lay, rc_10 (c0.1.lay h.lay), r1, bV_rV, rc_10 (c1.1.lay h.lay), r2', bV_rV, rc_10 (c2.1.lay h.lay), r3, bV_rV]
  exact r4
theorem clause_c (h : Inv n m s g x p t0) {e : Nat} (he : e < 3) (k : TK (pm t0) p t0 a) (l2 : a ≤ p) : ∃ w z, fRd_clause t0 (nI (300 + e)) = rR (mN t0) w ∧ Nx t0 w z ∧ Inv n m s g x p w ∧
    ((∃ b, CBr w w b ∧ ∀ O, tP (Bt (pm t0)) p e a O = .inl b) ∨ ∃ a' D, CSt w p w a' D ∧ (∀ O, tP (Bt (pm t0)) p e a O = .inr (a', O ++ D)) ∧ Wf D ∧ a + D.length ≤ a' ∧ z = D.length ∧ ∀ k, k < D.length → mI w (mN t0) k = trn (D.getD k 0)) := by
  have hr := h.rng
  have hp : p ≤ 160 := hr.2.2.2.2.2
  have f : FF PC t0 t0 := FF.refl _ _
  have c0 : CSt t0 p (setI t0 10 8 0) a [] := by
    refine ⟨f.st rfl, k.cg ((FF.refl PE t0).st rfl), ⟨by decide, setI_eq rfl rfl, fun k hk => absurd hk (by simp)⟩, Nat.zero_le _, l2⟩
  have fin_b : ∀ u3 b, CBr t0 u3 b → ∃ w z, (hGetC u3 4 10 7 12 <| hGetI u3 4 10 8 fun codeSize5 => bI (fjM_min u3 codeSize5 160) fun min7 t6 => bI (fjM_max t6 0 min7) fun max9 t8 => bQ (fjA_copyOf t8 12 max9) (fun t10 => rN t10) fun q11 t10 => rR q11 t10) = rR (mN t0) w ∧ Nx t0 w z ∧ Inv n m s g x p w ∧ CBr w w b := by
    intro u3 b c3
    obtain ⟨z, hz, h8'⟩ := c3.2.2.2.2
    obtain ⟨w, r4, c4⟩ := clause_s h c3.1 hz h8'
    exact ⟨w, z, r4, c4.nx c3.1 hz, c4.inv (h.fr (c3.1.fr PC_s)), c4.br h c3⟩
  unfold fRd_clause
  rw [pI_10 h.lay, rc_10 (c0.1.lay h.lay)]
  by_cases c : tC (Bt (pm t0)) p a = 300 + e
  · obtain ⟨u1, r1, c1⟩ := accept_y h c0 (k := 300 + e) (by omega) c
    have ht := tN_lt l2 (show tC (Bt (pm t0)) p a ≠ 256 by omega)
    have hN := tN_le (B := Bt (pm t0)) l2
    rw [r1, bV_rV, rc_10 (c1.1.lay h.lay)]
    obtain ⟨u2, r2, rest⟩ := (tower h 45 1 55 6 0 (by omega) (by decide) (by decide)).2 u1 _ _ c1
    have r2' : atF 55 [.ref 10, .int 0] u1 (FR 45) = rV u2 := r2
    rw [r2', bV_rV]
    rcases rest with ⟨b, cb, er⟩ | ⟨a2, D, c2, hD, wD, ok⟩
    · obtain ⟨u3, r3, c3⟩ := accept_b h.lay cb (k := 59) (by decide)
      rw [rc_10 (cb.1.lay h.lay), r3, bV_rV]
      obtain ⟨w, z, q1, q2, q3, q4⟩ := fin_b u3 b c3
      refine ⟨w, z, q1, q2, q3, Or.inl ⟨b, q4, fun O => ?_⟩⟩
      unfold tP; rw [if_pos c]; exact e_er er O
    · have c2' : CSt t0 p u2 a2 D := c2
      have ha2 := c2.2.2.2.2
      rw [rc_10 (c2.1.lay h.lay)]
      by_cases c59 : tC (Bt (pm t0)) p a2 = 59
      · obtain ⟨u3, r3, c3⟩ := accept_y h c2' (k := 59) (by decide) c59
        have ht2 := tN_lt ha2 (show tC (Bt (pm t0)) p a2 ≠ 256 by omega)
        rw [show (59 : Int32) = nI 59 from rfl, r3, bV_rV]
        obtain ⟨w, r4, c4⟩ := clause_s h c3.1 c3.2.2.1.1 c3.2.2.1.2.1
        refine ⟨w, D.length, r4, c4.nx c3.1 c3.2.2.1.1, c4.inv (h.fr (c3.1.fr PC_s)), Or.inr ⟨_, D, c4.st h c3, fun O => ?_, wD, by omega, rfl, fun k hk => ?_⟩⟩
        · unfold tP; rw [if_pos c]; exact e_ok hp ok ha2 c59 O
        · have := c4.2.2.2.2.2 k hk
          rw [c3.1.N] at this
          rw [this]; exact c3.2.2.1.2.2 k hk
      · obtain ⟨u3, r3, c3⟩ := accept_n h c2' (k := 59) (by decide) c59
        rw [show (59 : Int32) = nI 59 from rfl, r3, bV_rV]
        obtain ⟨w, z, q1, q2, q3, q4⟩ := fin_b u3 _ c3
        refine ⟨w, z, q1, q2, q3, Or.inl ⟨_, q4, fun O => ?_⟩⟩
        unfold tP; rw [if_pos c]; exact e_no hp ok ha2 c59 O
  · obtain ⟨u1, r1, c1⟩ := accept_n h c0 (k := 300 + e) (by omega) c
    obtain ⟨u2, r2, c2⟩ := (tower h 45 1 55 6 0 (by omega) (by decide) (by decide)).1 u1 _ c1
    obtain ⟨u3, r3, c3⟩ := accept_b h.lay c2 (k := 59) (by decide)
    have r2' : atF 55 [.ref 10, .int 0] u1 (FR 45) = rV u2 := r2
    rw [r1, bV_rV, rc_10 (c1.1.lay h.lay), r2', bV_rV, rc_10 (c2.1.lay h.lay), r3, bV_rV]
    obtain ⟨w, z, q1, q2, q3, q4⟩ := fin_b u3 _ c3
    refine ⟨w, z, q1, q2, q3, Or.inl ⟨_, q4, fun O => ?_⟩⟩
    unfold tP; rw [if_neg c]
end
