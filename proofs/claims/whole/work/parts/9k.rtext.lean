section
variable {n m s g x p a b : Nat} {t t0 u w : SM}
/-- what the class's reading of a whole text gives -/
def RT (t : SM) (p : Nat) (r : OR) : Prop := ∃ w, GW t w ∧ mN w ≤ mN t + 5 ∧ mZ w ≤ mZ t + 646 ∧ IvB (mT w) (mN w) ∧ ((∃ b, b ≤ 160 ∧ r = rN w ∧ mI w 10 2 = nI b ∧ tX (Bt (pm t)) p 3 0 0 [] [] = .inl b) ∨ ∃ D0 D1 D2, r = rR (mN t + 3) w ∧ TXo t w D0 D1 D2 ∧ tX (Bt (pm t)) p 3 0 0 [] [] = .inr (D0 ++ D1 ++ D2, [0, D0.length, (D0 ++ D1).length, (D0 ++ D1 ++ D2).length]))
/-- what stands behind the clauses -/
def rdEnd (t76 : SM) (q5 q53 q77 : Nat) : OR :=
  hGetI t76 4 10 4 fun token88 =>
  if token88 = 256 then hGetI t76 4 10 2 fun fault89 =>
    if fault89 < 0 then hNew t76 8 6 fun q90 t91 =>
      hRecv t91 8 q90 <| bV (fTx_init t91 q90 q5 q53 q77) fun t92 =>
      rR q90 t92
    else rN t76
  else hRecv t76 4 10 <| bV (fRd_fail t76) fun t93 =>
  hGetI t93 4 10 2 fun fault94 =>
  if fault94 < 0 then hNew t93 8 6 fun q95 t96 =>
    hRecv t96 8 q95 <| bV (fTx_init t96 q95 q5 q53 q77) fun t97 =>
    rR q95 t97
  else rN t93
theorem rdEnd_b (hl : Lay u) (hb : CBr u u b) (q5 q53 q77 : Nat) : ∃ w, rdEnd u q5 q53 q77 = rN w ∧ FF PC u w ∧ mI w 10 2 = nI b := by
  obtain ⟨w, r, c⟩ := fail_b hl hb
  have lw := c.1.lay hl
  refine ⟨w, ?_, c.1, c.2.2.1⟩
  unfold rdEnd
  rw [gI_10 hl, hb.2.1, if_neg (by decide), rc_10 hl, r, bV_rV, gI_10 lw, c.2.2.1, if_neg (nI_pos (by have := c.2.2.2.1; omega))]
theorem rdEnd_n (h : Inv n m s g x p u) {D : List Nat} (hc : CSt u p u a D) (hk : tC (Bt (pm u)) p a ≠ 256) (q5 q53 q77 : Nat) : ∃ w, rdEnd u q5 q53 q77 = rN w ∧ FF PC u w ∧ mI w 10 2 = nI (tB (Bt (pm u)) p a) ∧ tB (Bt (pm u)) p a ≤ 160 := by
  obtain ⟨w, r, c⟩ := fail_c h hc
  have lw := c.1.lay h.lay
  have hlt := tC_lt (pm u) h rfl a hc.2.2.2.2
  have n256 : ¬ nI (tC (Bt (pm u)) p a) = 256 := fun q => hk ((nI_eq (b := 256) (by omega) (by decide)).mp q)
  refine ⟨w, ?_, c.1, c.2.2.1, c.2.2.2.1⟩
  unfold rdEnd
  rw [gI_10 h.lay, hc.2.1.2.1, if_neg n256, rc_10 h.lay, r, bV_rV, gI_10 lw, c.2.2.1, if_neg (nI_pos (by have := c.2.2.2.1; omega))]
theorem readText_e {t3 t4 t5 t6 : SM} {q5 q53 q77 : Nat} (hl : Lay t) (h3 : fRd_advance (setI (setI t 10 3 0) 10 2 (-1)) = rV t3) (l3 : Lay t3) (h4 : fRd_clause t3 300 = rR q5 t4) (l4 : Lay t4) (h5 : fRd_clause t4 301 = rR q53 t5) (l5 : Lay t5) (h6 : fRd_clause t5 302 = rR q77 t6) : fRd_readText t = rdEnd t6 q5 q53 q77 := by
  have l1 : Lay (setI t 10 3 0) := hl
  have l2 : Lay (setI (setI t 10 3 0) 10 2 (-1)) := hl
  unfold fRd_readText
  rw [pI_10 hl, pI_10 l1, rc_10 l2, h3, bV_rV, rc_10 l3, h4, bQ_rR, rc_10 l4, h5, bQ_rR, rc_10 l5, h6, bQ_rR]; rfl
theorem Nx.bt {z : Nat} (c : Nx t w z) (h : Lay t) : Bt (pm w) = Bt (pm t) := c.1.bt h
theorem readText_v (h : Inv n m s g x p t) : RT t p (fRd_readText t) := by
  have hr := h.rng
  have hp : p ≤ 160 := hr.2.2.2.2.2
  have hl := h.lay
  have h68 := hl.1
  have f2 : FF PC t (setI (setI t 10 3 0) 10 2 (-1)) := ((FF.refl PC t).st rfl).st rfl
  have h2 := h.fr (f2.fr PC_s)
  obtain ⟨t3, r3, fa, k3⟩ := advance_v (u := setI (setI t 10 3 0) 10 2 (-1)) h2 (Fr.refl _) (a := 0) (Nat.zero_le _) (by rw [setI_I, if_neg (by decide)]; exact setI_eq rfl rfl) (setI_eq rfl rfl)
  have f3 : FF PC t t3 := f2.tr (fa.up PA_C)
  have h3 := h.fr (f3.fr PC_s)
  have e3 : pm t3 = pm t := (f3.fr PC_s).2
  have e2 : pm (setI (setI t 10 3 0) 10 2 (-1)) = pm t := (f2.fr PC_s).2
  rw [e2, ← e3] at k3
  have g3 : GW t t3 := f3.gw
  have b3 : Bt (pm t3) = Bt (pm t) := by rw [e3]
  have n3 : mN t3 = mN t := f3.N
  have z3 : mZ t3 = mZ t := f3.Z
  clear fa f2 h2 e2
  obtain ⟨t4, y4, r4, x4, i4, c4⟩ := clause_c h3 (e := 0) (by decide) k3 (Nat.zero_le _)
  have g4 : GW t t4 := g3.tr x4.1
  have n4 : mN t4 = mN t + 1 := by rw [x4.2.1, n3]
  have z4 : mZ t4 ≤ mZ t + 160 := by have := x4.2.2.1; have := x4.2.2.2.1; omega
  have b4 : Bt (pm t4) = Bt (pm t) := (x4.bt h3.lay).trans b3
  rw [n3] at r4 c4
  /- a fault in a clause, and the others behind it -/
  have bad : ∀ (t6 : SM) (b q5 q53 q77 : Nat), GW t t6 → mN t6 = mN t + 3 → mZ t6 ≤ mZ t + 480 → Inv n m s g x p t6 → CBr t6 t6 b → tX (Bt (pm t)) p 3 0 0 [] [] = .inl b → RT t p (rdEnd t6 q5 q53 q77) := by
    intro t6 b q5 q53 q77 g6 n6 z6 i6 c6 hx
    obtain ⟨w, r, f, hf⟩ := rdEnd_b i6.lay c6 q5 q53 q77
    exact ⟨w, g6.tr f.gw, by rw [f.N]; omega, by rw [f.Z]; omega, by rw [f.T, f.N]; exact i6.tgs, Or.inl ⟨b, c6.2.2.2.1, r, hf, hx⟩⟩
  rcases c4 with ⟨b, cb4, p4⟩ | ⟨a4, D0, c4, p4, w4, l4, y4e, v4⟩
  · obtain ⟨t5, y5, r5, x5, i5, cb5⟩ := clause_b i4 (e := 1) (by decide) cb4
    obtain ⟨t6, y6, r6, x6, i6, cb6⟩ := clause_b i5 (e := 2) (by decide) cb5
    rw [readText_e hl r3 h3.lay r4 i4.lay r5 i5.lay r6]
    refine bad t6 b _ _ _ (g4.tr (x5.1.tr x6.1)) (by rw [x6.2.1, x5.2.1, n4]) ?_ i6 cb6 ?_
    · have := x5.2.2.1; have := x5.2.2.2.1; have := x6.2.2.1; have := x6.2.2.2.1; omega
    · rw [b3] at p4; exact tX_l p4
  · obtain ⟨t5, y5, r5, x5, i5, c5⟩ := clause_c i4 (e := 1) (by decide) c4.2.1 c4.2.2.2.2
    have g5 : GW t t5 := g4.tr x5.1
    have n5 : mN t5 = mN t + 2 := by rw [x5.2.1, n4]
    have z5 : mZ t5 ≤ mZ t + 320 := by have := x5.2.2.1; have := x5.2.2.2.1; omega
    have b5 : Bt (pm t5) = Bt (pm t) := (x5.bt i4.lay).trans b4
    rw [b3] at p4
    rw [n4] at r5 c5
    rw [b4] at c5
    rcases c5 with ⟨b, cb5, p5⟩ | ⟨a5, D1, c5, p5, w5, l5, y5e, v5⟩
    · obtain ⟨t6, y6, r6, x6, i6, cb6⟩ := clause_b i5 (e := 2) (by decide) cb5
      rw [readText_e hl r3 h3.lay r4 i4.lay r5 i5.lay r6]
      refine bad t6 b _ _ _ (g5.tr x6.1) (by rw [x6.2.1, n5]) ?_ i6 cb6 ?_
      · have := x6.2.2.1; have := x6.2.2.2.1; omega
      · rw [tX_r p4]; exact tX_l p5
    · obtain ⟨t6, y6, r6, x6, i6, c6⟩ := clause_c i5 (e := 2) (by decide) c5.2.1 c5.2.2.2.2
      have g6 : GW t t6 := g5.tr x6.1
      have n6 : mN t6 = mN t + 3 := by rw [x6.2.1, n5]
      have z6 : mZ t6 ≤ mZ t + 480 := by have := x6.2.2.1; have := x6.2.2.2.1; omega
      have b6 : Bt (pm t6) = Bt (pm t) := (x6.bt i5.lay).trans b5
      rw [n5] at r6 c6
      rw [b5] at c6
      rw [readText_e hl r3 h3.lay r4 i4.lay r5 i5.lay r6]
      rcases c6 with ⟨b, cb6, p6⟩ | ⟨a6, D2, c6, p6, w6, l6, y6e, v6⟩
      · refine bad t6 b _ _ _ g6 n6 z6 i6 cb6 ?_
        rw [tX_r p4, tX_r p5]; exact tX_l p6
      · have ex : tX (Bt (pm t)) p 3 0 0 [] [] = if tC (Bt (pm t)) p a6 = 256 then .inr (D0 ++ D1 ++ D2, [0, D0.length, (D0 ++ D1).length, (D0 ++ D1 ++ D2).length]) else .inl (tB (Bt (pm t)) p a6) := by
          rw [tX_r p4, tX_r p5, tX_r p6]; rfl
        by_cases ce : tC (Bt (pm t)) p a6 = 256
        · rw [if_pos ce] at ex
          have ha6 := c6.2.2.2.2
          have f0 : mI t6 10 2 = -1 := by rw [c6.2.1.2.2.2.2, b6, if_neg (by omega)]
          have k0 : mI t6 10 4 = 256 := by rw [c6.2.1.2.1, b6, ce]; rfl
          have T0 : mT t6 (mN t) = (20, D0.length) := by rw [x6.1.2.1 _ (by omega), x5.1.2.1 _ (by omega), ← n3, x4.2.2.2.2, y4e]
          have T1 : mT t6 (mN t + 1) = (20, D1.length) := by rw [x6.1.2.1 _ (by omega), ← n4, x5.2.2.2.2, y5e]
          have T2 : mT t6 (mN t + 2) = (20, D2.length) := by rw [← n5, x6.2.2.2.2, y6e]
          have nPC : ∀ k j, 68 ≤ k → PC k j = false := fun k j hk => by
            unfold PC
            rw [show (k == 10) = false from beq_eq_false_iff_ne.mpr (by omega), show (k == 12) = false from beq_eq_false_iff_ne.mpr (by omega)]; rfl
          have V0 : ∀ k, k < D0.length → mI t6 (mN t) k = trn (D0.getD k 0) := fun k hk => by rw [x6.1.2.2.2 _ (by omega) k (nPC _ _ h68), x5.1.2.2.2 _ (by omega) k (nPC _ _ h68)]; exact v4 k hk
          have V1 : ∀ k, k < D1.length → mI t6 (mN t + 1) k = trn (D1.getD k 0) := fun k hk => by rw [x6.1.2.2.2 _ (by omega) k (nPC _ _ (by omega))]; exact v5 k hk
          have V2 : ∀ k, k < D2.length → mI t6 (mN t + 2) k = trn (D2.getD k 0) := v6
          obtain ⟨w, q1, q2, q3, q4, q5, q6, q7⟩ := tx_new (v := t6) (a0 := mN t) (a1 := mN t + 1) (a2 := mN t + 2) (D := D0) (by omega) T0 (by omega) (fun k hk => ⟨w4.at hk, V0 k hk⟩) w4.dp
          have lt6 := i6.lay
          have rd : rdEnd t6 (mN t) (mN t + 1) (mN t + 2) = rR (mN t + 3) w := by
            have tq : (mT (mPush t6 8 0 6) (mN t6)).1 = 8 := by rw [mPush_T, if_pos rfl]
            unfold rdEnd
            rw [gI_10 lt6, k0, if_pos rfl, gI_10 lt6, f0, if_pos (by decide)]
            show hRecv (mPush t6 8 0 6) 8 (mN t6) (bV (fTx_init (mPush t6 8 0 6) (mN t6) (mN t) (mN t + 1) (mN t + 2)) fun t92 => rR (mN t6) t92) = _
            rw [hRecv, if_pos tq, q1, bV_rV, n6]
          rw [rd]
          have gw : GW t6 w := ⟨by omega, fun k hk => by rw [q4]; show (if _ then _ else _) = _; rw [if_neg (by omega), if_neg (by omega)], fun k hk => (q5 k hk).1, fun k hk j _ => by rw [(q5 k hk).2]⟩
          have ib : IvB (mT w) (mN w) := by
            have ob := i6.tgs
            intro k hk
            rw [q4] at hk ⊢
            dsimp only at hk ⊢
            by_cases e1 : k = mN t6 + 1
            · rw [if_pos e1] at hk; exact absurd hk (by decide)
            · rw [if_neg e1] at hk
              by_cases e2 : k = mN t6
              · subst e2
                exact ⟨by omega, if_pos rfl⟩
              · rw [if_neg e2] at hk
                obtain ⟨o1, o2⟩ := ob k hk
                exact ⟨by omega, by rw [if_neg (by omega), if_neg (by omega)]; exact o2⟩
          refine ⟨w, g6.tr gw, by omega, by omega, ib, Or.inr ⟨D0, D1, D2, rfl, ⟨by omega, fun e he => ?_, ?_, ?_, ?_, by omega, ?_⟩, ex⟩⟩
          · have wT : ∀ k, k < mN t6 → mT w k = mT t6 k := gw.2.1
            have wI : ∀ k, k < mN t6 → mI w k = mI t6 k := fun k hk => (q5 k hk).2
            obtain ⟨s0, s1, s2, s3⟩ := q6
            rw [n6] at s0 s1 s2
            rcases (by omega : e = 0 ∨ e = 1 ∨ e = 2) with z | z | z
            · subst z; exact ⟨by rw [wT _ (by omega)]; exact T0, fun k hk => by rw [wI _ (by omega)]; exact V0 k hk, w4, s0⟩
            · subst z; exact ⟨by rw [wT _ (by omega)]; exact T1, fun k hk => by rw [wI _ (by omega)]; exact V1 k hk, w5, s1⟩
            · subst z; exact ⟨by rw [wT _ (by omega)]; exact T2, fun k hk => by rw [wI _ (by omega)]; exact V2 k hk, w6, s2⟩
          · rw [q4, ← n6]; show (if _ then _ else _) = _; rw [if_neg (by omega), if_pos rfl]
          · rw [q4]; show (if _ then _ else _) = _; rw [if_pos (by omega)]
          · rw [← n6, q6.2.2.2]; congr 1; omega
          · rw [← n6]; exact q7
        · rw [if_neg ce] at ex
          obtain ⟨w, r, f, hf, hb⟩ := rdEnd_n i6 c6 (by rw [b6]; exact ce) (mN t) (mN t + 1) (mN t + 2)
          rw [b6] at hf hb
          exact ⟨w, g6.tr f.gw, by rw [f.N]; omega, by rw [f.Z]; omega, by rw [f.T, f.N]; exact i6.tgs, Or.inl ⟨_, hb, r, hf, ex⟩⟩
end
