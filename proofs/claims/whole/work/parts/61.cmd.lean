section
variable {n m s g x p : Nat} {t u : SM} {k j : Nat} {v : Int32}
/-! what stays, after writing -/
theorem pmI_39_0 (h : Lay t) : pm (setI t 39 0 v) = fun q i => if q = 39 ∧ i = 0 then v else pm t q i := pm_setF h rfl rfl
theorem pmI_39_1 (h : Lay t) : pm (setI t 39 1 v) = fun q i => if q = 39 ∧ i = 1 then v else pm t q i := pm_setF h rfl rfl
theorem pmI_39_2 (h : Lay t) : pm (setI t 39 2 v) = fun q i => if q = 39 ∧ i = 2 then v else pm t q i := pm_setF h rfl rfl
theorem pmI_39_3 (h : Lay t) : pm (setI t 39 3 v) = fun q i => if q = 39 ∧ i = 3 then v else pm t q i := pm_setF h rfl rfl
theorem pmI_39_9 (h : Lay t) : pm (setI t 39 9 v) = fun q i => if q = 39 ∧ i = 9 then v else pm t q i := pm_setF h rfl rfl
theorem pmI_39_14 (h : Lay t) : pm (setI t 39 14 v) = fun q i => if q = 39 ∧ i = 14 then v else pm t q i := pm_setF h rfl rfl
theorem pmI_39_17 (h : Lay t) : pm (setI t 39 17 v) = fun q i => if q = 39 ∧ i = 17 then v else pm t q i := pm_setF h rfl rfl
theorem pmI_39_20 (h : Lay t) : pm (setI t 39 20 v) = fun q i => if q = 39 ∧ i = 20 then v else pm t q i := pm_setF h rfl rfl
theorem pmI_39_21 (h : Lay t) : pm (setI t 39 21 v) = fun q i => if q = 39 ∧ i = 21 then v else pm t q i := pm_setF h rfl rfl
theorem pmI_39_22 (h : Lay t) : pm (setI t 39 22 v) = fun q i => if q = 39 ∧ i = 22 then v else pm t q i := pm_setF h rfl rfl
theorem pmI_39_23 (h : Lay t) : pm (setI t 39 23 v) = fun q i => if q = 39 ∧ i = 23 then v else pm t q i := pm_setF h rfl rfl
theorem pmI_39_24 (h : Lay t) : pm (setI t 39 24 v) = fun q i => if q = 39 ∧ i = 24 then v else pm t q i := pm_setF h rfl rfl
theorem pmI_39_25 (h : Lay t) : pm (setI t 39 25 v) = fun q i => if q = 39 ∧ i = 25 then v else pm t q i := pm_setF h rfl rfl
theorem pmI_39_26 (h : Lay t) : pm (setI t 39 26 v) = fun q i => if q = 39 ∧ i = 26 then v else pm t q i := pm_setF h rfl rfl
theorem pmI_0_0 (h : Lay t) : pm (setI t 0 0 v) = fun q i => if q = 0 ∧ i = 0 then v else pm t q i := pm_setF h rfl rfl
theorem pmI_0_1 (h : Lay t) : pm (setI t 0 1 v) = fun q i => if q = 0 ∧ i = 1 then v else pm t q i := pm_setF h rfl rfl
theorem pmI_0_2 (h : Lay t) : pm (setI t 0 2 v) = fun q i => if q = 0 ∧ i = 2 then v else pm t q i := pm_setF h rfl rfl
theorem pmI_0_6 (h : Lay t) : pm (setI t 0 6 v) = fun q i => if q = 0 ∧ i = 6 then v else pm t q i := pm_setF h rfl rfl
theorem pmI_0_8 (h : Lay t) : pm (setI t 0 8 v) = fun q i => if q = 0 ∧ i = 8 then v else pm t q i := pm_setF h rfl rfl
theorem pmI_0_9 (h : Lay t) : pm (setI t 0 9 v) = fun q i => if q = 0 ∧ i = 9 then v else pm t q i := pm_setF h rfl rfl
theorem pmI_1_1 (h : Lay t) : pm (setI t 1 1 v) = fun q i => if q = 1 ∧ i = 1 then v else pm t q i := pm_setF h rfl rfl
theorem pmI_5_1 (h : Lay t) : pm (setI t 5 1 v) = fun q i => if q = 5 ∧ i = 1 then v else pm t q i := pm_setF h rfl rfl
theorem pmI_10_1 (h : Lay t) : pm (setI t 10 1 v) = fun q i => if q = 10 ∧ i = 1 then v else pm t q i := pm_setF h rfl rfl
theorem pmI_13_0 (h : Lay t) : pm (setI t 13 0 v) = fun q i => if q = 13 ∧ i = 0 then v else pm t q i := pm_setF h rfl rfl
theorem pmI_13_1 (h : Lay t) : pm (setI t 13 1 v) = fun q i => if q = 13 ∧ i = 1 then v else pm t q i := pm_setF h rfl rfl
theorem pmI_13_2 (h : Lay t) : pm (setI t 13 2 v) = fun q i => if q = 13 ∧ i = 2 then v else pm t q i := pm_setF h rfl rfl
theorem pmI_13_3 (h : Lay t) : pm (setI t 13 3 v) = fun q i => if q = 13 ∧ i = 3 then v else pm t q i := pm_setF h rfl rfl
theorem pmI_13_4 (h : Lay t) : pm (setI t 13 4 v) = fun q i => if q = 13 ∧ i = 4 then v else pm t q i := pm_setF h rfl rfl
theorem pmI_3_r (h : Lay t) : pm (setI t 3 j v) = fun q i => if q = 3 ∧ i = j then v else pm t q i := pm_setF h rfl rfl
theorem pmI_8_r (h : Lay t) : pm (setI t 8 j v) = fun q i => if q = 8 ∧ i = j then v else pm t q i := pm_setF h rfl rfl
theorem pmI_11_r (h : Lay t) : pm (setI t 11 j v) = fun q i => if q = 11 ∧ i = j then v else pm t q i := pm_setF h rfl rfl
theorem pmI_14_r (h : Lay t) : pm (setI t 14 j v) = fun q i => if q = 14 ∧ i = j then v else pm t q i := pm_setF h rfl rfl
theorem pmI_32_r (h : Lay t) : pm (setI t 32 j v) = fun q i => if q = 32 ∧ i = j then v else pm t q i := pm_setF h rfl rfl
theorem pmI_34_r (h : Lay t) : pm (setI t 34 j v) = fun q i => if q = 34 ∧ i = j then v else pm t q i := pm_setF h rfl rfl
theorem pmI_36_r (h : Lay t) : pm (setI t 36 j v) = fun q i => if q = 36 ∧ i = j then v else pm t q i := pm_setF h rfl rfl
theorem pmI_38_r (h : Lay t) : pm (setI t 38 j v) = fun q i => if q = 38 ∧ i = j then v else pm t q i := pm_setF h rfl rfl
theorem pmI_40_r (h : Lay t) : pm (setI t 40 j v) = fun q i => if q = 40 ∧ i = j then v else pm t q i := pm_setF h rfl rfl
theorem pmI_41_r (h : Lay t) : pm (setI t 41 j v) = fun q i => if q = 41 ∧ i = j then v else pm t q i := pm_setF h rfl rfl
theorem pmI_42_r (h : Lay t) : pm (setI t 42 j v) = fun q i => if q = 42 ∧ i = j then v else pm t q i := pm_setF h rfl rfl
theorem pmI_43_r (h : Lay t) : pm (setI t 43 j v) = fun q i => if q = 43 ∧ i = j then v else pm t q i := pm_setF h rfl rfl
theorem pmI_44_r (h : Lay t) : pm (setI t 44 j v) = fun q i => if q = 44 ∧ i = j then v else pm t q i := pm_setF h rfl rfl
theorem pmI_45_r (h : Lay t) : pm (setI t 45 j v) = fun q i => if q = 45 ∧ i = j then v else pm t q i := pm_setF h rfl rfl
theorem pmI_46_r (h : Lay t) : pm (setI t 46 j v) = fun q i => if q = 46 ∧ i = j then v else pm t q i := pm_setF h rfl rfl
theorem pmI_47_r (h : Lay t) : pm (setI t 47 j v) = fun q i => if q = 47 ∧ i = j then v else pm t q i := pm_setF h rfl rfl
theorem pmI_48_r (h : Lay t) : pm (setI t 48 j v) = fun q i => if q = 48 ∧ i = j then v else pm t q i := pm_setF h rfl rfl
theorem pmI_49_r (h : Lay t) : pm (setI t 49 j v) = fun q i => if q = 49 ∧ i = j then v else pm t q i := pm_setF h rfl rfl
theorem pmI_50_r (h : Lay t) : pm (setI t 50 j v) = fun q i => if q = 50 ∧ i = j then v else pm t q i := pm_setF h rfl rfl
theorem pmI_51_r (h : Lay t) : pm (setI t 51 j v) = fun q i => if q = 51 ∧ i = j then v else pm t q i := pm_setF h rfl rfl
theorem pmI_52_r (h : Lay t) : pm (setI t 52 j v) = fun q i => if q = 52 ∧ i = j then v else pm t q i := pm_setF h rfl rfl
theorem pmI_53_r (h : Lay t) : pm (setI t 53 j v) = fun q i => if q = 53 ∧ i = j then v else pm t q i := pm_setF h rfl rfl
theorem pmI_54_r (h : Lay t) : pm (setI t 54 j v) = fun q i => if q = 54 ∧ i = j then v else pm t q i := pm_setF h rfl rfl
theorem pmI_55_r (h : Lay t) : pm (setI t 55 j v) = fun q i => if q = 55 ∧ i = j then v else pm t q i := pm_setF h rfl rfl
theorem pmI_56_r (h : Lay t) : pm (setI t 56 j v) = fun q i => if q = 56 ∧ i = j then v else pm t q i := pm_setF h rfl rfl
theorem pmI_31_0 (h : Lay t) : pm (setI t 31 0 v) = fun q i => if q = 31 ∧ i = 0 then v else pm t q i := pm_setF h rfl rfl
theorem pmI_31_1 (h : Lay t) : pm (setI t 31 1 v) = fun q i => if q = 31 ∧ i = 1 then v else pm t q i := pm_setF h rfl rfl
theorem pmI_33_0 (h : Lay t) : pm (setI t 33 0 v) = fun q i => if q = 33 ∧ i = 0 then v else pm t q i := pm_setF h rfl rfl
theorem pmI_33_1 (h : Lay t) : pm (setI t 33 1 v) = fun q i => if q = 33 ∧ i = 1 then v else pm t q i := pm_setF h rfl rfl
theorem pmI_35_0 (h : Lay t) : pm (setI t 35 0 v) = fun q i => if q = 35 ∧ i = 0 then v else pm t q i := pm_setF h rfl rfl
theorem pmI_35_1 (h : Lay t) : pm (setI t 35 1 v) = fun q i => if q = 35 ∧ i = 1 then v else pm t q i := pm_setF h rfl rfl
theorem pmI_37_0 (h : Lay t) : pm (setI t 37 0 v) = fun q i => if q = 37 ∧ i = 0 then v else pm t q i := pm_setF h rfl rfl
theorem pmI_37_1 (h : Lay t) : pm (setI t 37 1 v) = fun q i => if q = 37 ∧ i = 1 then v else pm t q i := pm_setF h rfl rfl
/-- rows but some are as they were -/
def SR (K : List Nat) (G G' : GG) : Prop := ∀ k, k ∉ K → G' k = G k
theorem SR.refl (K : List Nat) (G : GG) : SR K G G := fun _ _ => rfl
theorem SR.tr {K : List Nat} {G G' G2 : GG} (h : SR K G G') (h2 : SR K G' G2) : SR K G G2 := fun k hk => (h2 k hk).trans (h k hk)
theorem pm_ne {q : Nat} (h : q ≠ k) : pm (setI t k j v) q = pm t q := by
  funext i
  unfold pm
  rw [setI_T, setI_ne h]
theorem SR.st {K : List Nat} {G : GG} (h : SR K G (pm t)) (hk : k ∈ K) : SR K G (pm (setI t k j v)) := fun q hq => (pm_ne (fun e => hq (by rw [e]; exact hk))).trans (h q hq)
theorem SR.fr {K : List Nat} {G : GG} (h : SR K G (pm t)) (f : Fr t u) : SR K G (pm u) := by rw [f.2]; exact h
theorem IvN.mk {G : GG} (r : (1 ≤ n ∧ n ≤ 9) ∧ m ≤ 8 ∧ s ≤ 12 ∧ g ≤ 6 ∧ (1 ≤ x ∧ x ≤ 6) ∧ p ≤ 160) (a1 : G 39 0 = nI n) (a2 : G 0 0 = nI n) (b1 : G 39 3 = nI m) (b2 : G 1 1 = nI m) (c1 : G 39 9 = nI s) (c2 : G 5 1 = nI s) (d1 : G 39 14 = nI g) (d2 : G 0 6 = nI g)
    (e1 : G 39 20 = nI x) (e2 : G 0 8 = nI x) (f1 : G 39 17 = nI p) (f2 : G 10 1 = nI p) (g1 : G 0 1 = G 39 1) (g2 : G 0 2 = G 39 2) (g3 : G 0 9 = G 39 21) (l : ∃ l, l < x ∧ G 39 21 = nI l) : IvN n m s g x p G :=
  ⟨r, ⟨a1, a2⟩, ⟨b1, b2⟩, ⟨c1, c2⟩, ⟨d1, d2⟩, ⟨e1, e2⟩, ⟨f1, f2⟩, g1, g2, g3, l⟩
variable {G G' : GG} {R : Nat → Nat → Option Nat} {T : Nat → Nat × Nat} {N : Nat} {K : List Nat}
theorem IvG.c (h : IvG g G) (r : SR K G G') (h1 : 8 ∉ K) (h2 : 49 ∉ K) : IvG g G' := by unfold IvG; rw [r 8 h1, r 49 h2]; exact h
theorem IvT.c (h : IvT p G) (r : SR K G G') (h1 : 11 ∉ K) (h2 : 50 ∉ K) : IvT p G' := by unfold IvT; rw [r 11 h1, r 50 h2]; exact h
theorem IvS.c (h : IvS G) (r : SR K G G') (h1 : ∀ k, 31 ≤ k → k ≤ 38 → k ∉ K) (h2 : 54 ∉ K) (h3 : 55 ∉ K) (h4 : 56 ∉ K) : IvS G' := by
  intro i hi
  rw [r _ (h1 (31 + 2 * i) (by omega) (by omega)), r _ (h1 (32 + 2 * i) (by omega) (by omega)), r 54 h2, r 55 h3, r 56 h4]
  exact h i hi
theorem IvM.c (h : IvM n m G) (r : SR K G G') (h1 : 40 ∉ K) (h2 : 41 ∉ K) (h3 : 42 ∉ K) (h4 : 43 ∉ K) : IvM n m G' := by unfold IvM; rw [r 40 h1, r 41 h2, r 42 h3, r 43 h4]; exact h
theorem IvC.c (h : IvC m G R T N) (r : SR K G G') (h1 : 40 ∉ K) (h2 : 41 ∉ K) (h3 : 42 ∉ K) (h4 : 43 ∉ K) (h5 : 44 ∉ K) (hk : ∀ k, 68 ≤ k → k ∉ K) : IvC m G' R T N := by
  refine ⟨fun i hi => ?_, h.2⟩
  obtain ⟨q, hq, hc⟩ := h.1 i hi
  refine ⟨q, hq, ?_⟩
  have := hc.1
  unfold ChA
  rw [r q (hk q (by omega)), r 40 h1, r 41 h2, r 42 h3, r 43 h4, r 44 h5]
  exact hc
theorem agF_c {w : Int32} (r : SR K G G') (h1 : 40 ∉ K) (h2 : 41 ∉ K) (h3 : 42 ∉ K) (h4 : 43 ∉ K) : ∀ f i, agF G' w f i = agF G w f i := by
  have e : ∀ i, ag1 G' i w = ag1 G i w := fun i => by unfold ag1 slp; rw [r 40 h1, r 41 h2, r 42 h3, r 43 h4]
  intro f
  induction f with
  | zero => intro i; exact e i
  | succ f ih => intro i; unfold agF; rw [e, ih, r 40 h1, r 41 h2, r 43 h4]
theorem IvA.c (h : IvA m G) (r : SR K G G') (h0 : 3 ∉ K) (h1 : 40 ∉ K) (h2 : 41 ∉ K) (h3 : 42 ∉ K) (h4 : 43 ∉ K) : IvA m G' := by
  intro j hj
  obtain ⟨q, a, b, c⟩ := h j hj
  exact ⟨q, a, by rw [r 3 h0]; exact b, fun i hi => by unfold agr; rw [agF_c r h1 h2 h3 h4]; exact c i hi⟩
theorem IvR.c (h : IvR n s G R T N) (r : SR K G G') (h1 : 45 ∉ K) (h2 : 46 ∉ K) (h3 : 47 ∉ K) (h4 : 48 ∉ K) (hk : ∀ k, 68 ≤ k → k ∉ K) : IvR n s G' R T N := by
  intro i hi
  obtain ⟨a, q, hq, hc⟩ := h i hi
  refine ⟨by unfold StV; rw [r 45 h1, r 46 h2, r 47 h3, r 48 h4]; exact a, q, hq, ?_⟩
  have := hc.1
  unfold StA
  rw [r q (hk q (by omega)), r 45 h1, r 46 h2, r 47 h3, r 48 h4]
  exact hc
theorem cds_c {l e : Nat} (r : SR K G G') (h1 : 51 ∉ K) (h2 : 52 ∉ K) : cds G' l e = cds G l e := by unfold cds; rw [r 51 h1, r 52 h2]
theorem IvX.c (h : IvX x G R T N) (r : SR K G G') (h1 : 51 ∉ K) (h2 : 52 ∉ K) (hk : ∀ k, (26 ≤ k ∧ k ≤ 29) ∨ 68 ≤ k → k ∉ K) : IvX x G' R T N := by
  intro i hi
  obtain ⟨q, hq, a, b, c, d, e, f, gg⟩ := h i hi
  refine ⟨q, hq, a, b, c, d, e, fun z hz => ?_, fun z hz => ?_⟩
  · obtain ⟨f1, b1, d1, f2, f3, f4, f5, f6, f7, f8⟩ := f z hz
    refine ⟨f1, b1, d1, f2, f3, by rw [r 52 h2]; exact f4, by rw [r 52 h2]; exact f5, f6, fun k hk2 => ?_, by rw [cds_c r h1 h2]; exact f8⟩
    obtain ⟨cc, g1, g2, g3⟩ := f7 k hk2
    exact ⟨cc, g1, by rw [r 51 h1]; exact g2, by rw [r _ (hk _ (by have := a.1; omega))]; exact g3⟩
  · rw [r q (hk q (by have := a.1; omega)), cds_c r h1 h2]; exact gg z hz
theorem IvW.c (h : IvW G) (r : SR K G G') (h1 : 58 ∉ K) : IvW G' := by unfold IvW; rw [r 58 h1]; exact h
/-- numbers and image alone have changed -/
theorem Inv.num1 {n' m' s' g' x' p' : Nat} (h : Inv n m s g x p t) (e : u.2 = t.2) (r : SR [0, 1, 5, 10, 13, 14, 39, 53] (pm t) (pm u)) (hn : IvN n' m' s' g' x' p' (pm u)) (hi : IvI m' x' (pm u)) (hg : g' = g) (hp : p' = p) (hm : n' = n ∧ m' ≤ m ∨ m' = 0) (hs : n' = n ∧ s' = s ∨ s' = 0) (hx : x' = x) : Inv n' m' s' g' x' p' u := by
  have eT : mT u = mT t := by unfold mT; rw [e]
  have eR : mR u = mR t := by unfold mR; rw [e]
  have eN : mN u = mN t := by unfold mN; rw [e]
  subst hg; subst hp; subst hx
  have k68 : ∀ k, 68 ≤ k → k ∉ [0, 1, 5, 10, 13, 14, 39, 53] := fun k hk hm => by simp at hm; omega
  have hM : IvM n m (pm u) := h.mps.c r (by decide) (by decide) (by decide) (by decide)
  have hC : IvC m (pm u) (mR t) (mT t) (mN t) := h.chs.c r (by decide) (by decide) (by decide) (by decide) (by decide) k68
  have hA : IvA m (pm u) := h.agg.c r (by decide) (by decide) (by decide) (by decide) (by decide)
  have hR : IvR n s (pm u) (mR t) (mT t) (mN t) := h.sts.c r (by decide) (by decide) (by decide) (by decide) k68
  refine ⟨by unfold Lay; rw [eT, eR, eN]; exact h.lay, ?_⟩
  rw [eT, eR, eN]
  refine ⟨hn, h.gos.c r (by decide) (by decide), h.tap.c r (by decide) (by decide), hi, h.shs.c r (fun k a b hm => by simp at hm; omega) (by decide) (by decide) (by decide), ?_, ?_, ?_, ?_, h.txs.c r (by decide) (by decide) (fun k a hm => by simp at hm; omega), h.tgs, h.wds.c r (by decide)⟩
  · rcases hm with ⟨e1, e2⟩ | e1
    · subst e1; exact fun i hi => hM i (by omega)
    · subst e1; exact fun i hi => absurd hi (by omega)
  · rcases hm with ⟨_, e2⟩ | e1
    · exact ⟨fun i hi => hC.1 i (by omega), fun i j q a b => hC.2 i j q (by omega) (by omega)⟩
    · subst e1; exact ⟨fun i hi => absurd hi (by omega), fun i j q a => absurd a (by omega)⟩
  · rcases hm with ⟨_, e2⟩ | e1
    · intro j hj
      obtain ⟨q, a, b, c⟩ := hA j hj
      exact ⟨q, a, b, fun i hi => c i (by omega)⟩
    · subst e1
      intro j hj
      obtain ⟨q, a, b, c⟩ := hA j hj
      exact ⟨q, a, b, fun i hi => absurd hi (by omega)⟩
  · rcases hs with ⟨e1, e2⟩ | e1
    · subst e1; subst e2; exact hR
    · subst e1; exact fun i hi => absurd hi (by omega)
theorem okc {t1 t2 : SM} {fx fm : SM → OR} {v : Int32} (e1 : fx t = rI v t1) (e2 : fm t1 = rI v t2) (l1 : Lay t1) {n' m' s' g' x' p' : Nat} (h : Inv n' m' s' g' x' p' t2) (hN : mN t2 = mN t) (hZ : mZ t2 = mZ t) : Okk t fx fm :=
  ⟨v, t1, t2, e1, e2, ⟨n', m', s', g', x', p', h⟩, by omega, by omega, l1⟩
theorem okr (h : Inv n m s g x p t) {fx fm : SM → OR} {v : Int32} (e1 : fx t = rI v t) (e2 : fm t = rI v t) : Okk t fx fm := okc e1 e2 h.lay h rfl rfl
end
