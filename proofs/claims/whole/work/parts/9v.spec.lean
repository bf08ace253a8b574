section
variable {xn i : Nat} {xs : Nat → Int32} {t : SM}
/-! what the law's function does -/
theorem hs_v {k : Nat} (hi : i + k < xn) (hx : xn ≤ 384) {c : Int32 → OR} : hScr xn xs (nI i + nI k) c = c (xs (i + k)) := by
  unfold hScr
  rw [nI_add, if_pos (nI_in hi (by omega)), nI_clamp (by omega)]
theorem hs1 (hi : i + 6 ≤ xn) (hx : xn ≤ 384) {c : Int32 → OR} : hScr xn xs (nI i + 1) c = c (xs (i + 1)) := hs_v (k := 1) (by omega) hx
theorem hs2 (hi : i + 6 ≤ xn) (hx : xn ≤ 384) {c : Int32 → OR} : hScr xn xs (nI i + 2) c = c (xs (i + 2)) := hs_v (k := 2) (by omega) hx
theorem hs3 (hi : i + 6 ≤ xn) (hx : xn ≤ 384) {c : Int32 → OR} : hScr xn xs (nI i + 3) c = c (xs (i + 3)) := hs_v (k := 3) (by omega) hx
theorem hs4 (hi : i + 6 ≤ xn) (hx : xn ≤ 384) {c : Int32 → OR} : hScr xn xs (nI i + 4) c = c (xs (i + 4)) := hs_v (k := 4) (by omega) hx
theorem hs5 (hi : i + 6 ≤ xn) (hx : xn ≤ 384) {c : Int32 → OR} : hScr xn xs (nI i + 5) c = c (xs (i + 5)) := hs_v (k := 5) (by omega) hx
theorem nI_a6 (y : Nat) : nI y + 6 = nI (y + 6) := nI_add y 6
theorem cas {fx fm : SM → OR} (hl : Lay t) (ok : Okk t fx fm) : ∃ t2, IvE t2 ∧ mN t2 ≤ mN t + 24 ∧ mZ t2 ≤ mZ t + 1000 ∧ ∀ K : SM → OR, (hRecv t 10 0 <| bI (fx t) fun a t1 => hRecv t1 11 39 <| bI (fm t1) fun b t2 => if a = b then K t2 else rI 0 t2) = K t2 := by
  obtain ⟨v, t1, t2, e1, e2, h3, h4, h5, h6⟩ := ok
  exact ⟨t2, h3, h4, h5, fun K => by rw [rc_0 hl, e1, bI_rI, rc_39 h6, e2, bI_rI, if_pos rfl]⟩
theorem cs_0 (h : IvE t) (hi : i + 6 ≤ xn) (hx : xn ≤ 384) : ∃ t2, IvE t2 ∧ (mN t2 ≤ mN t + 24 ∧ mZ t2 ≤ mZ t + 1000) ∧ ∀ J : Nat → SM → Int32 → OR, fL_0 xn xs F_108 F_188 J t (nI i) = J 18 t2 (nI (i + 6)) := by
  obtain ⟨n, m, s, g, x, p, h⟩ := h
  obtain ⟨t2, a, b, c, d⟩ := cas h.lay (ok_town h (xs (i + 1)))
  refine ⟨t2, a, ⟨b, c⟩, fun J => ?_⟩
  rw [← nI_a6]
  unfold fL_0
  simp only [hs1 hi hx]
  exact d (fun t2 => J 18 t2 (nI i + 6))
theorem cs_1 (h : IvE t) (hi : i + 6 ≤ xn) (hx : xn ≤ 384) : ∃ t2, IvE t2 ∧ (mN t2 ≤ mN t + 24 ∧ mZ t2 ≤ mZ t + 1000) ∧ ∀ J : Nat → SM → Int32 → OR, fL_1 xn xs F_109 F_189 J t (nI i) = J 18 t2 (nI (i + 6)) := by
  obtain ⟨n, m, s, g, x, p, h⟩ := h
  obtain ⟨t2, a, b, c, d⟩ := cas h.lay (ok_count h (xs (i + 1)))
  refine ⟨t2, a, ⟨b, c⟩, fun J => ?_⟩
  rw [← nI_a6]
  unfold fL_1
  simp only [hs1 hi hx]
  exact d (fun t2 => J 18 t2 (nI i + 6))
theorem cs_2 (h : IvE t) (hi : i + 6 ≤ xn) (hx : xn ≤ 384) : ∃ t2, IvE t2 ∧ (mN t2 ≤ mN t + 24 ∧ mZ t2 ≤ mZ t + 1000) ∧ ∀ J : Nat → SM → Int32 → OR, fL_2 xn xs F_110 F_190 J t (nI i) = J 18 t2 (nI (i + 6)) := by
  obtain ⟨n, m, s, g, x, p, h⟩ := h
  obtain ⟨t2, a, b, c, d⟩ := cas h.lay (ok_feed h (((Int32.toInt64 (xs (i + 1))) <<< (Int32.toInt64 32 &&& 63)) ||| ((Int32.toInt64 (xs (i + 2))) &&& (4294967295 : Int64))) (xs (i + 3)))
  refine ⟨t2, a, ⟨b, c⟩, fun J => ?_⟩
  rw [← nI_a6]
  unfold fL_2
  simp only [hs1 hi hx, hs2 hi hx, hs3 hi hx]
  exact d (fun t2 => J 18 t2 (nI i + 6))
theorem cs_3 (h : IvE t) (hi : i + 6 ≤ xn) (hx : xn ≤ 384) : ∃ t2, IvE t2 ∧ (mN t2 ≤ mN t + 24 ∧ mZ t2 ≤ mZ t + 1000) ∧ ∀ J : Nat → SM → Int32 → OR, fL_3 xn xs F_111 F_201 J t (nI i) = J 18 t2 (nI (i + 6)) := by
  obtain ⟨n, m, s, g, x, p, h⟩ := h
  obtain ⟨t2, a, b, c, d⟩ := cas h.lay (ok_text h )
  refine ⟨t2, a, ⟨b, c⟩, fun J => ?_⟩
  rw [← nI_a6]
  unfold fL_3
  exact d (fun t2 => J 18 t2 (nI i + 6))
theorem cs_4 (h : IvE t) (hi : i + 6 ≤ xn) (hx : xn ≤ 384) : ∃ t2, IvE t2 ∧ (mN t2 ≤ mN t + 24 ∧ mZ t2 ≤ mZ t + 1000) ∧ ∀ J : Nat → SM → Int32 → OR, fL_4 xn xs F_112 F_205 J t (nI i) = J 18 t2 (nI (i + 6)) := by
  obtain ⟨n, m, s, g, x, p, h⟩ := h
  obtain ⟨t2, a, b, c, d⟩ := cas h.lay (ok_force h (xs (i + 1)))
  refine ⟨t2, a, ⟨b, c⟩, fun J => ?_⟩
  rw [← nI_a6]
  unfold fL_4
  simp only [hs1 hi hx]
  exact d (fun t2 => J 18 t2 (nI i + 6))
theorem cs_5 (h : IvE t) (hi : i + 6 ≤ xn) (hx : xn ≤ 384) : ∃ t2, IvE t2 ∧ (mN t2 ≤ mN t + 24 ∧ mZ t2 ≤ mZ t + 1000) ∧ ∀ J : Nat → SM → Int32 → OR, fL_5 xn xs F_113 F_207 J t (nI i) = J 18 t2 (nI (i + 6)) := by
  obtain ⟨n, m, s, g, x, p, h⟩ := h
  obtain ⟨t2, a, b, c, d⟩ := cas h.lay (ok_may h (xs (i + 1)))
  refine ⟨t2, a, ⟨b, c⟩, fun J => ?_⟩
  rw [← nI_a6]
  unfold fL_5
  simp only [hs1 hi hx]
  exact d (fun t2 => J 18 t2 (nI i + 6))
theorem cs_6 (h : IvE t) (hi : i + 6 ≤ xn) (hx : xn ≤ 384) : ∃ t2, IvE t2 ∧ (mN t2 ≤ mN t + 24 ∧ mZ t2 ≤ mZ t + 1000) ∧ ∀ J : Nat → SM → Int32 → OR, fL_6 xn xs F_114 F_208 J t (nI i) = J 18 t2 (nI (i + 6)) := by
  obtain ⟨n, m, s, g, x, p, h⟩ := h
  obtain ⟨t2, a, b, c, d⟩ := cas h.lay (ok_map h (xs (i + 1)) (xs (i + 2)) (xs (i + 3)) (xs (i + 4)))
  refine ⟨t2, a, ⟨b, c⟩, fun J => ?_⟩
  rw [← nI_a6]
  unfold fL_6
  simp only [hs1 hi hx, hs2 hi hx, hs3 hi hx, hs4 hi hx]
  exact d (fun t2 => J 18 t2 (nI i + 6))
theorem cs_7 (h : IvE t) (hi : i + 6 ≤ xn) (hx : xn ≤ 384) : ∃ t2, IvE t2 ∧ (mN t2 ≤ mN t + 24 ∧ mZ t2 ≤ mZ t + 1000) ∧ ∀ J : Nat → SM → Int32 → OR, fL_7 xn xs F_115 F_209 J t (nI i) = J 18 t2 (nI (i + 6)) := by
  obtain ⟨n, m, s, g, x, p, h⟩ := h
  obtain ⟨t2, a, b, c, d⟩ := cas h.lay (ok_drop h )
  refine ⟨t2, a, ⟨b, c⟩, fun J => ?_⟩
  rw [← nI_a6]
  unfold fL_7
  exact d (fun t2 => J 18 t2 (nI i + 6))
theorem cs_8 (h : IvE t) (hi : i + 6 ≤ xn) (hx : xn ≤ 384) : ∃ t2, IvE t2 ∧ (mN t2 ≤ mN t + 24 ∧ mZ t2 ≤ mZ t + 1000) ∧ ∀ J : Nat → SM → Int32 → OR, fL_8 xn xs F_116 F_210 J t (nI i) = J 18 t2 (nI (i + 6)) := by
  obtain ⟨n, m, s, g, x, p, h⟩ := h
  obtain ⟨t2, a, b, c, d⟩ := cas h.lay (ok_price h (xs (i + 1)) (xs (i + 2)))
  refine ⟨t2, a, ⟨b, c⟩, fun J => ?_⟩
  rw [← nI_a6]
  unfold fL_8
  simp only [hs1 hi hx, hs2 hi hx]
  exact d (fun t2 => J 18 t2 (nI i + 6))
theorem cs_9 (h : IvE t) (hi : i + 6 ≤ xn) (hx : xn ≤ 384) : ∃ t2, IvE t2 ∧ (mN t2 ≤ mN t + 24 ∧ mZ t2 ≤ mZ t + 1000) ∧ ∀ J : Nat → SM → Int32 → OR, fL_9 xn xs F_117 F_211 J t (nI i) = J 18 t2 (nI (i + 6)) := by
  obtain ⟨n, m, s, g, x, p, h⟩ := h
  obtain ⟨t2, a, b, c, d⟩ := cas h.lay (ok_told h (xs (i + 1)) (xs (i + 2)))
  refine ⟨t2, a, ⟨b, c⟩, fun J => ?_⟩
  rw [← nI_a6]
  unfold fL_9
  simp only [hs1 hi hx, hs2 hi hx]
  exact d (fun t2 => J 18 t2 (nI i + 6))
theorem cs_10 (h : IvE t) (hi : i + 6 ≤ xn) (hx : xn ≤ 384) : ∃ t2, IvE t2 ∧ (mN t2 ≤ mN t + 24 ∧ mZ t2 ≤ mZ t + 1000) ∧ ∀ J : Nat → SM → Int32 → OR, fL_10 xn xs F_118 F_214 J t (nI i) = J 18 t2 (nI (i + 6)) := by
  obtain ⟨n, m, s, g, x, p, h⟩ := h
  obtain ⟨t2, a, b, c, d⟩ := cas h.lay (ok_slips h (xs (i + 1)) (xs (i + 2)) (xs (i + 3)))
  refine ⟨t2, a, ⟨b, c⟩, fun J => ?_⟩
  rw [← nI_a6]
  unfold fL_10
  simp only [hs1 hi hx, hs2 hi hx, hs3 hi hx]
  exact d (fun t2 => J 18 t2 (nI i + 6))
theorem cs_11 (h : IvE t) (hi : i + 6 ≤ xn) (hx : xn ≤ 384) : ∃ t2, IvE t2 ∧ (mN t2 ≤ mN t + 24 ∧ mZ t2 ≤ mZ t + 1000) ∧ ∀ J : Nat → SM → Int32 → OR, fL_11 xn xs F_119 F_215 J t (nI i) = J 18 t2 (nI (i + 6)) := by
  obtain ⟨n, m, s, g, x, p, h⟩ := h
  obtain ⟨t2, a, b, c, d⟩ := cas h.lay (ok_look h (xs (i + 1)) (xs (i + 2)))
  refine ⟨t2, a, ⟨b, c⟩, fun J => ?_⟩
  rw [← nI_a6]
  unfold fL_11
  simp only [hs1 hi hx, hs2 hi hx]
  exact d (fun t2 => J 18 t2 (nI i + 6))
theorem cs_12 (h : IvE t) (hi : i + 6 ≤ xn) (hx : xn ≤ 384) : ∃ t2, IvE t2 ∧ (mN t2 ≤ mN t + 24 ∧ mZ t2 ≤ mZ t + 1000) ∧ ∀ J : Nat → SM → Int32 → OR, fL_12 xn xs F_120 F_220 J t (nI i) = J 18 t2 (nI (i + 6)) := by
  obtain ⟨n, m, s, g, x, p, h⟩ := h
  obtain ⟨t2, a, b, c, d⟩ := cas h.lay (ok_worlds h (xs (i + 1)))
  refine ⟨t2, a, ⟨b, c⟩, fun J => ?_⟩
  rw [← nI_a6]
  unfold fL_12
  simp only [hs1 hi hx]
  exact d (fun t2 => J 18 t2 (nI i + 6))
theorem cs_13 (h : IvE t) (hi : i + 6 ≤ xn) (hx : xn ≤ 384) : ∃ t2, IvE t2 ∧ (mN t2 ≤ mN t + 24 ∧ mZ t2 ≤ mZ t + 1000) ∧ ∀ J : Nat → SM → Int32 → OR, fL_13 xn xs F_121 F_221 J t (nI i) = J 18 t2 (nI (i + 6)) := by
  obtain ⟨n, m, s, g, x, p, h⟩ := h
  obtain ⟨t2, a, b, c, d⟩ := cas h.lay (ok_world h (xs (i + 1)))
  refine ⟨t2, a, ⟨b, c⟩, fun J => ?_⟩
  rw [← nI_a6]
  unfold fL_13
  simp only [hs1 hi hx]
  exact d (fun t2 => J 18 t2 (nI i + 6))
theorem cs_14 (h : IvE t) (hi : i + 6 ≤ xn) (hx : xn ≤ 384) : ∃ t2, IvE t2 ∧ (mN t2 ≤ mN t + 24 ∧ mZ t2 ≤ mZ t + 1000) ∧ ∀ J : Nat → SM → Int32 → OR, fL_14 xn xs F_122 F_224 J t (nI i) = J 18 t2 (nI (i + 6)) := by
  obtain ⟨n, m, s, g, x, p, h⟩ := h
  obtain ⟨t2, a, b, c, d⟩ := cas h.lay (ok_sure h (xs (i + 1)))
  refine ⟨t2, a, ⟨b, c⟩, fun J => ?_⟩
  rw [← nI_a6]
  unfold fL_14
  simp only [hs1 hi hx]
  exact d (fun t2 => J 18 t2 (nI i + 6))
theorem cs_15 (h : IvE t) (hi : i + 6 ≤ xn) (hx : xn ≤ 384) : ∃ t2, IvE t2 ∧ (mN t2 ≤ mN t + 24 ∧ mZ t2 ≤ mZ t + 1000) ∧ ∀ J : Nat → SM → Int32 → OR, fL_15 xn xs F_123 F_225 J t (nI i) = J 18 t2 (nI (i + 6)) := by
  obtain ⟨n, m, s, g, x, p, h⟩ := h
  obtain ⟨t2, a, b, c, d⟩ := cas h.lay (ok_none h )
  refine ⟨t2, a, ⟨b, c⟩, fun J => ?_⟩
  rw [← nI_a6]
  unfold fL_15
  exact d (fun t2 => J 18 t2 (nI i + 6))
theorem cs_16 (h : IvE t) (hi : i + 6 ≤ xn) (hx : xn ≤ 384) : ∃ t2, IvE t2 ∧ (mN t2 ≤ mN t + 24 ∧ mZ t2 ≤ mZ t + 1000) ∧ ∀ J : Nat → SM → Int32 → OR, fL_16 xn xs F_124 F_226 J t (nI i) = J 18 t2 (nI (i + 6)) := by
  obtain ⟨n, m, s, g, x, p, h⟩ := h
  obtain ⟨t2, a, b, c, d⟩ := cas h.lay (ok_judge h (xs (i + 1)))
  refine ⟨t2, a, ⟨b, c⟩, fun J => ?_⟩
  rw [← nI_a6]
  unfold fL_16
  simp only [hs1 hi hx]
  exact d (fun t2 => J 18 t2 (nI i + 6))
theorem cs_17 (h : IvE t) (hi : i + 6 ≤ xn) (hx : xn ≤ 384) : ∃ t2, IvE t2 ∧ (mN t2 ≤ mN t + 24 ∧ mZ t2 ≤ mZ t + 1000) ∧ ∀ J : Nat → SM → Int32 → OR, fL_17 xn xs F_125 F_227 J t (nI i) = J 18 t2 (nI (i + 6)) := by
  obtain ⟨n, m, s, g, x, p, h⟩ := h
  obtain ⟨t2, a, b, c, d⟩ := cas h.lay (ok_street h (xs (i + 1)) (xs (i + 2)) (xs (i + 3)) (xs (i + 4)))
  refine ⟨t2, a, ⟨b, c⟩, fun J => ?_⟩
  rw [← nI_a6]
  unfold fL_17
  simp only [hs1 hi hx, hs2 hi hx, hs3 hi hx, hs4 hi hx]
  exact d (fun t2 => J 18 t2 (nI i + 6))
theorem cs_18 (h : IvE t) (hi : i + 6 ≤ xn) (hx : xn ≤ 384) : ∃ t2, IvE t2 ∧ (mN t2 ≤ mN t + 24 ∧ mZ t2 ≤ mZ t + 1000) ∧ ∀ J : Nat → SM → Int32 → OR, fL_18 xn xs F_126 F_233 J t (nI i) = J 18 t2 (nI (i + 6)) := by
  obtain ⟨n, m, s, g, x, p, h⟩ := h
  obtain ⟨t2, a, b, c, d⟩ := cas h.lay (ok_way h (xs (i + 1)) (xs (i + 2)))
  refine ⟨t2, a, ⟨b, c⟩, fun J => ?_⟩
  rw [← nI_a6]
  unfold fL_18
  simp only [hs1 hi hx, hs2 hi hx]
  exact d (fun t2 => J 18 t2 (nI i + 6))
theorem cs_19 (h : IvE t) (hi : i + 6 ≤ xn) (hx : xn ≤ 384) : ∃ t2, IvE t2 ∧ (mN t2 ≤ mN t + 24 ∧ mZ t2 ≤ mZ t + 1000) ∧ ∀ J : Nat → SM → Int32 → OR, fL_19 xn xs F_127 F_234 J t (nI i) = J 18 t2 (nI (i + 6)) := by
  obtain ⟨n, m, s, g, x, p, h⟩ := h
  obtain ⟨t2, a, b, c, d⟩ := cas h.lay (ok_safe h (xs (i + 1)))
  refine ⟨t2, a, ⟨b, c⟩, fun J => ?_⟩
  rw [← nI_a6]
  unfold fL_19
  simp only [hs1 hi hx]
  exact d (fun t2 => J 18 t2 (nI i + 6))
theorem cs_20 (h : IvE t) (hi : i + 6 ≤ xn) (hx : xn ≤ 384) : ∃ t2, IvE t2 ∧ (mN t2 ≤ mN t + 24 ∧ mZ t2 ≤ mZ t + 1000) ∧ ∀ J : Nat → SM → Int32 → OR, fL_20 xn xs F_128 F_241 J t (nI i) = J 18 t2 (nI (i + 6)) := by
  obtain ⟨n, m, s, g, x, p, h⟩ := h
  obtain ⟨t2, a, b, c, d⟩ := cas h.lay (ok_soon h (xs (i + 1)))
  refine ⟨t2, a, ⟨b, c⟩, fun J => ?_⟩
  rw [← nI_a6]
  unfold fL_20
  simp only [hs1 hi hx]
  exact d (fun t2 => J 18 t2 (nI i + 6))
theorem cs_21 (h : IvE t) (hi : i + 6 ≤ xn) (hx : xn ≤ 384) : ∃ t2, IvE t2 ∧ (mN t2 ≤ mN t + 24 ∧ mZ t2 ≤ mZ t + 1000) ∧ ∀ J : Nat → SM → Int32 → OR, fL_21 xn xs F_129 F_242 J t (nI i) = J 18 t2 (nI (i + 6)) := by
  obtain ⟨n, m, s, g, x, p, h⟩ := h
  obtain ⟨t2, a, b, c, d⟩ := cas h.lay (ok_step h (xs (i + 1)) (xs (i + 2)))
  refine ⟨t2, a, ⟨b, c⟩, fun J => ?_⟩
  rw [← nI_a6]
  unfold fL_21
  simp only [hs1 hi hx, hs2 hi hx]
  exact d (fun t2 => J 18 t2 (nI i + 6))
theorem cs_22 (h : IvE t) (hi : i + 6 ≤ xn) (hx : xn ≤ 384) : ∃ t2, IvE t2 ∧ (mN t2 ≤ mN t + 24 ∧ mZ t2 ≤ mZ t + 1000) ∧ ∀ J : Nat → SM → Int32 → OR, fL_22 xn xs F_130 F_244 J t (nI i) = J 18 t2 (nI (i + 6)) := by
  obtain ⟨n, m, s, g, x, p, h⟩ := h
  obtain ⟨t2, a, b, c, d⟩ := cas h.lay (ok_trip h (xs (i + 1)) (xs (i + 2)) (xs (i + 3)))
  refine ⟨t2, a, ⟨b, c⟩, fun J => ?_⟩
  rw [← nI_a6]
  unfold fL_22
  simp only [hs1 hi hx, hs2 hi hx, hs3 hi hx]
  exact d (fun t2 => J 18 t2 (nI i + 6))
theorem cs_23 (h : IvE t) (hi : i + 6 ≤ xn) (hx : xn ≤ 384) : ∃ t2, IvE t2 ∧ (mN t2 ≤ mN t + 24 ∧ mZ t2 ≤ mZ t + 1000) ∧ ∀ J : Nat → SM → Int32 → OR, fL_23 xn xs F_131 F_245 J t (nI i) = J 18 t2 (nI (i + 6)) := by
  obtain ⟨n, m, s, g, x, p, h⟩ := h
  obtain ⟨t2, a, b, c, d⟩ := cas h.lay (ok_goer h (xs (i + 1)))
  refine ⟨t2, a, ⟨b, c⟩, fun J => ?_⟩
  rw [← nI_a6]
  unfold fL_23
  simp only [hs1 hi hx]
  exact d (fun t2 => J 18 t2 (nI i + 6))
theorem cs_24 (h : IvE t) (hi : i + 6 ≤ xn) (hx : xn ≤ 384) : ∃ t2, IvE t2 ∧ (mN t2 ≤ mN t + 24 ∧ mZ t2 ≤ mZ t + 1000) ∧ ∀ J : Nat → SM → Int32 → OR, fL_24 xn xs F_132 F_248 J t (nI i) = J 18 t2 (nI (i + 6)) := by
  obtain ⟨n, m, s, g, x, p, h⟩ := h
  obtain ⟨t2, a, b, c, d⟩ := cas h.lay (ok_harm h (xs (i + 1)) (xs (i + 2)))
  refine ⟨t2, a, ⟨b, c⟩, fun J => ?_⟩
  rw [← nI_a6]
  unfold fL_24
  simp only [hs1 hi hx, hs2 hi hx]
  exact d (fun t2 => J 18 t2 (nI i + 6))
theorem cs_25 (h : IvE t) (hi : i + 6 ≤ xn) (hx : xn ≤ 384) : ∃ t2, IvE t2 ∧ (mN t2 ≤ mN t + 24 ∧ mZ t2 ≤ mZ t + 1000) ∧ ∀ J : Nat → SM → Int32 → OR, fL_25 xn xs F_133 F_249 J t (nI i) = J 18 t2 (nI (i + 6)) := by
  obtain ⟨n, m, s, g, x, p, h⟩ := h
  obtain ⟨t2, a, b, c, d⟩ := cas h.lay (ok_put h (xs (i + 1)) (xs (i + 2)))
  refine ⟨t2, a, ⟨b, c⟩, fun J => ?_⟩
  rw [← nI_a6]
  unfold fL_25
  simp only [hs1 hi hx, hs2 hi hx]
  exact d (fun t2 => J 18 t2 (nI i + 6))
theorem cs_26 (h : IvE t) (hi : i + 6 ≤ xn) (hx : xn ≤ 384) : ∃ t2, IvE t2 ∧ (mN t2 ≤ mN t + 24 ∧ mZ t2 ≤ mZ t + 1000) ∧ ∀ J : Nat → SM → Int32 → OR, fL_26 xn xs F_134 F_250 J t (nI i) = J 18 t2 (nI (i + 6)) := by
  obtain ⟨n, m, s, g, x, p, h⟩ := h
  obtain ⟨t2, a, b, c, d⟩ := cas h.lay (ok_trick h (xs (i + 1)) (xs (i + 2)) (xs (i + 3)))
  refine ⟨t2, a, ⟨b, c⟩, fun J => ?_⟩
  rw [← nI_a6]
  unfold fL_26
  simp only [hs1 hi hx, hs2 hi hx, hs3 hi hx]
  exact d (fun t2 => J 18 t2 (nI i + 6))
theorem cs_27 (h : IvE t) (hi : i + 6 ≤ xn) (hx : xn ≤ 384) : ∃ t2, IvE t2 ∧ (mN t2 ≤ mN t + 24 ∧ mZ t2 ≤ mZ t + 1000) ∧ ∀ J : Nat → SM → Int32 → OR, fL_27 xn xs F_135 F_251 J t (nI i) = J 18 t2 (nI (i + 6)) := by
  obtain ⟨n, m, s, g, x, p, h⟩ := h
  obtain ⟨t2, a, b, c, d⟩ := cas h.lay (ok_enough h (xs (i + 1)))
  refine ⟨t2, a, ⟨b, c⟩, fun J => ?_⟩
  rw [← nI_a6]
  unfold fL_27
  simp only [hs1 hi hx]
  exact d (fun t2 => J 18 t2 (nI i + 6))
theorem cs_28 (h : IvE t) (hi : i + 6 ≤ xn) (hx : xn ≤ 384) : ∃ t2, IvE t2 ∧ (mN t2 ≤ mN t + 24 ∧ mZ t2 ≤ mZ t + 1000) ∧ ∀ J : Nat → SM → Int32 → OR, fL_28 xn xs F_136 F_252 J t (nI i) = J 18 t2 (nI (i + 6)) := by
  obtain ⟨n, m, s, g, x, p, h⟩ := h
  obtain ⟨t2, a, b, c, d⟩ := cas h.lay (ok_many h )
  refine ⟨t2, a, ⟨b, c⟩, fun J => ?_⟩
  rw [← nI_a6]
  unfold fL_28
  exact d (fun t2 => J 18 t2 (nI i + 6))
theorem cs_29 (h : IvE t) (hi : i + 6 ≤ xn) (hx : xn ≤ 384) : ∃ t2, IvE t2 ∧ (mN t2 ≤ mN t + 24 ∧ mZ t2 ≤ mZ t + 1000) ∧ ∀ J : Nat → SM → Int32 → OR, fL_29 xn xs F_137 F_253 J t (nI i) = J 18 t2 (nI (i + 6)) := by
  obtain ⟨n, m, s, g, x, p, h⟩ := h
  obtain ⟨t2, a, b, c, d⟩ := cas h.lay (ok_next h (xs (i + 1)))
  refine ⟨t2, a, ⟨b, c⟩, fun J => ?_⟩
  rw [← nI_a6]
  unfold fL_29
  simp only [hs1 hi hx]
  exact d (fun t2 => J 18 t2 (nI i + 6))
theorem cs_30 (h : IvE t) (hi : i + 6 ≤ xn) (hx : xn ≤ 384) : ∃ t2, IvE t2 ∧ (mN t2 ≤ mN t + 24 ∧ mZ t2 ≤ mZ t + 1000) ∧ ∀ J : Nat → SM → Int32 → OR, fL_30 xn xs F_138 F_254 J t (nI i) = J 18 t2 (nI (i + 6)) := by
  obtain ⟨n, m, s, g, x, p, h⟩ := h
  obtain ⟨t2, a, b, c, d⟩ := cas h.lay (ok_looks h )
  refine ⟨t2, a, ⟨b, c⟩, fun J => ?_⟩
  rw [← nI_a6]
  unfold fL_30
  exact d (fun t2 => J 18 t2 (nI i + 6))
theorem cs_31 (h : IvE t) (hi : i + 6 ≤ xn) (hx : xn ≤ 384) : ∃ t2, IvE t2 ∧ (mN t2 ≤ mN t + 24 ∧ mZ t2 ≤ mZ t + 1000) ∧ ∀ J : Nat → SM → Int32 → OR, fL_31 xn xs F_139 F_255 J t (nI i) = J 18 t2 (nI (i + 6)) := by
  obtain ⟨n, m, s, g, x, p, h⟩ := h
  obtain ⟨t2, a, b, c, d⟩ := cas h.lay (ok_from h (xs (i + 1)))
  refine ⟨t2, a, ⟨b, c⟩, fun J => ?_⟩
  rw [← nI_a6]
  unfold fL_31
  simp only [hs1 hi hx]
  exact d (fun t2 => J 18 t2 (nI i + 6))
theorem cs_32 (h : IvE t) (hi : i + 6 ≤ xn) (hx : xn ≤ 384) : ∃ t2, IvE t2 ∧ (mN t2 ≤ mN t + 24 ∧ mZ t2 ≤ mZ t + 1000) ∧ ∀ J : Nat → SM → Int32 → OR, fL_32 xn xs F_140 F_257 J t (nI i) = J 18 t2 (nI (i + 6)) := by
  obtain ⟨n, m, s, g, x, p, h⟩ := h
  obtain ⟨t2, a, b, c, d⟩ := cas h.lay (ok_tree h )
  refine ⟨t2, a, ⟨b, c⟩, fun J => ?_⟩
  rw [← nI_a6]
  unfold fL_32
  exact d (fun t2 => J 18 t2 (nI i + 6))
theorem cs_33 (h : IvE t) (hi : i + 6 ≤ xn) (hx : xn ≤ 384) : ∃ t2, IvE t2 ∧ (mN t2 ≤ mN t + 24 ∧ mZ t2 ≤ mZ t + 1000) ∧ ∀ J : Nat → SM → Int32 → OR, fL_33 xn xs F_141 F_258 J t (nI i) = J 18 t2 (nI (i + 6)) := by
  obtain ⟨n, m, s, g, x, p, h⟩ := h
  obtain ⟨t2, a, b, c, d⟩ := cas h.lay (ok_drawnFrom h (xs (i + 1)))
  refine ⟨t2, a, ⟨b, c⟩, fun J => ?_⟩
  rw [← nI_a6]
  unfold fL_33
  simp only [hs1 hi hx]
  exact d (fun t2 => J 18 t2 (nI i + 6))
theorem cs_34 (h : IvE t) (hi : i + 6 ≤ xn) (hx : xn ≤ 384) : ∃ t2, IvE t2 ∧ (mN t2 ≤ mN t + 24 ∧ mZ t2 ≤ mZ t + 1000) ∧ ∀ J : Nat → SM → Int32 → OR, fL_34 xn xs F_142 F_260 J t (nI i) = J 18 t2 (nI (i + 6)) := by
  obtain ⟨n, m, s, g, x, p, h⟩ := h
  obtain ⟨t2, a, b, c, d⟩ := cas h.lay (ok_over h (xs (i + 1)) (xs (i + 2)) (xs (i + 3)))
  refine ⟨t2, a, ⟨b, c⟩, fun J => ?_⟩
  rw [← nI_a6]
  unfold fL_34
  simp only [hs1 hi hx, hs2 hi hx, hs3 hi hx]
  exact d (fun t2 => J 18 t2 (nI i + 6))
theorem cs_35 (h : IvE t) (hi : i + 6 ≤ xn) (hx : xn ≤ 384) : ∃ t2, IvE t2 ∧ (mN t2 ≤ mN t + 24 ∧ mZ t2 ≤ mZ t + 1000) ∧ ∀ J : Nat → SM → Int32 → OR, fL_35 xn xs F_143 F_261 J t (nI i) = J 18 t2 (nI (i + 6)) := by
  obtain ⟨n, m, s, g, x, p, h⟩ := h
  obtain ⟨t2, a, b, c, d⟩ := cas h.lay (ok_join h )
  refine ⟨t2, a, ⟨b, c⟩, fun J => ?_⟩
  rw [← nI_a6]
  unfold fL_35
  exact d (fun t2 => J 18 t2 (nI i + 6))
theorem cs_36 (h : IvE t) (hi : i + 6 ≤ xn) (hx : xn ≤ 384) : ∃ t2, IvE t2 ∧ (mN t2 ≤ mN t + 24 ∧ mZ t2 ≤ mZ t + 1000) ∧ ∀ J : Nat → SM → Int32 → OR, fL_36 xn xs F_144 F_262 J t (nI i) = J 18 t2 (nI (i + 6)) := by
  obtain ⟨n, m, s, g, x, p, h⟩ := h
  obtain ⟨t2, a, b, c, d⟩ := cas h.lay (ok_years h (xs (i + 1)) (xs (i + 2)))
  refine ⟨t2, a, ⟨b, c⟩, fun J => ?_⟩
  rw [← nI_a6]
  unfold fL_36
  simp only [hs1 hi hx, hs2 hi hx]
  exact d (fun t2 => J 18 t2 (nI i + 6))
theorem cs_37 (h : IvE t) (hi : i + 6 ≤ xn) (hx : xn ≤ 384) : ∃ t2, IvE t2 ∧ (mN t2 ≤ mN t + 24 ∧ mZ t2 ≤ mZ t + 1000) ∧ ∀ J : Nat → SM → Int32 → OR, fL_37 xn xs F_145 F_264 J t (nI i) = J 18 t2 (nI (i + 6)) := by
  obtain ⟨n, m, s, g, x, p, h⟩ := h
  obtain ⟨t2, a, b, c, d⟩ := cas h.lay (ok_buy h (xs (i + 1)) (xs (i + 2)))
  refine ⟨t2, a, ⟨b, c⟩, fun J => ?_⟩
  rw [← nI_a6]
  unfold fL_37
  simp only [hs1 hi hx, hs2 hi hx]
  exact d (fun t2 => J 18 t2 (nI i + 6))
theorem cs_38 (h : IvE t) (hi : i + 6 ≤ xn) (hx : xn ≤ 384) : ∃ t2, IvE t2 ∧ (mN t2 ≤ mN t + 24 ∧ mZ t2 ≤ mZ t + 1000) ∧ ∀ J : Nat → SM → Int32 → OR, fL_38 xn xs F_146 F_265 J t (nI i) = J 18 t2 (nI (i + 6)) := by
  obtain ⟨n, m, s, g, x, p, h⟩ := h
  obtain ⟨t2, a, b, c, d⟩ := cas h.lay (ok_worth h (xs (i + 1)))
  refine ⟨t2, a, ⟨b, c⟩, fun J => ?_⟩
  rw [← nI_a6]
  unfold fL_38
  simp only [hs1 hi hx]
  exact d (fun t2 => J 18 t2 (nI i + 6))
theorem cs_39 (h : IvE t) (hi : i + 6 ≤ xn) (hx : xn ≤ 384) : ∃ t2, IvE t2 ∧ (mN t2 ≤ mN t + 24 ∧ mZ t2 ≤ mZ t + 1000) ∧ ∀ J : Nat → SM → Int32 → OR, fL_39 xn xs F_147 F_266 J t (nI i) = J 18 t2 (nI (i + 6)) := by
  obtain ⟨n, m, s, g, x, p, h⟩ := h
  obtain ⟨t2, a, b, c, d⟩ := cas h.lay (ok_drawn h (xs (i + 1)) (xs (i + 2)))
  refine ⟨t2, a, ⟨b, c⟩, fun J => ?_⟩
  rw [← nI_a6]
  unfold fL_39
  simp only [hs1 hi hx, hs2 hi hx]
  exact d (fun t2 => J 18 t2 (nI i + 6))
theorem cs_40 (h : IvE t) (hi : i + 6 ≤ xn) (hx : xn ≤ 384) : ∃ t2, IvE t2 ∧ (mN t2 ≤ mN t + 24 ∧ mZ t2 ≤ mZ t + 1000) ∧ ∀ J : Nat → SM → Int32 → OR, fL_40 xn xs F_148 F_267 J t (nI i) = J 18 t2 (nI (i + 6)) := by
  obtain ⟨n, m, s, g, x, p, h⟩ := h
  obtain ⟨t2, a, b, c, d⟩ := cas h.lay (ok_image h )
  refine ⟨t2, a, ⟨b, c⟩, fun J => ?_⟩
  rw [← nI_a6]
  unfold fL_40
  exact d (fun t2 => J 18 t2 (nI i + 6))
theorem cs_41 (h : IvE t) (hi : i + 6 ≤ xn) (hx : xn ≤ 384) : ∃ t2, IvE t2 ∧ (mN t2 ≤ mN t + 24 ∧ mZ t2 ≤ mZ t + 1000) ∧ ∀ J : Nat → SM → Int32 → OR, fL_41 xn xs F_149 F_268 J t (nI i) = J 18 t2 (nI (i + 6)) := by
  obtain ⟨n, m, s, g, x, p, h⟩ := h
  obtain ⟨t2, a, b, c, d⟩ := cas h.lay (ok_back h )
  refine ⟨t2, a, ⟨b, c⟩, fun J => ?_⟩
  rw [← nI_a6]
  unfold fL_41
  exact d (fun t2 => J 18 t2 (nI i + 6))
theorem cs_42 (h : IvE t) (hi : i + 6 ≤ xn) (hx : xn ≤ 384) : ∃ t2, IvE t2 ∧ (mN t2 ≤ mN t + 24 ∧ mZ t2 ≤ mZ t + 1000) ∧ ∀ J : Nat → SM → Int32 → OR, fL_42 xn xs F_150 F_269 J t (nI i) = J 18 t2 (nI (i + 6)) := by
  obtain ⟨n, m, s, g, x, p, h⟩ := h
  obtain ⟨t2, a, b, c, d⟩ := cas h.lay (ok_sheet h (xs (i + 1)) (xs (i + 2)) (xs (i + 3)))
  refine ⟨t2, a, ⟨b, c⟩, fun J => ?_⟩
  rw [← nI_a6]
  unfold fL_42
  simp only [hs1 hi hx, hs2 hi hx, hs3 hi hx]
  exact d (fun t2 => J 18 t2 (nI i + 6))
theorem cs_43 (h : IvE t) (hi : i + 6 ≤ xn) (hx : xn ≤ 384) : ∃ t2, IvE t2 ∧ (mN t2 ≤ mN t + 24 ∧ mZ t2 ≤ mZ t + 1000) ∧ ∀ J : Nat → SM → Int32 → OR, fL_43 xn xs F_151 F_270 J t (nI i) = J 18 t2 (nI (i + 6)) := by
  obtain ⟨n, m, s, g, x, p, h⟩ := h
  obtain ⟨t2, a, b, c, d⟩ := cas h.lay (ok_cell h (xs (i + 1)) (xs (i + 2)) (xs (i + 3)))
  refine ⟨t2, a, ⟨b, c⟩, fun J => ?_⟩
  rw [← nI_a6]
  unfold fL_43
  simp only [hs1 hi hx, hs2 hi hx, hs3 hi hx]
  exact d (fun t2 => J 18 t2 (nI i + 6))
theorem cs_44 (h : IvE t) (hi : i + 6 ≤ xn) (hx : xn ≤ 384) : ∃ t2, IvE t2 ∧ (mN t2 ≤ mN t + 24 ∧ mZ t2 ≤ mZ t + 1000) ∧ ∀ J : Nat → SM → Int32 → OR, fL_44 xn xs F_152 F_271 J t (nI i) = J 18 t2 (nI (i + 6)) := by
  obtain ⟨n, m, s, g, x, p, h⟩ := h
  obtain ⟨t2, a, b, c, d⟩ := cas h.lay (ok_copy h (xs (i + 1)) (xs (i + 2)) (xs (i + 3)) (xs (i + 4)) (xs (i + 5)))
  refine ⟨t2, a, ⟨b, c⟩, fun J => ?_⟩
  rw [← nI_a6]
  unfold fL_44
  simp only [hs1 hi hx, hs2 hi hx, hs3 hi hx, hs4 hi hx, hs5 hi hx]
  exact d (fun t2 => J 18 t2 (nI i + 6))
theorem cs_45 (h : IvE t) (hi : i + 6 ≤ xn) (hx : xn ≤ 384) : ∃ t2, IvE t2 ∧ (mN t2 ≤ mN t + 24 ∧ mZ t2 ≤ mZ t + 1000) ∧ ∀ J : Nat → SM → Int32 → OR, fL_45 xn xs F_153 F_272 J t (nI i) = J 18 t2 (nI (i + 6)) := by
  obtain ⟨n, m, s, g, x, p, h⟩ := h
  obtain ⟨t2, a, b, c, d⟩ := cas h.lay (ok_mapsBy h (xs (i + 1)) (xs (i + 2)) (xs (i + 3)) (xs (i + 4)))
  refine ⟨t2, a, ⟨b, c⟩, fun J => ?_⟩
  rw [← nI_a6]
  unfold fL_45
  simp only [hs1 hi hx, hs2 hi hx, hs3 hi hx, hs4 hi hx]
  exact d (fun t2 => J 18 t2 (nI i + 6))
theorem cs_46 (h : IvE t) (hi : i + 6 ≤ xn) (hx : xn ≤ 384) : ∃ t2, IvE t2 ∧ (mN t2 ≤ mN t + 24 ∧ mZ t2 ≤ mZ t + 1000) ∧ ∀ J : Nat → SM → Int32 → OR, fL_46 xn xs F_154 F_274 J t (nI i) = J 18 t2 (nI (i + 6)) := by
  obtain ⟨n, m, s, g, x, p, h⟩ := h
  obtain ⟨t2, a, b, c, d⟩ := cas h.lay (ok_taken h (xs (i + 1)) (xs (i + 2)))
  refine ⟨t2, a, ⟨b, c⟩, fun J => ?_⟩
  rw [← nI_a6]
  unfold fL_46
  simp only [hs1 hi hx, hs2 hi hx]
  exact d (fun t2 => J 18 t2 (nI i + 6))
theorem hd_end (hi : xn < i + 6) (hx : xn ≤ 384) (h4 : i ≤ 1000) (J : Nat → SM → Int32 → OR) : fL_h xn xs J t (nI i) = rI 1 t := by
  unfold fL_h
  rw [if_pos]
  have e : (nI xn - 6).toInt = (xn : Int) - 6 := pk_sub_toInt (b := 6) (by omega) (by decide)
  have e2 : (nI i).toInt = i := nI_toInt (by omega)
  show nI xn - 6 < nI i
  rw [Int32.lt_iff_toInt_lt, e, e2]; omega
theorem hd_on (hi : i + 6 ≤ xn) (hx : xn ≤ 384) (J : Nat → SM → Int32 → OR) : fL_h xn xs J t (nI i) = dsp_0 J (xs i &&& 63) t (nI i) := by
  unfold fL_h
  rw [if_neg]
  · unfold hScr
    rw [if_pos (nI_in (show i < xn by omega) (by omega)), nI_clamp (by omega)]
  · have e : (nI xn - 6).toInt = (xn : Int) - 6 := pk_sub_toInt (b := 6) (by omega) (by decide)
    have e2 : (nI i).toInt = i := nI_toInt (by omega)
    show ¬ nI xn - 6 < nI i
    rw [Int32.lt_iff_toInt_lt, e, e2]; omega
theorem run_v (hx : xn ≤ 384) : ∀ (d i : Nat) (t : SM), IvE t → xn < i + 6 * d + 6 → i ≤ 400 → ∃ (n : Nat) (t' : SM), LR xn xs n 18 t (nI i) = rI 1 t' ∧ mN t' ≤ mN t + 24 * d ∧ mZ t' ≤ mZ t + 1000 * d := by
  intro d
  induction d with
  | zero =>
    intro i t h hi h4
    refine ⟨1, t, ?_, by omega, by omega⟩
    exact (congrFun (congrFun (congrFun (congrFun (congrFun LR_h xn) xs) 0) t) (nI i)).trans (hd_end (by omega) hx (by omega) _)
  | succ d ih =>
    intro i t h hi h4
    by_cases hi6 : i + 6 ≤ xn
    · have H0 : ∀ J : Nat → SM → Int32 → OR, fL_h xn xs J t (nI i) = dsp_0 J (xs i &&& 63) t (nI i) := hd_on hi6 hx
      have hd : ∀ n, LR xn xs (n + 1) 18 t (nI i) = fL_h xn xs (LR xn xs n) t (nI i) := fun n => congrFun (congrFun (congrFun (congrFun (congrFun LR_h xn) xs) n) t) (nI i)
      have fin : ∀ (pc : Nat) (t2 : SM), IvE t2 → (mN t2 ≤ mN t + 24 ∧ mZ t2 ≤ mZ t + 1000) → (∀ J : Nat → SM → Int32 → OR, fL_h xn xs J t (nI i) = J pc t (nI i)) → (∀ n, LR xn xs (n + 1) pc t (nI i) = LR xn xs n 18 t2 (nI (i + 6))) → ∃ (n : Nat) (t' : SM), LR xn xs n 18 t (nI i) = rI 1 t' ∧ mN t' ≤ mN t + 24 * (d + 1) ∧ mZ t' ≤ mZ t + 1000 * (d + 1) := by
        intro pc t2 h2 hb h3 h5
        obtain ⟨n, t', q1, q2, q3⟩ := ih (i + 6) t2 h2 (by omega) (by omega)
        exact ⟨n + 2, t', by rw [hd (n + 1), h3, h5 n, q1], by omega, by omega⟩
      by_cases e0 : xs i &&& 63 = 0
      · obtain ⟨t2, q1, q2, q3⟩ := cs_0 h hi6 hx
        exact fin 236 t2 q1 q2 (fun J => (H0 J).trans (if_pos e0)) (fun n => (congrFun (congrFun (congrFun (congrFun (congrFun LR_0 xn) xs) n) t) (nI i)).trans (q3 _))
      have H1 : ∀ J : Nat → SM → Int32 → OR, fL_h xn xs J t (nI i) = dsp_1 J (xs i &&& 63) t (nI i) := fun J => (H0 J).trans (if_neg e0)
      by_cases e1 : xs i &&& 63 = 1
      · obtain ⟨t2, q1, q2, q3⟩ := cs_1 h hi6 hx
        exact fin 259 t2 q1 q2 (fun J => (H1 J).trans (if_pos e1)) (fun n => (congrFun (congrFun (congrFun (congrFun (congrFun LR_1 xn) xs) n) t) (nI i)).trans (q3 _))
      have H2 : ∀ J : Nat → SM → Int32 → OR, fL_h xn xs J t (nI i) = dsp_2 J (xs i &&& 63) t (nI i) := fun J => (H1 J).trans (if_neg e1)
      by_cases e2 : xs i &&& 63 = 2
      · obtain ⟨t2, q1, q2, q3⟩ := cs_2 h hi6 hx
        exact fin 282 t2 q1 q2 (fun J => (H2 J).trans (if_pos e2)) (fun n => (congrFun (congrFun (congrFun (congrFun (congrFun LR_2 xn) xs) n) t) (nI i)).trans (q3 _))
      have H3 : ∀ J : Nat → SM → Int32 → OR, fL_h xn xs J t (nI i) = dsp_3 J (xs i &&& 63) t (nI i) := fun J => (H2 J).trans (if_neg e2)
      by_cases e3 : xs i &&& 63 = 3
      · obtain ⟨t2, q1, q2, q3⟩ := cs_3 h hi6 hx
        exact fin 345 t2 q1 q2 (fun J => (H3 J).trans (if_pos e3)) (fun n => (congrFun (congrFun (congrFun (congrFun (congrFun LR_3 xn) xs) n) t) (nI i)).trans (q3 _))
      have H4 : ∀ J : Nat → SM → Int32 → OR, fL_h xn xs J t (nI i) = dsp_4 J (xs i &&& 63) t (nI i) := fun J => (H3 J).trans (if_neg e3)
      by_cases e4 : xs i &&& 63 = 4
      · obtain ⟨t2, q1, q2, q3⟩ := cs_4 h hi6 hx
        exact fin 358 t2 q1 q2 (fun J => (H4 J).trans (if_pos e4)) (fun n => (congrFun (congrFun (congrFun (congrFun (congrFun LR_4 xn) xs) n) t) (nI i)).trans (q3 _))
      have H5 : ∀ J : Nat → SM → Int32 → OR, fL_h xn xs J t (nI i) = dsp_5 J (xs i &&& 63) t (nI i) := fun J => (H4 J).trans (if_neg e4)
      by_cases e5 : xs i &&& 63 = 5
      · obtain ⟨t2, q1, q2, q3⟩ := cs_5 h hi6 hx
        exact fin 381 t2 q1 q2 (fun J => (H5 J).trans (if_pos e5)) (fun n => (congrFun (congrFun (congrFun (congrFun (congrFun LR_5 xn) xs) n) t) (nI i)).trans (q3 _))
      have H6 : ∀ J : Nat → SM → Int32 → OR, fL_h xn xs J t (nI i) = dsp_6 J (xs i &&& 63) t (nI i) := fun J => (H5 J).trans (if_neg e5)
      by_cases e6 : xs i &&& 63 = 6
      · obtain ⟨t2, q1, q2, q3⟩ := cs_6 h hi6 hx
        exact fin 404 t2 q1 q2 (fun J => (H6 J).trans (if_pos e6)) (fun n => (congrFun (congrFun (congrFun (congrFun (congrFun LR_6 xn) xs) n) t) (nI i)).trans (q3 _))
      have H7 : ∀ J : Nat → SM → Int32 → OR, fL_h xn xs J t (nI i) = dsp_7 J (xs i &&& 63) t (nI i) := fun J => (H6 J).trans (if_neg e6)
      by_cases e7 : xs i &&& 63 = 7
      · obtain ⟨t2, q1, q2, q3⟩ := cs_7 h hi6 hx
        exact fin 457 t2 q1 q2 (fun J => (H7 J).trans (if_pos e7)) (fun n => (congrFun (congrFun (congrFun (congrFun (congrFun LR_7 xn) xs) n) t) (nI i)).trans (q3 _))
      have H8 : ∀ J : Nat → SM → Int32 → OR, fL_h xn xs J t (nI i) = dsp_8 J (xs i &&& 63) t (nI i) := fun J => (H7 J).trans (if_neg e7)
      by_cases e8 : xs i &&& 63 = 8
      · obtain ⟨t2, q1, q2, q3⟩ := cs_8 h hi6 hx
        exact fin 470 t2 q1 q2 (fun J => (H8 J).trans (if_pos e8)) (fun n => (congrFun (congrFun (congrFun (congrFun (congrFun LR_8 xn) xs) n) t) (nI i)).trans (q3 _))
      have H9 : ∀ J : Nat → SM → Int32 → OR, fL_h xn xs J t (nI i) = dsp_9 J (xs i &&& 63) t (nI i) := fun J => (H8 J).trans (if_neg e8)
      by_cases e9 : xs i &&& 63 = 9
      · obtain ⟨t2, q1, q2, q3⟩ := cs_9 h hi6 hx
        exact fin 503 t2 q1 q2 (fun J => (H9 J).trans (if_pos e9)) (fun n => (congrFun (congrFun (congrFun (congrFun (congrFun LR_9 xn) xs) n) t) (nI i)).trans (q3 _))
      have H10 : ∀ J : Nat → SM → Int32 → OR, fL_h xn xs J t (nI i) = dsp_10 J (xs i &&& 63) t (nI i) := fun J => (H9 J).trans (if_neg e9)
      by_cases e10 : xs i &&& 63 = 10
      · obtain ⟨t2, q1, q2, q3⟩ := cs_10 h hi6 hx
        exact fin 536 t2 q1 q2 (fun J => (H10 J).trans (if_pos e10)) (fun n => (congrFun (congrFun (congrFun (congrFun (congrFun LR_10 xn) xs) n) t) (nI i)).trans (q3 _))
      have H11 : ∀ J : Nat → SM → Int32 → OR, fL_h xn xs J t (nI i) = dsp_11 J (xs i &&& 63) t (nI i) := fun J => (H10 J).trans (if_neg e10)
      by_cases e11 : xs i &&& 63 = 11
      · obtain ⟨t2, q1, q2, q3⟩ := cs_11 h hi6 hx
        exact fin 579 t2 q1 q2 (fun J => (H11 J).trans (if_pos e11)) (fun n => (congrFun (congrFun (congrFun (congrFun (congrFun LR_11 xn) xs) n) t) (nI i)).trans (q3 _))
      have H12 : ∀ J : Nat → SM → Int32 → OR, fL_h xn xs J t (nI i) = dsp_12 J (xs i &&& 63) t (nI i) := fun J => (H11 J).trans (if_neg e11)
      by_cases e12 : xs i &&& 63 = 12
      · obtain ⟨t2, q1, q2, q3⟩ := cs_12 h hi6 hx
        exact fin 612 t2 q1 q2 (fun J => (H12 J).trans (if_pos e12)) (fun n => (congrFun (congrFun (congrFun (congrFun (congrFun LR_12 xn) xs) n) t) (nI i)).trans (q3 _))
      have H13 : ∀ J : Nat → SM → Int32 → OR, fL_h xn xs J t (nI i) = dsp_13 J (xs i &&& 63) t (nI i) := fun J => (H12 J).trans (if_neg e12)
      by_cases e13 : xs i &&& 63 = 13
      · obtain ⟨t2, q1, q2, q3⟩ := cs_13 h hi6 hx
        exact fin 635 t2 q1 q2 (fun J => (H13 J).trans (if_pos e13)) (fun n => (congrFun (congrFun (congrFun (congrFun (congrFun LR_13 xn) xs) n) t) (nI i)).trans (q3 _))
      have H14 : ∀ J : Nat → SM → Int32 → OR, fL_h xn xs J t (nI i) = dsp_14 J (xs i &&& 63) t (nI i) := fun J => (H13 J).trans (if_neg e13)
      by_cases e14 : xs i &&& 63 = 14
      · obtain ⟨t2, q1, q2, q3⟩ := cs_14 h hi6 hx
        exact fin 658 t2 q1 q2 (fun J => (H14 J).trans (if_pos e14)) (fun n => (congrFun (congrFun (congrFun (congrFun (congrFun LR_14 xn) xs) n) t) (nI i)).trans (q3 _))
      have H15 : ∀ J : Nat → SM → Int32 → OR, fL_h xn xs J t (nI i) = dsp_15 J (xs i &&& 63) t (nI i) := fun J => (H14 J).trans (if_neg e14)
      by_cases e15 : xs i &&& 63 = 15
      · obtain ⟨t2, q1, q2, q3⟩ := cs_15 h hi6 hx
        exact fin 681 t2 q1 q2 (fun J => (H15 J).trans (if_pos e15)) (fun n => (congrFun (congrFun (congrFun (congrFun (congrFun LR_15 xn) xs) n) t) (nI i)).trans (q3 _))
      have H16 : ∀ J : Nat → SM → Int32 → OR, fL_h xn xs J t (nI i) = dsp_16 J (xs i &&& 63) t (nI i) := fun J => (H15 J).trans (if_neg e15)
      by_cases e16 : xs i &&& 63 = 16
      · obtain ⟨t2, q1, q2, q3⟩ := cs_16 h hi6 hx
        exact fin 694 t2 q1 q2 (fun J => (H16 J).trans (if_pos e16)) (fun n => (congrFun (congrFun (congrFun (congrFun (congrFun LR_16 xn) xs) n) t) (nI i)).trans (q3 _))
      have H17 : ∀ J : Nat → SM → Int32 → OR, fL_h xn xs J t (nI i) = dsp_17 J (xs i &&& 63) t (nI i) := fun J => (H16 J).trans (if_neg e16)
      by_cases e17 : xs i &&& 63 = 17
      · obtain ⟨t2, q1, q2, q3⟩ := cs_17 h hi6 hx
        exact fin 717 t2 q1 q2 (fun J => (H17 J).trans (if_pos e17)) (fun n => (congrFun (congrFun (congrFun (congrFun (congrFun LR_17 xn) xs) n) t) (nI i)).trans (q3 _))
      have H18 : ∀ J : Nat → SM → Int32 → OR, fL_h xn xs J t (nI i) = dsp_18 J (xs i &&& 63) t (nI i) := fun J => (H17 J).trans (if_neg e17)
      by_cases e18 : xs i &&& 63 = 18
      · obtain ⟨t2, q1, q2, q3⟩ := cs_18 h hi6 hx
        exact fin 770 t2 q1 q2 (fun J => (H18 J).trans (if_pos e18)) (fun n => (congrFun (congrFun (congrFun (congrFun (congrFun LR_18 xn) xs) n) t) (nI i)).trans (q3 _))
      have H19 : ∀ J : Nat → SM → Int32 → OR, fL_h xn xs J t (nI i) = dsp_19 J (xs i &&& 63) t (nI i) := fun J => (H18 J).trans (if_neg e18)
      by_cases e19 : xs i &&& 63 = 19
      · obtain ⟨t2, q1, q2, q3⟩ := cs_19 h hi6 hx
        exact fin 803 t2 q1 q2 (fun J => (H19 J).trans (if_pos e19)) (fun n => (congrFun (congrFun (congrFun (congrFun (congrFun LR_19 xn) xs) n) t) (nI i)).trans (q3 _))
      have H20 : ∀ J : Nat → SM → Int32 → OR, fL_h xn xs J t (nI i) = dsp_20 J (xs i &&& 63) t (nI i) := fun J => (H19 J).trans (if_neg e19)
      by_cases e20 : xs i &&& 63 = 20
      · obtain ⟨t2, q1, q2, q3⟩ := cs_20 h hi6 hx
        exact fin 826 t2 q1 q2 (fun J => (H20 J).trans (if_pos e20)) (fun n => (congrFun (congrFun (congrFun (congrFun (congrFun LR_20 xn) xs) n) t) (nI i)).trans (q3 _))
      have H21 : ∀ J : Nat → SM → Int32 → OR, fL_h xn xs J t (nI i) = dsp_21 J (xs i &&& 63) t (nI i) := fun J => (H20 J).trans (if_neg e20)
      by_cases e21 : xs i &&& 63 = 21
      · obtain ⟨t2, q1, q2, q3⟩ := cs_21 h hi6 hx
        exact fin 849 t2 q1 q2 (fun J => (H21 J).trans (if_pos e21)) (fun n => (congrFun (congrFun (congrFun (congrFun (congrFun LR_21 xn) xs) n) t) (nI i)).trans (q3 _))
      have H22 : ∀ J : Nat → SM → Int32 → OR, fL_h xn xs J t (nI i) = dsp_22 J (xs i &&& 63) t (nI i) := fun J => (H21 J).trans (if_neg e21)
      by_cases e22 : xs i &&& 63 = 22
      · obtain ⟨t2, q1, q2, q3⟩ := cs_22 h hi6 hx
        exact fin 882 t2 q1 q2 (fun J => (H22 J).trans (if_pos e22)) (fun n => (congrFun (congrFun (congrFun (congrFun (congrFun LR_22 xn) xs) n) t) (nI i)).trans (q3 _))
      have H23 : ∀ J : Nat → SM → Int32 → OR, fL_h xn xs J t (nI i) = dsp_23 J (xs i &&& 63) t (nI i) := fun J => (H22 J).trans (if_neg e22)
      by_cases e23 : xs i &&& 63 = 23
      · obtain ⟨t2, q1, q2, q3⟩ := cs_23 h hi6 hx
        exact fin 925 t2 q1 q2 (fun J => (H23 J).trans (if_pos e23)) (fun n => (congrFun (congrFun (congrFun (congrFun (congrFun LR_23 xn) xs) n) t) (nI i)).trans (q3 _))
      have H24 : ∀ J : Nat → SM → Int32 → OR, fL_h xn xs J t (nI i) = dsp_24 J (xs i &&& 63) t (nI i) := fun J => (H23 J).trans (if_neg e23)
      by_cases e24 : xs i &&& 63 = 24
      · obtain ⟨t2, q1, q2, q3⟩ := cs_24 h hi6 hx
        exact fin 948 t2 q1 q2 (fun J => (H24 J).trans (if_pos e24)) (fun n => (congrFun (congrFun (congrFun (congrFun (congrFun LR_24 xn) xs) n) t) (nI i)).trans (q3 _))
      have H25 : ∀ J : Nat → SM → Int32 → OR, fL_h xn xs J t (nI i) = dsp_25 J (xs i &&& 63) t (nI i) := fun J => (H24 J).trans (if_neg e24)
      by_cases e25 : xs i &&& 63 = 25
      · obtain ⟨t2, q1, q2, q3⟩ := cs_25 h hi6 hx
        exact fin 981 t2 q1 q2 (fun J => (H25 J).trans (if_pos e25)) (fun n => (congrFun (congrFun (congrFun (congrFun (congrFun LR_25 xn) xs) n) t) (nI i)).trans (q3 _))
      have H26 : ∀ J : Nat → SM → Int32 → OR, fL_h xn xs J t (nI i) = dsp_26 J (xs i &&& 63) t (nI i) := fun J => (H25 J).trans (if_neg e25)
      by_cases e26 : xs i &&& 63 = 26
      · obtain ⟨t2, q1, q2, q3⟩ := cs_26 h hi6 hx
        exact fin 1014 t2 q1 q2 (fun J => (H26 J).trans (if_pos e26)) (fun n => (congrFun (congrFun (congrFun (congrFun (congrFun LR_26 xn) xs) n) t) (nI i)).trans (q3 _))
      have H27 : ∀ J : Nat → SM → Int32 → OR, fL_h xn xs J t (nI i) = dsp_27 J (xs i &&& 63) t (nI i) := fun J => (H26 J).trans (if_neg e26)
      by_cases e27 : xs i &&& 63 = 27
      · obtain ⟨t2, q1, q2, q3⟩ := cs_27 h hi6 hx
        exact fin 1057 t2 q1 q2 (fun J => (H27 J).trans (if_pos e27)) (fun n => (congrFun (congrFun (congrFun (congrFun (congrFun LR_27 xn) xs) n) t) (nI i)).trans (q3 _))
      have H28 : ∀ J : Nat → SM → Int32 → OR, fL_h xn xs J t (nI i) = dsp_28 J (xs i &&& 63) t (nI i) := fun J => (H27 J).trans (if_neg e27)
      by_cases e28 : xs i &&& 63 = 28
      · obtain ⟨t2, q1, q2, q3⟩ := cs_28 h hi6 hx
        exact fin 1080 t2 q1 q2 (fun J => (H28 J).trans (if_pos e28)) (fun n => (congrFun (congrFun (congrFun (congrFun (congrFun LR_28 xn) xs) n) t) (nI i)).trans (q3 _))
      have H29 : ∀ J : Nat → SM → Int32 → OR, fL_h xn xs J t (nI i) = dsp_29 J (xs i &&& 63) t (nI i) := fun J => (H28 J).trans (if_neg e28)
      by_cases e29 : xs i &&& 63 = 29
      · obtain ⟨t2, q1, q2, q3⟩ := cs_29 h hi6 hx
        exact fin 1093 t2 q1 q2 (fun J => (H29 J).trans (if_pos e29)) (fun n => (congrFun (congrFun (congrFun (congrFun (congrFun LR_29 xn) xs) n) t) (nI i)).trans (q3 _))
      have H30 : ∀ J : Nat → SM → Int32 → OR, fL_h xn xs J t (nI i) = dsp_30 J (xs i &&& 63) t (nI i) := fun J => (H29 J).trans (if_neg e29)
      by_cases e30 : xs i &&& 63 = 30
      · obtain ⟨t2, q1, q2, q3⟩ := cs_30 h hi6 hx
        exact fin 1116 t2 q1 q2 (fun J => (H30 J).trans (if_pos e30)) (fun n => (congrFun (congrFun (congrFun (congrFun (congrFun LR_30 xn) xs) n) t) (nI i)).trans (q3 _))
      have H31 : ∀ J : Nat → SM → Int32 → OR, fL_h xn xs J t (nI i) = dsp_31 J (xs i &&& 63) t (nI i) := fun J => (H30 J).trans (if_neg e30)
      by_cases e31 : xs i &&& 63 = 31
      · obtain ⟨t2, q1, q2, q3⟩ := cs_31 h hi6 hx
        exact fin 1129 t2 q1 q2 (fun J => (H31 J).trans (if_pos e31)) (fun n => (congrFun (congrFun (congrFun (congrFun (congrFun LR_31 xn) xs) n) t) (nI i)).trans (q3 _))
      have H32 : ∀ J : Nat → SM → Int32 → OR, fL_h xn xs J t (nI i) = dsp_32 J (xs i &&& 63) t (nI i) := fun J => (H31 J).trans (if_neg e31)
      by_cases e32 : xs i &&& 63 = 32
      · obtain ⟨t2, q1, q2, q3⟩ := cs_32 h hi6 hx
        exact fin 1152 t2 q1 q2 (fun J => (H32 J).trans (if_pos e32)) (fun n => (congrFun (congrFun (congrFun (congrFun (congrFun LR_32 xn) xs) n) t) (nI i)).trans (q3 _))
      have H33 : ∀ J : Nat → SM → Int32 → OR, fL_h xn xs J t (nI i) = dsp_33 J (xs i &&& 63) t (nI i) := fun J => (H32 J).trans (if_neg e32)
      by_cases e33 : xs i &&& 63 = 33
      · obtain ⟨t2, q1, q2, q3⟩ := cs_33 h hi6 hx
        exact fin 1165 t2 q1 q2 (fun J => (H33 J).trans (if_pos e33)) (fun n => (congrFun (congrFun (congrFun (congrFun (congrFun LR_33 xn) xs) n) t) (nI i)).trans (q3 _))
      have H34 : ∀ J : Nat → SM → Int32 → OR, fL_h xn xs J t (nI i) = dsp_34 J (xs i &&& 63) t (nI i) := fun J => (H33 J).trans (if_neg e33)
      by_cases e34 : xs i &&& 63 = 34
      · obtain ⟨t2, q1, q2, q3⟩ := cs_34 h hi6 hx
        exact fin 1188 t2 q1 q2 (fun J => (H34 J).trans (if_pos e34)) (fun n => (congrFun (congrFun (congrFun (congrFun (congrFun LR_34 xn) xs) n) t) (nI i)).trans (q3 _))
      have H35 : ∀ J : Nat → SM → Int32 → OR, fL_h xn xs J t (nI i) = dsp_35 J (xs i &&& 63) t (nI i) := fun J => (H34 J).trans (if_neg e34)
      by_cases e35 : xs i &&& 63 = 35
      · obtain ⟨t2, q1, q2, q3⟩ := cs_35 h hi6 hx
        exact fin 1231 t2 q1 q2 (fun J => (H35 J).trans (if_pos e35)) (fun n => (congrFun (congrFun (congrFun (congrFun (congrFun LR_35 xn) xs) n) t) (nI i)).trans (q3 _))
      have H36 : ∀ J : Nat → SM → Int32 → OR, fL_h xn xs J t (nI i) = dsp_36 J (xs i &&& 63) t (nI i) := fun J => (H35 J).trans (if_neg e35)
      by_cases e36 : xs i &&& 63 = 36
      · obtain ⟨t2, q1, q2, q3⟩ := cs_36 h hi6 hx
        exact fin 1244 t2 q1 q2 (fun J => (H36 J).trans (if_pos e36)) (fun n => (congrFun (congrFun (congrFun (congrFun (congrFun LR_36 xn) xs) n) t) (nI i)).trans (q3 _))
      have H37 : ∀ J : Nat → SM → Int32 → OR, fL_h xn xs J t (nI i) = dsp_37 J (xs i &&& 63) t (nI i) := fun J => (H36 J).trans (if_neg e36)
      by_cases e37 : xs i &&& 63 = 37
      · obtain ⟨t2, q1, q2, q3⟩ := cs_37 h hi6 hx
        exact fin 1277 t2 q1 q2 (fun J => (H37 J).trans (if_pos e37)) (fun n => (congrFun (congrFun (congrFun (congrFun (congrFun LR_37 xn) xs) n) t) (nI i)).trans (q3 _))
      have H38 : ∀ J : Nat → SM → Int32 → OR, fL_h xn xs J t (nI i) = dsp_38 J (xs i &&& 63) t (nI i) := fun J => (H37 J).trans (if_neg e37)
      by_cases e38 : xs i &&& 63 = 38
      · obtain ⟨t2, q1, q2, q3⟩ := cs_38 h hi6 hx
        exact fin 1310 t2 q1 q2 (fun J => (H38 J).trans (if_pos e38)) (fun n => (congrFun (congrFun (congrFun (congrFun (congrFun LR_38 xn) xs) n) t) (nI i)).trans (q3 _))
      have H39 : ∀ J : Nat → SM → Int32 → OR, fL_h xn xs J t (nI i) = dsp_39 J (xs i &&& 63) t (nI i) := fun J => (H38 J).trans (if_neg e38)
      by_cases e39 : xs i &&& 63 = 39
      · obtain ⟨t2, q1, q2, q3⟩ := cs_39 h hi6 hx
        exact fin 1333 t2 q1 q2 (fun J => (H39 J).trans (if_pos e39)) (fun n => (congrFun (congrFun (congrFun (congrFun (congrFun LR_39 xn) xs) n) t) (nI i)).trans (q3 _))
      have H40 : ∀ J : Nat → SM → Int32 → OR, fL_h xn xs J t (nI i) = dsp_40 J (xs i &&& 63) t (nI i) := fun J => (H39 J).trans (if_neg e39)
      by_cases e40 : xs i &&& 63 = 40
      · obtain ⟨t2, q1, q2, q3⟩ := cs_40 h hi6 hx
        exact fin 1366 t2 q1 q2 (fun J => (H40 J).trans (if_pos e40)) (fun n => (congrFun (congrFun (congrFun (congrFun (congrFun LR_40 xn) xs) n) t) (nI i)).trans (q3 _))
      have H41 : ∀ J : Nat → SM → Int32 → OR, fL_h xn xs J t (nI i) = dsp_41 J (xs i &&& 63) t (nI i) := fun J => (H40 J).trans (if_neg e40)
      by_cases e41 : xs i &&& 63 = 41
      · obtain ⟨t2, q1, q2, q3⟩ := cs_41 h hi6 hx
        exact fin 1379 t2 q1 q2 (fun J => (H41 J).trans (if_pos e41)) (fun n => (congrFun (congrFun (congrFun (congrFun (congrFun LR_41 xn) xs) n) t) (nI i)).trans (q3 _))
      have H42 : ∀ J : Nat → SM → Int32 → OR, fL_h xn xs J t (nI i) = dsp_42 J (xs i &&& 63) t (nI i) := fun J => (H41 J).trans (if_neg e41)
      by_cases e42 : xs i &&& 63 = 42
      · obtain ⟨t2, q1, q2, q3⟩ := cs_42 h hi6 hx
        exact fin 1392 t2 q1 q2 (fun J => (H42 J).trans (if_pos e42)) (fun n => (congrFun (congrFun (congrFun (congrFun (congrFun LR_42 xn) xs) n) t) (nI i)).trans (q3 _))
      have H43 : ∀ J : Nat → SM → Int32 → OR, fL_h xn xs J t (nI i) = dsp_43 J (xs i &&& 63) t (nI i) := fun J => (H42 J).trans (if_neg e42)
      by_cases e43 : xs i &&& 63 = 43
      · obtain ⟨t2, q1, q2, q3⟩ := cs_43 h hi6 hx
        exact fin 1435 t2 q1 q2 (fun J => (H43 J).trans (if_pos e43)) (fun n => (congrFun (congrFun (congrFun (congrFun (congrFun LR_43 xn) xs) n) t) (nI i)).trans (q3 _))
      have H44 : ∀ J : Nat → SM → Int32 → OR, fL_h xn xs J t (nI i) = dsp_44 J (xs i &&& 63) t (nI i) := fun J => (H43 J).trans (if_neg e43)
      by_cases e44 : xs i &&& 63 = 44
      · obtain ⟨t2, q1, q2, q3⟩ := cs_44 h hi6 hx
        exact fin 1478 t2 q1 q2 (fun J => (H44 J).trans (if_pos e44)) (fun n => (congrFun (congrFun (congrFun (congrFun (congrFun LR_44 xn) xs) n) t) (nI i)).trans (q3 _))
      have H45 : ∀ J : Nat → SM → Int32 → OR, fL_h xn xs J t (nI i) = dsp_45 J (xs i &&& 63) t (nI i) := fun J => (H44 J).trans (if_neg e44)
      by_cases e45 : xs i &&& 63 = 45
      · obtain ⟨t2, q1, q2, q3⟩ := cs_45 h hi6 hx
        exact fin 1541 t2 q1 q2 (fun J => (H45 J).trans (if_pos e45)) (fun n => (congrFun (congrFun (congrFun (congrFun (congrFun LR_45 xn) xs) n) t) (nI i)).trans (q3 _))
      have H46 : ∀ J : Nat → SM → Int32 → OR, fL_h xn xs J t (nI i) = dsp_46 J (xs i &&& 63) t (nI i) := fun J => (H45 J).trans (if_neg e45)
      by_cases e46 : xs i &&& 63 = 46
      · obtain ⟨t2, q1, q2, q3⟩ := cs_46 h hi6 hx
        exact fin 1594 t2 q1 q2 (fun J => (H46 J).trans (if_pos e46)) (fun n => (congrFun (congrFun (congrFun (congrFun (congrFun LR_46 xn) xs) n) t) (nI i)).trans (q3 _))
      have H47 : ∀ J : Nat → SM → Int32 → OR, fL_h xn xs J t (nI i) = dsp_47 J (xs i &&& 63) t (nI i) := fun J => (H46 J).trans (if_neg e46)
      obtain ⟨n, t', q1, q2, q3⟩ := ih (i + 6) t h (by omega) (by omega)
      refine ⟨n + 1, t', ?_, by omega, by omega⟩
      rw [hd n, H47]
      show LR xn xs n 18 t (nI i + 6) = _
      rw [nI_a6, q1]
    · refine ⟨1, t, ?_, by omega, by omega⟩
      exact (congrFun (congrFun (congrFun (congrFun (congrFun LR_h xn) xs) 0) t) (nI i)).trans (hd_end (by omega) hx (by omega) _)
/-- the whole law, from its entry -/
theorem law_v (hx : xn ≤ 384) : ∃ (n : Nat) (t' : SM), fL_e xn xs F_107 F_181 (LR xn xs n) = rI 1 t' ∧ mN t' ≤ 600000 ∧ mZ t' ≤ 7302249 := by
  obtain ⟨n, t', q1, q2, q3⟩ := run_v (xs := xs) hx 64 0 tM ⟨6, 0, 0, 0, 1, 0, inv_0⟩ (by omega) (by decide)
  obtain ⟨z1, z2, z3, z4⟩ := tM_N
  refine ⟨n, t', ?_, by omega, by omega⟩
  unfold fL_e
  have e1 : F_107 [.ref 0] (mPush tB0 10 0 18) = rV tX1 := fx_init_e
  have c50 : clN 11 = 51 := by decide +kernel
  rw [c50]
  have e3 : F_181 [.ref 39] (mPush tX1 11 0 51) = rV tM := fm_init_e
  have e2 : hRecv (α := RR) (mPush tX1 11 0 51) 11 39 = fun c => c := funext fun c => if_pos (by rw [mPush_T, if_pos z1.symm])
  rw [e1, bV_rV, z1, e2, e3, bV_rV]
  exact q1
end
