section
theorem tM_hi' (k : Nat) (h : 68 ≤ k) : (mT tM k).1 = 999 := by
  have this : (mT tM (k - 68 + 68)).1 = 999 := congrFun tM_hi (k - 68)
  rw [show k - 68 + 68 = k by omega] at this
  exact this
theorem tM_ivB : IvB (mT tM) (mN tM) := by
  intro k hk
  by_cases h : k < 68
  · have h2 : ∀ k, k < 68 → (layF k).1 = 8 → k = 29 := by decide +kernel
    rw [tM_T k h] at hk
    obtain rfl := h2 k h hk
    exact ⟨by have := tM_N; omega, tM_T 30 (by decide)⟩
  · rw [tM_hi' k (by omega)] at hk
    exact absurd hk (by decide)
theorem tM_pt (e b d : Nat) (D : List Nat) (he : e < 3) (hb : b ≤ d ∧ d ≤ 160) (h1 : mI tM 52 e = nI b) (h2 : mI tM 52 (e + 1) = nI d) (hR : mR tM 29 e = some (26 + e)) (hT : layF (26 + e) = (20, d - b)) (hl : D.length = d - b) (hv : ∀ c ∈ D, vcd c) (h51 : ∀ k, k < d - b → mI tM 51 (b + k) = nI (D.getD k 0)) (hcd : ∀ k, k < d - b → pm tM (26 + e) k = trn (D.getD k 0)) (hc : cds (pm tM) 0 e = D) (hd : dpt D 0 = some 1) : PtA (pm tM) (mR tM) (mT tM) 0 29 e := by
  have lay := tM_lay
  refine ⟨by rw [hR], b, d, hb.1, hb.2, by rw [← rp_52 lay, show 4 * 0 + e = e by omega]; exact h1, by rw [← rp_52 lay, show 4 * 0 + e + 1 = e + 1 by omega]; exact h2, by rw [show 29 - 3 + e = 26 + e by omega, tM_T _ (by omega)]; exact hT, fun k hk => ?_, by rw [hc]; exact hd⟩
  have hv' : vcd (D.getD k 0) := by
    rw [List.getD_eq_getElem?_getD, List.getElem?_eq_getElem (by omega)]
    exact hv _ (List.getElem_mem _)
  exact ⟨D.getD k 0, hv', by rw [← rp_51 lay, show 200 * 0 + b + k = b + k by omega]; exact h51 k hk, by rw [show 29 - 3 + e = 26 + e by omega]; exact hcd k hk⟩
theorem inv_0 : Inv 6 0 0 0 1 0 tM := by
  have lay := tM_lay
  have hn := tM_num
  unfold numB at hn
  simp only [Bool.and_eq_true, decide_eq_true_eq] at hn
  obtain ⟨a1, a2, a3, a4, a5, a6, a7, a8, a9, a10, a11, a12, a13, a14, a15, a16, a17, a18⟩ := hn
  have hi := tM_img
  unfold imgB at hi
  simp only [Bool.and_eq_true, decide_eq_true_eq] at hi
  obtain ⟨i1, i2, i3, i4, i5, i6, i7, i8, i9, i10⟩ := hi
  have p : ∀ {k j : Nat}, fxB k = true → scrF k j = false → pm tM k j = mI tM k j := fun h1 h2 => (pm_fx lay h1 h2).symm
  refine ⟨lay, IvN.mk ⟨by decide, by decide, by decide, by decide, by decide, by decide⟩ ((p rfl rfl).trans a1) ((p rfl rfl).trans a2) ((p rfl rfl).trans a3) ((p rfl rfl).trans a4) ((p rfl rfl).trans a5) ((p rfl rfl).trans a6) ((p rfl rfl).trans a7) ((p rfl rfl).trans a8) ((p rfl rfl).trans a9) ((p rfl rfl).trans a10) ((p rfl rfl).trans a11) ((p rfl rfl).trans a12) (by rw [p rfl rfl, p rfl rfl, a15, a13]) (by rw [p rfl rfl, p rfl rfl, a16, a14]) (by rw [p rfl rfl, p rfl rfl, a17, a18]) ⟨0, by decide, (p rfl rfl).trans a18⟩,
    fun i hi => absurd hi (by omega), fun i hi => absurd hi (by omega), ?_, ?_, fun i hi => absurd hi (by omega), ⟨fun i hi => absurd hi (by omega), fun i j q hi => absurd hi (by omega)⟩, ?_, fun i hi => absurd hi (by omega), ?_, tM_ivB, ?_⟩
  · refine ⟨by rw [p rfl rfl, p rfl rfl, i1, i6], Or.inl (by rw [p rfl rfl]; exact i6), by rw [p rfl rfl, p rfl rfl, i2, i7], by rw [p rfl rfl, p rfl rfl, i3, i8], by rw [p rfl rfl, p rfl rfl, i4, i10], by rw [p rfl rfl, p rfl rfl, i5, i9], 0, 0, by decide, by decide, by rw [p rfl rfl]; exact i9, by rw [p rfl rfl]; exact i10, fun _ => Nat.le_refl _, fun i hi => absurd hi (by omega)⟩
  · intro i hi
    obtain ⟨⟨s1, s2, s3, s4⟩, s5⟩ := tM_sh i hi
    have f1 : ∀ i, i < 4 → fxB (31 + 2 * i) = true ∧ fxB (32 + 2 * i) = true ∧ (scrF (31 + 2 * i) 0 = false ∧ scrF (31 + 2 * i) 1 = false) := by decide +kernel
    have f2 : ∀ i, i < 4 → ∀ j, j < 40 → scrF (32 + 2 * i) j = false := by decide +kernel
    obtain ⟨g1, g2, g3, g4⟩ := f1 i hi
    have e54 : pm tM 54 i = -1 := by rw [← rp_54 lay]; exact s2
    have e55 : pm tM 55 i = 0 := by rw [← rp_55 lay]; exact s4
    refine ⟨by rw [p g1 g3, e54]; exact s1, Or.inl e54, ⟨0, by decide, by rw [p g1 g4]; exact s3, e55⟩, fun j hj => ?_⟩
    rw [p g2 (f2 i hi j hj), ← rp_56 lay]; exact s5 j hj
  · intro j hj
    exact ⟨0, by decide, by rw [← rp_3 lay]; exact tM_agr j hj, fun i hi => absurd hi (by omega)⟩
  · intro i hi
    obtain rfl : i = 0 := by omega
    obtain ⟨x1, x2, x3, x4, x5⟩ := tM_x
    obtain ⟨y1, y2, y3, y4⟩ := tM_52
    obtain ⟨z1, z2, z3, z4, z5⟩ := tM_51
    obtain ⟨u1, u2, u3, u4, u5⟩ := tM_cd
    obtain ⟨c1, c2, c3⟩ := tM_cds
    refine ⟨29, x1, ⟨Or.inl rfl, by have := tM_N; omega⟩, by rw [tM_T 29 (by decide)]; rfl, by rw [tM_T 25 (by decide)]; decide, by rw [tM_T 30 (by decide)]; rfl, x5, fun e he => ?_, fun a ha => by rw [c1]; exact tM_bits a ha⟩
    rcases (by omega : e = 0 ∨ e = 1 ∨ e = 2) with q | q | q
    · subst q
      refine tM_pt 0 0 1 [100001] (by decide) (by decide) y1 y2 x2 rfl rfl (fun c hc => ?_) (fun k hk => ?_) (fun k hk => ?_) c1 rfl
      · rw [List.mem_singleton] at hc; rw [hc]; exact Or.inl (by omega)
      · obtain rfl : k = 0 := by omega
        exact z1
      · obtain rfl : k = 0 := by omega
        exact u1
    · subst q
      refine tM_pt 1 1 2 [4] (by decide) (by decide) y2 y3 x3 rfl rfl (fun c hc => ?_) (fun k hk => ?_) (fun k hk => ?_) c2 rfl
      · rw [List.mem_singleton] at hc; rw [hc]; exact Or.inr (Or.inl (by omega))
      · obtain rfl : k = 0 := by omega
        exact z2
      · obtain rfl : k = 0 := by omega
        exact u2
    · subst q
      refine tM_pt 2 2 5 [100003, 5, 16] (by decide) (by decide) y3 y4 x4 rfl rfl (fun c hc => ?_) (fun k hk => ?_) (fun k hk => ?_) c3 rfl
      · rcases List.mem_cons.mp hc with hc | hc
        · rw [hc]; exact Or.inl (by omega)
        · rcases List.mem_cons.mp hc with hc | hc
          · rw [hc]; exact Or.inr (Or.inl (by omega))
          · rw [List.mem_singleton] at hc; rw [hc]; exact Or.inr (Or.inr (by omega))
      · rcases (by omega : k = 0 ∨ k = 1 ∨ k = 2) with q | q | q
        · subst q; exact z3
        · subst q; exact z4
        · subst q; exact z5
      · rcases (by omega : k = 0 ∨ k = 1 ∨ k = 2) with q | q | q
        · subst q; exact u3
        · subst q; exact u4
        · subst q; exact u5
  · intro j hj
    rw [← rp_58 lay]; exact tM_w j hj
end
