section
variable {n m s g x p : Nat} {t u : SM}
theorem ml16 (h : Inv n m s g x p t) : ∀ k r f u (v1 : Int32), r + 1 + k = m → k < f → FS [39, 67] t u → (∀ k, k < 8 → bt v1 k = (trS (DD (pm t)) m r).1 k) → mI u 39 50 = nI (trS (DD (pm t)) m r).2.2 → (∀ q, q < m → (trS (DD (pm t)) m r).1 q = true → mI u 67 q = (trS (DD (pm t)) m r).2.1 q) →
    ∃ u', fm_drawsAll_l16 f u v1 (nI (r + 1)) = rV u' ∧ FS [39, 67] t u' ∧ mI u' 39 50 = nI (trS (DD (pm t)) m (m - 1)).2.2 ∧ ∀ q, q < m → (trS (DD (pm t)) m (m - 1)).1 q = true → mI u' 67 q = (trS (DD (pm t)) m (m - 1)).2.1 q := by
  have hr := h.rng
  intro k
  induction k with
  | zero =>
    intro r f u v1 hj hf hu hb hs hro
    obtain ⟨f, rfl⟩ : ∃ f', f = f' + 1 := ⟨f - 1, by omega⟩
    obtain rfl : r = m - 1 := by omega
    have hI := h.fr hu.1
    have e9 : nI m ≤ nI (m - 1 + 1) := by rw [show m - 1 + 1 = m by omega]; exact Int32.le_refl _
    refine ⟨u, ?_, hu, hs, hro⟩
    show fm_drawsAll_16 _ u _ _ = _
    simp only [fm_drawsAll_16, gI_39, pI_39, rc_39, al_40, as_40, ln_40, al_41, as_41, ln_41, al_42, as_42, ln_42, al_43, as_43, ln_43, al_44, as_44, ln_44, al_45, as_45, ln_45, al_46, as_46, ln_46, al_47, as_47, ln_47, al_48, as_48, ln_48, al_49, as_49, ln_49, al_50, as_50, ln_50, al_51, as_51, ln_51, al_52, as_52, ln_52, al_53, as_53, ln_53, al_54, as_54, ln_54, al_55, as_55, ln_55, al_56, as_56, ln_56, al_57, as_57, ln_57, al_58, as_58, ln_58, al_59, as_59, ln_59, al_60, as_60, ln_60, al_61, as_61, ln_61, al_62, as_62, ln_62, al_63, as_63, ln_63, al_64, as_64, ln_64, al_65, as_65, ln_65, al_66, as_66, ln_66, al_67, as_67, ln_67, gC_39_4, gC_39_5, gC_39_6, gC_39_7, gC_39_8, gC_39_10, gC_39_11, gC_39_12, gC_39_13, gC_39_15, gC_39_16, gC_39_18, gC_39_19, gC_39_27, gC_39_28, gC_39_29, gC_39_30, gC_39_31, gC_39_36, gC_39_37, gC_39_41, gC_39_42, gC_39_43, gC_39_44, gC_39_46, gC_39_47, gC_39_48, gC_39_49, bI_rI, bV_rV, bQ_rN, bQ_rR, bz_0, bz_1, bz_Z, hZ0, hZ1, Lay_setI, Lay_setA, hI.lay, hI.mp, e9, if_true]
  | succ k ih =>
    intro r f u v1 hj hf hu hb hs hro
    obtain ⟨f, rfl⟩ : ∃ f', f = f' + 1 := ⟨f - 1, by omega⟩
    have hI := h.fr hu.1
    have hl := hI.lay
    have e9 : ¬ nI m ≤ nI (r + 1) := nI_ge (by omega) (by omega)
    obtain ⟨q, s1, ⟨⟨a1, a2⟩, b1, b2⟩, s2⟩ := trS_s (D := DD (pm t)) (m := m) (r := r) (by omega)
    have q8 : q.1 < 8 := by omega
    have inn := ml36 hI (v1 := v1) (v2 := nI (r + 1)) hb (k150 := fun t u1 u2 u3 u4 u5 => fm_drawsAll_150 (fm_drawsAll_l16 f) t u1 u2 u3 u4 u5) m 0 1000000 (by omega) (by omega)
    rw [hu.1.2, s1] at inn
    have l1 : Lay (setI u 67 q.1 (nI q.2)) := hl
    have s50 : mI (setI u 67 q.1 (nI q.2)) 39 50 = nI (trS (DD (pm t)) m r).2.2 := by rw [setI_ne (by decide)]; exact hs
    obtain ⟨u', f1, f2, f3, f4⟩ := ih (r + 1) f (setI (setI u 67 q.1 (nI q.2)) 39 50 (nI ((trS (DD (pm t)) m r).2.2 + DD (pm t) q.1 q.2))) (v1 ||| ((1 : Int32) <<< (nI q.1 &&& 31))) (by omega) (by omega) ((hu.st rfl (by decide)).st rfl (by decide)) (fun k hk => by
      rw [b_or, b_one (by omega) (by omega), hb k hk, s2]
      show _ = ((trS (DD (pm t)) m r).1 k || k == q.1)
      congr 1) (by rw [setI_eq rfl rfl, s2]) (fun k hk hd => by
      rw [s2] at hd ⊢
      show _ = if k = q.1 then nI q.2 else (trS (DD (pm t)) m r).2.1 k
      rw [setI_ne (by decide), setI_I]
      by_cases e : k = q.1
      · rw [if_pos e, if_pos ⟨rfl, e⟩]
      · rw [if_neg e, if_neg (fun z => e z.2)]
        have hd : ((trS (DD (pm t)) m r).1 k || k == q.1) = true := hd
        have : (k == q.1) = false := by simp [e]
        rw [this, Bool.or_false] at hd
        exact hro k hk hd)
    refine ⟨u', ?_, f2, f3, f4⟩
    rw [← f1]
    show fm_drawsAll_16 _ u _ _ = _
    simp only [fm_drawsAll_16, gI_39, pI_39, rc_39, al_40, as_40, ln_40, al_41, as_41, ln_41, al_42, as_42, ln_42, al_43, as_43, ln_43, al_44, as_44, ln_44, al_45, as_45, ln_45, al_46, as_46, ln_46, al_47, as_47, ln_47, al_48, as_48, ln_48, al_49, as_49, ln_49, al_50, as_50, ln_50, al_51, as_51, ln_51, al_52, as_52, ln_52, al_53, as_53, ln_53, al_54, as_54, ln_54, al_55, as_55, ln_55, al_56, as_56, ln_56, al_57, as_57, ln_57, al_58, as_58, ln_58, al_59, as_59, ln_59, al_60, as_60, ln_60, al_61, as_61, ln_61, al_62, as_62, ln_62, al_63, as_63, ln_63, al_64, as_64, ln_64, al_65, as_65, ln_65, al_66, as_66, ln_66, al_67, as_67, ln_67, gC_39_4, gC_39_5, gC_39_6, gC_39_7, gC_39_8, gC_39_10, gC_39_11, gC_39_12, gC_39_13, gC_39_15, gC_39_16, gC_39_18, gC_39_19, gC_39_27, gC_39_28, gC_39_29, gC_39_30, gC_39_31, gC_39_36, gC_39_37, gC_39_41, gC_39_42, gC_39_43, gC_39_44, gC_39_46, gC_39_47, gC_39_48, gC_39_49, bI_rI, bV_rV, bQ_rN, bQ_rR, bz_0, bz_1, bz_Z, hZ0, hZ1, Lay_setI, Lay_setA, hl, hI.mp, e9, if_false]
    refine Eq.trans inn ?_
    show fm_drawsAll_150 (fm_drawsAll_l16 f) u v1 (nI (r + 1)) (nI q.1) (nI q.2) (nI (DD (pm t) q.1 q.2)) = _
    simp only [fm_drawsAll_150, gI_39, pI_39, rc_39, al_40, as_40, ln_40, al_41, as_41, ln_41, al_42, as_42, ln_42, al_43, as_43, ln_43, al_44, as_44, ln_44, al_45, as_45, ln_45, al_46, as_46, ln_46, al_47, as_47, ln_47, al_48, as_48, ln_48, al_49, as_49, ln_49, al_50, as_50, ln_50, al_51, as_51, ln_51, al_52, as_52, ln_52, al_53, as_53, ln_53, al_54, as_54, ln_54, al_55, as_55, ln_55, al_56, as_56, ln_56, al_57, as_57, ln_57, al_58, as_58, ln_58, al_59, as_59, ln_59, al_60, as_60, ln_60, al_61, as_61, ln_61, al_62, as_62, ln_62, al_63, as_63, ln_63, al_64, as_64, ln_64, al_65, as_65, ln_65, al_66, as_66, ln_66, al_67, as_67, ln_67, gC_39_4, gC_39_5, gC_39_6, gC_39_7, gC_39_8, gC_39_10, gC_39_11, gC_39_12, gC_39_13, gC_39_15, gC_39_16, gC_39_18, gC_39_19, gC_39_27, gC_39_28, gC_39_29, gC_39_30, gC_39_31, gC_39_36, gC_39_37, gC_39_41, gC_39_42, gC_39_43, gC_39_44, gC_39_46, gC_39_47, gC_39_48, gC_39_49, bI_rI, bV_rV, bQ_rN, bQ_rR, bz_0, bz_1, bz_Z, hZ0, hZ1, Lay_setI, Lay_setA, hl, l1, q8, s50, nI_add, nI_1]
end
