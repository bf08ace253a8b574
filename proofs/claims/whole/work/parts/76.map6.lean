section
variable {n m s g x p : Nat} {t u w : SM} {G G' : GG}
theorem mdT_I (u : SM) (m : Nat) (a b c d : Int32) (q k : Nat) : mI (mdT u m a b c d) q k = if q = 39 ∧ k = 3 then nI (m + 1) else if q = 44 ∧ k = m then 1 else if q = 43 ∧ k = m then d else if q = 42 ∧ k = m then c else if q = 41 ∧ k = m then b else if q = 40 ∧ k = m then a else mI u q k := by
  unfold mdT
  rw [setI_I, setI_I, setI_I, setI_I, setI_I, setI_I]
theorem mdT_o {a b c d : Int32} {k : Nat} (hk : k ∉ [39, 40, 41, 42, 43, 44]) : mI (mdT u m a b c d) k = mI u k := funext fun i => by
  simp at hk
  rw [mdT_I, if_neg (by omega), if_neg (by omega), if_neg (by omega), if_neg (by omega), if_neg (by omega), if_neg (by omega)]
theorem mdT_39 {a b c d : Int32} {j : Nat} (hj : j ≠ 3) : mI (mdT u m a b c d) 39 j = mI u 39 j := by
  rw [mdT_I, if_neg (by omega), if_neg (by omega), if_neg (by omega), if_neg (by omega), if_neg (by omega), if_neg (by omega)]
theorem mdT_3 {a b c d : Int32} : mI (mdT u m a b c d) 39 3 = nI (m + 1) := by rw [mdT_I, if_pos ⟨rfl, rfl⟩]
theorem mdT_4 {a b c d : Int32} (h : ∀ k, 40 ≤ k → k ≤ 44 → mI u k = G k) : ∀ k, 40 ≤ k → k ≤ 44 → mI (mdT u m a b c d) k = vg G m a b c d k := fun k h1 h2 => funext fun i => by
  rw [mdT_I, if_neg (by omega), h k h1 h2]
  unfold vg
  by_cases e : i = m
  · rcases (by omega : k = 40 ∨ k = 41 ∨ k = 42 ∨ k = 43 ∨ k = 44) with z | z | z | z | z
    all_goals (subst z; simp [e])
  · rw [if_neg (fun z => e z.2), if_neg (fun z => e z.2), if_neg (fun z => e z.2), if_neg (fun z => e z.2), if_neg (fun z => e z.2), if_neg (fun z => e z.2), if_neg (fun z => e z.2), if_neg (fun z => e z.2), if_neg (fun z => e z.2), if_neg (fun z => e z.2)]
theorem pm4 (hl : Lay t) : ∀ k, 40 ≤ k → k ≤ 44 → mI t k = pm t k := fun k h1 h2 => funext fun i => by
  rcases (by omega : k = 40 ∨ k = 41 ∨ k = 42 ∨ k = 43 ∨ k = 44) with z | z | z | z | z
  · subst z; exact rp_40 hl
  · subst z; exact rp_41 hl
  · subst z; exact rp_42 hl
  · subst z; exact rp_43 hl
  · subst z; exact rp_44 hl
theorem mv_t (hn : n ≤ 9) (hm : m ≤ 8) {a b c d : Int32} (h : mv n m a b c d = true) : ∃ a' b' c' d' : Nat, (a' < 6 ∧ b' < 2 ^ n ∧ c' < 2 ^ n ∧ d' ≤ 9 ∧ (a' = 1 → d' < m)) ∧ a = nI a' ∧ b = nI b' ∧ c = nI c' ∧ d = nI d' := by
  have hpw := pw_lt (n := n) (by omega)
  unfold mv at h
  rw [Bool.and_eq_true, Bool.and_eq_true, Bool.and_eq_true, Bool.and_eq_true] at h
  obtain ⟨ca, cb, cc, cd, ce⟩ := h
  obtain ⟨a', ha, rfl⟩ := inr_t ca (by decide)
  obtain ⟨b', hb, rfl⟩ := inr_t cb (by omega)
  obtain ⟨c', hc, rfl⟩ := inr_t cc (by omega)
  obtain ⟨d', hd, rfl⟩ := inr_t cd (by decide)
  refine ⟨a', b', c', d', ⟨ha, hb, hc, by omega, fun e => ?_⟩, rfl, rfl, rfl, rfl⟩
  subst e
  rw [Bool.or_eq_true, decide_eq_true_eq] at ce
  rcases ce with ce | ce
  · exact absurd rfl ce
  · obtain ⟨d2, hd2, e2⟩ := inr_t ce (by omega)
    have := congrArg cN e2
    rw [cN_i (by omega), cN_i (by omega)] at this
    omega
theorem ok_map (h : Inv n m s g x p t) (a b c d : Int32) : Okk t (fun t => fx_map t a b c d) (fun t => fm_map t a b c d) := by
  have hr := h.rng
  have hl := h.lay
  have h68 := hl.1
  have hc := CI.of h
  rcases Bool.eq_false_or_eq_true (mv n m a b c d) with cv | cv
  · by_cases cs : m = 8
    · subst cs
      refine okr h (v := -4) ?_ ?_
      · show fx_map t a b c d = _
        rw [fx_map_e hc, if_pos cv, add_full hc, bI_rI]
      · show fm_map t a b c d = _
        rw [fm_map_v hl h.ch h.mp hr.1.2 hr.2.1, if_pos cv, if_pos rfl]
    · obtain ⟨a', b', c', d', ⟨ha, hb, hcc, hd, h1⟩, rfl, rfl, rfl, rfl⟩ := mv_t hr.1.2 hr.2.1 cv
      obtain ⟨u, f1, f2, f3⟩ := add_map hc (by omega) ha hb hcc hd h1
      have e39 : mI u 39 = mI t 39 := f3.1 39 (by omega) (by decide) (by decide)
      have e4 : ∀ k, 40 ≤ k → k ≤ 44 → mI u k = pm t k := fun k k1 k2 => by rw [f3.1 k (by omega) (by omega) (by omega)]; exact pm4 hl k k1 k2
      refine ⟨nI m, u, mdT u m (nI a') (nI b') (nI c') (nI d'), ?_, ?_, ⟨n, m + 1, s, g, x, p, map_fin h f2 f3 (by omega) rfl (fun k hk => mdT_o hk) (fun j hj => mdT_39 hj) mdT_3 (mdT_4 e4)⟩, ?_, ?_, f2.1⟩
      · show fx_map t _ _ _ _ = _
        rw [fx_map_e hc, if_pos cv, f1, bI_rI]
      · show fm_map u _ _ _ _ = _
        rw [fm_map_v f2.1 (by rw [e39]; exact h.ch) (by rw [e39]; exact h.mp) hr.1.2 hr.2.1, if_pos cv, if_neg cs]
      · show mN u ≤ _; rw [f3.2.2.2.2.1]; omega
      · show mZ u ≤ _; rw [f3.2.2.2.2.2]; omega
  · refine okr h (v := -2) ?_ ?_
    · show fx_map t a b c d = _
      rw [fx_map_e hc, if_neg (by rw [cv]; decide)]
    · show fm_map t a b c d = _
      rw [fm_map_v hl h.ch h.mp hr.1.2 hr.2.1, if_neg (by rw [cv]; decide)]
end
