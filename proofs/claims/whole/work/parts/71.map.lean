section
variable {n m s g x p : Nat} {t u : SM} {G : GG}
/-! a chart in the class -/
theorem slp_nI (hM : IvM n (m + 1) G) (hn : n ≤ 9) {j : Nat} (hj : j < 512) : ∃ w, w < 512 ∧ slp G m (nI j) = nI w := by
  obtain ⟨_, ⟨a, ha, e1⟩, ⟨d, hd, e2⟩, _⟩ := hM m (by omega)
  have h9 : 2 ^ n ≤ 2 ^ 9 := Nat.pow_le_pow_right (by decide) hn
  have hx : a ^^^ j < 2 ^ 9 := Nat.xor_lt_two_pow (by omega) hj
  unfold slp
  rw [e1, e2, nI_xor]
  split
  · rw [nI_and]; exact ⟨_, Nat.lt_of_le_of_lt Nat.and_le_left hx, rfl⟩
  · exact ⟨_, hx, rfl⟩
theorem cag (hM : IvM n (m + 1) G) (hn : n ≤ 9) {j q : Nat} (hj : j < 512) {b : Int32} (tq : (mT u q).1 = 2) (f0 : mI u q 0 = G 40 m) (f1 : mI u q 1 = G 41 m) (f2 : mI u q 2 = G 42 m) (f3 : mI u q 3 = G 43 m) (f4 : G 40 m = 1 → mI u q 4 = G 41 (cN (G 43 m)) ^^^ G 41 m) (hb : G 40 m = 1 → bt b (cN (G 43 m)) = agr G (cN (G 43 m)) (nI j)) : fCh_agreesWith u q (nI j) b = rI (bz (agr G m (nI j))) u := by
  obtain ⟨w, hw, ew⟩ := slp_nI hM hn hj
  have i0 : ∀ c : Int32 → OR, hGetI u 2 q 0 c = c (G 40 m) := fun c => by unfold hGetI; rw [if_pos tq, f0]
  have i1 : ∀ c : Int32 → OR, hGetI u 2 q 1 c = c (G 41 m) := fun c => by unfold hGetI; rw [if_pos tq, f1]
  have i2 : ∀ c : Int32 → OR, hGetI u 2 q 2 c = c (G 42 m) := fun c => by unfold hGetI; rw [if_pos tq, f2]
  have i3 : ∀ c : Int32 → OR, hGetI u 2 q 3 c = c (G 43 m) := fun c => by unfold hGetI; rw [if_pos tq, f3]
  have rc : ∀ c : OR, hRecv u 2 q c = c := fun c => if_pos tq
  have sh : fCh_shown u q = rI (if G 40 m = 3 then G 42 m else -1) u := by simp only [fCh_shown, i0, i2, rI_ite]
  have sl : fCh_slipsIn u q (nI j) = rI (slp G m (nI j)) u := by
    simp only [fCh_slipsIn, i1, rc, sh, bI_rI, slp]
    by_cases c : G 40 m = 3
    · rw [if_pos c, if_pos c]
    · rw [if_neg c, if_neg c, and_m1]
  have bc : fjI_bitCount u (slp G m (nI j)) = rI (onc (slp G m (nI j))) u := by rw [ew]; exact bc_on u hw
  rw [agr_eq hM (nI j) (by omega)]
  simp only [fCh_agreesWith, rc, sl, bI_rI, bc, i0]
  by_cases e1 : G 40 m = 1
  · obtain ⟨_, ⟨a, ha, ea⟩, _, c, hc, ec, hlt⟩ := hM m (by omega)
    have hlt := hlt e1
    have ecn : cN (G 43 m) = c := by rw [ec]; exact cN_i (by omega)
    obtain ⟨_, ⟨a2, ha2, ea2⟩, _⟩ := hM c (by omega)
    have h9 : 2 ^ n ≤ 2 ^ 9 := Nat.pow_le_pow_right (by decide) hn
    have i4 : ∀ c' : Int32 → OR, hGetI u 2 q 4 c' = c' (nI (a2 ^^^ a)) := fun c' => by unfold hGetI; rw [if_pos tq, f4 e1, ecn, ea, ea2, nI_xor]
    have bc4 : fjI_bitCount u (nI (a2 ^^^ a)) = rI (onc (nI (a2 ^^^ a))) u := bc_on u (Nat.xor_lt_two_pow (n := 9) (by omega) (by omega))
    have hb := hb e1
    rw [ecn] at hb
    rw [if_pos e1, if_pos e1, ecn, ea, ea2, nI_xor, Nat.xor_comm a a2]
    simp only [i4, bc4, bI_rI, i3, ec, b_bit b (show c < 32 by omega), hb]
    by_cases z : onc (nI (a2 ^^^ a)) = 1
    · rw [if_pos z, decide_eq_true z, Bool.true_and]
      cases agr G c (nI j) <;> rfl
    · rw [if_neg z, decide_eq_false z]; rfl
  · rw [if_neg e1, if_neg e1]
    unfold ag1
    by_cases e2 : G 40 m = 2
    · rw [if_pos e2, if_pos e2]
      by_cases z : 1 < onc (slp G m (nI j))
      · rw [if_pos z, decide_eq_false (not_not_intro z)]; rfl
      · rw [if_neg z, decide_eq_true z]; rfl
    · rw [if_neg e2, if_neg e2]
      by_cases e3 : G 40 m = 3
      · rw [if_pos e3, if_pos e3]
        by_cases z : 1 < onc (slp G m (nI j))
        · rw [if_pos z, decide_eq_false (not_not_intro z)]; rfl
        · rw [if_neg z, decide_eq_true z]; rfl
      · rw [if_neg e3, if_neg e3]
        by_cases e4 : G 40 m = 4
        · rw [if_pos e4, if_pos e4, i3]
          by_cases z : G 43 m + 1 < onc (slp G m (nI j))
          · rw [if_pos z, decide_eq_false (not_not_intro z)]; rfl
          · rw [if_neg z, decide_eq_true z]; rfl
        · rw [if_neg e4, if_neg e4]
          by_cases e5 : G 40 m = 5
          · rw [if_pos e5, if_pos e5]
            have bc6 : fjI_bitCount u (slp G m (nI j) &&& nI j) = rI (onc (slp G m (nI j) &&& nI j)) u := by
              rw [ew, nI_and]; exact bc_on u (Nat.lt_of_le_of_lt Nat.and_le_left hw)
            by_cases z : onc (slp G m (nI j)) = 2
            · rw [if_pos z, decide_eq_true z, Bool.true_and]
              unfold fCh_areNeighbours
              by_cases z2 : (slp G m (nI j) &&& (slp G m (nI j) <<< ((1 : Int32) &&& 31))) = 0
              · rw [if_pos z2, decide_eq_false (not_not_intro z2), bI_rI, if_pos rfl]; rfl
              · rw [if_neg z2, decide_eq_true z2, Bool.true_and, bI_rI, if_neg (by decide), bc6, bI_rI]
                by_cases z3 : onc (slp G m (nI j) &&& nI j) = 1
                · rw [if_pos z3, decide_eq_true z3]; rfl
                · rw [if_neg z3, decide_eq_false z3]; rfl
            · rw [if_neg z, decide_eq_false z]; rfl
          · rw [if_neg e5, if_neg e5]
            by_cases z : onc (slp G m (nI j)) = 1
            · rw [if_pos z, decide_eq_true z]; rfl
            · rw [if_neg z, decide_eq_false z]; rfl
end
