section
variable {x p : Nat} {B : Nat → Nat} {t u w : SM}
def ER (x : Nat) (p : Nat) (u : SM) (r : OR) : SRes → Prop
  | .inl b => ∃ z, FF (PM x) u z ∧ r = rI 0 z ∧ mI z 39 33 = nI b ∧ b ≤ p
  | .inr q => ∃ z, FF (PM x) u z ∧ r = rI 1 z ∧ mI z 39 32 = nI q.1 ∧ q.1 ≤ p ∧ q.2.length ≤ q.1 ∧ mI z 39 40 = nI q.2.length ∧ ∀ k, k < q.2.length → mI z 51 (200 * x + k) = nI (q.2.getD k 0)
theorem ER.pre {r : OR} {s : SRes} (f : FF (PM x) u w) (h : ER x p w r s) : ER x p u r s := by
  cases s with
  | inl b => obtain ⟨z, h1, h2⟩ := h; exact ⟨z, f.tr h1, h2⟩
  | inr q => obtain ⟨z, h1, h2⟩ := h; exact ⟨z, f.tr h1, h2⟩
theorem bz_w {b : Bool} : (bz b = 0) = (b = false) := bz_0
theorem eRead_l (hx : x ≤ 5) : ∀ (d a : Nat) (w mn : Bool) (H O : List Nat) (u : SM) (f : Nat), p - a < d → d ≤ f → a ≤ p → MB B p u → MS x u H O → mI u 39 32 = nI a → O.length + H.length ≤ a → ER x p u (fm_eRead_l14 (fun t => fm_eRead_159 t) f u (bz w) (bz mn)) (Sr B p a w mn H O) := by
  intro d
  induction d with
  | zero => intro a w mn H O u f h1; omega
  | succ d ih =>
    intro a w mn H O u f hd hf ha hb hm h32 hlen
    obtain ⟨f, rfl⟩ : ∃ f', f = f' + 1 := ⟨f - 1, by omega⟩
    have hp : p ≤ 160 := hb.2.2.2.2
    obtain ⟨u1, r1, f1, k1, k2, k3, k4, k5, k6⟩ := nextToken_v hb ha h32
    have m1 := hm.cL f1
    have b1 := hb.cg f1
    have hl := m1.1
    obtain ⟨hlt, hO⟩ := tC_O (B := B) (fun j hj => (hb.2.2.1 j hj).2) ha
    have ek := tkE hlt hO
    have lB := tB_le (B := B) ha
    have lN := tN_le (B := B) ha
    have fM : FF (PM x) u u1 := f1.up (PL_M x)
    have ht : tC B p a ≠ 256 → a < tN B p a := tN_lt ha
    obtain ⟨e1, e2, e6, e45, e40, e59, e41, _, _, _, _, _, _, _, _⟩ := ek
    rw [Sr_eq hp ha]
    refine ER.pre fM ?_
    show ER x p u1 (fm_eRead_14 (fun t => fm_eRead_159 t) (fm_eRead_l14 (fun t => fm_eRead_159 t) f) u (bz w) (bz mn)) _
    /- a fault here -/
    have flt : ∀ (z : SM) (r : OR), FF (PM x) u1 z → mI z 39 33 = mI u1 39 33 → r = rI 0 z → ER x p u1 r (.inl (tB B p a)) := fun z r fz ez er => ⟨z, fz, er, by rw [ez]; exact k2, lB.2⟩
    /- on with the next token -/
    have go : ∀ (z : SM) (w' mn' : Bool) (H' O' : List Nat), FF (PW x) u1 z → MS x z H' O' → O'.length + H'.length ≤ tN B p a → tC B p a ≠ 256 → ER x p u1 (fm_eRead_l14 (fun t => fm_eRead_159 t) f z (bz w') (bz mn')) (Sr B p (tN B p a) w' mn' H' O') := by
      intro z w' mn' H' O' fz mz hz hc
      have := ht hc
      refine ER.pre (fz.up (PW_M x)) ?_
      exact ih (tN B p a) w' mn' H' O' z f (by omega) (by omega) lN.2 (b1.cM (fz.up (PW_M x))) mz (by rw [fz.2 39 32 rfl]; exact k1) hz
    unfold fm_eRead_14 sq
    rw [rc_39 (hm.1), r1, bV_rV]
    cases w
    · rw [if_pos (show bz false = 0 from rfl), gI_39 hl, k3]
      simp only [e59, Bool.false_eq_true, if_false]
      by_cases c59 : tC B p a = 59
      · rw [if_pos c59, if_pos c59]
        obtain ⟨u2, r2, m2, f2⟩ := unwinds_v hx (l := 1) (by decide) H O u1 1000000 (by omega) (by omega) m1
        have r2' : fm_unwinds u1 1 = rV u2 := r2
        have hs := zl_sum 1 H
        unfold fm_eRead_159
        rw [rc_39 hl, r2', bV_rV, gI_39 m2.1, m2.2.2.1]
        have ez : (nI (zu 1 H).length = 0) = (zu 1 H = []) := by
          rw [show ((nI (zu 1 H).length = 0) = ((zu 1 H).length = 0)) from propext (nI_eq (b := 0) (by omega) (by decide))]
          exact propext List.length_eq_zero_iff
        simp only [ez]
        by_cases c0 : zu 1 H = []
        · rw [if_pos c0, if_pos c0]
          have h256 : tC B p a ≠ 256 := by omega
          have := ht h256
          refine ⟨u2, f2.up (PW_M x), rfl, by rw [f2.2 39 32 rfl]; exact k1, lN.2, ?_, m2.2.2.2.2.2.1, m2.2.2.2.2.2.2.1⟩
          rw [c0] at hs
          rw [List.length_append]
          have : ([] : List Nat).length = 0 := rfl
          omega
        · rw [if_neg c0, if_neg c0]
          exact flt u2 _ (f2.up (PW_M x)) (f2.2 39 33 rfl) rfl
      · rw [if_neg c59, if_neg c59, gI_39 hl, k3]
        simp only [e41]
        by_cases c41 : tC B p a = 41
        · rw [if_pos c41, if_pos c41]
          obtain ⟨u2, r2, m2, f2⟩ := unwinds_v hx (l := 1) (by decide) H O u1 1000000 (by omega) (by omega) m1
          have r2' : fm_unwinds u1 1 = rV u2 := r2
          have hs := zl_sum 1 H
          rw [rc_39 hl, r2', bV_rV, gI_39 m2.1, m2.2.2.1]
          cases e : zu 1 H with
          | nil =>
            rw [if_pos (show nI ([] : List Nat).length = 0 from rfl), if_pos rfl]
            exact flt u2 _ (f2.up (PW_M x)) (f2.2 39 33 rfl) rfl
          | cons c r =>
            have hc0 : c = 0 := zr_0 (zu_hd e)
            subst hc0
            rw [e] at m2 hs
            have hcl : (0 :: r).length = r.length + 1 := rfl
            rw [hcl] at hs
            have ne : ¬ nI (0 :: r).length = 0 := fun q => by have := (nI_eq (b := 0) (by omega) (by decide)).mp q; omega
            rw [if_neg ne, if_neg (List.cons_ne_nil _ _), gI_39 m2.1, m2.2.2.1, show nI (0 :: r).length - 1 = nI r.length from nI_pred _, pI_39 m2.1]
            obtain ⟨g1, g2, g3, g4, g5, g6, g7, g8⟩ := m2
            have l3 : Lay (setI u2 39 38 (nI r.length)) := g1
            have v39 : mI (setI u2 39 38 (nI r.length)) 39 39 = nI (zp r + 1) := by
              rw [setI_I, if_neg (by omega), g5]
              have : zp (0 :: r) = zp r + 1 := by show (if _ then _ else _) + zp r = _; rw [if_pos (Or.inl rfl)]; omega
              rw [this]
            rw [gI_39 l3, v39, show nI (zp r + 1) - 1 = nI (zp r) from nI_pred _, pI_39 l3]
            have m3 : MS x (setI (setI u2 39 38 (nI r.length)) 39 39 (nI (zp r))) r (O ++ zo 1 H) := by
              refine ⟨g1, by rw [setI_I, if_neg (by omega), setI_I, if_neg (by omega)]; exact g2, by rw [setI_I, if_neg (by omega)]; exact setI_eq rfl rfl, ?_, setI_eq rfl rfl, by rw [setI_I, if_neg (by omega), setI_I, if_neg (by omega)]; exact g6, fun k hk => by rw [setI_I, if_neg (by omega), setI_I, if_neg (by omega)]; exact g7 k hk, fun q hq => g8 q (List.mem_cons_of_mem _ hq)⟩
              rw [setI_ne (by decide), setI_ne (by decide)]; exact g4.2
            have f3 : FF (PW x) u1 (setI (setI u2 39 38 (nI r.length)) 39 39 (nI (zp r))) := (f2.st rfl).st rfl
            have el : (O ++ zo 1 H).length = O.length + (zo 1 H).length := List.length_append
            obtain ⟨u4, r4, m4, f4⟩ := unwinds_v hx (l := 7) (by decide) r (O ++ zo 1 H) _ 1000000 (by omega) (by omega) m3
            have r4' : fm_unwinds (setI (setI u2 39 38 (nI r.length)) 39 39 (nI (zp r))) 7 = rV u4 := r4
            have hs7 := zl_sum 7 r
            rw [rc_39 m3.1, r4', bV_rV]
            show ER x p u1 (fm_eRead_l14 _ f u4 (bz false) (bz mn)) (Sr B p (tN B p a) false mn (zu 7 r) (O ++ (zo 1 H ++ zo 7 r)))
            rw [List.append_assoc] at m4
            have h256 : tC B p a ≠ 256 := by omega
            have := ht h256
            refine go u4 false mn _ _ (f3.tr f4) m4 ?_ h256
            rw [List.length_append, List.length_append]; omega
        · rw [if_neg c41, if_neg c41, rc_39 hl, signOf_v hl k3 (tkE hlt hO), bI_rI]
          by_cases c0 : zs (tC B p a) = 0
          · rw [if_pos c0, if_pos c0, if_pos rfl]
            exact flt u1 _ (FF.refl _ _) rfl rfl
          · have zb : 11 ≤ zs (tC B p a) ∧ zs (tC B p a) ≤ 18 ∧ zs (tC B p a) ≠ 13 := by
              unfold zs at c0 ⊢
              by_cases q1 : tC B p a = 303
              · rw [if_pos q1]; decide
              · rw [if_neg q1] at c0 ⊢
                by_cases q2 : tC B p a = 304
                · rw [if_pos q2]; decide
                · rw [if_neg q2] at c0 ⊢
                  by_cases q3 : tC B p a = 60
                  · rw [if_pos q3]; decide
                  · rw [if_neg q3] at c0 ⊢
                    by_cases q4 : tC B p a = 61
                    · rw [if_pos q4]; decide
                    · rw [if_neg q4] at c0 ⊢
                      by_cases q5 : tC B p a = 43
                      · rw [if_pos q5]; decide
                      · rw [if_neg q5] at c0 ⊢
                        by_cases q6 : tC B p a = 45
                        · rw [if_pos q6]; decide
                        · rw [if_neg q6] at c0 ⊢
                          by_cases q7 : tC B p a = 42
                          · rw [if_pos q7]; decide
                          · rw [if_neg q7] at c0; exact absurd rfl c0
            have h256 : tC B p a ≠ 256 := fun q => c0 (by rw [q]; rfl)
            have := ht h256
            have nm : ¬ nI (zs (tC B p a)) = -1 := fun q => by
              have : (0 : Int32) ≤ nI (zs (tC B p a)) := nI_pos' (by omega)
              rw [q] at this; exact absurd this (by decide)
            have e12 : ((12 : Int32) < nI (zs (tC B p a))) = (12 < zs (tC B p a)) := propext (nI_ltI (a := 12) (by decide) (by omega))
            rw [if_neg c0, if_neg c0, if_neg nm, rc_39 hl]
            obtain ⟨u2, f2, rest⟩ := between_v m1 hx zb (by omega)
            have hs := zl_sum (zl (zs (tC B p a))) H
            rcases rest with ⟨q1, q2, q3⟩ | ⟨q1, q2, q3⟩
            · rw [q3, bI_rI, if_pos rfl, if_pos ⟨q1, q2⟩]
              exact flt u2 _ (f2.up (PW_M x)) (f2.2 39 33 rfl) rfl
            · rw [q2, bI_rI, if_neg (by decide), if_neg q1]
              simp only [e12]
              have hz : (O ++ zo (zl (zs (tC B p a))) H).length + (zs (tC B p a) :: zu (zl (zs (tC B p a))) H).length ≤ tN B p a := by
                rw [List.length_append, List.length_cons]; omega
              by_cases c12 : 12 < zs (tC B p a)
              · rw [if_pos c12, decide_eq_false (by omega)]
                exact go u2 true false _ _ f2 q3 hz h256
              · rw [if_neg c12, decide_eq_true (by omega)]
                exact go u2 true true _ _ f2 q3 hz h256
    · rw [if_neg (show ¬ bz true = 0 by decide), gI_39 hl, k3, if_pos rfl]
      simp only [e1]
      /- a number or a name -/
      have one : ∀ c : Nat, tC B p a ≠ 256 → ER x p u1 (hRecv u1 11 39 <| bV (fm_puts u1 (nI c)) fun t6 => hRecv t6 11 39 <| bV (fm_unwinds t6 7) fun t7 => fm_eRead_l14 (fun t => fm_eRead_159 t) f t7 0 (bz mn)) (Sr B p (tN B p a) false mn (zu 7 H) (O ++ ([c] ++ zo 7 H))) := by
        intro c h256
        have := ht h256
        obtain ⟨u2, r2, m2, f2⟩ := puts_v m1 hx (by omega) c
        have el : (O ++ [c]).length = O.length + 1 := by simp
        obtain ⟨u3, r3, m3, f3⟩ := unwinds_v hx (l := 7) (by decide) H (O ++ [c]) u2 1000000 (by omega) (by omega) m2
        have r3' : fm_unwinds u2 7 = rV u3 := r3
        have hs := zl_sum 7 H
        rw [rc_39 hl, r2, bV_rV, rc_39 m2.1, r3', bV_rV]
        rw [List.append_assoc] at m3
        refine go u3 false mn _ _ (f2.tr f3) m3 ?_ h256
        rw [List.length_append, List.length_append]; show _ + (1 + _) + _ ≤ _; omega
      by_cases c258 : tC B p a = 258
      · rw [if_pos c258, if_pos c258]
        unfold fm_eRead_38
        rw [gI_39 hl, k3]
        simp only [e1]
        rw [if_pos c258, gI_39 hl, k4 c258, show (100000 : Int32) + nI (tV B p a) = nI (100000 + tV B p a) from nI_add 100000 _]
        exact one _ (by omega)
      · rw [if_neg c258, if_neg c258, gI_39 hl, k3]
        simp only [e2]
        by_cases c306 : 306 ≤ tC B p a
        · rw [if_pos c306, if_pos c306]
          unfold fm_eRead_38
          rw [gI_39 hl, k3]
          simp only [e1]
          rw [if_neg c258, gI_39 hl, k6 c306]
          exact one _ (by omega)
        · rw [if_neg c306, if_neg c306, gI_39 hl, k3]
          simp only [e6]
          /- one that opens -/
          have opn : ∀ (c : Nat) (mn' : Bool), (c = 0 ∨ c = 13 ∨ c = 19) → tC B p a ≠ 256 → ER x p u1 (hRecv u1 11 39 <| bI (fm_opensOne u1 (nI c)) fun opensOne6 t5 => if opensOne6 = 0 then rI 0 t5 else fm_eRead_l14 (fun t => fm_eRead_159 t) f t5 (bz true) (bz mn')) (if zp H = 5 then .inl (tB B p a) else Sr B p (tN B p a) true mn' (c :: H) O) := by
            intro c mn' hc h256
            have := ht h256
            obtain ⟨o1, o2⟩ := opens_v m1 hc (by omega)
            rw [rc_39 hl]
            by_cases c5 : zp H = 5
            · rw [if_pos c5, o1 c5, bI_rI, if_pos rfl]
              exact flt u1 _ (FF.refl _ _) rfl rfl
            · obtain ⟨u2, r2, m2, f2⟩ := o2 c5
              rw [if_neg c5, r2, bI_rI, if_neg (by decide)]
              refine go u2 true mn' _ _ f2 m2 ?_ h256
              rw [List.length_cons]; omega
          have r99 : ER x p u1 (fm_eRead_99 (fm_eRead_l14 (fun t => fm_eRead_159 t) f) u1 (bz true)) (if tC B p a = 45 then (if zp H = 5 then .inl (tB B p a) else Sr B p (tN B p a) true false (19 :: H) O) else if tC B p a = 40 then (if zp H = 5 then .inl (tB B p a) else Sr B p (tN B p a) true true (0 :: H) O) else .inl (tB B p a)) := by
            unfold fm_eRead_99
            rw [gI_39 hl, k3]
            simp only [e45]
            by_cases c45 : tC B p a = 45
            · rw [if_pos c45, if_pos c45]
              exact opn 19 false (by decide) (by omega)
            · rw [if_neg c45, if_neg c45, gI_39 hl, k3]
              simp only [e40]
              by_cases c40 : tC B p a = 40
              · rw [if_pos c40, if_pos c40]
                exact opn 0 true (by decide) (by omega)
              · rw [if_neg c40, if_neg c40]
                exact flt u1 _ (FF.refl _ _) rfl rfl
          by_cases c305 : tC B p a = 305
          · rw [if_pos c305]
            cases mn
            · rw [if_pos (show bz false = 0 from rfl), if_neg (fun q => absurd q.2 (by decide))]
              exact r99
            · rw [if_neg (show ¬ bz true = 0 by decide), if_pos ⟨c305, rfl⟩]
              exact opn 13 true (by decide) (by omega)
          · rw [if_neg c305, if_neg (fun q => c305 q.1)]
            exact r99
end
