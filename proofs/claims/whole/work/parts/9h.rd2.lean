section
variable {n m s g x p a : Nat} {t0 u : SM} {C : List Nat}
theorem adv_d (h : Inv n m s g x p t0) (f : FF PC t0 u) (k : TK (pm t0) p u a) (d : Cd u C) (l2 : a ≤ p) (l1 : C.length ≤ tN (Bt (pm t0)) p a) (h1 : tC (Bt (pm t0)) p a ≠ 257) : ∃ w, fRd_advance u = rV w ∧ CSt t0 p w (tN (Bt (pm t0)) p a) C := by
  have hN := tN_le (B := Bt (pm t0)) l2
  obtain ⟨w, q1, q2, q3⟩ := advance_v h (f.fr PC_s) hN.2 (k.1 h1) (by rw [k.2.2.2.2, if_neg h1])
  exact ⟨w, q1, f.tr (q2.up PA_C), q3, d.cg q2, l1, hN.2⟩
theorem tV_lt {B : Nat → Nat} (ha : a ≤ p) (hc : tC B p a = 258) : tV B p a < 10000 := by
  have hb := tB_le (B := B) ha
  unfold tC at hc
  by_cases c1 : tB B p a = p
  · rw [if_pos c1] at hc; omega
  · rw [if_neg c1] at hc
    by_cases c2 : isL (B (tB B p a)) = true
    · rw [if_pos c2] at hc
      split at hc <;> omega
    · rw [if_neg c2] at hc
      by_cases c3 : isD (B (tB B p a)) = true
      · rw [if_pos c3] at hc
        split at hc
        · rename_i c4
          have hq := rq_f isD B hb.2
          have h1 := dgv_lt (B := B) (b := tB B p a) (rq isD B p (tB B p a) - tB B p a) (fun i hi => hq.2.2.1 _ (by omega) (by omega))
          have h2 := Nat.pow_le_pow_right (n := 10) (by decide) c4
          unfold tV
          have h3 : (10 : Nat) ^ 4 = 10000 := by decide
          omega
        · omega
      · rw [if_neg c3] at hc
        split at hc
        · rename_i c4
          rw [hc] at c4; exact absurd c4 (by decide)
        · omega
theorem neg_g (h : Inv n m s g x p t0) {R : FT} {o : Nat} (ho : o ≤ 5) (hs : Gd t0 p (cF R 58 o) 5 o) (hn : o < 5 → Gd t0 p (cF R 57 (o + 1)) 3 (o + 1)) : Gd t0 p (fun u => fRd_negation R u (nI o)) 3 o := by
  have hr := h.rng
  have hp : p ≤ 160 := hr.2.2.2.2.2
  have nb : ∀ u b, CBr t0 u b → ∃ w, fRd_negation_33 R u (nI o) = rV w ∧ CBr t0 w b := by
    intro u b hb
    obtain ⟨u1, r1, cb⟩ := hs.1 u b hb
    have r1' : atF 58 [.ref 10, .int (nI o)] u R = rV u1 := r1
    have l1 := cb.1.lay h.lay
    refine ⟨u1, ?_, cb⟩
    unfold fRd_negation_33
    rw [rc_10 (hb.1.lay h.lay), r1', bV_rV, gI_10 l1, cb.2.1, if_neg (by decide), gI_10 l1, cb.2.1, if_neg (by decide)]
  have nc : ∀ u a C, CSt t0 p u a C → (tC (Bt (pm t0)) p a = 305 → o = 5) → ∃ w, fRd_negation_33 R u (nI o) = rV w ∧ ((∃ b, CBr t0 w b ∧ Erc (Bt (pm t0)) p 3 o a b) ∨ ∃ a' D, CSt t0 p w a' (C ++ D) ∧ a + D.length ≤ a' ∧ Wf D ∧ Okc (Bt (pm t0)) p 3 o a a' D) := by
    intro u a C hc h5
    obtain ⟨u1, r1, rest⟩ := hs.2 u a C hc
    have r1' : atF 58 [.ref 10, .int (nI o)] u R = rV u1 := r1
    unfold fRd_negation_33
    rw [rc_10 (hc.1.lay h.lay), r1', bV_rV]
    rcases rest with ⟨b, cb, er⟩ | ⟨a1, D, c1, hD, wD, ok⟩
    · have l1 := cb.1.lay h.lay
      refine ⟨u1, ?_, Or.inl ⟨b, cb, er_35 h5 er⟩⟩
      rw [gI_10 l1, cb.2.1, if_neg (by decide), gI_10 l1, cb.2.1, if_neg (by decide)]
    · have l1 := c1.1.lay h.lay
      have ha1 := c1.2.2.2.2
      have hlt := tC_lt (pm t0) h rfl a1 ha1
      have tk := c1.2.1.2.1
      have cmp : ∀ (kk c : Nat), (kk = 60 ∧ c = 14) ∨ (kk = 61 ∧ c = 15) → tC (Bt (pm t0)) p a1 = kk → ∃ w, (hRecv u1 4 10 <| bV (fRd_advance u1) fun t5 => hRecv t5 4 10 <| bV (atF 58 [.ref 10, .int (nI o)] t5 R) fun t6 => hRecv t6 4 10 <| bV (fRd_emit t6 (trn c)) fun t7 => rV t7) = rV w ∧ ((∃ b, CBr t0 w b ∧ Erc (Bt (pm t0)) p 3 o a b) ∨ ∃ a' D, CSt t0 p w a' (C ++ D) ∧ a + D.length ≤ a' ∧ Wf D ∧ Okc (Bt (pm t0)) p 3 o a a' D) := by
        intro kk c hk ek
        have hk' : (tC (Bt (pm t0)) p a1 = 60 ∧ c = 14) ∨ (tC (Bt (pm t0)) p a1 = 61 ∧ c = 15) := by omega
        obtain ⟨u2, r2, c2⟩ := adv_c h c1 (by omega)
        have ht := tN_lt ha1 (show tC (Bt (pm t0)) p a1 ≠ 256 by omega)
        obtain ⟨u3, r3, rest⟩ := hs.2 u2 _ _ c2
        have r3' : atF 58 [.ref 10, .int (nI o)] u2 R = rV u3 := r3
        rw [rc_10 l1, r2, bV_rV, rc_10 (c2.1.lay h.lay), r3', bV_rV]
        rcases rest with ⟨b, cb, er⟩ | ⟨a2, E, c3, hE, wE, ok2⟩
        · obtain ⟨u4, r4, cb4⟩ := emit_b h.lay cb (trn c)
          exact ⟨u4, by rw [rc_10 (cb.1.lay h.lay), r4, bV_rV], Or.inl ⟨b, cb4, cmp_er hp h5 ok ha1 hk' er⟩⟩
        · have hcl := c1.2.2.2.1
          have e1 : (C ++ D ++ E).length = (C ++ D).length + E.length := List.length_append
          obtain ⟨u4, r4, c4⟩ := emit_c h (a0 := 0) c3 c (by omega)
          rw [List.append_assoc] at c4
          refine ⟨u4, by rw [rc_10 (c3.1.lay h.lay), r4, bV_rV], Or.inr ⟨a2, D ++ (E ++ [c]), c4, by simp only [List.length_append, List.length_cons, List.length_nil]; omega, Wf.bi (by omega) wD wE, cmp_ok hp h5 ok ha1 hk' ok2⟩⟩
      unfold fRd_negation_56
      rw [gI_10 l1, tk]
      by_cases c60 : tC (Bt (pm t0)) p a1 = 60
      · rw [c60, if_pos (show nI 60 = 60 from rfl), gI_10 l1, tk, c60, if_pos (show nI 60 = 60 from rfl)]
        exact cmp 60 14 (by omega) c60
      · have n60 : ¬ nI (tC (Bt (pm t0)) p a1) = 60 := fun q => c60 ((nI_eq (b := 60) (by omega) (by decide)).mp q)
        rw [if_neg n60, gI_10 l1, tk]
        by_cases c61 : tC (Bt (pm t0)) p a1 = 61
        · rw [c61, if_pos (show nI 61 = 61 from rfl), gI_10 l1, tk, c61, if_neg (show ¬ nI 61 = 60 by decide)]
          exact cmp 61 15 (by omega) c61
        · have n61 : ¬ nI (tC (Bt (pm t0)) p a1) = 61 := fun q => c61 ((nI_eq (b := 61) (by omega) (by decide)).mp q)
          rw [if_neg n61]
          exact ⟨u1, rfl, Or.inr ⟨a1, D, c1, hD, wD, cmp_no h5 ok ⟨c60, c61⟩⟩⟩
  have e5 : ((5 : Int32) ≤ nI o) = (5 ≤ o) := propext (nI_leI (a := 5) (by decide) (by omega))
  constructor
  · intro u b hb
    have hl := hb.1.lay h.lay
    show ∃ w, fRd_negation R u (nI o) = rV w ∧ _
    unfold fRd_negation
    rw [gI_10 hl, hb.2.1, if_neg (by decide)]
    exact nb u b hb
  · intro u a C hc
    have hl := hc.1.lay h.lay
    have ha := hc.2.2.2.2
    have hlt := tC_lt (pm t0) h rfl a ha
    have tk := hc.2.1.2.1
    show ∃ w, fRd_negation R u (nI o) = rV w ∧ _
    unfold fRd_negation
    rw [gI_10 hl, tk]
    by_cases c : tC (Bt (pm t0)) p a = 305
    · rw [c, if_pos (show nI 305 = 305 from rfl)]
      simp only [e5]
      by_cases o5 : 5 ≤ o
      · rw [if_pos o5]; exact nc u a C hc (fun _ => by omega)
      · rw [if_neg o5]
        obtain ⟨u1, r1, c1⟩ := adv_c h hc (by omega)
        have ht := tN_lt ha (show tC (Bt (pm t0)) p a ≠ 256 by omega)
        obtain ⟨u2, r2, rest⟩ := (hn (by omega)).2 u1 _ _ c1
        have r2' : atF 57 [.ref 10, .int (nI o + 1)] u1 R = rV u2 := by rw [nI_1]; exact r2
        rw [rc_10 hl, r1, bV_rV, rc_10 (c1.1.lay h.lay), r2', bV_rV]
        rcases rest with ⟨b, cb, er⟩ | ⟨a2, D, c2, hD, wD, ok⟩
        · obtain ⟨u3, r3, cb3⟩ := emit_b h.lay cb (-2)
          exact ⟨u3, by rw [rc_10 (cb.1.lay h.lay), r3, bV_rV], Or.inl ⟨b, cb3, not_er hp ha c (by omega) er⟩⟩
        · have hcl := hc.2.2.2.1
          have e1 : (C ++ D).length = C.length + D.length := List.length_append
          obtain ⟨u3, r3, c3⟩ := emit_c h (a0 := 0) c2 13 (by omega)
          refine ⟨u3, by rw [rc_10 (c2.1.lay h.lay), show (-2 : Int32) = trn 13 from rfl, r3, bV_rV], Or.inr ⟨a2, D ++ [13], c3, by simp only [List.length_append, List.length_cons, List.length_nil]; omega, Wf.un (Or.inl rfl) wD, not_ok hp ha c (by omega) ok⟩⟩
    · have n305 : ¬ nI (tC (Bt (pm t0)) p a) = 305 := fun q => c ((nI_eq (b := 305) (by omega) (by decide)).mp q)
      rw [if_neg n305]
      exact nc u a C hc (fun q => absurd q c)
theorem single_g (h : Inv n m s g x p t0) {R : FT} {o : Nat} (ho : o ≤ 5) (hs : o < 5 → Gd t0 p (cF R 60 (o + 1)) 7 (o + 1)) (he : o < 5 → Gd t0 p (cF R 55 (o + 1)) 1 (o + 1)) : Gd t0 p (fun u => fRd_single R u (nI o)) 7 o := by
  have hr := h.rng
  have hp : p ≤ 160 := hr.2.2.2.2.2
  have e5 : ((5 : Int32) ≤ nI o) = (5 ≤ o) := propext (nI_leI (a := 5) (by decide) (by omega))
  constructor
  · intro u b hb
    have hl := hb.1.lay h.lay
    obtain ⟨w, r, cb⟩ := fail_b h.lay hb
    refine ⟨w, ?_, cb⟩
    show fRd_single R u (nI o) = rV w
    unfold fRd_single
    rw [gI_10 hl, hb.2.1, if_neg (by decide), gI_10 hl, hb.2.1, if_pos (by decide)]
    unfold fRd_single_67
    rw [gI_10 hl, hb.2.1, if_neg (by decide)]
    unfold fRd_single_100
    rw [gI_10 hl, hb.2.1, if_neg (by decide), rc_10 hl, r, bV_rV]
  · intro u a C hc
    have hl := hc.1.lay h.lay
    have ha := hc.2.2.2.2
    have hcl := hc.2.2.2.1
    have hlt := tC_lt (pm t0) h rfl a ha
    have tk := hc.2.1.2.1
    have lN := tN_le (B := Bt (pm t0)) ha
    have lB := tB_le (B := Bt (pm t0)) ha
    have ne : ∀ (c : Nat) (v : Int32), v = nI c → c < 312 → tC (Bt (pm t0)) p a ≠ c → ¬ nI (tC (Bt (pm t0)) p a) = v := fun c v hv hc2 q e => q ((nI_eq (by omega) (by omega)).mp (e.trans hv))
    /- a number, a name -/
    have one : ∀ (c : Nat), Wf [c] → Okc (Bt (pm t0)) p 7 o a (tN (Bt (pm t0)) p a) [c] → tC (Bt (pm t0)) p a ≠ 256 → tC (Bt (pm t0)) p a ≠ 257 → ∃ w, (hRecv u 4 10 <| bV (fRd_emit u (trn c)) fun t8 => hRecv t8 4 10 <| bV (fRd_advance t8) fun t9 => rV t9) = rV w ∧ ((∃ b, CBr t0 w b ∧ Erc (Bt (pm t0)) p 7 o a b) ∨ ∃ a' D, CSt t0 p w a' (C ++ D) ∧ a + D.length ≤ a' ∧ Wf D ∧ Okc (Bt (pm t0)) p 7 o a a' D) := by
      intro c hw ok n1 n2
      have ht := tN_lt ha n1
      obtain ⟨u1, r1, f1, d1⟩ := emit_v hl hc.2.2.1 (by omega) c
      have fc : FF PC t0 u1 := hc.1.tr (f1.up PE_C)
      obtain ⟨u2, r2, c2⟩ := adv_d h fc (hc.2.1.cg f1) d1 ha (by simp only [List.length_append, List.length_cons, List.length_nil]; omega) n2
      exact ⟨u2, by rw [rc_10 hl, r1, bV_rV, rc_10 (fc.lay h.lay), r2, bV_rV], Or.inr ⟨_, [c], c2, by simp only [List.length_cons, List.length_nil]; omega, hw, ok⟩⟩
    /- none of these -/
    have none : Erc (Bt (pm t0)) p 7 o a (tB (Bt (pm t0)) p a) → ∃ w, (hRecv u 4 10 <| bV (fRd_fail u) fun t2 => rV t2) = rV w ∧ ((∃ b, CBr t0 w b ∧ Erc (Bt (pm t0)) p 7 o a b) ∨ ∃ a' D, CSt t0 p w a' (C ++ D) ∧ a + D.length ≤ a' ∧ Wf D ∧ Okc (Bt (pm t0)) p 7 o a a' D) := by
      intro er
      obtain ⟨w, r, cb⟩ := fail_c h hc
      exact ⟨w, by rw [rc_10 hl, r, bV_rV], Or.inl ⟨_, cb, er⟩⟩
    have r100 : tC (Bt (pm t0)) p a ≠ 258 → tC (Bt (pm t0)) p a < 306 → (tC (Bt (pm t0)) p a = 45 → o = 5) → ∃ w, fRd_single_100 R u (nI o) = rV w ∧ ((∃ b, CBr t0 w b ∧ Erc (Bt (pm t0)) p 7 o a b) ∨ ∃ a' D, CSt t0 p w a' (C ++ D) ∧ a + D.length ≤ a' ∧ Wf D ∧ Okc (Bt (pm t0)) p 7 o a a' D) := by
      intro n1 n2 n3
      unfold fRd_single_100
      rw [gI_10 hl, tk]
      by_cases c40 : tC (Bt (pm t0)) p a = 40
      · rw [c40, if_pos (show nI 40 = 40 from rfl)]
        simp only [e5]
        by_cases o5 : 5 ≤ o
        · rw [if_pos o5]
          exact none (one_no hp ha n1 n2 n3 (fun _ => by omega))
        · rw [if_neg o5]
          obtain ⟨u1, r1, c1⟩ := adv_c h hc (by omega)
          have ht := tN_lt ha (show tC (Bt (pm t0)) p a ≠ 256 by omega)
          obtain ⟨u2, r2, rest⟩ := (he (by omega)).2 u1 _ _ c1
          have r2' : atF 55 [.ref 10, .int (nI o + 1)] u1 R = rV u2 := by rw [nI_1]; exact r2
          rw [rc_10 hl, r1, bV_rV, rc_10 (c1.1.lay h.lay), r2', bV_rV]
          rcases rest with ⟨b, cb, er⟩ | ⟨a2, D, c2, hD, wD, ok⟩
          · obtain ⟨w, r3, cb3⟩ := accept_b h.lay cb (k := 41) (by decide)
            exact ⟨w, by rw [rc_10 (cb.1.lay h.lay), r3, bV_rV], Or.inl ⟨b, cb3, par_er hp ha c40 (by omega) er⟩⟩
          · have ha2 := c2.2.2.2.2
            by_cases c41 : tC (Bt (pm t0)) p a2 = 41
            · obtain ⟨w, r3, c3⟩ := accept_y h c2 (k := 41) (by decide) c41
              have ht2 := tN_lt ha2 (show tC (Bt (pm t0)) p a2 ≠ 256 by omega)
              exact ⟨w, by rw [rc_10 (c2.1.lay h.lay), show (41 : Int32) = nI 41 from rfl, r3, bV_rV], Or.inr ⟨_, D, c3, by omega, wD, par_ok hp ha c40 (by omega) ok ha2 c41⟩⟩
            · obtain ⟨w, r3, cb3⟩ := accept_n h c2 (k := 41) (by decide) c41
              exact ⟨w, by rw [rc_10 (c2.1.lay h.lay), show (41 : Int32) = nI 41 from rfl, r3, bV_rV], Or.inl ⟨_, cb3, par_no hp ha c40 (by omega) ok ha2 c41⟩⟩
      · rw [if_neg (ne 40 40 rfl (by decide) c40)]
        exact none (one_no hp ha n1 n2 n3 (fun q => absurd q c40))
    have r67 : tC (Bt (pm t0)) p a ≠ 258 → tC (Bt (pm t0)) p a < 306 → ∃ w, fRd_single_67 R u (nI o) = rV w ∧ ((∃ b, CBr t0 w b ∧ Erc (Bt (pm t0)) p 7 o a b) ∨ ∃ a' D, CSt t0 p w a' (C ++ D) ∧ a + D.length ≤ a' ∧ Wf D ∧ Okc (Bt (pm t0)) p 7 o a a' D) := by
      intro n1 n2
      unfold fRd_single_67
      rw [gI_10 hl, tk]
      by_cases c45 : tC (Bt (pm t0)) p a = 45
      · rw [if_pos (show nI (tC (Bt (pm t0)) p a) = 45 by rw [c45]; rfl)]
        simp only [e5]
        by_cases o5 : 5 ≤ o
        · rw [if_pos o5]
          exact r100 n1 n2 (fun _ => by omega)
        · rw [if_neg o5]
          obtain ⟨u1, r1, c1⟩ := adv_c h hc (by omega)
          have ht := tN_lt ha (show tC (Bt (pm t0)) p a ≠ 256 by omega)
          obtain ⟨u2, r2, rest⟩ := (hs (by omega)).2 u1 _ _ c1
          have r2' : atF 60 [.ref 10, .int (nI o + 1)] u1 R = rV u2 := by rw [nI_1]; exact r2
          rw [rc_10 hl, r1, bV_rV, rc_10 (c1.1.lay h.lay), r2', bV_rV]
          rcases rest with ⟨b, cb, er⟩ | ⟨a2, D, c2, hD, wD, ok⟩
          · obtain ⟨u3, r3, cb3⟩ := emit_b h.lay cb (-1)
            exact ⟨u3, by rw [rc_10 (cb.1.lay h.lay), r3, bV_rV], Or.inl ⟨b, cb3, neg_er hp ha c45 (by omega) er⟩⟩
          · have e1 : (C ++ D).length = C.length + D.length := List.length_append
            obtain ⟨u3, r3, c3⟩ := emit_c h (a0 := 0) c2 19 (by omega)
            exact ⟨u3, by rw [rc_10 (c2.1.lay h.lay), show (-1 : Int32) = trn 19 from rfl, r3, bV_rV], Or.inr ⟨a2, D ++ [19], c3, by simp only [List.length_append, List.length_cons, List.length_nil]; omega, Wf.un (Or.inr rfl) wD, neg_ok hp ha c45 (by omega) ok⟩⟩
      · rw [if_neg (ne 45 45 rfl (by decide) c45)]
        exact r100 n1 n2 (fun q => absurd q c45)
    show ∃ w, fRd_single R u (nI o) = rV w ∧ _
    unfold fRd_single
    rw [gI_10 hl, tk]
    by_cases c258 : tC (Bt (pm t0)) p a = 258
    · rw [if_pos (show nI (tC (Bt (pm t0)) p a) = 258 by rw [c258]; rfl), gI_10 hl, hc.2.1.2.2.2.1 c258]
      have hv := tV_lt ha c258
      have ev : nI (tV (Bt (pm t0)) p a) = trn (100000 + tV (Bt (pm t0)) p a) := by
        unfold trn; rw [if_pos (by omega)]; exact congrArg nI (by omega)
      rw [ev]
      exact one _ (Wf.one (Or.inl (by omega))) (wants_one hp ha (Or.inl ⟨c258, rfl⟩)) (by omega) (by omega)
    · rw [if_neg (ne 258 258 rfl (by decide) c258), gI_10 hl, tk]
      by_cases c306 : tC (Bt (pm t0)) p a < 306
      · rw [if_pos (show nI (tC (Bt (pm t0)) p a) < 306 from nI_lt (b := 306) c306 (by decide))]
        exact r67 c258 c306
      · rw [if_neg (show ¬ nI (tC (Bt (pm t0)) p a) < 306 from nI_nlt (b := 306) (by omega) (by omega)), gI_10 hl, tk, if_neg (show ¬ (311 : Int32) < nI (tC (Bt (pm t0)) p a) from nI_nlt (a := 311) (by omega) (by omega)), gI_10 hl, tk]
        have ev : (-20 : Int32) - (nI (tC (Bt (pm t0)) p a) - 306) = trn (tC (Bt (pm t0)) p a - 306) := by
          rw [show nI (tC (Bt (pm t0)) p a) - 306 = nI (tC (Bt (pm t0)) p a - 306) from pk_sub (b := 306) (by omega)]
          unfold trn; rw [if_neg (by omega), if_pos (by omega)]
        rw [ev]
        exact one _ (Wf.one (Or.inr (by omega))) (wants_one hp ha (Or.inr ⟨by omega, rfl⟩)) (by omega) (by omega)
/-- all of them, by how deep they may go -/
theorem tower (h : Inv n m s g x p t0) : ∀ (d lv mi k o : Nat), (lv = 7 ∧ mi = 60 ∧ k = 1) ∨ (lv = 6 ∧ mi = 59 ∧ k = 2) ∨ (lv = 5 ∧ mi = 58 ∧ k = 3) ∨ (lv = 3 ∧ mi = 57 ∧ k = 4) ∨ (lv = 2 ∧ mi = 56 ∧ k = 5) ∨ (lv = 1 ∧ mi = 55 ∧ k = 6) → o ≤ 5 → (5 - o) * 6 + k ≤ d → Gd t0 p (cF (FR d) mi o) lv o := by
  intro d
  induction d with
  | zero => intro lv mi k o hk ho hd; omega
  | succ d ih =>
    intro lv mi k o hk ho hd
    rcases hk with ⟨rfl, rfl, rfl⟩ | ⟨rfl, rfl, rfl⟩ | ⟨rfl, rfl, rfl⟩ | ⟨rfl, rfl, rfl⟩ | ⟨rfl, rfl, rfl⟩ | ⟨rfl, rfl, rfl⟩
    · exact single_g h (R := FR d) ho (fun q => ih 7 60 1 (o + 1) (by omega) (by omega) (by omega)) (fun q => ih 1 55 6 (o + 1) (by omega) (by omega) (by omega))
    · exact product_g h (R := FR d) (ih 7 60 1 o (by omega) ho (by omega))
    · exact sum_g h (R := FR d) (ih 6 59 2 o (by omega) ho (by omega))
    · exact neg_g h (R := FR d) ho (ih 5 58 3 o (by omega) ho (by omega)) (fun q => ih 3 57 4 (o + 1) (by omega) (by omega) (by omega))
    · exact both_g h (R := FR d) (ih 3 57 4 o (by omega) ho (by omega))
    · exact either_g h (R := FR d) (ih 2 56 5 o (by omega) ho (by omega))
end
