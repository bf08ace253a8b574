section
variable {x p : Nat} {B : Nat → Nat} {t u w : SM}
theorem zl_sum (l : Nat) : ∀ H : List Nat, (zo l H).length + (zu l H).length = H.length
  | [] => rfl
  | c :: r => by
    have := zl_sum l r
    show (if zr c < l then ([] : List Nat) else c :: zo l r).length + (if zr c < l then c :: r else zu l r).length = r.length + 1
    split
    · show 0 + (r.length + 1) = _; omega
    · show (zo l r).length + 1 + _ = _; omega
theorem zu_mem {l : Nat} : ∀ {H : List Nat} {c : Nat}, c ∈ zu l H → c ∈ H
  | [], _, h => h
  | d :: r, c, h => by
    have : c ∈ (if zr d < l then d :: r else zu l r) := h
    split at this
    · exact this
    · exact List.mem_cons_of_mem _ (zu_mem this)
theorem zu_hd {l c : Nat} {r : List Nat} : ∀ {H : List Nat}, zu l H = c :: r → zr c < l
  | [], h => absurd h (by simp [zu])
  | d :: q, h => by
    have h' : (if zr d < l then d :: q else zu l q) = c :: r := h
    split at h'
    · rename_i e
      injection h' with a _
      rw [← a]; exact e
    · exact zu_hd h'
theorem zr_0 {c : Nat} (h : zr c < 1) : c = 0 := by
  unfold zr at h
  split at h
  · assumption
  · exfalso
    split at h
    · omega
    · split at h
      · omega
      · split at h
        · omega
        · split at h
          · omega
          · split at h
            · omega
            · split at h <;> omega
/-- one more is held -/
theorem hold_v {H O : List Nat} {c : Nat} (h1 : Lay u) (h2 : mI u 39 20 = nI x) (h3 : mI u 39 38 = nI H.length) (h4 : Stk (mI u 59) (H.map nI)) (h5 : mI u 39 39 = nI (zp (c :: H))) (h6 : mI u 39 40 = nI O.length) (h7 : ∀ k, k < O.length → mI u 51 (200 * x + k) = nI (O.getD k 0)) (h8 : ∀ c ∈ H, c ≤ 19) (hc : c ≤ 19) (hH : H.length < 200) :
    ∃ w, fm_holds u (nI c) = rV w ∧ MS x w (c :: H) O ∧ FF (PW x) u w := by
  have v : mI (setI u 59 H.length (nI c)) 39 38 = nI H.length := by rw [setI_I, if_neg (by omega)]; exact h3
  refine ⟨setI (setI u 59 H.length (nI c)) 39 38 (nI (H.length + 1)), ?_, ?_, ((FF.refl _ u).st rfl).st rfl⟩
  · simp only [fm_holds, gI_39, pI_39, rc_39, al_40, as_40, ln_40, al_41, as_41, ln_41, al_42, as_42, ln_42, al_43, as_43, ln_43, al_44, as_44, ln_44, al_45, as_45, ln_45, al_46, as_46, ln_46, al_47, as_47, ln_47, al_48, as_48, ln_48, al_49, as_49, ln_49, al_50, as_50, ln_50, al_51, as_51, ln_51, al_52, as_52, ln_52, al_53, as_53, ln_53, al_54, as_54, ln_54, al_55, as_55, ln_55, al_56, as_56, ln_56, al_57, as_57, ln_57, al_58, as_58, ln_58, al_59, as_59, ln_59, al_60, as_60, ln_60, al_61, as_61, ln_61, al_62, as_62, ln_62, al_63, as_63, ln_63, al_64, as_64, ln_64, al_65, as_65, ln_65, al_66, as_66, ln_66, al_67, as_67, ln_67, gC_39_4, gC_39_5, gC_39_6, gC_39_7, gC_39_8, gC_39_10, gC_39_11, gC_39_12, gC_39_13, gC_39_15, gC_39_16, gC_39_18, gC_39_19, gC_39_27, gC_39_28, gC_39_29, gC_39_30, gC_39_31, gC_39_36, gC_39_37, gC_39_41, gC_39_42, gC_39_43, gC_39_44, gC_39_46, gC_39_47, gC_39_48, gC_39_49, bI_rI, bV_rV, bQ_rN, bQ_rR, bz_0, bz_1, bz_Z, hZ0, hZ1, Lay_setI, Lay_setA, h1, h3, hH, v, nI_1]
  · refine ⟨h1, by rw [setI_I, if_neg (by omega), setI_I, if_neg (by omega)]; exact h2, setI_eq rfl rfl, ⟨?_, ?_⟩, by rw [setI_I, if_neg (by omega), setI_I, if_neg (by omega)]; exact h5, by rw [setI_I, if_neg (by omega), setI_I, if_neg (by omega)]; exact h6, fun k hk => by rw [setI_I, if_neg (by omega), setI_I, if_neg (by omega)]; exact h7 k hk, fun q hq => ?_⟩
    · rw [setI_ne (by decide)]; exact setI_eq rfl (by rw [List.length_map])
    · rw [setI_ne (by decide)]
      refine Stk.cg (fun i hi => ?_) h4
      rw [List.length_map] at hi
      rw [setI_I, if_neg (by omega)]
    · rcases List.mem_cons.mp hq with q1 | q1
      · omega
      · exact h8 q q1
theorem opens_v {H O : List Nat} {c : Nat} (h : MS x u H O) (hc : c = 0 ∨ c = 13 ∨ c = 19) (hH : H.length < 200) : (zp H = 5 → fm_opensOne u (nI c) = rI 0 u) ∧ (zp H ≠ 5 → ∃ w, fm_opensOne u (nI c) = rI 1 w ∧ MS x w (c :: H) O ∧ FF (PW x) u w) := by
  obtain ⟨h1, h2, h3, h4, h5, h6, h7, h8⟩ := h
  have hz := zp_le H
  have e5 : (nI (zp H) = 5) = (zp H = 5) := propext (nI_eq (b := 5) (by omega) (by decide))
  constructor
  · intro q
    unfold fm_opensOne
    rw [gI_39 h1, h5, if_pos (show nI (zp H) = 5 by rw [q]; rfl)]
  · intro q
    have ez : zp (c :: H) = zp H + 1 := by show (if _ then _ else _) + zp H = _; rw [if_pos hc]; omega
    obtain ⟨w, r, m, f⟩ := hold_v (x := x) (u := setI u 39 39 (nI (zp H + 1))) (H := H) (O := O) (c := c) h1 (by rw [setI_I, if_neg (by omega)]; exact h2) (by rw [setI_I, if_neg (by omega)]; exact h3) (by rw [setI_ne (by decide)]; exact h4) (by rw [ez]; exact setI_eq rfl rfl) (by rw [setI_I, if_neg (by omega)]; exact h6) (fun k hk => by rw [setI_I, if_neg (by omega)]; exact h7 k hk) h8 (by omega) hH
    refine ⟨w, ?_, m, ((FF.refl _ u).st rfl).tr f⟩
    unfold fm_opensOne
    rw [gI_39 h1, h5]
    simp only [e5]
    rw [if_neg q, gI_39 h1, h5, pI_39 h1, nI_1, rc_39 (show Lay (setI u 39 39 (nI (zp H + 1))) from h1), r, bV_rV]
theorem between_v {H O : List Nat} {c : Nat} (h : MS x u H O) (hx : x ≤ 5) (hc : 11 ≤ c ∧ c ≤ 18 ∧ c ≠ 13) (hO : O.length + H.length ≤ 199) : ∃ w, FF (PW x) u w ∧ ((zr c = 4 ∧ zt (zu 5 H) = 4 ∧ fm_between u (nI c) = rI 0 w) ∨ (¬ (zr c = 4 ∧ zt (zu 5 H) = 4) ∧ fm_between u (nI c) = rI 1 w ∧ MS x w (c :: zu (zl c) H) (O ++ zo (zl c) H))) := by
  have zc7 : zr c ≤ 7 ∧ 1 ≤ zr c := by
    have : c = 11 ∨ c = 12 ∨ c = 14 ∨ c = 15 ∨ c = 16 ∨ c = 17 ∨ c = 18 := by omega
    rcases this with rfl | rfl | rfl | rfl | rfl | rfl | rfl <;> decide
  have e4 : (nI (zr c) = 4) = (zr c = 4) := propext (nI_eq (b := 4) (by omega) (by decide))
  have ez : ∀ H : List Nat, zp (c :: H) = zp H := fun H => by show (if _ then _ else _) + zp H = _; rw [if_neg (by omega)]; omega
  have hold : ∀ (w1 : SM) (H1 O1 : List Nat), MS x w1 H1 O1 → H1.length < 200 → ∃ w, fm_holds w1 (nI c) = rV w ∧ MS x w (c :: H1) O1 ∧ FF (PW x) w1 w := fun w1 H1 O1 ⟨h1, h2, h3, h4, h5, h6, h7, h8⟩ hl => hold_v h1 h2 h3 h4 (by rw [ez]; exact h5) h6 h7 h8 (by omega) hl
  unfold fm_between
  rw [rank_v (by omega), bI_rI]
  simp only [e4]
  by_cases c4 : zr c = 4
  · rw [if_pos c4, rc_39 h.1]
    have l5 : zl c = 5 := if_pos c4
    rw [l5]
    obtain ⟨w1, r1, m1, f1⟩ := unwinds_v hx (l := 5) (by decide) H O u 1000000 (by omega) hO h
    have r1' : fm_unwinds u 5 = rV w1 := r1
    have hs := zl_sum 5 H
    rw [r1', bV_rV, rank_v (by omega), bI_rI]
    simp only [e4]
    rw [if_pos c4, gI_39 m1.1, m1.2.2.1]
    have c4' : zr c = 4 := c4
    cases e : zu 5 H with
    | nil =>
      rw [e] at m1 hs
      rw [if_pos (show nI ([] : List Nat).length ≤ 0 from Int32.le_refl _)]
      obtain ⟨w, r, m, f⟩ := hold w1 [] _ m1 (by decide)
      refine ⟨w, f1.tr f, Or.inr ⟨fun q => absurd q.2 (by decide), ?_, m⟩⟩
      rw [rc_39 m1.1, r, bV_rV]
    | cons d r0 =>
      rw [e] at m1 hs
      have hlen : (d :: r0).length = r0.length + 1 := rfl
      rw [hlen] at hs
      have hd : d ≤ 19 := m1.2.2.2.2.2.2.2 d (List.mem_cons_self ..)
      have n0 : ¬ nI (d :: r0).length ≤ 0 := nI_ge (a := 0) (by omega) (by omega)
      have er : nI (d :: r0).length - 1 = nI r0.length := nI_pred _
      have e59 : mI w1 59 r0.length = nI d := by have := m1.2.2.2.1.1; rw [List.length_map] at this; exact this
      have zd : zr d ≤ 7 := by unfold zr; split; omega; split; omega; split; omega; split; omega; split; omega; split; omega; split <;> omega
      have e4d : (nI (zr d) = 4) = (zr d = 4) := propext (nI_eq (b := 4) (by omega) (by decide))
      rw [if_neg n0, gC_39_37 m1.1, gI_39 m1.1, m1.2.2.1, er, al_59 m1.1 (by omega), e59, rank_v hd, bI_rI]
      simp only [e4d]
      by_cases d4 : zr d = 4
      · rw [if_pos d4]
        exact ⟨w1, f1, Or.inl ⟨c4, d4, rfl⟩⟩
      · rw [if_neg d4]
        obtain ⟨w, r, m, f⟩ := hold w1 (d :: r0) _ m1 (by omega)
        refine ⟨w, f1.tr f, Or.inr ⟨fun q => d4 q.2, ?_, m⟩⟩
        rw [rc_39 m1.1, r, bV_rV]
  · rw [if_neg c4, rank_v (by omega), bI_rI, rc_39 h.1]
    have lz : zl c = zr c := if_neg c4
    rw [lz]
    obtain ⟨w1, r1, m1, f1⟩ := unwinds_v hx (l := zr c) ⟨zc7.2, zc7.1⟩ H O u 1000000 (by omega) hO h
    have r1' : fm_unwinds u (nI (zr c)) = rV w1 := r1
    have hs := zl_sum (zr c) H
    rw [r1', bV_rV, rank_v (by omega), bI_rI]
    simp only [e4]
    rw [if_neg c4]
    obtain ⟨w, r, m, f⟩ := hold w1 _ _ m1 (by omega)
    refine ⟨w, f1.tr f, Or.inr ⟨fun q => c4 q.1, ?_, m⟩⟩
    rw [rc_39 m1.1, r, bV_rV]
/-! the tokens, told apart -/
def tkO (c : Nat) : Bool := isS c || (decide (256 ≤ c) && decide (c ≤ 258)) || (decide (300 ≤ c) && decide (c < 312))
def tkA (c : Nat) : Bool := (decide (tm c = 1) == decide (c = 258)) && (decide (tm c = 2) == decide (306 ≤ c)) && (decide (tm c = 6) == decide (c = 305)) && (decide (tm c = 45) == decide (c = 45)) && (decide (tm c = 40) == decide (c = 40)) && (decide (tm c = 59) == decide (c = 59)) && (decide (tm c = 41) == decide (c = 41)) && (decide (tm c = 4) == decide (c = 303)) && (decide (tm c = 5) == decide (c = 304)) && (decide (tm c = 60) == decide (c = 60)) && (decide (tm c = 61) == decide (c = 61)) && (decide (tm c = 43) == decide (c = 43)) && (decide (tm c = 42) == decide (c = 42)) && (decide (tm c = 3) == decide (300 ≤ c ∧ c ≤ 302)) && (decide (tm c = 0) == decide (c = 256))
theorem tkA_all : ∀ c, c < 312 → tkO c = true → tkA c = true := by decide +kernel
def TKE (c : Nat) : Prop := ((tm c = 1) = (c = 258)) ∧ ((tm c = 2) = (306 ≤ c)) ∧ ((tm c = 6) = (c = 305)) ∧ ((tm c = 45) = (c = 45)) ∧ ((tm c = 40) = (c = 40)) ∧ ((tm c = 59) = (c = 59)) ∧ ((tm c = 41) = (c = 41)) ∧ ((tm c = 4) = (c = 303)) ∧ ((tm c = 5) = (c = 304)) ∧ ((tm c = 60) = (c = 60)) ∧ ((tm c = 61) = (c = 61)) ∧ ((tm c = 43) = (c = 43)) ∧ ((tm c = 42) = (c = 42)) ∧ ((tm c = 3) = (300 ≤ c ∧ c ≤ 302)) ∧ ((tm c = 0) = (c = 256))
theorem tkE {c : Nat} (h1 : c < 312) (h2 : tkO c = true) : TKE c := by
  have h := tkA_all c h1 h2
  unfold tkA at h
  simp only [Bool.and_eq_true, beq_iff_eq, decide_eq_decide] at h
  obtain ⟨⟨⟨⟨⟨⟨⟨⟨⟨⟨⟨⟨⟨⟨a1, a2⟩, a3⟩, a4⟩, a5⟩, a6⟩, a7⟩, a8⟩, a9⟩, a10⟩, a11⟩, a12⟩, a13⟩, a14⟩, a15⟩ := h
  exact ⟨propext a1, propext a2, propext a3, propext a4, propext a5, propext a6, propext a7, propext a8, propext a9, propext a10, propext a11, propext a12, propext a13, propext a14, propext a15⟩
theorem tC_O {a : Nat} (hB : ∀ j, j < p → B j < 256) (ha : a ≤ p) : tC B p a < 312 ∧ tkO (tC B p a) = true := by
  have hb := tB_le (B := B) ha
  unfold tC
  by_cases c1 : tB B p a = p
  · rw [if_pos c1]; decide
  · rw [if_neg c1]
    by_cases c2 : isL (B (tB B p a)) = true
    · rw [if_pos c2]
      have hw := wix_f B (tB B p a) (rq isL B p (tB B p a))
      generalize wix B (tB B p a) (rq isL B p (tB B p a)) = j at *
      have hj : j ≤ 12 := by omega
      by_cases c3 : j = 12
      · rw [if_pos c3]; decide
      · rw [if_neg c3]
        refine ⟨by omega, ?_⟩
        unfold tkO
        rw [decide_eq_true (show 300 ≤ 300 + j by omega), decide_eq_true (show 300 + j < 312 by omega)]; simp
    · rw [if_neg c2]
      by_cases c3 : isD (B (tB B p a)) = true
      · rw [if_pos c3]; split <;> decide
      · rw [if_neg c3]
        by_cases c4 : isS (B (tB B p a)) = true
        · rw [if_pos c4]
          have := hB (tB B p a) (by omega)
          refine ⟨by omega, ?_⟩
          unfold tkO; rw [c4]; rfl
        · rw [if_neg c4]; decide
theorem signOf_v {c : Nat} (hl : Lay u) (h : mI u 39 34 = tm c) (e : TKE c) : fm_signOf u = rI (if zs c = 0 then -1 else nI (zs c)) u := by
  obtain ⟨_, _, _, e45, _, _, _, e4, e5, e60, e61, e43, e42, _, _⟩ := e
  unfold fm_signOf
  simp only [gI_39 hl, h, e4, e5, e60, e61, e43, e45, e42]
  unfold zs
  by_cases c1 : c = 303
  · simp [c1]; rfl
  · by_cases c2 : c = 304
    · simp [c2]; rfl
    · by_cases c3 : c = 60
      · simp [c3]; rfl
      · by_cases c4 : c = 61
        · simp [c4]; rfl
        · by_cases c5 : c = 43
          · simp [c5]; rfl
          · by_cases c6 : c = 45
            · simp [c6]; rfl
            · by_cases c7 : c = 42
              · simp [c7]; rfl
              · simp [c1, c2, c3, c4, c5, c6, c7]
end
