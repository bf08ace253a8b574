section
variable {n m s g x p : Nat} {t0 t u : SM}
theorem cnt_or {p q : Nat → Bool} : ∀ N, (∀ j, j < N → ¬ (p j = true ∧ q j = true)) → cnt (fun j => p j || q j) N = cnt p N + cnt q N := by
  intro N
  induction N with
  | zero => intro _; rfl
  | succ N ih =>
    intro h
    have h1 := ih (fun j hj => h j (by omega))
    have h2 := h N (by omega)
    rw [cnt_s, cnt_s, cnt_s, h1]
    cases hp : p N <;> cases hq : q N <;> simp_all <;> omega
theorem cnt_all {p q : Nat → Bool} : ∀ N, (cnt (fun j => p j && q j) N = cnt p N ↔ ∀ j, j < N → p j = true → q j = true) := by
  intro N
  induction N with
  | zero => exact ⟨fun _ j hj => absurd hj (by omega), fun _ => rfl⟩
  | succ N ih =>
    have h1 : cnt (fun j => p j && q j) N ≤ cnt p N := cnt_mono N (fun j _ hj => by simp at hj; exact hj.1)
    rw [cnt_s, cnt_s]
    constructor
    · intro h j hj hpj
      cases hp : p N <;> cases hq : q N <;> simp [hp, hq] at h
      · by_cases e : j = N
        · subst e; rw [hp] at hpj; exact absurd hpj (by decide)
        · exact ih.mp h j (by omega) hpj
      · by_cases e : j = N
        · subst e; exact hq
        · exact ih.mp h j (by omega) hpj
      · omega
      · by_cases e : j = N
        · subst e; exact hq
        · exact ih.mp h j (by omega) hpj
    · intro h
      have h2 := ih.mpr (fun j hj => h j (by omega))
      have h3 := h N (by omega)
      cases hp : p N
      · simp [h2]
      · simp [h2, h3 hp]
theorem cnt_no {p : Nat → Bool} : ∀ N, (cnt p N = 0 ↔ ∀ j, j < N → p j = false) := by
  intro N
  induction N with
  | zero => exact ⟨fun _ j hj => absurd hj (by omega), fun _ => rfl⟩
  | succ N ih =>
    rw [cnt_s]
    constructor
    · intro h j hj
      cases hp : p N <;> simp [hp] at h
      by_cases e : j = N
      · subst e; exact hp
      · exact ih.mp h j (by omega)
    · intro h
      rw [h N (by omega)]
      exact ih.mpr (fun j hj => h j (by omega))
/-! sets of maps as numbers -/
def agN (G : GG) (m : Nat) (w : Int32) : Nat := cN (agB G m w)
theorem agN_eq (G : GG) {m : Nat} (hm : m ≤ 8) (w : Int32) : agB G m w = nI (agN G m w) ∧ agN G m w < 2 ^ m := by
  obtain ⟨r, hr, he⟩ := agB_nI G m w hm
  have := Nat.pow_le_pow_right (n := 2) (by decide) hm
  have : agN G m w = r := by unfold agN; rw [he, cN_i (by omega)]
  rw [this]; exact ⟨he, hr⟩
def rl (k A S : Nat) : Bool := (List.range 8).all fun i => if i < k then (!S.testBit i || A.testBit i) else (A.testBit i == S.testBit i)
theorem rl_t {k A S : Nat} : rl k A S = true ↔ ∀ i, i < 8 → (i < k → S.testBit i = true → A.testBit i = true) ∧ (k ≤ i → A.testBit i = S.testBit i) := by
  unfold rl
  rw [List.all_eq_true]
  constructor
  · intro h i hi
    have := h i (List.mem_range.mpr hi)
    constructor
    · intro hk hs
      rw [if_pos hk, hs] at this
      simpa using this
    · intro hk
      rw [if_neg (by omega)] at this
      exact eq_of_beq this
  · intro h i hi
    have := h i (List.mem_range.mp hi)
    by_cases hk : i < k
    · rw [if_pos hk]
      cases hs : S.testBit i
      · rfl
      · rw [this.1 hk hs]; rfl
    · rw [if_neg hk, this.2 (by omega)]; simp
theorem tb_hi {A m i : Nat} (h : A < 2 ^ m) (hi : m ≤ i) : A.testBit i = false := Nat.testBit_lt_two_pow (Nat.lt_of_lt_of_le h (Nat.pow_le_pow_right (by decide) hi))
theorem rl_0 {A S m : Nat} (hm : m ≤ 8) (hA : A < 2 ^ m) (hS : S < 2 ^ m) : rl 0 A S = decide (A = S) := by
  rw [Bool.eq_iff_iff, rl_t, decide_eq_true_eq]
  constructor
  · intro h
    apply Nat.eq_of_testBit_eq
    intro i
    by_cases hi : i < 8
    · exact (h i hi).2 (Nat.zero_le i)
    · rw [tb_hi hA (by omega), tb_hi hS (by omega)]
  · intro e i _
    subst e
    exact ⟨fun h => absurd h (by omega), fun _ => rfl⟩
theorem rl_m {A S m : Nat} (hm : m ≤ 8) (hA : A < 2 ^ m) (hS : S < 2 ^ m) : rl m A S = decide ((nI A &&& nI S) = nI S) := by
  have hp := Nat.pow_le_pow_right (n := 2) (by decide) hm
  rw [Bool.eq_iff_iff, rl_t, decide_eq_true_eq, b_sub]
  constructor
  · intro h i hi hs
    rw [b_ni _ _ (by omega)] at hs ⊢
    by_cases h8 : i < m
    · exact (h i (by omega)).1 h8 hs
    · rw [tb_hi hS (by omega)] at hs; exact absurd hs (by decide)
  · intro h i hi
    refine ⟨fun hk hs => ?_, fun hk => by rw [tb_hi hA hk, tb_hi hS hk]⟩
    have := h i (by omega) (by rw [b_ni _ _ (by omega)]; exact hs)
    rw [b_ni _ _ (by omega)] at this; exact this
theorem tb_or {S k i : Nat} : (S ||| 2 ^ k).testBit i = (S.testBit i || decide (k = i)) := by rw [Nat.testBit_or, Nat.testBit_two_pow]
theorem rl_up {k A S : Nat} (hk : k < 8) (h : S.testBit k = false) : rl (k + 1) A S = (rl k A S || rl k A (S ||| 2 ^ k)) := by
  rw [Bool.eq_iff_iff, Bool.or_eq_true, rl_t, rl_t, rl_t]
  constructor
  · intro h1
    cases hA : A.testBit k
    · left
      intro i hi
      refine ⟨fun a b => (h1 i hi).1 (by omega) b, fun a => ?_⟩
      by_cases e : i = k
      · subst e; rw [hA, h]
      · exact (h1 i hi).2 (by omega)
    · right
      intro i hi
      rw [tb_or]
      refine ⟨fun a b => ?_, fun a => ?_⟩
      · rw [decide_eq_false (by omega), Bool.or_false] at b
        exact (h1 i hi).1 (by omega) b
      · by_cases e : i = k
        · subst e; rw [hA]; simp
        · rw [decide_eq_false (by omega), Bool.or_false]; exact (h1 i hi).2 (by omega)
  · intro h1 i hi
    rcases h1 with h1 | h1
    · refine ⟨fun a b => ?_, fun a => (h1 i hi).2 (by omega)⟩
      by_cases e : i = k
      · subst e; rw [h] at b; exact absurd b (by decide)
      · exact (h1 i hi).1 (by omega) b
    · have := h1 i hi
      rw [tb_or] at this
      refine ⟨fun a b => ?_, fun a => ?_⟩
      · by_cases e : i = k
        · subst e; rw [this.2 (Nat.le_refl i)]; simp
        · exact this.1 (by omega) (by rw [b]; rfl)
      · rw [this.2 (by omega), decide_eq_false (by omega), Bool.or_false]
theorem rl_ex {k A S : Nat} (hk : k < 8) (h : S.testBit k = false) : ¬ (rl k A S = true ∧ rl k A (S ||| 2 ^ k) = true) := by
  rintro ⟨h1, h2⟩
  have a := (rl_t.mp h1 k hk).2 (Nat.le_refl k)
  have b := (rl_t.mp h2 k hk).2 (Nat.le_refl k)
  rw [tb_or, a, h] at b
  simp at b
theorem rl_st {k A S : Nat} (h : S.testBit k = true) : rl (k + 1) A S = rl k A S := by
  rw [Bool.eq_iff_iff, rl_t, rl_t]
  constructor
  · intro h1 i hi
    refine ⟨fun a b => (h1 i hi).1 (by omega) b, fun a => ?_⟩
    by_cases e : i = k
    · subst e; rw [h]; exact (h1 i hi).1 (by omega) h
    · exact (h1 i hi).2 (by omega)
  · intro h1 i hi
    refine ⟨fun a b => ?_, fun a => (h1 i hi).2 (by omega)⟩
    by_cases e : i = k
    · subst e; rw [(h1 i hi).2 (Nat.le_refl i)]; exact b
    · exact (h1 i hi).1 (by omega) b
/-- towns counted: that may be, have some choices, by which maps agree -/
def tlf (G : GG) (n m : Nat) (hv : Int32) (k S : Nat) : Nat := cnt (fun j => (decide ((nI j &&& hv) = hv) && act G (nI j)) && rl k (agN G m (nI j)) S) (2 ^ n)
theorem tlf_up (G : GG) {m : Nat} (hv : Int32) {k S : Nat} (hk : k < 8) (h : S.testBit k = false) : tlf G n m hv (k + 1) S = tlf G n m hv k S + tlf G n m hv k (S ||| 2 ^ k) := by
  unfold tlf
  rw [← cnt_or]
  · refine cnt_cg _ (fun j _ => ?_)
    rw [rl_up hk h]
    cases (decide ((nI j &&& hv) = hv) && act G (nI j)) <;> simp
  · rintro j _ ⟨a, b⟩
    simp only [Bool.and_eq_true] at a b
    exact rl_ex hk h ⟨a.2, b.2⟩
theorem tlf_st (G : GG) {m : Nat} (hv : Int32) {k S : Nat} (h : S.testBit k = true) : tlf G n m hv (k + 1) S = tlf G n m hv k S := by
  unfold tlf
  exact cnt_cg _ (fun j _ => by rw [rl_st h])
theorem addTo_v {k N i : Nat} {c : Int32} (h : Lay t) (hk : k < 68) (ht : layF k = (20, N)) (hi : i < N) : fx_addTo t k (nI i) c = rV (setI t k i (mI t k i + c)) := by
  unfold fx_addTo
  rw [L_nai h hk ht hi, bI_rI, L_sni h hk ht hi, bV_rV]
theorem fx_tally_v (h : Inv n m s g x p t0) {k : Nat} (hk : k < 68) (ht : layF k = (20, 256)) (hs : ∀ j, scrF k j = true) (hv : Int32) :
    VS [k] t0 (fx_tally t0 k hv) (fun u => ∀ S, S < 2 ^ m → mI u k S = nI (tlf (pm t0) n m hv m S)) := by
  have hr := h.rng
  have hpw := pw_lt (n := n) (by omega)
  have hpm := Nat.pow_le_pow_right (n := 2) (by decide) (show m ≤ 8 by omega)
  have hp0 := Nat.two_pow_pos n
  have hm0 := Nat.two_pow_pos m
  have kin : k ∈ [k] := by simp
  unfold fx_tally
  rw [L_fill h.lay hk ht]
  have f0 : FS [k] t0 (setA t0 k (fun j => if j < 256 then 0 else mI t0 k j)) := ⟨Fr.sA (fun j hj => by unfold scr; rw [hs j]; rfl), fun q a b => by rw [setA_I, if_neg (fun e => b (by rw [e]; simp))]⟩
  have v0 : ∀ S, S < 256 → mI (setA t0 k (fun j => if j < 256 then 0 else mI t0 k j)) k S = 0 := fun S hS => by rw [setA_I, if_pos rfl, if_pos hS]
  generalize setA t0 k (fun j => if j < 256 then 0 else mI t0 k j) = u0 at f0 v0
  have h0 := h.fr f0.1
  simp only [gI_0, pI_0, rc_0, gI_1, pI_1, rc_1, ln_2, ql_2, al_3, as_3, ln_3, al_4, as_4, ln_4, gI_5, pI_5, rc_5, ln_6, ql_6, al_7, as_7, ln_7, al_8, as_8, ln_8, ln_9, ql_9, gI_10, pI_10, rc_10, al_11, as_11, ln_11, al_12, as_12, ln_12, gI_13, pI_13, rc_13, al_14, as_14, ln_14, ln_15, ql_15, gI_16, pI_16, rc_16, al_17, as_17, ln_17, al_18, as_18, ln_18, al_19, as_19, ln_19, al_20, as_20, ln_20, bl_21, bs_21, ln_21, gI_22, pI_22, rc_22, al_23, as_23, ln_23, al_24, as_24, ln_24, al_25, as_25, ln_25, gI_31, pI_31, rc_31, al_32, as_32, ln_32, gI_33, pI_33, rc_33, al_34, as_34, ln_34, gI_35, pI_35, rc_35, al_36, as_36, ln_36, gI_37, pI_37, rc_37, al_38, as_38, ln_38, gC_0_3, gC_0_4, gC_0_5, gC_0_7, gC_0_10, gC_0_11, gC_0_12, gC_0_13, gC_0_14, gC_0_15, gC_0_16, gC_0_17, gC_1_0, gC_1_2, gC_1_3, gC_5_0, gC_5_2, gC_10_0, gC_10_7, gC_13_5, gC_16_0, gC_16_2, gC_22_0, gC_22_1, gC_22_2, gC_22_3, gC_31_2, gC_33_2, gC_35_2, gC_37_2, bI_rI, bV_rV, bQ_rN, bQ_rR, bz_0, bz_1, bz_Z, hZ0, hZ1, Lay_setI, Lay_setA, h0.lay, fAt_everyMap_v h0]
  refine for_up (β := Unit) (fun f t i _ => fx_tally_l16 (fun t u1 u3 => fx_tally_64 t u1 u3) f t k hv (nI (2 ^ m - 1)) (nI i)) (fun r => VS [k] t0 r (fun u => ∀ S, S < 2 ^ m → mI u k S = nI (tlf (pm t0) n m hv m S))) (2 ^ n)
    (fun i u _ => FS [k] t0 u ∧ ∀ S, S < 2 ^ m → mI u k S = nI (cnt (fun j => (decide ((nI j &&& hv) = hv) && act (pm t0) (nI j)) && rl 0 (agN (pm t0) m (nI j)) S) i)) ?_ ?_ (2 ^ n) 0 u0 () 1000000 (by omega)
    ⟨f0, fun S hS => v0 S (by omega)⟩ (by omega)
  · intro f u _ ⟨fu, hu⟩
    have hi := h.fr fu.1
    have e1 : nI (2 ^ n - 1) < nI (2 ^ n) := nI_lt (by omega) (by omega)
    show VS _ t0 (fx_tally_16 _ _ u k hv _ (nI (2 ^ n))) _
    simp only [fx_tally_16, gI_0, pI_0, rc_0, gI_1, pI_1, rc_1, ln_2, ql_2, al_3, as_3, ln_3, al_4, as_4, ln_4, gI_5, pI_5, rc_5, ln_6, ql_6, al_7, as_7, ln_7, al_8, as_8, ln_8, ln_9, ql_9, gI_10, pI_10, rc_10, al_11, as_11, ln_11, al_12, as_12, ln_12, gI_13, pI_13, rc_13, al_14, as_14, ln_14, ln_15, ql_15, gI_16, pI_16, rc_16, al_17, as_17, ln_17, al_18, as_18, ln_18, al_19, as_19, ln_19, al_20, as_20, ln_20, bl_21, bs_21, ln_21, gI_22, pI_22, rc_22, al_23, as_23, ln_23, al_24, as_24, ln_24, al_25, as_25, ln_25, gI_31, pI_31, rc_31, al_32, as_32, ln_32, gI_33, pI_33, rc_33, al_34, as_34, ln_34, gI_35, pI_35, rc_35, al_36, as_36, ln_36, gI_37, pI_37, rc_37, al_38, as_38, ln_38, gC_0_3, gC_0_4, gC_0_5, gC_0_7, gC_0_10, gC_0_11, gC_0_12, gC_0_13, gC_0_14, gC_0_15, gC_0_16, gC_0_17, gC_1_0, gC_1_2, gC_1_3, gC_5_0, gC_5_2, gC_10_0, gC_10_7, gC_13_5, gC_16_0, gC_16_2, gC_22_0, gC_22_1, gC_22_2, gC_22_3, gC_31_2, gC_33_2, gC_35_2, gC_37_2, bI_rI, bV_rV, bQ_rN, bQ_rR, bz_0, bz_1, bz_Z, hZ0, hZ1, Lay_setI, Lay_setA, hi.lay, fx_everyChoice_v hi, e1, if_true, fx_tally_64]
    have hu' : ∀ S, S < 2 ^ m → mI u k S = nI (tlf (pm t0) n m hv 0 S) := hu
    refine for_up (β := Unit) (fun f t i _ => fx_tally_l67 f t k (nI (2 ^ m - 1)) (nI i)) (fun r => VS [k] t0 r (fun u => ∀ S, S < 2 ^ m → mI u k S = nI (tlf (pm t0) n m hv m S))) m
      (fun i u _ => FS [k] t0 u ∧ ∀ S, S < 2 ^ m → mI u k S = nI (tlf (pm t0) n m hv i S)) ?_ ?_ m 0 u () 1000000 (by omega) ⟨fu, hu'⟩ (by omega)
    · intro f v _ ⟨fv, hv1⟩
      have hi := h.fr fv.1
      have e1 : nI m ≤ nI m := Int32.le_refl _
      show VS _ t0 (fx_tally_67 _ v k _ (nI m)) _
      simp only [fx_tally_67, gI_0, pI_0, rc_0, gI_1, pI_1, rc_1, ln_2, ql_2, al_3, as_3, ln_3, al_4, as_4, ln_4, gI_5, pI_5, rc_5, ln_6, ql_6, al_7, as_7, ln_7, al_8, as_8, ln_8, ln_9, ql_9, gI_10, pI_10, rc_10, al_11, as_11, ln_11, al_12, as_12, ln_12, gI_13, pI_13, rc_13, al_14, as_14, ln_14, ln_15, ql_15, gI_16, pI_16, rc_16, al_17, as_17, ln_17, al_18, as_18, ln_18, al_19, as_19, ln_19, al_20, as_20, ln_20, bl_21, bs_21, ln_21, gI_22, pI_22, rc_22, al_23, as_23, ln_23, al_24, as_24, ln_24, al_25, as_25, ln_25, gI_31, pI_31, rc_31, al_32, as_32, ln_32, gI_33, pI_33, rc_33, al_34, as_34, ln_34, gI_35, pI_35, rc_35, al_36, as_36, ln_36, gI_37, pI_37, rc_37, al_38, as_38, ln_38, gC_0_3, gC_0_4, gC_0_5, gC_0_7, gC_0_10, gC_0_11, gC_0_12, gC_0_13, gC_0_14, gC_0_15, gC_0_16, gC_0_17, gC_1_0, gC_1_2, gC_1_3, gC_5_0, gC_5_2, gC_10_0, gC_10_7, gC_13_5, gC_16_0, gC_16_2, gC_22_0, gC_22_1, gC_22_2, gC_22_3, gC_31_2, gC_33_2, gC_35_2, gC_37_2, bI_rI, bV_rV, bQ_rN, bQ_rR, bz_0, bz_1, bz_Z, hZ0, hZ1, Lay_setI, Lay_setA, hi.lay, hi.mp', e1, if_true]
      exact ⟨v, rfl, fv, hv1⟩
    · intro f v i _ hi2 ⟨fv, hv1⟩ ih
      have hi := h.fr fv.1
      have e1 : ¬ nI m ≤ nI i := nI_ge hi2 (by omega)
      show VS _ t0 (fx_tally_67 _ v k _ (nI i)) _
      simp only [fx_tally_67, gI_0, pI_0, rc_0, gI_1, pI_1, rc_1, ln_2, ql_2, al_3, as_3, ln_3, al_4, as_4, ln_4, gI_5, pI_5, rc_5, ln_6, ql_6, al_7, as_7, ln_7, al_8, as_8, ln_8, ln_9, ql_9, gI_10, pI_10, rc_10, al_11, as_11, ln_11, al_12, as_12, ln_12, gI_13, pI_13, rc_13, al_14, as_14, ln_14, ln_15, ql_15, gI_16, pI_16, rc_16, al_17, as_17, ln_17, al_18, as_18, ln_18, al_19, as_19, ln_19, al_20, as_20, ln_20, bl_21, bs_21, ln_21, gI_22, pI_22, rc_22, al_23, as_23, ln_23, al_24, as_24, ln_24, al_25, as_25, ln_25, gI_31, pI_31, rc_31, al_32, as_32, ln_32, gI_33, pI_33, rc_33, al_34, as_34, ln_34, gI_35, pI_35, rc_35, al_36, as_36, ln_36, gI_37, pI_37, rc_37, al_38, as_38, ln_38, gC_0_3, gC_0_4, gC_0_5, gC_0_7, gC_0_10, gC_0_11, gC_0_12, gC_0_13, gC_0_14, gC_0_15, gC_0_16, gC_0_17, gC_1_0, gC_1_2, gC_1_3, gC_5_0, gC_5_2, gC_10_0, gC_10_7, gC_13_5, gC_16_0, gC_16_2, gC_22_0, gC_22_1, gC_22_2, gC_22_3, gC_31_2, gC_33_2, gC_35_2, gC_37_2, bI_rI, bV_rV, bQ_rN, bQ_rR, bz_0, bz_1, bz_Z, hZ0, hZ1, Lay_setI, Lay_setA, hi.lay, hi.mp', e1, if_false]
      refine for_up (β := Unit) (fun f' t j _ => fx_tally_l82 (fun t u1 u3 u4 => fx_tally_121 (fx_tally_l67 f) t u1 u3 u4) f' t k (nI (2 ^ m - 1)) (nI i) (nI j)) (fun r => VS [k] t0 r (fun u => ∀ S, S < 2 ^ m → mI u k S = nI (tlf (pm t0) n m hv m S))) (2 ^ m)
        (fun j u _ => FS [k] t0 u ∧ ∀ S, S < 2 ^ m → mI u k S = nI (tlf (pm t0) n m hv (if S < j then i + 1 else i) S)) ?_ ?_ (2 ^ m) 0 v () 1000000 (by omega) ⟨fv, fun S hS => by rw [if_neg (Nat.not_lt_zero S)]; exact hv1 S hS⟩ (by omega)
      · intro f' w _ ⟨fw, hw⟩
        have e1 : nI (2 ^ m - 1) < nI (2 ^ m) := nI_lt (by omega) (by omega)
        show VS _ t0 (fx_tally_82 _ _ w k _ (nI i) (nI (2 ^ m))) _
        simp only [fx_tally_82, e1, if_true, fx_tally_121, nI_1]
        exact ih w () ⟨fw, fun S hS => by rw [hw S hS, if_pos hS]⟩
      · intro f' w j _ hj ⟨fw, hw⟩ ih2
        have hiw := h.fr fw.1
        have e1 : ¬ nI (2 ^ m - 1) < nI j := nI_nlt (by omega) (by omega)
        show VS _ t0 (fx_tally_82 _ _ w k _ (nI i) (nI j)) _
        simp only [fx_tally_82, e1, if_false, b_bit _ (show i < 32 by omega), b_ni _ _ (show j < 2 ^ 32 by omega), bz_0, b_pow i (show i < 31 by omega), nI_or, nI_1]
        cases hb : j.testBit i
        · have hlt : j ||| 2 ^ i < 2 ^ m := Nat.or_lt_two_pow hj (Nat.pow_lt_pow_right (by decide) hi2)
          have hgt : ¬ (j ||| 2 ^ i) < j := by
            have := @Nat.left_le_or j (2 ^ i)
            omega
          simp only [if_true]
          rw [L_nai hiw.lay hk ht (show j ||| 2 ^ i < 256 by omega), bI_rI, addTo_v hiw.lay hk ht (show j < 256 by omega), bV_rV, hw _ hlt, hw j hj, if_neg hgt, if_neg (Nat.lt_irrefl j), nI_add]
          refine ih2 _ () ⟨fw.st (hs _) kin, fun S hS => ?_⟩
          by_cases e : S = j
          · subst e
            rw [setI_eq rfl rfl, if_pos (by omega), tlf_up _ _ (by omega) hb]
          · rw [setI_I, if_neg (by omega), hw S hS]
            by_cases c : S < j
            · rw [if_pos c, if_pos (by omega)]
            · rw [if_neg c, if_neg (by omega)]
        · simp only [if_false, Bool.true_eq_false]
          refine ih2 _ () ⟨fw, fun S hS => ?_⟩
          rw [hw S hS]
          by_cases e : S = j
          · subst e
            rw [if_neg (Nat.lt_irrefl S), if_pos (by omega), tlf_st _ _ hb]
          · by_cases c : S < j
            · rw [if_pos c, if_pos (by omega)]
            · rw [if_neg c, if_neg (by omega)]
  · intro f u i _ hi2 ⟨fu, hu⟩ ih
    have hi := h.fr fu.1
    have e1 : ¬ nI (2 ^ n - 1) < nI i := nI_nlt (by omega) (by omega)
    obtain ⟨ea, la⟩ := agN_eq (pm t0) (show m ≤ 8 by omega) (nI i)
    show VS _ t0 (fx_tally_16 _ _ u k hv _ (nI i)) _
    simp only [fx_tally_16, gI_0, pI_0, rc_0, gI_1, pI_1, rc_1, ln_2, ql_2, al_3, as_3, ln_3, al_4, as_4, ln_4, gI_5, pI_5, rc_5, ln_6, ql_6, al_7, as_7, ln_7, al_8, as_8, ln_8, ln_9, ql_9, gI_10, pI_10, rc_10, al_11, as_11, ln_11, al_12, as_12, ln_12, gI_13, pI_13, rc_13, al_14, as_14, ln_14, ln_15, ql_15, gI_16, pI_16, rc_16, al_17, as_17, ln_17, al_18, as_18, ln_18, al_19, as_19, ln_19, al_20, as_20, ln_20, bl_21, bs_21, ln_21, gI_22, pI_22, rc_22, al_23, as_23, ln_23, al_24, as_24, ln_24, al_25, as_25, ln_25, gI_31, pI_31, rc_31, al_32, as_32, ln_32, gI_33, pI_33, rc_33, al_34, as_34, ln_34, gI_35, pI_35, rc_35, al_36, as_36, ln_36, gI_37, pI_37, rc_37, al_38, as_38, ln_38, gC_0_3, gC_0_4, gC_0_5, gC_0_7, gC_0_10, gC_0_11, gC_0_12, gC_0_13, gC_0_14, gC_0_15, gC_0_16, gC_0_17, gC_1_0, gC_1_2, gC_1_3, gC_5_0, gC_5_2, gC_10_0, gC_10_7, gC_13_5, gC_16_0, gC_16_2, gC_22_0, gC_22_1, gC_22_2, gC_22_3, gC_31_2, gC_33_2, gC_35_2, gC_37_2, bI_rI, bV_rV, bQ_rN, bQ_rR, bz_0, bz_1, bz_Z, hZ0, hZ1, Lay_setI, Lay_setA, hi.lay, fx_everyChoice_v hi, e1, if_false, fx_mayBeRight_v hi hi2, fAt_agreeingWith_v hi (show i < 512 by omega), fu.1.2, agB_every (pm t0) m (nI i) (show m ≤ 8 by omega), nI_1]
    rw [ea, addTo_v hi.lay hk ht (show agN (pm t0) m (nI i) < 256 by omega), bV_rV, hu _ la]
    have same : (decide ((nI i &&& hv) = hv) && act (pm t0) (nI i)) = false → VS [k] t0 (fx_tally_l16 (fun t u1 u3 => fx_tally_64 t u1 u3) f u k hv (nI (2 ^ m - 1)) (nI (i + 1))) (fun u => ∀ S, S < 2 ^ m → mI u k S = nI (tlf (pm t0) n m hv m S)) := by
      intro c
      refine ih u () ⟨fu, fun S hS => ?_⟩
      rw [hu S hS, cnt_s, c]; rfl
    by_cases c1 : (nI i &&& hv) = hv
    · rw [if_pos c1]
      cases c2 : act (pm t0) (nI i)
      · rw [if_pos rfl]
        exact same (by rw [c2, Bool.and_false])
      · rw [if_neg (by decide)]
        refine ih _ () ⟨fu.st (hs _) kin, fun S hS => ?_⟩
        rw [cnt_s, c2, decide_eq_true c1, rl_0 (show m ≤ 8 by omega) la hS]
        by_cases e : S = agN (pm t0) m (nI i)
        · rw [setI_eq rfl e, nI_1, e]; simp
        · rw [setI_I, if_neg (fun z => e z.2), hu S hS]
          simp [show ¬ agN (pm t0) m (nI i) = S from fun z => e z.symm]
    · rw [if_neg c1]
      exact same (by rw [decide_eq_false c1]; rfl)
end
