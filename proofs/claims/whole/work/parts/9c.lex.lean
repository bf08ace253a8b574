section
/-! tokens of the tape -/
def isBl (c : Nat) : Bool := c == 32 || c == 10
def isL (c : Nat) : Bool := decide (97 ≤ c) && decide (c ≤ 122)
def isD (c : Nat) : Bool := decide (48 ≤ c) && decide (c ≤ 57)
def isS (c : Nat) : Bool := c == 40 || c == 41 || c == 59 || c == 43 || c == 45 || c == 42 || c == 60 || c == 61
def rn (q : Nat → Bool) (B : Nat → Nat) (p : Nat) : Nat → Nat → Nat
  | 0, a => a
  | d + 1, a => if a < p ∧ q (B a) = true then rn q B p d (a + 1) else a
def rq (q : Nat → Bool) (B : Nat → Nat) (p a : Nat) : Nat := rn q B p (p - a) a
theorem rq_eq (q : Nat → Bool) (B : Nat → Nat) (p a : Nat) : rq q B p a = if a < p ∧ q (B a) = true then rq q B p (a + 1) else a := by
  unfold rq
  by_cases c : a < p
  · rw [show p - a = (p - (a + 1)) + 1 by omega]; rfl
  · rw [show p - a = 0 by omega, if_neg (fun h => c h.1)]; rfl
theorem rn_f (q : Nat → Bool) (B : Nat → Nat) (p : Nat) : ∀ d a, a + d = p → a ≤ rn q B p d a ∧ rn q B p d a ≤ p ∧ (∀ j, a ≤ j → j < rn q B p d a → q (B j) = true) ∧ (rn q B p d a < p → q (B (rn q B p d a)) = false) := by
  intro d
  induction d with
  | zero => intro a h; exact ⟨Nat.le_refl _, by show a ≤ p; omega, fun j h1 h2 => absurd h2 (by show ¬ j < a; omega), fun h2 => absurd h2 (by show ¬ a < p; omega)⟩
  | succ d ih =>
    intro a h
    show a ≤ (if a < p ∧ q (B a) = true then rn q B p d (a + 1) else a) ∧ (if a < p ∧ q (B a) = true then rn q B p d (a + 1) else a) ≤ p ∧ (∀ j, a ≤ j → j < (if a < p ∧ q (B a) = true then rn q B p d (a + 1) else a) → q (B j) = true) ∧ ((if a < p ∧ q (B a) = true then rn q B p d (a + 1) else a) < p → q (B (if a < p ∧ q (B a) = true then rn q B p d (a + 1) else a)) = false)
    by_cases c : a < p ∧ q (B a) = true
    · rw [if_pos c]
      obtain ⟨h1, h2, h3, h4⟩ := ih (a + 1) (by omega)
      refine ⟨by omega, h2, fun j a1 a2 => ?_, h4⟩
      by_cases e : j = a
      · rw [e]; exact c.2
      · exact h3 j (by omega) a2
    · rw [if_neg c]
      refine ⟨Nat.le_refl _, by omega, fun j h1 h2 => by omega, fun h2 => ?_⟩
      cases e : q (B a)
      · rfl
      · exact absurd ⟨h2, e⟩ c
theorem rq_f (q : Nat → Bool) (B : Nat → Nat) {p a : Nat} (h : a ≤ p) : a ≤ rq q B p a ∧ rq q B p a ≤ p ∧ (∀ j, a ≤ j → j < rq q B p a → q (B j) = true) ∧ (rq q B p a < p → q (B (rq q B p a)) = false) := rn_f q B p (p - a) a (by omega)
/-- the words, in the class's order -/
def WN : List (List Nat) := [[109, 97, 121], [104, 97, 114, 109], [112, 114, 105, 99, 101], [111, 114], [97, 110, 100], [110, 111, 116], [97], [98], [99], [100], [102, 97, 114], [119, 111, 114, 108, 100, 115]]
def wd (j : Nat) : List Nat := WN.getD j []
def eqw (B : Nat → Nat) (b e j : Nat) : Bool := decide ((wd j).length = e - b) && (List.range (wd j).length).all fun i => decide (B (b + i) = (wd j).getD i 0)
theorem eqw_t {B : Nat → Nat} {b e j : Nat} : eqw B b e j = true ↔ (wd j).length = e - b ∧ ∀ i, i < (wd j).length → B (b + i) = (wd j).getD i 0 := by
  unfold eqw
  rw [Bool.and_eq_true, decide_eq_true_eq, List.all_eq_true]
  constructor
  · intro h; exact ⟨h.1, fun i hi => of_decide_eq_true (h.2 i (List.mem_range.mpr hi))⟩
  · intro h; exact ⟨h.1, fun i hi => decide_eq_true (h.2 i (List.mem_range.mp hi))⟩
def wneB (i j : Nat) : Bool := i == j || !((wd i).length == (wd j).length) || (List.range (wd i).length).any fun k => !((wd i).getD k 0 == (wd j).getD k 0)
theorem wne_all : ∀ i, i < 12 → ∀ j, j < 12 → wneB i j = true := by decide +kernel
theorem eqw_one {B : Nat → Nat} {b e i j : Nat} (hi : i < 12) (hj : j < 12) (h1 : eqw B b e i = true) (h2 : eqw B b e j = true) : i = j := by
  have h := wne_all i hi j hj
  obtain ⟨a1, a2⟩ := eqw_t.mp h1
  obtain ⟨b1, b2⟩ := eqw_t.mp h2
  have hl : (wd i).length = (wd j).length := by omega
  unfold wneB at h
  simp only [Bool.or_eq_true, beq_iff_eq, List.any_eq_true, List.mem_range, Bool.not_eq_true', beq_eq_false_iff_ne, ne_eq] at h
  rcases h with (h | h) | ⟨k, hk, h⟩
  · exact h
  · exact absurd hl h
  · exact absurd ((a2 k hk).symm.trans (b2 k (by omega))) h
/-- which word: its place, or 12 -/
def wix (B : Nat → Nat) (b e : Nat) : Nat := fo (fun k r => if eqw B b e k = true then k else r) 12 12
theorem wix_f (B : Nat → Nat) (b e : Nat) : (wix B b e < 12 ∧ eqw B b e (wix B b e) = true) ∨ (wix B b e = 12 ∧ ∀ j, j < 12 → eqw B b e j = false) := by
  have key : ∀ N, ((fo (fun k r => if eqw B b e k = true then k else r) 12 N) < N ∧ eqw B b e (fo (fun k r => if eqw B b e k = true then k else r) 12 N) = true) ∨ ((fo (fun k r => if eqw B b e k = true then k else r) 12 N) = 12 ∧ ∀ j, j < N → eqw B b e j = false) := by
    intro N
    induction N with
    | zero => exact Or.inr ⟨rfl, fun j hj => by omega⟩
    | succ N ih =>
      rw [fo_add]
      cases c : eqw B b e N
      · rw [if_neg (by decide)]
        rcases ih with ih | ih
        · exact Or.inl ⟨by omega, ih.2⟩
        · refine Or.inr ⟨ih.1, fun j hj => ?_⟩
          by_cases e : j = N
          · rw [e]; exact c
          · exact ih.2 j (by omega)
      · rw [if_pos rfl]; exact Or.inl ⟨by omega, c⟩
  exact key 12
theorem wix_is {B : Nat → Nat} {b e j : Nat} (hj : j < 12) (h : eqw B b e j = true) : wix B b e = j := by
  rcases wix_f B b e with ⟨h1, h2⟩ | ⟨_, h2⟩
  · exact eqw_one h1 hj h2 h
  · rw [h2 j hj] at h; exact absurd h (by decide)
/-- a number's value, digit by digit -/
def dgv (B : Nat → Nat) (b k : Nat) : Nat := fo (fun i v => 10 * v + (B (b + i) - 48)) 0 k
/-! begin, kind, value, end of the token at a place -/
def tB (B : Nat → Nat) (p a : Nat) : Nat := rq isBl B p a
def tC (B : Nat → Nat) (p a : Nat) : Nat :=
  if tB B p a = p then 256
  else if isL (B (tB B p a)) = true then (if wix B (tB B p a) (rq isL B p (tB B p a)) = 12 then 257 else 300 + wix B (tB B p a) (rq isL B p (tB B p a)))
  else if isD (B (tB B p a)) = true then (if rq isD B p (tB B p a) - tB B p a ≤ 4 then 258 else 257)
  else if isS (B (tB B p a)) = true then B (tB B p a) else 257
def tV (B : Nat → Nat) (p a : Nat) : Nat := dgv B (tB B p a) (rq isD B p (tB B p a) - tB B p a)
def tN (B : Nat → Nat) (p a : Nat) : Nat :=
  if tB B p a = p then p
  else if isL (B (tB B p a)) = true then rq isL B p (tB B p a)
  else if isD (B (tB B p a)) = true then rq isD B p (tB B p a) else tB B p a + 1
theorem tB_le {B : Nat → Nat} {p a : Nat} (h : a ≤ p) : a ≤ tB B p a ∧ tB B p a ≤ p := ⟨(rq_f isBl B h).1, (rq_f isBl B h).2.1⟩
theorem tN_le {B : Nat → Nat} {p a : Nat} (h : a ≤ p) : tB B p a ≤ tN B p a ∧ tN B p a ≤ p := by
  have h1 := tB_le (B := B) h
  unfold tN
  split
  · omega
  · split
    · have := rq_f isL B h1.2; omega
    · split
      · have := rq_f isD B h1.2; omega
      · omega
theorem tN_lt {B : Nat → Nat} {p a : Nat} (h : a ≤ p) (hc : tC B p a ≠ 256) : a < tN B p a := by
  have h1 := tB_le (B := B) h
  have hb : tB B p a ≠ p := fun e => hc (by unfold tC; rw [if_pos e])
  unfold tN
  rw [if_neg hb]
  split
  · rename_i c
    rw [rq_eq, if_pos ⟨by omega, c⟩]
    have := rq_f isL B (show tB B p a + 1 ≤ p by omega); omega
  · split
    · rename_i c
      rw [rq_eq, if_pos ⟨by omega, c⟩]
      have := rq_f isD B (show tB B p a + 1 ≤ p by omega); omega
    · omega
theorem dgv_lt {B : Nat → Nat} {b : Nat} : ∀ k, (∀ i, i < k → isD (B (b + i)) = true) → dgv B b k < 10 ^ k := by
  intro k
  induction k with
  | zero => intro _; show (0 : Nat) < 10 ^ 0; decide
  | succ k ih =>
    intro h
    have h1 := ih (fun i hi => h i (by omega))
    have h2 := h k (by omega)
    unfold isD at h2
    simp only [Bool.and_eq_true, decide_eq_true_eq] at h2
    show 10 * dgv B b k + (B (b + k) - 48) < 10 ^ (k + 1)
    rw [Nat.pow_succ]; omega
end
section
variable {n m s g x p : Nat} {t0 t u : SM}
/-! the tape's bytes -/
def Bt (G : GG) : Nat → Nat := fun j => cN (G 50 j)
theorem bt_f (h : Inv n m s g x p u) {j : Nat} (hj : j < p) : mI u 11 j = nI (Bt (pm u) j) ∧ mI u 50 j = nI (Bt (pm u) j) ∧ Bt (pm u) j < 256 := by
  obtain ⟨h1, w, hw, h2⟩ := h.tap j hj
  have e : Bt (pm u) j = w := by unfold Bt; rw [h2, cN_i (by omega)]
  rw [e, rp_11 h.lay, rp_50 h.lay, h1, h2]
  exact ⟨rfl, rfl, hw⟩
theorem byteAt_v (h : Inv n m s g x p u) {a : Nat} (ha : a ≤ 160) : fRd_byteAt u (nI a) = rI (if a < p then nI (Bt (pm u) a) else 256) u := by
  have hr := h.rng
  have e0 : ¬ nI a < 0 := nI_pos (by omega)
  simp only [fRd_byteAt, gI_0, pI_0, rc_0, gI_1, pI_1, rc_1, ln_2, ql_2, al_3, as_3, ln_3, al_4, as_4, ln_4, gI_5, pI_5, rc_5, ln_6, ql_6, al_7, as_7, ln_7, al_8, as_8, ln_8, ln_9, ql_9, gI_10, pI_10, rc_10, al_11, as_11, ln_11, al_12, as_12, ln_12, gI_13, pI_13, rc_13, al_14, as_14, ln_14, ln_15, ql_15, gI_16, pI_16, rc_16, al_17, as_17, ln_17, al_18, as_18, ln_18, al_19, as_19, ln_19, al_20, as_20, ln_20, bl_21, bs_21, ln_21, gI_22, pI_22, rc_22, al_23, as_23, ln_23, al_24, as_24, ln_24, al_25, as_25, ln_25, gI_31, pI_31, rc_31, al_32, as_32, ln_32, gI_33, pI_33, rc_33, al_34, as_34, ln_34, gI_35, pI_35, rc_35, al_36, as_36, ln_36, gI_37, pI_37, rc_37, al_38, as_38, ln_38, gC_0_3, gC_0_4, gC_0_5, gC_0_7, gC_0_10, gC_0_11, gC_0_12, gC_0_13, gC_0_14, gC_0_15, gC_0_16, gC_0_17, gC_1_0, gC_1_2, gC_1_3, gC_5_0, gC_5_2, gC_10_0, gC_10_7, gC_13_5, gC_16_0, gC_16_2, gC_22_0, gC_22_1, gC_22_2, gC_22_3, gC_31_2, gC_33_2, gC_35_2, gC_37_2, bI_rI, bV_rV, bQ_rN, bQ_rR, bz_0, bz_1, bz_Z, hZ0, hZ1, Lay_setI, Lay_setA, h.lay, h.tp', e0, if_false]
  by_cases c : a < p
  · have e1 : ¬ nI p ≤ nI a := nI_ge c (by omega)
    have e2 : ¬ nI 160 ≤ nI a := nI_ge (by omega) (by omega)
    have a160 : a < 160 := by omega
    simp only [if_neg e1, if_neg e2, gI_0, pI_0, rc_0, gI_1, pI_1, rc_1, ln_2, ql_2, al_3, as_3, ln_3, al_4, as_4, ln_4, gI_5, pI_5, rc_5, ln_6, ql_6, al_7, as_7, ln_7, al_8, as_8, ln_8, ln_9, ql_9, gI_10, pI_10, rc_10, al_11, as_11, ln_11, al_12, as_12, ln_12, gI_13, pI_13, rc_13, al_14, as_14, ln_14, ln_15, ql_15, gI_16, pI_16, rc_16, al_17, as_17, ln_17, al_18, as_18, ln_18, al_19, as_19, ln_19, al_20, as_20, ln_20, bl_21, bs_21, ln_21, gI_22, pI_22, rc_22, al_23, as_23, ln_23, al_24, as_24, ln_24, al_25, as_25, ln_25, gI_31, pI_31, rc_31, al_32, as_32, ln_32, gI_33, pI_33, rc_33, al_34, as_34, ln_34, gI_35, pI_35, rc_35, al_36, as_36, ln_36, gI_37, pI_37, rc_37, al_38, as_38, ln_38, gC_0_3, gC_0_4, gC_0_5, gC_0_7, gC_0_10, gC_0_11, gC_0_12, gC_0_13, gC_0_14, gC_0_15, gC_0_16, gC_0_17, gC_1_0, gC_1_2, gC_1_3, gC_5_0, gC_5_2, gC_10_0, gC_10_7, gC_13_5, gC_16_0, gC_16_2, gC_22_0, gC_22_1, gC_22_2, gC_22_3, gC_31_2, gC_33_2, gC_35_2, gC_37_2, bI_rI, bV_rV, bQ_rN, bQ_rR, bz_0, bz_1, bz_Z, hZ0, hZ1, Lay_setI, Lay_setA, h.lay, a160, (bt_f h c).1, if_pos c]
  · have e1 : nI p ≤ nI a := nI_le (by omega) (by omega)
    rw [if_pos e1, if_neg c]
theorem isLetter_v (t : SM) {c : Nat} (h : c ≤ 256) : fRd_isLetter t (nI c) = rI (bz (isL c)) t := by
  have e1 : (nI c < 97) = (c < 97) := propext (nI_ltI (b := 97) (by omega) (by decide))
  have e2 : ((122 : Int32) < nI c) = (122 < c) := propext (nI_ltI (a := 122) (by decide) (by omega))
  unfold fRd_isLetter isL
  simp only [e1, e2]
  by_cases c1 : c < 97
  · rw [if_pos c1, decide_eq_false (by omega)]; rfl
  · rw [if_neg c1, decide_eq_true (show 97 ≤ c by omega)]
    by_cases c2 : 122 < c
    · rw [if_pos c2, decide_eq_false (by omega)]; rfl
    · rw [if_neg c2, decide_eq_true (show c ≤ 122 by omega)]; rfl
theorem isDigit_v (t : SM) {c : Nat} (h : c ≤ 256) : fRd_isDigit t (nI c) = rI (bz (isD c)) t := by
  have e1 : (nI c < 48) = (c < 48) := propext (nI_ltI (b := 48) (by omega) (by decide))
  have e2 : ((57 : Int32) < nI c) = (57 < c) := propext (nI_ltI (a := 57) (by decide) (by omega))
  unfold fRd_isDigit isD
  simp only [e1, e2]
  by_cases c1 : c < 48
  · rw [if_pos c1, decide_eq_false (by omega)]; rfl
  · rw [if_neg c1, decide_eq_true (show 48 ≤ c by omega)]
    by_cases c2 : 57 < c
    · rw [if_pos c2, decide_eq_false (by omega)]; rfl
    · rw [if_neg c2, decide_eq_true (show c ≤ 57 by omega)]; rfl
/-! the class's words -/
theorem st_len (t : SM) : ∀ j, j < 12 → fjS_length t (UInt32.ofNat (j + 1)) = rI (nI (wd j).length) t := by
  intro j hj
  have : j = 0 ∨ j = 1 ∨ j = 2 ∨ j = 3 ∨ j = 4 ∨ j = 5 ∨ j = 6 ∨ j = 7 ∨ j = 8 ∨ j = 9 ∨ j = 10 ∨ j = 11 := by omega
  rcases this with rfl | rfl | rfl | rfl | rfl | rfl | rfl | rfl | rfl | rfl | rfl | rfl <;> rfl
theorem st_ch (t : SM) : ∀ j, j < 12 → ∀ i, i < (wd j).length → fjS_charAt t (UInt32.ofNat (j + 1)) (nI i) = rI (nI ((wd j).getD i 0)) t := by
  intro j hj i hi
  have : j = 0 ∨ j = 1 ∨ j = 2 ∨ j = 3 ∨ j = 4 ∨ j = 5 ∨ j = 6 ∨ j = 7 ∨ j = 8 ∨ j = 9 ∨ j = 10 ∨ j = 11 := by omega
  have h6 : ∀ j, j < 12 → (wd j).length ≤ 6 := by decide +kernel
  have hl := h6 j hj
  have hi6 : i = 0 ∨ i = 1 ∨ i = 2 ∨ i = 3 ∨ i = 4 ∨ i = 5 := by omega
  rcases this with rfl | rfl | rfl | rfl | rfl | rfl | rfl | rfl | rfl | rfl | rfl | rfl <;>
  rcases hi6 with rfl | rfl | rfl | rfl | rfl | rfl <;> first | exact absurd hi (by decide) | rfl
theorem st_Tc (n c : Nat) (hc : c ≤ 8) {j : Nat} (hj : j < 12) (k : OR) : hTc n c (UInt32.ofNat (j + 1)) k = k := by
  unfold hTc
  refine if_pos ⟨rfl, hc, ?_⟩
  have : ∀ j, j < 12 → (UInt32.ofNat (j + 1)).toNat < 14 := by decide +kernel
  exact this j hj
theorem st_sp (t : SM) (k : UInt32 → SM → OR) : ∀ j, j < 12 → bT (fRd_spelling t (nI (300 + j))) k = k (UInt32.ofNat (j + 1)) t := by
  intro j hj
  have : j = 0 ∨ j = 1 ∨ j = 2 ∨ j = 3 ∨ j = 4 ∨ j = 5 ∨ j = 6 ∨ j = 7 ∨ j = 8 ∨ j = 9 ∨ j = 10 ∨ j = 11 := by omega
  rcases this with rfl | rfl | rfl | rfl | rfl | rfl | rfl | rfl | rfl | rfl | rfl | rfl <;> rfl
def sgI (k : Nat) : Int32 := ([40, 41, 59, 43, 45, 42, 60, 61] : List Int32).getD k 0
theorem sg_all : ∀ c, c < 256 → (decide (0 ≤ fst (fun k => decide (sgI k = Int8.toInt32 (Int32.toInt8 (nI c)))) 8 0)) = isS c := by decide +kernel
theorem sg_ch : ∀ c, c < 256 → UInt32.toInt32 (Int32.toUInt32 (nI c) % 65536) = nI c := by decide +kernel
theorem sg_ld (i : Nat) (h : i < 8) (k : Int32 → OR) : hTLd 63 (nI i) k = k (sgI i) := by
  have : i = 0 ∨ i = 1 ∨ i = 2 ∨ i = 3 ∨ i = 4 ∨ i = 5 ∨ i = 6 ∨ i = 7 := by omega
  rcases this with rfl | rfl | rfl | rfl | rfl | rfl | rfl | rfl <;> rfl
theorem sg_loop (t : SM) (c : Int32) : ∀ d i f, i + d = 8 → d < f → fjL_indexOfChar_l7 f t 63 8 c (nI i) = rI (fst (fun k => decide (sgI k = c)) d i) t := by
  intro d
  induction d with
  | zero =>
    intro i f h hf
    obtain ⟨f, rfl⟩ : ∃ f', f = f' + 1 := ⟨f - 1, by omega⟩
    obtain rfl : i = 8 := by omega
    show fjL_indexOfChar_7 _ t 63 8 c (nI 8) = _
    unfold fjL_indexOfChar_7
    rw [if_pos (show (8 : Int32) ≤ nI 8 from Int32.le_refl _)]; rfl
  | succ d ih =>
    intro i f h hf
    obtain ⟨f, rfl⟩ : ∃ f', f = f' + 1 := ⟨f - 1, by omega⟩
    show fjL_indexOfChar_7 _ t 63 8 c (nI i) = rI (if decide (sgI i = c) = true then nI i else fst (fun k => decide (sgI k = c)) d (i + 1)) t
    unfold fjL_indexOfChar_7
    rw [if_neg (show ¬ (8 : Int32) ≤ nI i from nI_ge (b := 8) (by omega) (by decide)), sg_ld i (by omega), nI_1, ih (i + 1) f (by omega) (by omega)]
    by_cases e : sgI i = c
    · rw [if_pos e, decide_eq_true e, if_pos rfl]
    · rw [if_neg e, decide_eq_false e, if_neg (by decide)]
theorem indexOf_v (t : SM) {c : Nat} (hc : c < 256) : ∃ v, fjS_indexOf t 13 (UInt32.toInt32 (Int32.toUInt32 (nI c) % 65536)) = rI v t ∧ (0 ≤ v ↔ isS c = true) := by
  refine ⟨fst (fun k => decide (sgI k = Int8.toInt32 (Int32.toInt8 (nI c)))) 8 0, ?_, ?_⟩
  · rw [sg_ch c hc]
    have e1 : ¬ nI c < 0 := nI_pos (by omega)
    have e2 : ¬ (255 : Int32) < nI c := nI_nlt (a := 255) (by omega) (by decide)
    have l := sg_loop t (Int8.toInt32 (Int32.toInt8 (nI c))) 8 0 1000000 (by decide) (by decide)
    have ce : fjL_canEncode t (nI c) = rI 1 t := by unfold fjL_canEncode; rw [if_neg e1, if_neg e2]
    have ix : fjL_indexOf t 63 (nI c) 0 8 = rI (fst (fun k => decide (sgI k = Int8.toInt32 (Int32.toInt8 (nI c)))) 8 0) t := by
      unfold fjL_indexOf
      rw [ce, bI_rI, if_neg (by decide)]
      show bI (fjL_indexOfChar t 63 (nI c) 0 8) _ = _
      unfold fjL_indexOfChar
      rw [show (0 : Int32) = nI 0 from rfl, l]; rfl
    show bI (bI (fjL_indexOf t 63 (nI c) 0 8) _) _ = _
    rw [ix]; rfl
  · have := sg_all c hc
    constructor
    · intro h; rw [← this]; exact decide_eq_true h
    · intro h; rw [← this] at h; exact of_decide_eq_true h
end
