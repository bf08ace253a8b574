section
/-! looks: sets of at most seven worlds, by bits -/
def pc (S : Nat) : Nat := (S.testBit 0).toNat + (S.testBit 1).toNat + (S.testBit 2).toNat + (S.testBit 3).toNat + (S.testBit 4).toNat + (S.testBit 5).toNat + (S.testBit 6).toNat
def setB (S H : Nat) : Bool := S &&& H == 0 || S &&& H == S || (decide (1 ≤ S &&& H) && decide (S &&& H < S) && decide (1 ≤ S ^^^ (S &&& H)) && decide (S ^^^ (S &&& H) < S) && decide (pc (S &&& H) + pc (S ^^^ (S &&& H)) = pc S))
theorem setB_t : ∀ S, S < 128 → ∀ H, H < 128 → setB S H = true := by decide +kernel
theorem set_f (S : Nat) (hS : S < 128) (H : Nat) (hH : H < 128) (h0 : S &&& H ≠ 0) (h1 : S &&& H ≠ S) : 1 ≤ S &&& H ∧ S &&& H < S ∧ 1 ≤ S ^^^ (S &&& H) ∧ S ^^^ (S &&& H) < S ∧ pc (S &&& H) + pc (S ^^^ (S &&& H)) = pc S := by
  have h := setB_t S hS H hH
  unfold setB at h
  simp only [Bool.or_eq_true, Bool.and_eq_true, beq_iff_eq, decide_eq_true_eq] at h
  rcases h with (h | h) | h
  · exact absurd h h0
  · exact absurd h h1
  · exact ⟨h.1.1.1.1, h.1.1.1.2, h.1.1.2, h.1.2, h.2⟩
theorem pc_cn : ∀ S, S < 128 → cn9 (nI S) = pc S := by decide +kernel
theorem pc_pos : ∀ S, S < 128 → 1 ≤ S → 1 ≤ pc S ∧ pc S ≤ 7 := by decide +kernel
def twB2 (S : Nat) : Bool := decide (pc S < 2) || (List.range 7).any fun a => (List.range 7).any fun b => decide (a ≠ b) && S.testBit a && S.testBit b
theorem twB2_t : ∀ S, S < 128 → twB2 S = true := by decide +kernel
theorem pc_two (S : Nat) (hS : S < 128) (h2 : 2 ≤ pc S) : ∃ a, a < 7 ∧ ∃ b, b < 7 ∧ a ≠ b ∧ S.testBit a = true ∧ S.testBit b = true := by
  have h := twB2_t S hS
  unfold twB2 at h
  simp only [Bool.or_eq_true, Bool.and_eq_true, List.any_eq_true, List.mem_range, decide_eq_true_eq] at h
  rcases h with h | ⟨a, ha, b, hb, ⟨h1, h3⟩, h4⟩
  · omega
  · exact ⟨a, ha, b, hb, h1, h3, h4⟩
def mx2 (a b : Nat) : Nat := if a < b then b else a
def lkc (f H : Nat → Nat) (S c a : Nat) : Nat := if S &&& H c = 0 then a else if S &&& H c = S then a else if 1 + mx2 (f (S &&& H c)) (f (S ^^^ (S &&& H c))) < a then 1 + mx2 (f (S &&& H c)) (f (S ^^^ (S &&& H c))) else a
def lkf (f H : Nat → Nat) (S b n : Nat) : Nat := fo (fun c a => lkc f H S c a) b n
theorem lkf_s (f H : Nat → Nat) (S b n : Nat) : lkf f H S b (n + 1) = lkc f H S n (lkf f H S b n) := rfl
def lkv (f H : Nat → Nat) (n S : Nat) : Nat := if pc S ≤ 1 then 0 else lkf f H S 9 n
def lkt (H : Nat → Nat) (n : Nat) : Nat → Nat → Nat
  | 0 => fun _ => 0
  | k + 1 => fun q => if q = k then lkv (lkt H n k) H n k else lkt H n k q
theorem lkc_le (f H : Nat → Nat) (S c a : Nat) : lkc f H S c a ≤ a := by
  unfold lkc
  split
  · exact Nat.le_refl _
  · split
    · exact Nat.le_refl _
    · split <;> omega
theorem lkf_le (f H : Nat → Nat) (S b : Nat) : ∀ n, lkf f H S b n ≤ b := by
  intro n
  induction n with
  | zero => exact Nat.le_refl _
  | succ n ih => rw [lkf_s]; exact Nat.le_trans (lkc_le _ _ _ _ _) ih
theorem lkf_by (f H : Nat → Nat) (S b : Nat) {c : Nat} (h0 : S &&& H c ≠ 0) (h1 : S &&& H c ≠ S) : ∀ n, c < n → lkf f H S b n ≤ 1 + mx2 (f (S &&& H c)) (f (S ^^^ (S &&& H c))) := by
  intro n
  induction n with
  | zero => intro h; omega
  | succ n ih =>
    intro h
    rw [lkf_s]
    by_cases e : c < n
    · exact Nat.le_trans (lkc_le _ _ _ _ _) (ih e)
    · obtain rfl : c = n := by omega
      unfold lkc
      rw [if_neg h0, if_neg h1]
      split <;> omega
theorem lkf_two (f H : Nat → Nat) (S b b' : Nat) (h : b ≤ b') : ∀ n, lkf f H S b n = if lkf f H S b' n < b then lkf f H S b' n else b := by
  intro n
  induction n with
  | zero => show b = if b' < b then b' else b; rw [if_neg (by omega)]
  | succ n ih =>
    rw [lkf_s, lkf_s, ih]
    unfold lkc
    by_cases h0 : S &&& H n = 0
    · simp only [if_pos h0]
    · simp only [if_neg h0]
      by_cases h1 : S &&& H n = S
      · simp only [if_pos h1]
      · simp only [if_neg h1]
        generalize 1 + mx2 (f (S &&& H n)) (f (S ^^^ (S &&& H n))) = y
        generalize lkf f H S b' n = z
        by_cases c1 : z < b
        · rw [if_pos c1]
          by_cases c2 : y < z
          · rw [if_pos c2, if_pos (by omega)]
          · rw [if_neg c2, if_pos c1]
        · rw [if_neg c1]
          by_cases c2 : y < z
          · rw [if_pos c2]
          · rw [if_neg c2, if_neg (by omega), if_neg c1]
theorem lkt_hi (H : Nat → Nat) (n : Nat) : ∀ k q, k ≤ q → lkt H n k q = 0 := by
  intro k
  induction k with
  | zero => intro q _; rfl
  | succ k ih =>
    intro q hq
    show (if q = k then _ else lkt H n k q) = 0
    rw [if_neg (by omega)]; exact ih q (by omega)
/-- every set of two worlds at least is split by some choice -/
def Spl (H : Nat → Nat) (n K : Nat) : Prop := ∀ S, S < K → 2 ≤ pc S → ∃ c, c < n ∧ S &&& H c ≠ 0 ∧ S &&& H c ≠ S
theorem lkt_le {H : Nat → Nat} {n K : Nat} (hH : ∀ c, H c < 128) (hK : K ≤ 128) (hs : Spl H n K) : ∀ k, k ≤ K → ∀ q, 1 ≤ q → q < k → lkt H n k q ≤ pc q - 1 := by
  intro k
  induction k with
  | zero => intro _ q _ h; omega
  | succ k ih =>
    intro hk q h1 h2
    show (if q = k then _ else lkt H n k q) ≤ _
    by_cases e : q = k
    · subst e
      rw [if_pos rfl]
      unfold lkv
      by_cases hp : pc q ≤ 1
      · rw [if_pos hp]; exact Nat.zero_le _
      · rw [if_neg hp]
        obtain ⟨c, hc, c0, c1⟩ := hs q (by omega) (by omega)
        obtain ⟨a1, a2, a3, a4, a5⟩ := set_f q (by omega) (H c) (hH c) c0 c1
        have l := lkf_by (lkt H n q) H q 9 c0 c1 n hc
        have i1 := ih (by omega) _ a1 a2
        have i2 := ih (by omega) _ a3 a4
        have p1 := (pc_pos _ (show q &&& H c < 128 by omega) a1).1
        have p2 := (pc_pos _ (show q ^^^ (q &&& H c) < 128 by omega) a3).1
        have : mx2 (lkt H n q (q &&& H c)) (lkt H n q (q ^^^ (q &&& H c))) ≤ pc q - 2 := by unfold mx2; split <;> omega
        omega
    · rw [if_neg e]; exact ih (by omega) q h1 (by omega)
theorem lkf_far {H : Nat → Nat} {n K : Nat} (hH : ∀ c, H c < 128) (hK : K ≤ 128) (hs : Spl H n K) {S : Nat} (hS : S < K) (hp : 2 ≤ pc S) : lkf (lkt H n S) H S 1000000 n = lkf (lkt H n S) H S 9 n := by
  obtain ⟨c, hc, c0, c1⟩ := hs S hS hp
  obtain ⟨a1, a2, a3, a4, a5⟩ := set_f S (by omega) (H c) (hH c) c0 c1
  have l := lkf_by (lkt H n S) H S 1000000 c0 c1 n hc
  have i1 := lkt_le hH hK hs S (by omega) _ a1 a2
  have i2 := lkt_le hH hK hs S (by omega) _ a3 a4
  have p1 := (pc_pos _ (show S &&& H c < 128 by omega) a1)
  have p2 := (pc_pos _ (show S ^^^ (S &&& H c) < 128 by omega) a3)
  have : mx2 (lkt H n S (S &&& H c)) (lkt H n S (S ^^^ (S &&& H c))) ≤ 6 := by unfold mx2; split <;> omega
  rw [lkf_two (lkt H n S) H S 9 1000000 (by omega) n, if_pos (by omega)]
/-- the worlds that have a choice -/
def hvN (L : List Nat) (c : Nat) : Nat := cN (orf (fun k => (L.getD k 0).testBit c) L.length)
theorem hvN_eq {L : List Nat} (h : L.length ≤ 7) (c : Nat) : orf (fun k => (L.getD k 0).testBit c) L.length = nI (hvN L c) ∧ hvN L c < 2 ^ L.length := by
  obtain ⟨r, hr, he⟩ := orf_nI (fun k => (L.getD k 0).testBit c) L.length
  have e := he (by omega)
  have : 2 ^ L.length ≤ 2 ^ 7 := Nat.pow_le_pow_right (by decide) h
  unfold hvN
  rw [e, cN_i (by omega)]
  exact ⟨rfl, hr⟩
theorem hvN_lt {L : List Nat} (h : L.length ≤ 7) (c : Nat) : hvN L c < 128 := by
  have := (hvN_eq h c).2
  have : 2 ^ L.length ≤ 2 ^ 7 := Nat.pow_le_pow_right (by decide) h
  omega
theorem hvN_bit {L : List Nat} (h : L.length ≤ 7) (c k : Nat) (hk : k < 32) : (hvN L c).testBit k = (decide (k < L.length) && (L.getD k 0).testBit c) := by
  have h1 := (hvN_eq h c).1
  have h2 := hvN_lt h c
  rw [← b_ni (hvN L c) k (by omega), ← h1, bt_orf _ _ (by omega) k hk]
theorem spl_L {L : List Nat} {n : Nat} (h : L.length ≤ 7) (hb : ∀ w, w ∈ L → w < 2 ^ n) (hd : L.Nodup) : Spl (hvN L) n (2 ^ L.length) := by
  intro S hS hp
  have h7 : 2 ^ L.length ≤ 2 ^ 7 := Nat.pow_le_pow_right (by decide) h
  obtain ⟨a, ha, b, hb2, hab, ta, tb⟩ := pc_two S (by omega) hp
  have hbit : ∀ k, S.testBit k = true → k < L.length := by
    intro k hk
    by_cases c : k < L.length
    · exact c
    · have := Nat.testBit_lt_two_pow (Nat.lt_of_lt_of_le hS (Nat.pow_le_pow_right (n := 2) (by decide) (show L.length ≤ k by omega)))
      rw [this] at hk; exact absurd hk (by decide)
  have la := hbit a ta
  have lb := hbit b tb
  have hne : L.getD a 0 ≠ L.getD b 0 := by
    intro e
    exact hab ((List.getD_inj la lb hd).mp e)
  have wa := hb _ (getD_mem la)
  have wb := hb _ (getD_mem lb)
  have hc : ∃ c, c < n ∧ (L.getD a 0).testBit c ≠ (L.getD b 0).testBit c := by
    apply Classical.byContradiction
    intro hno
    apply hne
    apply Nat.eq_of_testBit_eq
    intro i
    by_cases hi : i < n
    · apply Classical.byContradiction
      intro e
      exact hno ⟨i, hi, e⟩
    · rw [Nat.testBit_lt_two_pow (Nat.lt_of_lt_of_le wa (Nat.pow_le_pow_right (by decide) (by omega))), Nat.testBit_lt_two_pow (Nat.lt_of_lt_of_le wb (Nat.pow_le_pow_right (by decide) (by omega)))]
  obtain ⟨c, hc, hx⟩ := hc
  refine ⟨c, hc, fun e => ?_, fun e => ?_⟩
  · have e1 := congrArg (fun z => z.testBit a) e
    have e2 := congrArg (fun z => z.testBit b) e
    simp only [Nat.testBit_and, ta, tb, Bool.true_and, Nat.zero_testBit, hvN_bit h c a (by omega), hvN_bit h c b (by omega), decide_eq_true la, decide_eq_true lb] at e1 e2
    exact hx (e1.trans e2.symm)
  · have e1 := congrArg (fun z => z.testBit a) e
    have e2 := congrArg (fun z => z.testBit b) e
    simp only [Nat.testBit_and, ta, tb, Bool.true_and, hvN_bit h c a (by omega), hvN_bit h c b (by omega), decide_eq_true la, decide_eq_true lb] at e1 e2
    exact hx (e1.trans e2.symm)
theorem nI_rest {S H : Nat} (h1 : S < 128) (h2 : H < 128) : nI S &&& (nI (S &&& H) ^^^ (-1)) = nI (S ^^^ (S &&& H)) := by
  have h3 : S &&& H < 128 := Nat.lt_of_le_of_lt Nat.and_le_left h1
  have h4 : S ^^^ (S &&& H) < 2 ^ 7 := Nat.xor_lt_two_pow h1 h3
  apply b_ext
  intro i hi
  rw [b_and, b_not _ hi, b_ni _ _ (by omega), b_ni _ _ (by omega), b_ni _ _ (by omega), Nat.testBit_xor, Nat.testBit_and]
  cases S.testBit i <;> cases H.testBit i <;> rfl
theorem nI_sub0 {S H : Nat} (h1 : S < 128) : (nI (S &&& H) = 0) = (S &&& H = 0) := nI_z (by have : S &&& H ≤ S := Nat.and_le_left; omega)
theorem nI_subS {S H : Nat} (h1 : S < 128) : (nI (S &&& H) = nI S) = (S &&& H = S) := propext (nI_eq (by have : S &&& H ≤ S := Nat.and_le_left; omega) (by omega))
end
