section
/-! the same, by sweeps over all sets -/
variable {G : GG} {o : Nat → Nat → Bool} {E : Nat → Nat → Nat → Bool} {s K e : Nat}
def Mx (E : Nat → Nat → Nat → Bool) (K : Nat) (W : Nat → NN) (S p : Nat) : Nat := wmax (fun w => W (LK E K S w p) p) S K
def upd2 (W : Nat → NN) (S p v : Nat) : Nat → NN := fun S' p' => if S' = S ∧ p' = p then v else W S' p'
def byv (G : GG) (E : Nat → Nat → Nat → Bool) (K : Nat) (W : Nat → NN) (S p i : Nat) : Nat := if 1000000 < sk G i + Mx E K W S (ote G i p) then 1000000 else sk G i + Mx E K W S (ote G i p)
def betI (G : GG) (E : Nat → Nat → Nat → Bool) (K : Nat) (S p i : Nat) (W : Nat → NN) : Nat → NN := if byv G E K W S p i < W S p then upd2 W S p (byv G E K W S p i) else W
def bets (G : GG) (o : Nat → Nat → Bool) (E : Nat → Nat → Nat → Bool) (K : Nat) (S p : Nat) (W : Nat → NN) (s : Nat) : Nat → NN := fo (fun i W => if tch G i p = true then (if o (fsN S) i = true then betI G E K S p i W else W) else W) W s
def swS (G : GG) (o : Nat → Nat → Bool) (s : Nat) (E : Nat → Nat → Nat → Bool) (K p : Nat) (W : Nat → NN) (N : Nat) : Nat → NN := fo (fun j W => if LK E K (j + 1) (fsN (j + 1)) p = j + 1 then bets G o E K (j + 1) p W s else W) W N
def swP (G : GG) (o : Nat → Nat → Bool) (s : Nat) (E : Nat → Nat → Nat → Bool) (K e : Nat) (W : Nat → NN) (N : Nat) : Nat → NN := fo (fun p W => if p = e then W else swS G o s E K p W (2 ^ K - 1)) W N
/-- never below, and settled where it takes less than k -/
def Abv (G : GG) (o : Nat → Nat → Bool) (s : Nat) (E : Nat → Nat → Nat → Bool) (K e : Nat) (k : Nat) (W : Nat → NN) : Prop := ∀ S p, 1 ≤ S → S < 2 ^ K → p < 6 → nt E K S p → CW G o s E K e S p ≤ W S p ∧ W S p ≤ 1000000 ∧ (CW G o s E K e S p < k → W S p = CW G o s E K e S p)
theorem nt_part (hE : EQV E) (hK : K ≤ 7) {S w p : Nat} (hS : S < 2 ^ K) (hw : S.testBit w = true) : 1 ≤ LK E K S w p ∧ LK E K S w p < 2 ^ K ∧ nt E K (LK E K S w p) p := by
  have h1 := tb_pos (LK_pos (p := p) hE hK hS hw)
  have h2 : LK E K S w p < 2 ^ K := Nat.lt_of_le_of_lt (LK_le hK) hS
  exact ⟨h1, h2, LK_idem hE hK (fsN_t hK h2 h1)⟩
theorem Mx_ge (hE : EQV E) (hK : K ≤ 7) {k : Nat} {W : Nat → NN} (h : Abv G o s E K e k W) {S p : Nat} (hS : S < 2 ^ K) (h1 : 1 ≤ S) (hp : p < 6) : CW G o s E K e S p ≤ Mx E K W S p := by
  rw [← CW_all hE hK hS h1]
  exact wmax_mono K (fun w _ hw => by
    obtain ⟨a, b, c⟩ := nt_part (p := p) hE hK hS hw
    exact (h _ _ a b hp c).1)
theorem Mx_le (hE : EQV E) (hK : K ≤ 7) {k : Nat} {W : Nat → NN} (h : Abv G o s E K e k W) {S p : Nat} (hS : S < 2 ^ K) (hp : p < 6) : Mx E K W S p ≤ 1000000 :=
  wmax_le K (fun w _ hw => by
    obtain ⟨a, b, c⟩ := nt_part (p := p) hE hK hS hw
    exact (h _ _ a b hp c).2.1)
theorem Mx_eq (hE : EQV E) (hK : K ≤ 7) {k : Nat} {W : Nat → NN} (h : Abv G o s E K e k W) {S p : Nat} (hS : S < 2 ^ K) (h1 : 1 ≤ S) (hp : p < 6) (hk : CW G o s E K e S p < k) : Mx E K W S p = CW G o s E K e S p := by
  refine Nat.le_antisymm ?_ (Mx_ge hE hK h hS h1 hp)
  have hall := CW_all (G := G) (o := o) (s := s) (e := e) (p := p) hE hK hS h1
  refine wmax_le K (fun w hwK hw => ?_)
  obtain ⟨a, b, c⟩ := nt_part (p := p) hE hK hS hw
  have hle : CW G o s E K e (LK E K S w p) p ≤ CW G o s E K e S p := by
    rw [← hall]
    exact le_wmax (f := fun w => CW G o s E K e (LK E K S w p) p) K hwK hw
  rw [(h _ _ a b hp c).2.2 (by omega)]
  exact hle
theorem ote6 (hv : SV G s) {i p : Nat} (hi : i < s) : ote G i p < 6 := ote_lt hv hi p
theorem Abv_bet (hE : EQV E) (hK : K ≤ 7) (hv : SV G s) {k : Nat} {W : Nat → NN} (h : Abv G o s E K e k W) {S p i : Nat} (hS : S < 2 ^ K) (h1 : 1 ≤ S) (hp : p < 6) (hpe : p ≠ e) (hn : nt E K S p) (hi : i < s) (ht : tch G i p = true) (ho : o (fsN S) i = true) (hmil : CW G o s E K e S p ≤ 1000000) : Abv G o s E K e k (betI G E K S p i W) := by
  unfold betI
  split
  · rename_i c
    have hge : CW G o s E K e S p ≤ byv G E K W S p i := by
      have a := CW_le (o := o) hv hpe hn hi ho ht
      have b := Mx_ge hE hK h hS h1 (ote6 (p := p) hv hi)
      unfold byv
      split <;> omega
    have hle : byv G E K W S p i ≤ 1000000 := by unfold byv; split <;> omega
    intro S' p' a b q d
    obtain ⟨r1, r2, r3⟩ := h S' p' a b q d
    unfold upd2
    by_cases ee : S' = S ∧ p' = p
    · rw [if_pos ee]
      obtain ⟨rfl, rfl⟩ := ee
      refine ⟨hge, hle, fun hk => ?_⟩
      have := r3 hk
      omega
    · rw [if_neg ee]; exact ⟨r1, r2, r3⟩
  · exact h
theorem bet_le (W : Nat → NN) (S p i S' p' : Nat) : betI G E K S p i W S' p' ≤ W S' p' := by
  unfold betI
  split
  · rename_i c
    unfold upd2
    split
    · rename_i ee; rw [ee.1, ee.2]; exact Nat.le_of_lt c
    · exact Nat.le_refl _
  · exact Nat.le_refl _
theorem bet_at (W : Nat → NN) (S p i : Nat) : betI G E K S p i W S p ≤ byv G E K W S p i := by
  unfold betI
  split
  · unfold upd2; rw [if_pos ⟨rfl, rfl⟩]; exact Nat.le_refl _
  · rename_i c; omega
theorem bets_s (S p : Nat) (W : Nat → NN) (n : Nat) : bets G o E K S p W (n + 1) = if tch G n p = true then (if o (fsN S) n = true then betI G E K S p n (bets G o E K S p W n) else bets G o E K S p W n) else bets G o E K S p W n := rfl
theorem swS_s (p : Nat) (W : Nat → NN) (n : Nat) : swS G o s E K p W (n + 1) = if LK E K (n + 1) (fsN (n + 1)) p = n + 1 then bets G o E K (n + 1) p (swS G o s E K p W n) s else swS G o s E K p W n := rfl
theorem swP_s (W : Nat → NN) (n : Nat) : swP G o s E K e W (n + 1) = if n = e then swP G o s E K e W n else swS G o s E K n (swP G o s E K e W n) (2 ^ K - 1) := rfl
theorem bets_le (S p : Nat) (W : Nat → NN) (S' p' : Nat) : ∀ n, bets G o E K S p W n S' p' ≤ W S' p' := by
  intro n
  induction n with
  | zero => exact Nat.le_refl _
  | succ n ih =>
    rw [bets_s]
    split
    · split
      · exact Nat.le_trans (bet_le _ _ _ _ _ _) ih
      · exact ih
    · exact ih
theorem swS_le (p : Nat) (W : Nat → NN) (S' p' : Nat) : ∀ n, swS G o s E K p W n S' p' ≤ W S' p' := by
  intro n
  induction n with
  | zero => exact Nat.le_refl _
  | succ n ih =>
    rw [swS_s]
    split
    · exact Nat.le_trans (bets_le _ _ _ _ _ _) ih
    · exact ih
theorem swP_le (W : Nat → NN) (S' p' : Nat) : ∀ n, swP G o s E K e W n S' p' ≤ W S' p' := by
  intro n
  induction n with
  | zero => exact Nat.le_refl _
  | succ n ih =>
    rw [swP_s]
    split
    · exact ih
    · exact Nat.le_trans (swS_le _ _ _ _ _) ih
/-- the settled ones grow by those that take k -/
def Rch (G : GG) (o : Nat → Nat → Bool) (s : Nat) (E : Nat → Nat → Nat → Bool) (K e : Nat) (k : Nat) (S p : Nat) (W : Nat → NN) : Prop := CW G o s E K e S p ≤ k → W S p ≤ CW G o s E K e S p
theorem bets_ok (hE : EQV E) (hK : K ≤ 7) (hv : SV G s) (hs : s ≤ 12) {k : Nat} {W : Nat → NN} (h : Abv G o s E K e k W) {S p : Nat} (hS : S < 2 ^ K) (h1 : 1 ≤ S) (hp : p < 6) (hpe : p ≠ e) (hn : nt E K S p) :
    (∀ n, n ≤ s → Abv G o s E K e k (bets G o E K S p W n)) ∧ Rch G o s E K e k S p (bets G o E K S p W s) := by
  have hmil := CW_mil (G := G) (o := o) (e := e) hE hK hv hs hS h1 p
  have hall : ∀ n, n ≤ s → Abv G o s E K e k (bets G o E K S p W n) := by
    intro n
    induction n with
    | zero => intro _; exact h
    | succ n ih =>
      intro hn2
      have h2 := ih (by omega)
      rw [bets_s]
      split
      · rename_i ht
        split
        · rename_i ho
          exact Abv_bet hE hK hv h2 hS h1 hp hpe hn (by omega) ht ho hmil
        · exact h2
      · exact h2
  refine ⟨hall, fun hk => ?_⟩
  by_cases hf : CW G o s E K e S p < 1000000
  · obtain ⟨i, hi, ho, ht, heq⟩ := CW_eq (o := o) hv hp hpe hn hf
    have hge1 := (hv i hi).2.2.2.1
    have reach : ∀ n, i < n → n ≤ s → bets G o E K S p W n S p ≤ CW G o s E K e S p := by
      intro n
      induction n with
      | zero => intro h; omega
      | succ n ih =>
        intro h3 h4
        by_cases c : i < n
        · have h5 := ih c (by omega)
          rw [bets_s]
          split
          · split
            · exact Nat.le_trans (bet_le _ _ _ _ _ _) h5
            · exact h5
          · exact h5
        · obtain rfl : i = n := by omega
          rw [bets_s, if_pos ht, if_pos ho]
          have hm := Mx_eq hE hK (hall i (by omega)) hS h1 (ote6 (p := p) hv hi) (by omega)
          refine Nat.le_trans (bet_at _ _ _ _) ?_
          unfold byv
          rw [hm]
          split <;> omega
    exact reach s hi (Nat.le_refl _)
  · have := (hall s (Nat.le_refl _) S p h1 hS hp hn).2.1
    omega
theorem swS_ok (hE : EQV E) (hK : K ≤ 7) (hv : SV G s) (hs : s ≤ 12) {k : Nat} {W : Nat → NN} (h : Abv G o s E K e k W) {p : Nat} (hp : p < 6) (hpe : p ≠ e) :
    ∀ n, n ≤ 2 ^ K - 1 → Abv G o s E K e k (swS G o s E K p W n) ∧ ∀ S, 1 ≤ S → S ≤ n → nt E K S p → Rch G o s E K e k S p (swS G o s E K p W n) := by
  intro n
  induction n with
  | zero => intro _; exact ⟨h, fun S a b => by omega⟩
  | succ n ih =>
    intro hn
    obtain ⟨h1, h2⟩ := ih (by omega)
    have hpw := Nat.two_pow_pos K
    rw [swS_s]
    by_cases c : LK E K (n + 1) (fsN (n + 1)) p = n + 1
    · rw [if_pos c]
      obtain ⟨a1, a2⟩ := bets_ok hE hK hv hs h1 (S := n + 1) (by omega) (by omega) hp hpe c
      refine ⟨a1 s (Nat.le_refl _), fun S b1 b2 b3 hk => ?_⟩
      by_cases d : S = n + 1
      · subst d; exact a2 hk
      · exact Nat.le_trans (bets_le _ _ _ _ _ _) (h2 S b1 (by omega) b3 hk)
    · rw [if_neg c]
      refine ⟨h1, fun S b1 b2 b3 => ?_⟩
      by_cases d : S = n + 1
      · subst d; exact absurd b3 c
      · exact h2 S b1 (by omega) b3
theorem swP_ok (hE : EQV E) (hK : K ≤ 7) (hv : SV G s) (hs : s ≤ 12) {k : Nat} {W : Nat → NN} (h : Abv G o s E K e k W) :
    ∀ n, n ≤ 6 → Abv G o s E K e k (swP G o s E K e W n) ∧ ∀ S p, 1 ≤ S → S < 2 ^ K → p < n → p ≠ e → nt E K S p → Rch G o s E K e k S p (swP G o s E K e W n) := by
  intro n
  induction n with
  | zero => intro _; exact ⟨h, fun S p a b c => by omega⟩
  | succ n ih =>
    intro hn
    obtain ⟨h1, h2⟩ := ih (by omega)
    rw [swP_s]
    by_cases c : n = e
    · rw [if_pos c]
      refine ⟨h1, fun S p b1 b2 b3 b4 => h2 S p b1 b2 (by omega) b4⟩
    · rw [if_neg c]
      obtain ⟨a1, a2⟩ := swS_ok hE hK hv hs h1 (p := n) (by omega) c (2 ^ K - 1) (Nat.le_refl _)
      refine ⟨a1, fun S p b1 b2 b3 b4 b5 hk => ?_⟩
      by_cases d : p = n
      · subst d; exact a2 S b1 (by omega) b5 hk
      · exact Nat.le_trans (swS_le _ _ _ _ _) (h2 S p b1 b2 (by omega) b4 b5 hk)
/-- the goal stands at 0 -/
def W00 (e : Nat) : Nat → NN := fun _ p => if p = e then 0 else 1000000
def AbG (G : GG) (o : Nat → Nat → Bool) (s : Nat) (E : Nat → Nat → Nat → Bool) (K e : Nat) (k : Nat) (W : Nat → NN) : Prop := Abv G o s E K e k W ∧ ∀ S, W S e = 0
theorem AbG_0 (hE : EQV E) (hK : K ≤ 7) (hv : SV G s) (hs : s ≤ 12) : AbG G o s E K e 0 (W00 e) := by
  refine ⟨fun S p h1 hS hp hn => ?_, fun S => if_pos rfl⟩
  unfold W00
  by_cases c : p = e
  · rw [if_pos c, c, CW_goal]; exact ⟨Nat.le_refl _, Nat.zero_le _, fun h => by omega⟩
  · rw [if_neg c]
    exact ⟨CW_mil hE hK hv hs hS h1 p, Nat.le_refl _, fun h => by omega⟩
theorem AbG_s (hE : EQV E) (hK : K ≤ 7) (hv : SV G s) (hs : s ≤ 12) {k : Nat} {W : Nat → NN} (h : AbG G o s E K e k W) : AbG G o s E K e (k + 1) (swP G o s E K e W 6) := by
  obtain ⟨a1, a2⟩ := swP_ok hE hK hv hs h.1 6 (Nat.le_refl _)
  refine ⟨fun S p h1 hS hp hn => ?_, fun S => ?_⟩
  · obtain ⟨b1, b2, b3⟩ := a1 S p h1 hS hp hn
    refine ⟨b1, b2, fun hk => ?_⟩
    by_cases c : p = e
    · subst c
      have := swP_le (G := G) (o := o) (s := s) (E := E) (K := K) (e := p) W S p 6
      rw [h.2 S] at this
      rw [CW_goal]; omega
    · have := a2 S p h1 hS hp c hn (by omega)
      omega
  · have := swP_le (G := G) (o := o) (s := s) (E := E) (K := K) (e := e) W S e 6
    rw [h.2 S] at this
    omega
theorem AbG_fix (hE : EQV E) (hK : K ≤ 7) (hv : SV G s) (hs : s ≤ 12) {k : Nat} {W : Nat → NN} (h : AbG G o s E K e k W) (hf : swP G o s E K e W 6 = W) : ∀ j, AbG G o s E K e (k + j) W := by
  intro j
  induction j with
  | zero => exact h
  | succ j ih =>
    have := AbG_s hE hK hv hs ih
    rw [hf] at this
    exact this
theorem AbG_all (hE : EQV E) (hK : K ≤ 7) (hv : SV G s) (hs : s ≤ 12) {k : Nat} {W : Nat → NN} (h : AbG G o s E K e k W) (hk : 99793 ≤ k) {S p : Nat} (h1 : 1 ≤ S) (hS : S < 2 ^ K) (hp : p < 6) (hn : nt E K S p) : W S p = CW G o s E K e S p := by
  obtain ⟨b1, b2, b3⟩ := h.1 S p h1 hS hp hn
  have := CW_small (G := G) (o := o) (e := e) hE hK hv hs hS h1 p
  rcases this with c | c
  · omega
  · exact b3 (by omega)
end
