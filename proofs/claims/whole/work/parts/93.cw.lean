section
/-! how long it takes at worst, set by set -/
variable {G : GG} {o : Nat → Nat → Bool} {E : Nat → Nat → Nat → Bool} {s K e : Nat}
def ini (E : Nat → Nat → Nat → Bool) (K e : Nat) (T : Nat → NN) (S : Nat) : NN := fun p => if p = e then 0 else if LK E K S (fsN S) p = S then 1000000 else wmax (fun w => T (LK E K S w p) p) S K
def dcd (E : Nat → Nat → Nat → Bool) (K e S : Nat) (p : Nat) : Bool := decide (p = e) || !decide (LK E K S (fsN S) p = S)
def stl (G : GG) (o : Nat → Nat → Bool) (s : Nat) (E : Nat → Nat → Nat → Bool) (K e : Nat) (T : Nat → NN) (S : Nat) : NN := itr (swd G (o (fsN S)) (dcd E K e S) s) (ini E K e T S) 6
def CTb (G : GG) (o : Nat → Nat → Bool) (s : Nat) (E : Nat → Nat → Nat → Bool) (K e : Nat) : Nat → Nat → NN
  | 0 => fun _ _ => 0
  | k + 1 => fun S => if S = k then stl G o s E K e (CTb G o s E K e k) k else CTb G o s E K e k S
def CW (G : GG) (o : Nat → Nat → Bool) (s : Nat) (E : Nat → Nat → Nat → Bool) (K e S : Nat) : NN := stl G o s E K e (CTb G o s E K e S) S
theorem CTb_lt {P : Nat} : ∀ k, P < k → CTb G o s E K e k P = CW G o s E K e P := by
  intro k
  induction k with
  | zero => intro h; omega
  | succ k ih =>
    intro h
    show (if P = k then _ else CTb G o s E K e k P) = _
    by_cases c : P = k
    · rw [if_pos c, c]; rfl
    · rw [if_neg c]; exact ih (by omega)
/-- what is known of it -/
def nt (E : Nat → Nat → Nat → Bool) (K S p : Nat) : Prop := LK E K S (fsN S) p = S
theorem CW_goal {S : Nat} : CW G o s E K e S e = 0 := by
  have h1 : dcd E K e S e = true := by unfold dcd; simp
  unfold CW stl
  rw [itd_dec h1]
  unfold ini
  rw [if_pos rfl]
theorem LK_lt (hE : EQV E) (hK : K ≤ 7) {S w p : Nat} (hS : S < 2 ^ K) (h1 : 1 ≤ S) (hn : ¬ nt E K S p) (hw : S.testBit w = true) : LK E K S w p < S := by
  refine Nat.lt_of_le_of_ne (LK_le hK) (fun c => hn ?_)
  exact LK_all hE hK hS hw c (fsN_t hK hS h1)
theorem LK_pos (hE : EQV E) (hK : K ≤ 7) {S w p : Nat} (hS : S < 2 ^ K) (hw : S.testBit w = true) : (LK E K S w p).testBit w = true := LK_mk hK (tb_ltK hS hw) hw (hE.1 p w)
theorem CW_tell (hE : EQV E) (hK : K ≤ 7) {S p : Nat} (hS : S < 2 ^ K) (h1 : 1 ≤ S) (hp : p ≠ e) (hn : ¬ nt E K S p) : CW G o s E K e S p = wmax (fun w => CW G o s E K e (LK E K S w p) p) S K := by
  have h2 : dcd E K e S p = true := by unfold dcd; rw [decide_eq_false (show ¬ LK E K S (fsN S) p = S from hn)]; simp
  show stl G o s E K e (CTb G o s E K e S) S p = _
  unfold stl
  rw [itd_dec h2]
  unfold ini
  rw [if_neg hp, if_neg (show ¬ LK E K S (fsN S) p = S from hn)]
  exact wmax_cg K (fun w _ hw => by rw [CTb_lt S (LK_lt hE hK hS h1 hn hw)])
theorem CW_all (hE : EQV E) (hK : K ≤ 7) {S p : Nat} (hS : S < 2 ^ K) (h1 : 1 ≤ S) : wmax (fun w => CW G o s E K e (LK E K S w p) p) S K = CW G o s E K e S p := by
  have hf := fsN_t hK hS h1
  by_cases hp : p = e
  · subst hp
    rw [CW_goal]
    exact wmax_co K (fun w _ _ => CW_goal) (tb_ltK hS hf) hf
  · by_cases hn : nt E K S p
    · exact wmax_co K (fun w _ hw => by rw [LK_all hE hK hS hf hn hw]) (tb_ltK hS hf) hf
    · exact (CW_tell hE hK hS h1 hp hn).symm
theorem dcd_f {S p : Nat} (hp : p ≠ e) (hn : nt E K S p) : dcd E K e S p = false := by
  unfold dcd
  rw [decide_eq_false hp, decide_eq_true (show LK E K S (fsN S) p = S from hn)]; rfl
theorem CW_le (hv : SV G s) {S p i : Nat} (hp : p ≠ e) (hn : nt E K S p) (hi : i < s) (ho : o (fsN S) i = true) (ht : tch G i p = true) : CW G o s E K e S p ≤ sk G i + CW G o s E K e S (ote G i p) := six_le hv hi ho ht (dcd_f hp hn)
theorem CW_eq (hv : SV G s) {S p : Nat} (hp6 : p < 6) (hp : p ≠ e) (hn : nt E K S p) (hf : CW G o s E K e S p < 1000000) : ∃ i, i < s ∧ o (fsN S) i = true ∧ tch G i p = true ∧ sk G i + CW G o s E K e S (ote G i p) = CW G o s E K e S p := by
  refine six_eq hv hp6 ?_
  have : ini E K e (CTb G o s E K e S) S p = 1000000 := by
    unfold ini
    rw [if_neg hp, if_pos (show LK E K S (fsN S) p = S from hn)]
  rw [this]; exact hf
theorem CW_BB (hE : EQV E) (hK : K ≤ 7) (hv : SV G s) (hs : s ≤ 12) : ∀ N S, S ≤ N → S < 2 ^ K → 1 ≤ S → BB (144 * pc S) (CW G o s E K e S) := by
  intro N
  induction N with
  | zero => intro S h1 h2 h3; omega
  | succ N ih =>
    intro S hN hS h1
    have hS7 := pw7 hK hS
    have hp1 := (pc_pos S hS7 h1).1
    have h0 : BB (144 * (pc S - 1)) (ini E K e (CTb G o s E K e S) S) := by
      intro p
      unfold ini
      by_cases hp : p = e
      · rw [if_pos hp]; exact Or.inr (Nat.zero_le _)
      · rw [if_neg hp]
        by_cases hn : LK E K S (fsN S) p = S
        · rw [if_pos hn]; exact Or.inl rfl
        · rw [if_neg hn]
          refine wmax_or K (fun w _ hw => ?_)
          have hlt := LK_lt (p := p) hE hK hS h1 hn hw
          have hpo := tb_pos (LK_pos (p := p) hE hK hS hw)
          rw [CTb_lt S hlt]
          have hb := ih _ (by omega) (by omega) hpo p
          have hpc := pc_sub (LK E K S w p) (by omega) S hS7 (LK_and hK) (by omega)
          rcases hb with hb | hb
          · exact Or.inl hb
          · right
            have : 144 * pc (LK E K S w p) ≤ 144 * (pc S - 1) := Nat.mul_le_mul_left _ (by omega)
            omega
    have h2 := BB_itd (o := o (fsN S)) (dc := dcd E K e S) hv h0 6
    exact BB_up h2 (by omega)
theorem CW_small (hE : EQV E) (hK : K ≤ 7) (hv : SV G s) (hs : s ≤ 12) {S : Nat} (hS : S < 2 ^ K) (h1 : 1 ≤ S) (p : Nat) : CW G o s E K e S p = 1000000 ∨ CW G o s E K e S p ≤ 99792 := by
  have hb := CW_BB (G := G) (o := o) (e := e) hE hK hv hs S S (Nat.le_refl _) hS h1 p
  have := (pc_pos S (pw7 hK hS) h1).2
  omega
theorem CW_mil (hE : EQV E) (hK : K ≤ 7) (hv : SV G s) (hs : s ≤ 12) {S : Nat} (hS : S < 2 ^ K) (h1 : 1 ≤ S) (p : Nat) : CW G o s E K e S p ≤ 1000000 := by
  have := CW_small (G := G) (o := o) (e := e) hE hK hv hs hS h1 p
  omega
end
