section
/-! the model's reading, over the tape's tokens -/
def zr (c : Nat) : Nat := if c = 0 then 0 else if c = 11 then 1 else if c = 12 then 2 else if c = 13 then 3 else if c ≤ 15 then 4 else if c ≤ 17 then 5 else if c = 18 then 6 else 7
def zu (l : Nat) : List Nat → List Nat
  | [] => []
  | h :: r => if zr h < l then h :: r else zu l r
def zo (l : Nat) : List Nat → List Nat
  | [] => []
  | h :: r => if zr h < l then [] else h :: zo l r
def zp : List Nat → Nat
  | [] => 0
  | h :: r => (if h = 0 ∨ h = 13 ∨ h = 19 then 1 else 0) + zp r
def zt : List Nat → Nat
  | [] => 0
  | h :: _ => zr h
def zs (k : Nat) : Nat := if k = 303 then 11 else if k = 304 then 12 else if k = 60 then 14 else if k = 61 then 15 else if k = 43 then 16 else if k = 45 then 17 else if k = 42 then 18 else 0
def zl (c : Nat) : Nat := if zr c = 4 then 5 else zr c
abbrev SRes : Type := Sum Nat (Nat × List Nat)
def sq (B : Nat → Nat) (p : Nat) (K : Nat → Bool → Bool → List Nat → List Nat → SRes) (a : Nat) (w mn : Bool) (H O : List Nat) : SRes :=
  if w = true then
    if tC B p a = 258 then K (tN B p a) false mn (zu 7 H) (O ++ ([100000 + tV B p a] ++ zo 7 H))
    else if 306 ≤ tC B p a then K (tN B p a) false mn (zu 7 H) (O ++ ([tC B p a - 306] ++ zo 7 H))
    else if tC B p a = 305 ∧ mn = true then (if zp H = 5 then .inl (tB B p a) else K (tN B p a) true mn (13 :: H) O)
    else if tC B p a = 45 then (if zp H = 5 then .inl (tB B p a) else K (tN B p a) true false (19 :: H) O)
    else if tC B p a = 40 then (if zp H = 5 then .inl (tB B p a) else K (tN B p a) true true (0 :: H) O)
    else .inl (tB B p a)
  else if tC B p a = 59 then (if zu 1 H = [] then .inr (tN B p a, O ++ zo 1 H) else .inl (tB B p a))
  else if tC B p a = 41 then (if zu 1 H = [] then .inl (tB B p a) else K (tN B p a) false mn (zu 7 (zu 1 H).tail) (O ++ (zo 1 H ++ zo 7 (zu 1 H).tail)))
  else if zs (tC B p a) = 0 then .inl (tB B p a)
  else if zr (zs (tC B p a)) = 4 ∧ zt (zu 5 H) = 4 then .inl (tB B p a)
  else K (tN B p a) true (decide (zs (tC B p a) ≤ 12)) (zs (tC B p a) :: zu (zl (zs (tC B p a))) H) (O ++ zo (zl (zs (tC B p a))) H)
theorem zs_256 : zs 256 = 0 := rfl
theorem sq_cg {B : Nat → Nat} {p a : Nat} {K K' : Nat → Bool → Bool → List Nat → List Nat → SRes} (h : tC B p a ≠ 256 → ∀ w mn H O, K (tN B p a) w mn H O = K' (tN B p a) w mn H O) (w mn : Bool) (H O : List Nat) : sq B p K a w mn H O = sq B p K' a w mn H O := by
  unfold sq
  by_cases e : tC B p a = 256
  · rw [e]
    simp [zs_256]
  · simp only [h e]
def srF (B : Nat → Nat) (p : Nat) : Nat → Nat → Bool → Bool → List Nat → List Nat → SRes
  | 0, _, _, _, _, _ => .inl 0
  | f + 1, a, w, mn, H, O => sq B p (srF B p f) a w mn H O
theorem sr_more {B : Nat → Nat} {p : Nat} : ∀ f a w mn H O, a ≤ p → p < a + f → srF B p (f + 1) a w mn H O = srF B p f a w mn H O := by
  intro f
  induction f with
  | zero => intro a w mn H O h1 h2; omega
  | succ f ih =>
    intro a w mn H O h1 h2
    show sq B p (srF B p (f + 1)) a w mn H O = sq B p (srF B p f) a w mn H O
    refine sq_cg (fun hc w mn H O => ?_) w mn H O
    have := tN_lt h1 hc
    have h3 := tN_le (B := B) h1
    exact ih (tN B p a) w mn H O h3.2 (by omega)
/-- what comes of an E from a place on: a fault, or its end and its codes -/
def Sr (B : Nat → Nat) (p : Nat) : Nat → Bool → Bool → List Nat → List Nat → SRes := srF B p 200
theorem Sr_eq {B : Nat → Nat} {p a : Nat} (hp : p ≤ 160) (ha : a ≤ p) (w mn : Bool) (H O : List Nat) : Sr B p a w mn H O = sq B p (Sr B p) a w mn H O := by
  show sq B p (srF B p 199) a w mn H O = sq B p (srF B p 200) a w mn H O
  refine sq_cg (fun hc w mn H O => ?_) w mn H O
  have h3 := tN_le (B := B) ha
  exact (sr_more 199 _ w mn H O h3.2 (by omega)).symm
/-! what is held, and what comes of it -/
theorem zu_zu {l k : Nat} (h : l ≤ k) : ∀ H, zu l (zu k H) = zu l H ∧ zo k H ++ zo l (zu k H) = zo l H := by
  intro H
  induction H with
  | nil => exact ⟨rfl, rfl⟩
  | cons c r ih =>
    by_cases e : zr c < k
    · have e1 : zu k (c :: r) = c :: r := if_pos e
      have e2 : zo k (c :: r) = [] := if_pos e
      rw [e1, e2]; exact ⟨rfl, rfl⟩
    · have e1 : zu k (c :: r) = zu k r := if_neg e
      have e2 : zo k (c :: r) = c :: zo k r := if_neg e
      have e3 : zu l (c :: r) = zu l r := if_neg (by omega)
      have e4 : zo l (c :: r) = c :: zo l r := if_neg (by omega)
      rw [e1, e2, e3, e4]
      exact ⟨ih.1, by rw [List.cons_append, ih.2]⟩
theorem zu_top {l : Nat} {H : List Nat} (h : zt H < l) : zu l H = H ∧ zo l H = [] := by
  cases H with
  | nil => exact ⟨rfl, rfl⟩
  | cons c r => exact ⟨if_pos h, if_pos h⟩
theorem zu_c {l c : Nat} {r : List Nat} (h : l ≤ zr c) : zu l (c :: r) = zu l r ∧ zo l (c :: r) = c :: zo l r := ⟨if_neg (by omega), if_neg (by omega)⟩
def Ps (lv : Nat) (H O D H' O' : List Nat) : Prop := ∀ l, 1 ≤ l → l ≤ lv → zu l H' = zu l H ∧ O' ++ zo l H' = O ++ (D ++ zo l H)
def Fl (lv : Nat) (H' : List Nat) (k : Nat) : Prop := (lv ≤ 6 → k ≠ 42) ∧ (lv ≤ 5 → k ≠ 43 ∧ k ≠ 45) ∧ (lv ≤ 3 → k = 60 ∨ k = 61 → zt (zu 5 H') = 4) ∧ (lv ≤ 2 → k ≠ 304) ∧ (lv ≤ 1 → k ≠ 303)
def Pr (lv o k : Nat) (H : List Nat) (mn : Bool) : Prop := zp H = o ∧ (lv ≠ 7 → zt H < (if lv = 3 then 4 else lv)) ∧ (lv ≤ 3 → mn = true) ∧ (5 ≤ lv → mn = true → k = 305 → o = 5)
def Wf (D : List Nat) : Prop := (∀ c ∈ D, vcd c) ∧ ∀ d r, dpt (D ++ r) d = dpt r (d + 1)
def Okc (B : Nat → Nat) (p lv o a a' : Nat) (D : List Nat) : Prop := ∀ H O mn, Pr lv o (tC B p a) H mn → ∃ m' H' O', Sr B p a true mn H O = Sr B p a' false m' H' O' ∧ Ps lv H O D H' O' ∧ Fl lv H' (tC B p a')
def Erc (B : Nat → Nat) (p lv o a b : Nat) : Prop := ∀ H O mn, Pr lv o (tC B p a) H mn → Sr B p a true mn H O = .inl b
/-- the same, between a method's loop -/
def Lpc (B : Nat → Nat) (p lv sb o a a' : Nat) (D : List Nat) : Prop := ∀ H O mn, Pr lv o (tC B p a) H mn → ∃ m' H' O', Sr B p a true mn H O = Sr B p a' false m' H' O' ∧ Ps lv H O D H' O' ∧ Fl sb H' (tC B p a')
theorem Wf.one {c : Nat} (h : (100000 ≤ c ∧ c ≤ 109999) ∨ c < 6) : Wf [c] := by
  refine ⟨fun x hx => ?_, fun d r => ?_⟩
  · rw [List.mem_singleton] at hx; subst hx
    rcases h with h | h
    · exact Or.inl h
    · exact Or.inr (Or.inl h)
  · show dpt (c :: r) d = _
    unfold dpt; rw [if_pos (by omega)]; rw [dpt.eq_def]
theorem Wf.un {D : List Nat} {c : Nat} (hc : c = 13 ∨ c = 19) (h : Wf D) : Wf (D ++ [c]) := by
  refine ⟨fun x hx => ?_, fun d r => ?_⟩
  · rcases List.mem_append.mp hx with hx | hx
    · exact h.1 x hx
    · rw [List.mem_singleton] at hx; subst hx; exact Or.inr (Or.inr (by omega))
  · rw [List.append_assoc, h.2]
    show dpt (c :: r) (d + 1) = _
    conv => lhs; unfold dpt
    rw [if_neg (by omega), if_pos hc, if_neg (by omega)]
theorem Wf.bi {D E : List Nat} {c : Nat} (hc : 11 ≤ c ∧ c ≤ 18 ∧ c ≠ 13) (h : Wf D) (h2 : Wf E) : Wf (D ++ (E ++ [c])) := by
  refine ⟨fun x hx => ?_, fun d r => ?_⟩
  · rcases List.mem_append.mp hx with hx | hx
    · exact h.1 x hx
    · rcases List.mem_append.mp hx with hx | hx
      · exact h2.1 x hx
      · rw [List.mem_singleton] at hx; subst hx; exact Or.inr (Or.inr (by omega))
  · rw [List.append_assoc, h.2, List.append_assoc, h2.2]
    show dpt (c :: r) (d + 1 + 1) = _
    conv => lhs; unfold dpt
    rw [if_neg (by omega), if_neg (by omega), if_neg (by omega)]; rfl
end
section
variable {B : Nat → Nat} {p a a' b o lv sb : Nat} {D E : List Nat}
theorem wants_one (hp : p ≤ 160) (ha : a ≤ p) {c : Nat} (hc : (tC B p a = 258 ∧ c = 100000 + tV B p a) ∨ (306 ≤ tC B p a ∧ c = tC B p a - 306)) : Okc B p 7 o a (tN B p a) [c] := by
  intro H O mn _
  refine ⟨mn, zu 7 H, O ++ ([c] ++ zo 7 H), ?_, fun l l1 l7 => ?_, ⟨fun q => by omega, fun q => by omega, fun q => by omega, fun q => by omega, fun q => by omega⟩⟩
  · rw [Sr_eq hp ha]
    unfold sq
    rcases hc with ⟨h1, h2⟩ | ⟨h1, h2⟩
    · rw [if_pos rfl, if_pos h1, ← h2]
    · rw [if_pos rfl, if_neg (by omega), if_pos h1, ← h2]
  · have h := zu_zu l7 H
    exact ⟨h.1, by rw [List.append_assoc, List.append_assoc, h.2]⟩
theorem wants_neg (hp : p ≤ 160) (ha : a ≤ p) (hc : tC B p a = 45) {H O : List Nat} {mn : Bool} : Sr B p a true mn H O = if zp H = 5 then .inl (tB B p a) else Sr B p (tN B p a) true false (19 :: H) O := by
  rw [Sr_eq hp ha]
  unfold sq
  rw [if_pos rfl, if_neg (by omega), if_neg (by omega), if_neg (by omega), if_pos hc]
theorem wants_par (hp : p ≤ 160) (ha : a ≤ p) (hc : tC B p a = 40) {H O : List Nat} {mn : Bool} : Sr B p a true mn H O = if zp H = 5 then .inl (tB B p a) else Sr B p (tN B p a) true true (0 :: H) O := by
  rw [Sr_eq hp ha]
  unfold sq
  rw [if_pos rfl, if_neg (by omega), if_neg (by omega), if_neg (by omega), if_neg (by omega), if_pos hc]
theorem pr_neg (ho : o < 5) {k : Nat} {H : List Nat} (h : zp H = o) : Pr 7 (o + 1) k (19 :: H) false := ⟨by show (if _ then _ else _) + zp H = _; rw [if_pos (by omega)]; omega, fun q => absurd rfl q, fun q => by omega, fun _ q => absurd q (by decide)⟩
theorem neg_ok (hp : p ≤ 160) (ha : a ≤ p) (hc : tC B p a = 45) (ho : o < 5) (h : Okc B p 7 (o + 1) (tN B p a) a' D) : Okc B p 7 o a a' (D ++ [19]) := by
  intro H O mn hpr
  have h5 : zp H ≠ 5 := by have := hpr.1; omega
  obtain ⟨m', H', O', h1, h2, h3⟩ := h (19 :: H) O false (pr_neg ho hpr.1)
  refine ⟨m', H', O', by rw [wants_neg hp ha hc, if_neg h5]; exact h1, fun l l1 l7 => ?_, h3⟩
  have hz := zu_c (l := l) (c := 19) (r := H) l7
  obtain ⟨q1, q2⟩ := h2 l l1 l7
  exact ⟨q1.trans hz.1, by rw [q2, hz.2, List.append_assoc]; rfl⟩
theorem neg_er (hp : p ≤ 160) (ha : a ≤ p) (hc : tC B p a = 45) (ho : o < 5) (h : Erc B p 7 (o + 1) (tN B p a) b) : Erc B p 7 o a b := by
  intro H O mn hpr
  have h5 : zp H ≠ 5 := by have := hpr.1; omega
  rw [wants_neg hp ha hc, if_neg h5]
  exact h (19 :: H) O false (pr_neg ho hpr.1)
theorem pr_par (ho : o < 5) {k : Nat} {H : List Nat} (h : zp H = o) : Pr 1 (o + 1) k (0 :: H) true := ⟨by show (if _ then _ else _) + zp H = _; rw [if_pos (by omega)]; omega, fun _ => by show zr 0 < _; decide, fun _ => rfl, fun q => by omega⟩
/-- what can't stand behind an E -/
theorem no_more (hp : p ≤ 160) (ha : a ≤ p) {H O : List Nat} {mn : Bool} (h : Fl 1 H (tC B p a)) (h1 : tC B p a = 59 → zu 1 H ≠ []) (h2 : tC B p a = 41 → zu 1 H = []) : Sr B p a false mn H O = .inl (tB B p a) := by
  rw [Sr_eq hp ha]
  unfold sq
  rw [if_neg (by decide)]
  by_cases c1 : tC B p a = 59
  · rw [if_pos c1, if_neg (h1 c1)]
  · rw [if_neg c1]
    by_cases c2 : tC B p a = 41
    · rw [if_pos c2, if_pos (h2 c2)]
    · rw [if_neg c2]
      obtain ⟨f1, f2, f3, f4, f5⟩ := h
      by_cases c3 : tC B p a = 60 ∨ tC B p a = 61
      · have e : zs (tC B p a) ≠ 0 ∧ zr (zs (tC B p a)) = 4 := by
          rcases c3 with c3 | c3 <;> (rw [c3]; decide)
        rw [if_neg e.1, if_pos ⟨e.2, f3 (by decide) c3⟩]
      · have f1' := f1 (by decide); have f2' := f2 (by decide); have f4' := f4 (by decide); have f5' := f5 (by decide)
        have e : zs (tC B p a) = 0 := by
          unfold zs
          rw [if_neg f5', if_neg f4', if_neg (by omega), if_neg (by omega), if_neg f2'.1, if_neg f2'.2, if_neg f1']
        rw [if_pos e]
theorem par_ok (hp : p ≤ 160) (ha : a ≤ p) (hc : tC B p a = 40) (ho : o < 5) (h : Okc B p 1 (o + 1) (tN B p a) a' D) (ha' : a' ≤ p) (hc' : tC B p a' = 41) : Okc B p 7 o a (tN B p a') D := by
  intro H O mn hpr
  have h5 : zp H ≠ 5 := by have := hpr.1; omega
  obtain ⟨m', H', O', h1, h2, h3⟩ := h (0 :: H) O true (pr_par ho hpr.1)
  obtain ⟨q1, q2⟩ := h2 1 (Nat.le_refl _) (Nat.le_refl _)
  have z0 := zu_top (l := 1) (H := 0 :: H) (show zr 0 < 1 by decide)
  rw [z0.1] at q1
  rw [z0.2, List.append_nil] at q2
  refine ⟨m', zu 7 H, O' ++ (zo 1 H' ++ zo 7 H), ?_, fun l l1 l7 => ?_, ⟨fun q => by omega, fun q => by omega, fun q => by omega, fun q => by omega, fun q => by omega⟩⟩
  · rw [wants_par hp ha hc, if_neg h5, h1, Sr_eq hp ha']
    unfold sq
    rw [if_neg (by decide), if_neg (by omega), if_pos hc', if_neg (by rw [q1]; exact List.cons_ne_nil _ _), q1]; rfl
  · have hz := zu_zu l7 H
    exact ⟨hz.1, by rw [← List.append_assoc, q2, List.append_assoc, hz.2, List.append_assoc]⟩
theorem par_no (hp : p ≤ 160) (ha : a ≤ p) (hc : tC B p a = 40) (ho : o < 5) (h : Okc B p 1 (o + 1) (tN B p a) a' D) (ha' : a' ≤ p) (hc' : tC B p a' ≠ 41) : Erc B p 7 o a (tB B p a') := by
  intro H O mn hpr
  have h5 : zp H ≠ 5 := by have := hpr.1; omega
  obtain ⟨m', H', O', h1, h2, h3⟩ := h (0 :: H) O true (pr_par ho hpr.1)
  obtain ⟨q1, q2⟩ := h2 1 (Nat.le_refl _) (Nat.le_refl _)
  have z0 := zu_top (l := 1) (H := 0 :: H) (show zr 0 < 1 by decide)
  rw [z0.1] at q1
  rw [wants_par hp ha hc, if_neg h5, h1]
  exact no_more hp ha' h3 (fun _ => by rw [q1]; exact List.cons_ne_nil _ _) (fun q => absurd q hc')
theorem par_er (hp : p ≤ 160) (ha : a ≤ p) (hc : tC B p a = 40) (ho : o < 5) (h : Erc B p 1 (o + 1) (tN B p a) b) : Erc B p 7 o a b := by
  intro H O mn hpr
  have h5 : zp H ≠ 5 := by have := hpr.1; omega
  rw [wants_par hp ha hc, if_neg h5]
  exact h (0 :: H) O true (pr_par ho hpr.1)
theorem one_no (hp : p ≤ 160) (ha : a ≤ p) (h1 : tC B p a ≠ 258) (h2 : tC B p a < 306) (h3 : tC B p a = 45 → o = 5) (h4 : tC B p a = 40 → o = 5) : Erc B p 7 o a (tB B p a) := by
  intro H O mn hpr
  rw [Sr_eq hp ha]
  unfold sq
  rw [if_pos rfl, if_neg h1, if_neg (by omega)]
  by_cases c5 : tC B p a = 305 ∧ mn = true
  · rw [if_pos c5, if_pos (hpr.1.trans (hpr.2.2.2 (by decide) c5.2 c5.1))]
  · rw [if_neg c5]
    by_cases c1 : tC B p a = 45
    · rw [if_pos c1, if_pos (hpr.1.trans (h3 c1))]
    · rw [if_neg c1]
      by_cases c2 : tC B p a = 40
      · rw [if_pos c2, if_pos (hpr.1.trans (h4 c2))]
      · rw [if_neg c2]
/-! a sign between two -/
theorem btw (hp : p ≤ 160) (ha' : a' ≤ p) {H O D H' O' : List Nat} {m' : Bool} {c : Nat} (hc : c = zs (tC B p a')) (h0 : c ≠ 0) (hps : Ps (zl c) H O D H' O') (hl : 1 ≤ zl c) (ht : zt H < zl c) (h4 : zr c = 4 → zt H < 4) (hk : tC B p a' ≠ 59 ∧ tC B p a' ≠ 41) :
    Sr B p a' false m' H' O' = Sr B p (tN B p a') true (decide (c ≤ 12)) (c :: H) (O ++ D) := by
  subst hc
  obtain ⟨q1, q2⟩ := hps _ hl (Nat.le_refl _)
  have z := zu_top ht
  rw [z.1] at q1
  rw [z.2, List.append_nil] at q2
  rw [Sr_eq hp ha']
  unfold sq
  rw [if_neg (by decide), if_neg hk.1, if_neg hk.2, if_neg h0, if_neg, q1, q2]
  rintro ⟨e1, e2⟩
  have e5 : zl (zs (tC B p a')) = 5 := if_pos e1
  rw [e5] at q1
  rw [q1] at e2
  have := h4 e1
  omega
theorem ps_bin {lv' c : Nat} {H O D E H' O' : List Nat} (h : Ps lv' (c :: H) (O ++ D) E H' O') (h1 : lv ≤ lv') (h2 : lv ≤ zr c) : Ps lv H O (D ++ (E ++ [c])) H' O' := by
  intro l l1 l2
  obtain ⟨q1, q2⟩ := h l l1 (by omega)
  have z := zu_c (l := l) (c := c) (r := H) (by omega)
  exact ⟨q1.trans z.1, by rw [q2, z.2]; simp⟩
theorem pr_sub {k k' : Nat} {H : List Nat} {mn : Bool} (h : Pr lv o k H mn) (hs : (lv = 1 ∧ sb = 2) ∨ (lv = 2 ∧ sb = 3) ∨ (lv = 5 ∧ sb = 6) ∨ (lv = 6 ∧ sb = 7)) : Pr sb o k H mn := by
  obtain ⟨h1, h2, h3, h4⟩ := h
  rcases hs with ⟨rfl, rfl⟩ | ⟨rfl, rfl⟩ | ⟨rfl, rfl⟩ | ⟨rfl, rfl⟩
  · exact ⟨h1, fun _ => by have := h2 (by decide); simp at this ⊢; omega, fun _ => h3 (by decide), fun q => by omega⟩
  · exact ⟨h1, fun _ => by have := h2 (by decide); simp at this ⊢; omega, fun _ => h3 (by decide), fun q => by omega⟩
  · exact ⟨h1, fun _ => by have := h2 (by decide); simp at this ⊢; omega, fun q => by omega, fun _ => h4 (by decide)⟩
  · exact ⟨h1, fun q => absurd rfl q, fun q => by omega, fun _ => h4 (by decide)⟩
theorem pr_bin {k k' c : Nat} {H : List Nat} {mn : Bool} (h : Pr lv o k H mn) (hs : (lv = 1 ∧ sb = 2 ∧ c = 11) ∨ (lv = 2 ∧ sb = 3 ∧ c = 12) ∨ (lv = 5 ∧ sb = 6 ∧ (c = 16 ∨ c = 17)) ∨ (lv = 6 ∧ sb = 7 ∧ c = 18)) : Pr sb o k' (c :: H) (decide (c ≤ 12)) := by
  have hz : zp (c :: H) = o := by
    show (if _ then _ else _) + zp H = _
    rw [if_neg (by omega)]; have := h.1; omega
  rcases hs with ⟨_, rfl, rfl⟩ | ⟨_, rfl, rfl⟩ | ⟨_, rfl, rfl | rfl⟩ | ⟨_, rfl, rfl⟩
  · exact ⟨hz, fun _ => by show zr 11 < _; decide, fun _ => rfl, fun q => by omega⟩
  · exact ⟨hz, fun _ => by show zr 12 < _; decide, fun _ => rfl, fun q => by omega⟩
  · exact ⟨hz, fun _ => by show zr 16 < _; decide, fun q => by omega, fun _ q => absurd q (by decide)⟩
  · exact ⟨hz, fun _ => by show zr 17 < _; decide, fun q => by omega, fun _ q => absurd q (by decide)⟩
  · exact ⟨hz, fun q => absurd rfl q, fun q => by omega, fun _ q => absurd q (by decide)⟩
/-- which sign a method's loop takes -/
def isOp (lv k c : Nat) : Prop := (lv = 1 ∧ k = 303 ∧ c = 11) ∨ (lv = 2 ∧ k = 304 ∧ c = 12) ∨ (lv = 5 ∧ ((k = 43 ∧ c = 16) ∨ (k = 45 ∧ c = 17))) ∨ (lv = 6 ∧ k = 42 ∧ c = 18)
def isSb (lv sb : Nat) : Prop := (lv = 1 ∧ sb = 2) ∨ (lv = 2 ∧ sb = 3) ∨ (lv = 5 ∧ sb = 6) ∨ (lv = 6 ∧ sb = 7)
theorem isOp_f {k c : Nat} (h : isOp lv k c) : zs k = c ∧ c ≠ 0 ∧ zl c = lv ∧ zr c = lv ∧ 1 ≤ lv ∧ lv ≠ 3 ∧ lv ≠ 7 ∧ lv ≠ 4 ∧ k ≠ 59 ∧ k ≠ 41 ∧ k ≠ 256 ∧ k ≠ 257 ∧ (11 ≤ c ∧ c ≤ 18 ∧ c ≠ 13) := by
  rcases h with ⟨rfl, rfl, rfl⟩ | ⟨rfl, rfl, rfl⟩ | ⟨rfl, ⟨rfl, rfl⟩ | ⟨rfl, rfl⟩⟩ | ⟨rfl, rfl, rfl⟩ <;> decide
theorem lp_step (hp : p ≤ 160) {a0 c : Nat} (ha' : a ≤ p) (hsb : isSb lv sb) (hc : isOp lv (tC B p a) c) (hl : Lpc B p lv sb o a0 a D) (h : Okc B p sb o (tN B p a) a' E) : Lpc B p lv sb o a0 a' (D ++ (E ++ [c])) := by
  intro H O mn hpr
  obtain ⟨f1, f2, f3, f4, f5, f6, f7, f8, f9, f10, _⟩ := isOp_f hc
  obtain ⟨m', H', O', h1, h2, h3⟩ := hl H O mn hpr
  have ht : zt H < lv := by have := hpr.2.1 f7; rw [if_neg f6] at this; exact this
  have hb := btw hp ha' (m' := m') f1.symm f2 (by rw [f3]; exact h2) (by omega) (by omega) (fun q => by omega) ⟨f9, f10⟩
  have hpr2 : Pr sb o (tC B p (tN B p a)) (c :: H) (decide (c ≤ 12)) := pr_bin hpr (by
    rcases hsb with ⟨q1, q2⟩ | ⟨q1, q2⟩ | ⟨q1, q2⟩ | ⟨q1, q2⟩ <;> rcases hc with ⟨w1, w2, w3⟩ | ⟨w1, w2, w3⟩ | ⟨w1, w2⟩ | ⟨w1, w2, w3⟩ <;> omega)
  obtain ⟨m2, H2, O2, g1, g2, g3⟩ := h (c :: H) (O ++ D) _ hpr2
  refine ⟨m2, H2, O2, by rw [h1, hb, g1], ps_bin g2 ?_ (by omega), g3⟩
  rcases hsb with ⟨q1, q2⟩ | ⟨q1, q2⟩ | ⟨q1, q2⟩ | ⟨q1, q2⟩ <;> omega
theorem lp_er (hp : p ≤ 160) {a0 c : Nat} (ha' : a ≤ p) (hsb : isSb lv sb) (hc : isOp lv (tC B p a) c) (hl : Lpc B p lv sb o a0 a D) (h : Erc B p sb o (tN B p a) b) : Erc B p lv o a0 b := by
  intro H O mn hpr
  obtain ⟨f1, f2, f3, f4, f5, f6, f7, f8, f9, f10, _⟩ := isOp_f hc
  obtain ⟨m', H', O', h1, h2, h3⟩ := hl H O mn hpr
  have ht : zt H < lv := by have := hpr.2.1 f7; rw [if_neg f6] at this; exact this
  have hb := btw hp ha' (m' := m') f1.symm f2 (by rw [f3]; exact h2) (by omega) (by omega) (fun q => by omega) ⟨f9, f10⟩
  rw [h1, hb]
  refine h (c :: H) (O ++ D) _ (pr_bin hpr (by
    rcases hsb with ⟨q1, q2⟩ | ⟨q1, q2⟩ | ⟨q1, q2⟩ | ⟨q1, q2⟩ <;> rcases hc with ⟨w1, w2, w3⟩ | ⟨w1, w2, w3⟩ | ⟨w1, w2⟩ | ⟨w1, w2, w3⟩ <;> omega))
theorem lp_0 (hsb : isSb lv sb) (h : Okc B p sb o a a' D) : Lpc B p lv sb o a a' D := by
  intro H O mn hpr
  obtain ⟨m', H', O', h1, h2, h3⟩ := h H O mn (pr_sub (k' := 0) hpr hsb)
  refine ⟨m', H', O', h1, fun l l1 l2 => h2 l l1 ?_, h3⟩
  rcases hsb with ⟨q1, q2⟩ | ⟨q1, q2⟩ | ⟨q1, q2⟩ | ⟨q1, q2⟩ <;> omega
theorem er_0 (hsb : isSb lv sb) (h : Erc B p sb o a b) : Erc B p lv o a b := fun H O mn hpr => h H O mn (pr_sub (k' := 0) hpr hsb)
theorem lp_end (hsb : isSb lv sb) (hl : Lpc B p lv sb o a a' D) (hn : ∀ c, ¬ isOp lv (tC B p a') c) : Okc B p lv o a a' D := by
  intro H O mn hpr
  obtain ⟨m', H', O', h1, h2, f1, f2, f3, f4, f5⟩ := hl H O mn hpr
  refine ⟨m', H', O', h1, h2, ?_⟩
  rcases hsb with ⟨rfl, rfl⟩ | ⟨rfl, rfl⟩ | ⟨rfl, rfl⟩ | ⟨rfl, rfl⟩
  · exact ⟨fun _ => f1 (by decide), fun _ => f2 (by decide), fun _ => f3 (by decide), fun _ => f4 (by decide), fun _ q => hn 11 (Or.inl ⟨rfl, q, rfl⟩)⟩
  · exact ⟨fun _ => f1 (by decide), fun _ => f2 (by decide), fun _ => f3 (by decide), fun _ q => hn 12 (Or.inr (Or.inl ⟨rfl, q, rfl⟩)), fun q => by omega⟩
  · exact ⟨fun _ => f1 (by decide), fun _ => ⟨fun q => hn 16 (Or.inr (Or.inr (Or.inl ⟨rfl, Or.inl ⟨q, rfl⟩⟩))), fun q => hn 17 (Or.inr (Or.inr (Or.inl ⟨rfl, Or.inr ⟨q, rfl⟩⟩)))⟩, fun q => by omega, fun q => by omega, fun q => by omega⟩
  · exact ⟨fun _ q => hn 18 (Or.inr (Or.inr (Or.inr ⟨rfl, q, rfl⟩))), fun q => by omega, fun q => by omega, fun q => by omega, fun q => by omega⟩
/-! not, and a comparison -/
theorem pr_not (ho : o < 5) {k k' : Nat} {H : List Nat} {mn : Bool} (h : Pr 3 o k H mn) : Pr 3 (o + 1) k' (13 :: H) true := ⟨by show (if _ then _ else _) + zp H = _; rw [if_pos (by omega)]; have := h.1; omega, fun _ => by show zr 13 < _; decide, fun _ => rfl, fun q => by omega⟩
theorem wants_not (hp : p ≤ 160) (ha : a ≤ p) (hc : tC B p a = 305) {H O : List Nat} : Sr B p a true true H O = if zp H = 5 then .inl (tB B p a) else Sr B p (tN B p a) true true (13 :: H) O := by
  rw [Sr_eq hp ha]
  unfold sq
  rw [if_pos rfl, if_neg (by omega), if_neg (by omega), if_pos ⟨hc, rfl⟩]
theorem not_ok (hp : p ≤ 160) (ha : a ≤ p) (hc : tC B p a = 305) (ho : o < 5) (h : Okc B p 3 (o + 1) (tN B p a) a' D) : Okc B p 3 o a a' (D ++ [13]) := by
  intro H O mn hpr
  have h5 : zp H ≠ 5 := by have := hpr.1; omega
  have hm : mn = true := hpr.2.2.1 (by decide)
  subst hm
  obtain ⟨m', H', O', h1, h2, h3⟩ := h (13 :: H) O true (pr_not ho hpr)
  refine ⟨m', H', O', by rw [wants_not hp ha hc, if_neg h5]; exact h1, fun l l1 l7 => ?_, h3⟩
  have hz := zu_c (l := l) (c := 13) (r := H) l7
  obtain ⟨q1, q2⟩ := h2 l l1 l7
  exact ⟨q1.trans hz.1, by rw [q2, hz.2, List.append_assoc]; rfl⟩
theorem not_er (hp : p ≤ 160) (ha : a ≤ p) (hc : tC B p a = 305) (ho : o < 5) (h : Erc B p 3 (o + 1) (tN B p a) b) : Erc B p 3 o a b := by
  intro H O mn hpr
  have h5 : zp H ≠ 5 := by have := hpr.1; omega
  have hm : mn = true := hpr.2.2.1 (by decide)
  subst hm
  rw [wants_not hp ha hc, if_neg h5]
  exact h (13 :: H) O true (pr_not ho hpr)
theorem pr_35 {H : List Nat} {mn : Bool} (h : Pr 3 o (tC B p a) H mn) (hn : tC B p a = 305 → o = 5) : Pr 5 o (tC B p a) H mn := ⟨h.1, fun _ => by have := h.2.1 (by decide); simp at this ⊢; omega, fun q => by omega, fun _ _ => hn⟩
theorem cmp_no (hn : tC B p a = 305 → o = 5) (h : Okc B p 5 o a a' D) (hk : tC B p a' ≠ 60 ∧ tC B p a' ≠ 61) : Okc B p 3 o a a' D := by
  intro H O mn hpr
  obtain ⟨m', H', O', h1, h2, f1, f2, f3, f4, f5⟩ := h H O mn (pr_35 hpr hn)
  exact ⟨m', H', O', h1, fun l l1 l2 => h2 l l1 (by omega), fun _ => f1 (by decide), fun _ => f2 (by decide), fun _ q => by omega, fun q => by omega, fun q => by omega⟩
theorem er_35 (hn : tC B p a = 305 → o = 5) (h : Erc B p 5 o a b) : Erc B p 3 o a b := fun H O mn hpr => h H O mn (pr_35 hpr hn)
theorem pr_cmp {k k' c : Nat} {H : List Nat} {mn : Bool} (h : Pr 3 o k H mn) (hc : c = 14 ∨ c = 15) : Pr 5 o k' (c :: H) (decide (c ≤ 12)) := by
  refine ⟨by show (if _ then _ else _) + zp H = _; rw [if_neg (by omega)]; have := h.1; omega, fun _ => ?_, fun q => by omega, fun _ q => ?_⟩
  · rcases hc with rfl | rfl
    · show zr 14 < _; decide
    · show zr 15 < _; decide
  · rcases hc with rfl | rfl <;> exact absurd q (by decide)
theorem cmp_step (hp : p ≤ 160) (hn : tC B p a = 305 → o = 5) (h : Okc B p 5 o a a' D) (ha' : a' ≤ p) {c : Nat} (hk : (tC B p a' = 60 ∧ c = 14) ∨ (tC B p a' = 61 ∧ c = 15)) {H O : List Nat} {mn : Bool} (hpr : Pr 3 o (tC B p a) H mn) : Sr B p a true mn H O = Sr B p (tN B p a') true (decide (c ≤ 12)) (c :: H) (O ++ D) := by
  obtain ⟨m', H', O', h1, h2, _⟩ := h H O mn (pr_35 hpr hn)
  have ht : zt H < 4 := by have := hpr.2.1 (by decide); simpa using this
  have e : zs (tC B p a') = c ∧ c ≠ 0 ∧ zl c = 5 ∧ zr c = 4 := by
    rcases hk with ⟨k1, rfl⟩ | ⟨k1, rfl⟩ <;> (rw [k1]; decide)
  rw [h1]
  exact btw hp ha' e.1.symm e.2.1 (by rw [e.2.2.1]; exact h2) (by omega) (by omega) (fun _ => ht) (by omega)
theorem cmp_ok (hp : p ≤ 160) (hn : tC B p a = 305 → o = 5) (h : Okc B p 5 o a a' D) (ha' : a' ≤ p) {c : Nat} (hk : (tC B p a' = 60 ∧ c = 14) ∨ (tC B p a' = 61 ∧ c = 15)) {a2 : Nat} (h2 : Okc B p 5 o (tN B p a') a2 E) : Okc B p 3 o a a2 (D ++ (E ++ [c])) := by
  intro H O mn hpr
  have hc : c = 14 ∨ c = 15 := by omega
  have e4 : zr c = 4 := by rcases hc with rfl | rfl <;> decide
  obtain ⟨m', H', O', g1, g2, f1, f2, f3, f4, f5⟩ := h2 (c :: H) (O ++ D) _ (pr_cmp hpr hc)
  refine ⟨m', H', O', (cmp_step hp hn h ha' hk hpr).trans g1, ps_bin g2 (by decide) (by omega), fun _ => f1 (by decide), fun _ => f2 (by decide), fun _ _ => ?_, fun q => by omega, fun q => by omega⟩
  rw [(g2 5 (by decide) (by decide)).1, (zu_top (l := 5) (H := c :: H) (by show zr c < 5; omega)).1]
  exact e4
theorem cmp_er (hp : p ≤ 160) (hn : tC B p a = 305 → o = 5) (h : Okc B p 5 o a a' D) (ha' : a' ≤ p) {c : Nat} (hk : (tC B p a' = 60 ∧ c = 14) ∨ (tC B p a' = 61 ∧ c = 15)) (h2 : Erc B p 5 o (tN B p a') b) : Erc B p 3 o a b := by
  intro H O mn hpr
  rw [cmp_step hp hn h ha' hk hpr]
  exact h2 (c :: H) (O ++ D) _ (pr_cmp hpr (by omega))
/-! a whole E -/
theorem e_ok (hp : p ≤ 160) (h : Okc B p 1 0 a a' D) (ha' : a' ≤ p) (hc : tC B p a' = 59) (O : List Nat) : Sr B p a true true [] O = .inr (tN B p a', O ++ D) := by
  obtain ⟨m', H', O', h1, h2, h3⟩ := h [] O true ⟨rfl, fun _ => by decide, fun _ => rfl, fun q => by omega⟩
  obtain ⟨q1, q2⟩ := h2 1 (Nat.le_refl _) (Nat.le_refl _)
  rw [h1, Sr_eq hp ha']
  unfold sq
  rw [if_neg (by decide), if_pos hc, if_pos (show zu 1 H' = [] from q1), q2]
  show Sum.inr (tN B p a', O ++ (D ++ [])) = _
  rw [List.append_nil]
theorem e_no (hp : p ≤ 160) (h : Okc B p 1 0 a a' D) (ha' : a' ≤ p) (hc : tC B p a' ≠ 59) (O : List Nat) : Sr B p a true true [] O = .inl (tB B p a') := by
  obtain ⟨m', H', O', h1, h2, h3⟩ := h [] O true ⟨rfl, fun _ => by decide, fun _ => rfl, fun q => by omega⟩
  obtain ⟨q1, q2⟩ := h2 1 (Nat.le_refl _) (Nat.le_refl _)
  rw [h1]
  exact no_more hp ha' h3 (fun q => absurd q hc) (fun _ => q1)
theorem e_er (h : Erc B p 1 0 a b) (O : List Nat) : Sr B p a true true [] O = .inl b := h [] O true ⟨rfl, fun _ => by decide, fun _ => rfl, fun q => by omega⟩
end
