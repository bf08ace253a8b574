section
variable {p : Program} {l : Launch} {e : Env} {R : Room} {s : State} {m : MethodId} {args : Array Value} {below : List Frame} {meth : Method} {c : Code} {D : va_G} {A : Nat → Prop} {X : PX} {ws0 : va_W} {nL n0 z0 : Nat} {Q : State → Prop} {r : RR} {scr : Scr} {y : MethodName} {cc : ByteArray}
variable {pc nx tg i : Nat} {L L2 : LV} {st st2 : List Value} {t : SM} {go : Go} {off : Int}
theorem w_if {cd : Jvm.ClassFile.Cond} {y0 : MethodName} {rest : List Value} {x : Int32} (hC : Cx p s m args meth c A X y0 cc nL scr) (hdg : decode cc pc = .ok (.ifCond cd off, 3)) (hnx : nx = pc + 3) (ht : (pc : Int) + off = (tg : Int)) (hgo : ∀ pc' L' st' t', go pc' L' st' t' = some r → WSt p l e R s m args below meth c D A X ws0 nL n0 z0 Q r pc' L' st' t') (h : sIf cd x 0 (go tg L rest t) (go nx L rest t) = some r) : WSt p l e R s m args below meth c D A X ws0 nL n0 z0 Q r pc L (.int x :: rest) t := by
  have x1 := hC.1
  have x2 := hC.2.1
  subst hnx
  cases cd with
  | eq =>
    unfold sIf at h
    dsimp only at h
    by_cases hc : x = 0
    · rw [if_pos hc] at h
      refine (hgo _ _ _ _ h).free (fun H locs ws cells slots L' ls st' hL hl hs k => ?_)
      obtain ⟨s1, rfl, hs1⟩ := hs.int
      exact lv_if_eq x1 x2 hdg ht (fun _ => k L' ls _ hL hl hs1) (fun n => absurd hc n)
    · rw [if_neg hc] at h
      refine (hgo _ _ _ _ h).free (fun H locs ws cells slots L' ls st' hL hl hs k => ?_)
      obtain ⟨s1, rfl, hs1⟩ := hs.int
      exact lv_if_eq x1 x2 hdg ht (fun n => absurd n hc) (fun _ => k L' ls _ hL hl hs1)
  | ne =>
    unfold sIf at h
    dsimp only at h
    by_cases hc : x = 0
    · rw [if_pos hc] at h
      refine (hgo _ _ _ _ h).free (fun H locs ws cells slots L' ls st' hL hl hs k => ?_)
      obtain ⟨s1, rfl, hs1⟩ := hs.int
      exact lv_if_ne x1 x2 hdg ht (fun n => absurd hc n) (fun _ => k L' ls _ hL hl hs1)
    · rw [if_neg hc] at h
      refine (hgo _ _ _ _ h).free (fun H locs ws cells slots L' ls st' hL hl hs k => ?_)
      obtain ⟨s1, rfl, hs1⟩ := hs.int
      exact lv_if_ne x1 x2 hdg ht (fun _ => k L' ls _ hL hl hs1) (fun n => absurd n hc)
  | lt =>
    unfold sIf at h
    dsimp only at h
    by_cases hc : x < 0
    · rw [if_pos hc] at h
      refine (hgo _ _ _ _ h).free (fun H locs ws cells slots L' ls st' hL hl hs k => ?_)
      obtain ⟨s1, rfl, hs1⟩ := hs.int
      exact lv_if_lt x1 x2 hdg ht (fun _ => k L' ls _ hL hl hs1) (fun n => absurd hc n)
    · rw [if_neg hc] at h
      refine (hgo _ _ _ _ h).free (fun H locs ws cells slots L' ls st' hL hl hs k => ?_)
      obtain ⟨s1, rfl, hs1⟩ := hs.int
      exact lv_if_lt x1 x2 hdg ht (fun n => absurd n hc) (fun _ => k L' ls _ hL hl hs1)
  | ge =>
    unfold sIf at h
    dsimp only at h
    by_cases hc : 0 ≤ x
    · rw [if_pos hc] at h
      refine (hgo _ _ _ _ h).free (fun H locs ws cells slots L' ls st' hL hl hs k => ?_)
      obtain ⟨s1, rfl, hs1⟩ := hs.int
      exact lv_if_ge x1 x2 hdg ht (fun _ => k L' ls _ hL hl hs1) (fun n => absurd hc n)
    · rw [if_neg hc] at h
      refine (hgo _ _ _ _ h).free (fun H locs ws cells slots L' ls st' hL hl hs k => ?_)
      obtain ⟨s1, rfl, hs1⟩ := hs.int
      exact lv_if_ge x1 x2 hdg ht (fun n => absurd n hc) (fun _ => k L' ls _ hL hl hs1)
  | gt =>
    unfold sIf at h
    dsimp only at h
    by_cases hc : 0 < x
    · rw [if_pos hc] at h
      refine (hgo _ _ _ _ h).free (fun H locs ws cells slots L' ls st' hL hl hs k => ?_)
      obtain ⟨s1, rfl, hs1⟩ := hs.int
      exact lv_if_gt x1 x2 hdg ht (fun _ => k L' ls _ hL hl hs1) (fun n => absurd hc n)
    · rw [if_neg hc] at h
      refine (hgo _ _ _ _ h).free (fun H locs ws cells slots L' ls st' hL hl hs k => ?_)
      obtain ⟨s1, rfl, hs1⟩ := hs.int
      exact lv_if_gt x1 x2 hdg ht (fun n => absurd n hc) (fun _ => k L' ls _ hL hl hs1)
  | le =>
    unfold sIf at h
    dsimp only at h
    by_cases hc : x ≤ 0
    · rw [if_pos hc] at h
      refine (hgo _ _ _ _ h).free (fun H locs ws cells slots L' ls st' hL hl hs k => ?_)
      obtain ⟨s1, rfl, hs1⟩ := hs.int
      exact lv_if_le x1 x2 hdg ht (fun _ => k L' ls _ hL hl hs1) (fun n => absurd hc n)
    · rw [if_neg hc] at h
      refine (hgo _ _ _ _ h).free (fun H locs ws cells slots L' ls st' hL hl hs k => ?_)
      obtain ⟨s1, rfl, hs1⟩ := hs.int
      exact lv_if_le x1 x2 hdg ht (fun n => absurd n hc) (fun _ => k L' ls _ hL hl hs1)
theorem w_icmp {cd : Jvm.ClassFile.Cond} {y0 : MethodName} {rest : List Value} {x y : Int32} (hC : Cx p s m args meth c A X y0 cc nL scr) (hdg : decode cc pc = .ok (.if_icmp cd off, 3)) (hnx : nx = pc + 3) (ht : (pc : Int) + off = (tg : Int)) (hgo : ∀ pc' L' st' t', go pc' L' st' t' = some r → WSt p l e R s m args below meth c D A X ws0 nL n0 z0 Q r pc' L' st' t') (h : sIf cd x y (go tg L rest t) (go nx L rest t) = some r) : WSt p l e R s m args below meth c D A X ws0 nL n0 z0 Q r pc L (.int y :: .int x :: rest) t := by
  have x1 := hC.1
  have x2 := hC.2.1
  subst hnx
  cases cd with
  | eq =>
    unfold sIf at h
    dsimp only at h
    by_cases hc : x = y
    · rw [if_pos hc] at h
      refine (hgo _ _ _ _ h).free (fun H locs ws cells slots L' ls st' hL hl hs k => ?_)
      obtain ⟨s1, rfl, hs1⟩ := hs.int
      obtain ⟨s2, rfl, hs2⟩ := hs1.int
      exact lv_icmp_eq x1 x2 hdg ht (fun _ => k L' ls _ hL hl hs2) (fun n => absurd hc n)
    · rw [if_neg hc] at h
      refine (hgo _ _ _ _ h).free (fun H locs ws cells slots L' ls st' hL hl hs k => ?_)
      obtain ⟨s1, rfl, hs1⟩ := hs.int
      obtain ⟨s2, rfl, hs2⟩ := hs1.int
      exact lv_icmp_eq x1 x2 hdg ht (fun n => absurd n hc) (fun _ => k L' ls _ hL hl hs2)
  | ne =>
    unfold sIf at h
    dsimp only at h
    by_cases hc : x = y
    · rw [if_pos hc] at h
      refine (hgo _ _ _ _ h).free (fun H locs ws cells slots L' ls st' hL hl hs k => ?_)
      obtain ⟨s1, rfl, hs1⟩ := hs.int
      obtain ⟨s2, rfl, hs2⟩ := hs1.int
      exact lv_icmp_ne x1 x2 hdg ht (fun n => absurd hc n) (fun _ => k L' ls _ hL hl hs2)
    · rw [if_neg hc] at h
      refine (hgo _ _ _ _ h).free (fun H locs ws cells slots L' ls st' hL hl hs k => ?_)
      obtain ⟨s1, rfl, hs1⟩ := hs.int
      obtain ⟨s2, rfl, hs2⟩ := hs1.int
      exact lv_icmp_ne x1 x2 hdg ht (fun _ => k L' ls _ hL hl hs2) (fun n => absurd n hc)
  | lt =>
    unfold sIf at h
    dsimp only at h
    by_cases hc : x < y
    · rw [if_pos hc] at h
      refine (hgo _ _ _ _ h).free (fun H locs ws cells slots L' ls st' hL hl hs k => ?_)
      obtain ⟨s1, rfl, hs1⟩ := hs.int
      obtain ⟨s2, rfl, hs2⟩ := hs1.int
      exact lv_icmp_lt x1 x2 hdg ht (fun _ => k L' ls _ hL hl hs2) (fun n => absurd hc n)
    · rw [if_neg hc] at h
      refine (hgo _ _ _ _ h).free (fun H locs ws cells slots L' ls st' hL hl hs k => ?_)
      obtain ⟨s1, rfl, hs1⟩ := hs.int
      obtain ⟨s2, rfl, hs2⟩ := hs1.int
      exact lv_icmp_lt x1 x2 hdg ht (fun n => absurd n hc) (fun _ => k L' ls _ hL hl hs2)
  | ge =>
    unfold sIf at h
    dsimp only at h
    by_cases hc : y ≤ x
    · rw [if_pos hc] at h
      refine (hgo _ _ _ _ h).free (fun H locs ws cells slots L' ls st' hL hl hs k => ?_)
      obtain ⟨s1, rfl, hs1⟩ := hs.int
      obtain ⟨s2, rfl, hs2⟩ := hs1.int
      exact lv_icmp_ge x1 x2 hdg ht (fun _ => k L' ls _ hL hl hs2) (fun n => absurd hc n)
    · rw [if_neg hc] at h
      refine (hgo _ _ _ _ h).free (fun H locs ws cells slots L' ls st' hL hl hs k => ?_)
      obtain ⟨s1, rfl, hs1⟩ := hs.int
      obtain ⟨s2, rfl, hs2⟩ := hs1.int
      exact lv_icmp_ge x1 x2 hdg ht (fun n => absurd n hc) (fun _ => k L' ls _ hL hl hs2)
  | gt =>
    unfold sIf at h
    dsimp only at h
    by_cases hc : y < x
    · rw [if_pos hc] at h
      refine (hgo _ _ _ _ h).free (fun H locs ws cells slots L' ls st' hL hl hs k => ?_)
      obtain ⟨s1, rfl, hs1⟩ := hs.int
      obtain ⟨s2, rfl, hs2⟩ := hs1.int
      exact lv_icmp_gt x1 x2 hdg ht (fun _ => k L' ls _ hL hl hs2) (fun n => absurd hc n)
    · rw [if_neg hc] at h
      refine (hgo _ _ _ _ h).free (fun H locs ws cells slots L' ls st' hL hl hs k => ?_)
      obtain ⟨s1, rfl, hs1⟩ := hs.int
      obtain ⟨s2, rfl, hs2⟩ := hs1.int
      exact lv_icmp_gt x1 x2 hdg ht (fun n => absurd n hc) (fun _ => k L' ls _ hL hl hs2)
  | le =>
    unfold sIf at h
    dsimp only at h
    by_cases hc : x ≤ y
    · rw [if_pos hc] at h
      refine (hgo _ _ _ _ h).free (fun H locs ws cells slots L' ls st' hL hl hs k => ?_)
      obtain ⟨s1, rfl, hs1⟩ := hs.int
      obtain ⟨s2, rfl, hs2⟩ := hs1.int
      exact lv_icmp_le x1 x2 hdg ht (fun _ => k L' ls _ hL hl hs2) (fun n => absurd hc n)
    · rw [if_neg hc] at h
      refine (hgo _ _ _ _ h).free (fun H locs ws cells slots L' ls st' hL hl hs k => ?_)
      obtain ⟨s1, rfl, hs1⟩ := hs.int
      obtain ⟨s2, rfl, hs2⟩ := hs1.int
      exact lv_icmp_le x1 x2 hdg ht (fun n => absurd n hc) (fun _ => k L' ls _ hL hl hs2)
theorem w_ifnull (hC : Cx p s m args meth c A X y cc nL scr) (hdg : decode cc pc = .ok (.ifnull off, 3)) (hnx : nx = pc + 3) (ht : (pc : Int) + off = (tg : Int)) (hgo : ∀ pc' L' st' t', go pc' L' st' t' = some r → WSt p l e R s m args below meth c D A X ws0 nL n0 z0 Q r pc' L' st' t') (h : sNull go tg nx L st t = some r) : WSt p l e R s m args below meth c D A X ws0 nL n0 z0 Q r pc L st t := by
  subst hnx
  unfold sNull at h
  split at h
  · refine (hgo _ _ _ _ h).free (fun H locs ws cells slots L' ls st' hL hl hs k => ?_)
    obtain ⟨s1, rfl, hs1⟩ := hs.nul
    exact lv_ifnullN hC.1 hC.2.1 hdg ht (k L' ls _ hL hl hs1)
  · refine (hgo _ _ _ _ h).free (fun H locs ws cells slots L' ls st' hL hl hs k => ?_)
    obtain ⟨a, x, s1, rfl, -, hs1⟩ := hs.ref
    exact lv_ifnull hC.1 hC.2.1 hdg (k L' ls _ hL hl hs1)
  · cases h
theorem w_ifnonnull (hC : Cx p s m args meth c A X y cc nL scr) (hdg : decode cc pc = .ok (.ifnonnull off, 3)) (hnx : nx = pc + 3) (ht : (pc : Int) + off = (tg : Int)) (hgo : ∀ pc' L' st' t', go pc' L' st' t' = some r → WSt p l e R s m args below meth c D A X ws0 nL n0 z0 Q r pc' L' st' t') (h : sNull go nx tg L st t = some r) : WSt p l e R s m args below meth c D A X ws0 nL n0 z0 Q r pc L st t := by
  subst hnx
  unfold sNull at h
  split at h
  · refine (hgo _ _ _ _ h).free (fun H locs ws cells slots L' ls st' hL hl hs k => ?_)
    obtain ⟨s1, rfl, hs1⟩ := hs.nul
    exact lv_ifnonnullN hC.1 hC.2.1 hdg (k L' ls _ hL hl hs1)
  · refine (hgo _ _ _ _ h).free (fun H locs ws cells slots L' ls st' hL hl hs k => ?_)
    obtain ⟨a, x, s1, rfl, -, hs1⟩ := hs.ref
    exact lv_ifnonnull hC.1 hC.2.1 hdg ht (k L' ls _ hL hl hs1)
  · cases h
theorem w_div (hC : Cx p s m args meth c A X y cc nL scr) (hdg : decode cc pc = .ok (.idiv, 1)) (hnx : nx = pc + 1) (hgo : ∀ pc' L' st' t', go pc' L' st' t' = some r → WSt p l e R s m args below meth c D A X ws0 nL n0 z0 Q r pc' L' st' t') (h : sDiv go nx L st t = some r) : WSt p l e R s m args below meth c D A X ws0 nL n0 z0 Q r pc L st t := by
  subst hnx
  unfold sDiv at h
  split at h
  · rename_i b a rest
    unfold hNZ at h
    by_cases h0 : b = 0
    · rw [if_pos h0] at h; cases h
    · rw [if_neg h0] at h
      refine (hgo _ _ _ _ h).free (fun H locs ws cells slots L' ls st' hL hl hs k => ?_)
      obtain ⟨s1, rfl, hs1⟩ := hs.int
      obtain ⟨s2, rfl, hs2⟩ := hs1.int
      exact lv_idiv hC.1 hC.2.1 hdg h0 (k L' ls _ hL hl ⟨rfl, hs2⟩)
  · cases h
theorem w_rem (hC : Cx p s m args meth c A X y cc nL scr) (hdg : decode cc pc = .ok (.irem, 1)) (hnx : nx = pc + 1) (hgo : ∀ pc' L' st' t', go pc' L' st' t' = some r → WSt p l e R s m args below meth c D A X ws0 nL n0 z0 Q r pc' L' st' t') (h : sRem go nx L st t = some r) : WSt p l e R s m args below meth c D A X ws0 nL n0 z0 Q r pc L st t := by
  subst hnx
  unfold sRem at h
  split at h
  · rename_i b a rest
    unfold hNZ at h
    by_cases h0 : b = 0
    · rw [if_pos h0] at h; cases h
    · rw [if_neg h0] at h
      refine (hgo _ _ _ _ h).free (fun H locs ws cells slots L' ls st' hL hl hs k => ?_)
      obtain ⟨s1, rfl, hs1⟩ := hs.int
      obtain ⟨s2, rfl, hs2⟩ := hs1.int
      exact lv_irem hC.1 hC.2.1 hdg h0 (k L' ls _ hL hl ⟨rfl, hs2⟩)
  · cases h
theorem w_lrem (hC : Cx p s m args meth c A X y cc nL scr) (hdg : decode cc pc = .ok (.lrem, 1)) (hnx : nx = pc + 1) (hgo : ∀ pc' L' st' t', go pc' L' st' t' = some r → WSt p l e R s m args below meth c D A X ws0 nL n0 z0 Q r pc' L' st' t') (h : sLRem go nx L st t = some r) : WSt p l e R s m args below meth c D A X ws0 nL n0 z0 Q r pc L st t := by
  subst hnx
  unfold sLRem at h
  split at h
  · rename_i b a rest
    unfold hNZL at h
    by_cases h0 : b = 0
    · rw [if_pos h0] at h; cases h
    · rw [if_neg h0] at h
      refine (hgo _ _ _ _ h).free (fun H locs ws cells slots L' ls st' hL hl hs k => ?_)
      obtain ⟨s1, rfl, hs1⟩ := hs.lng
      obtain ⟨s2, rfl, hs2⟩ := hs1.lng
      exact lv_lrem hC.1 hC.2.1 hdg h0 (k L' ls _ hL hl ⟨rfl, hs2⟩)
  · cases h
def mkSw (pc : Nat) : Int → List Int → List (Int × Nat)
  | _, [] => []
  | lo, o :: r => (lo, ((pc : Int) + o).toNat) :: mkSw pc (lo + 1) r
theorem int_of {x : Int32} {k : Int} (h1 : -2147483648 ≤ k) (h2 : k < 2147483648) : x = Int32.ofInt k ↔ x.toInt = k := by
  have e : (Int32.ofInt k).toInt = k := Int32.toInt_ofInt_of_le (by simpa using h1) (by simpa using h2)
  constructor
  · rintro rfl; exact e
  · intro h; exact Int32.toInt_inj.mp (h.trans e.symm)
theorem sSw_tab {α : Type} {x : Int32} {d : α} {f : Nat → α} (pc : Nat) : ∀ (os : List Int) (lo : Int), -2147483648 ≤ lo → lo + os.length ≤ 2147483648 → (x.toInt < lo ∨ lo + os.length ≤ x.toInt) ∧ sSw x d f (mkSw pc lo os) = d ∨ ∃ o, lo ≤ x.toInt ∧ os[(x.toInt - lo).toNat]? = some o ∧ sSw x d f (mkSw pc lo os) = f ((pc : Int) + o).toNat
  | [], lo, _, _ => Or.inl ⟨by simp only [List.length_nil]; omega, rfl⟩
  | o :: r, lo, h1, h2 => by
    simp only [List.length_cons] at h2
    have h3 : lo + 1 + (r.length : Int) ≤ 2147483648 := by omega
    by_cases hx : x.toInt = lo
    · refine Or.inr ⟨o, by omega, ?_, ?_⟩
      · rw [hx, show (lo - lo).toNat = 0 by omega]; rfl
      · show (if x = Int32.ofInt lo then _ else _) = _
        rw [if_pos ((int_of h1 (by omega)).mpr hx)]
    · have hn : ¬ x = Int32.ofInt lo := fun z => hx ((int_of h1 (by omega)).mp z)
      have e : sSw x d f (mkSw pc lo (o :: r)) = sSw x d f (mkSw pc (lo + 1) r) := by
        show (if x = Int32.ofInt lo then _ else _) = _
        rw [if_neg hn]
      rcases sSw_tab (x := x) (d := d) (f := f) pc r (lo + 1) (by omega) h3 with ⟨g1, g2⟩ | ⟨o', g1, g2, g3⟩
      · refine Or.inl ⟨?_, e.trans g2⟩
        simp only [List.length_cons]
        omega
      · refine Or.inr ⟨o', by omega, ?_, e.trans g3⟩
        rw [show (x.toInt - lo).toNat = (x.toInt - (lo + 1)).toNat + 1 by omega]
        exact g2
theorem w_tab {dflt lo hi : Int} {offs : Array Int} {sw : List (Int × Nat)} {len : Nat} (hC : Cx p s m args meth c A X y cc nL scr) (hdg : decode cc pc = .ok (.tableswitch dflt lo hi offs, len)) (ht : (pc : Int) + dflt = (tg : Int)) (hsw : sw = mkSw pc lo offs.toList) (hlo : -2147483648 ≤ lo) (hhi : lo + offs.toList.length = hi + 1) (hhi2 : hi < 2147483648) (hpos : ∀ o ∈ offs.toList, 0 ≤ (pc : Int) + o)
    {x : Int32} {rest : List Value} (hgo : ∀ pc' L' st' t', go pc' L' st' t' = some r → WSt p l e R s m args below meth c D A X ws0 nL n0 z0 Q r pc' L' st' t') (h : sSw x (go tg L rest t) (fun q => go q L rest t) sw = some r) : WSt p l e R s m args below meth c D A X ws0 nL n0 z0 Q r pc L (.int x :: rest) t := by
  rw [hsw] at h
  rcases sSw_tab (x := x) (d := go tg L rest t) (f := fun q => go q L rest t) pc offs.toList lo hlo (by omega) with ⟨g1, g2⟩ | ⟨o, g1, g2, g3⟩
  · rw [g2] at h
    refine (hgo _ _ _ _ h).free (fun H locs ws cells slots L' ls st' hL hl hs k => ?_)
    obtain ⟨s1, rfl, hs1⟩ := hs.int
    exact lv_tableOut hC.1 hC.2.1 hdg (by omega) ht (k L' ls _ hL hl hs1)
  · rw [g3] at h
    refine (hgo _ _ _ _ h).free (fun H locs ws cells slots L' ls st' hL hl hs k => ?_)
    obtain ⟨s1, rfl, hs1⟩ := hs.int
    have hm := hpos o (List.mem_of_getElem? g2)
    have hlt := (List.getElem?_eq_some_iff.mp g2).1
    exact lv_tableIn hC.1 hC.2.1 hdg (by omega) (by omega) (by rw [← Array.getElem?_toList]; exact g2) (by omega) (k L' ls _ hL hl hs1)
def mkLk (pc : Nat) : List (Int × Int) → List (Int × Nat)
  | [] => []
  | q :: r => (q.1, ((pc : Int) + q.2).toNat) :: mkLk pc r
theorem sSw_lk {α : Type} {x : Int32} {d : α} {f : Nat → α} {dflt : Int} (pc : Nat) : ∀ (ps : List (Int × Int)), (∀ q ∈ ps, -2147483648 ≤ q.1 ∧ q.1 < 2147483648) → (Op.lookupswitch.offset ps dflt x.toInt = dflt ∧ sSw x d f (mkLk pc ps) = d) ∨ ∃ q ∈ ps, Op.lookupswitch.offset ps dflt x.toInt = q.2 ∧ sSw x d f (mkLk pc ps) = f ((pc : Int) + q.2).toNat
  | [], _ => Or.inl ⟨rfl, rfl⟩
  | (a, o) :: r, h => by
    have h1 := h _ List.mem_cons_self
    by_cases hx : x.toInt = a
    · refine Or.inr ⟨(a, o), List.mem_cons_self, ?_, ?_⟩
      · rw [Op.lookupswitch.offset_cons, if_pos (by simpa using hx.symm)]
      · show (if x = Int32.ofInt a then _ else _) = _
        rw [if_pos ((int_of h1.1 h1.2).mpr hx)]
    · have hn : ¬ x = Int32.ofInt a := fun z => hx ((int_of h1.1 h1.2).mp z)
      have e : sSw x d f (mkLk pc ((a, o) :: r)) = sSw x d f (mkLk pc r) := by
        show (if x = Int32.ofInt a then _ else _) = _
        rw [if_neg hn]
      have e2 : Op.lookupswitch.offset ((a, o) :: r) dflt x.toInt = Op.lookupswitch.offset r dflt x.toInt := by
        rw [Op.lookupswitch.offset_cons, if_neg (fun z => hx (by simpa using z.symm))]
      rcases sSw_lk (x := x) (d := d) (f := f) (dflt := dflt) pc r (fun q hq => h q (List.mem_cons_of_mem _ hq)) with ⟨g1, g2⟩ | ⟨q, g0, g1, g2⟩
      · exact Or.inl ⟨e2.trans g1, e.trans g2⟩
      · exact Or.inr ⟨q, List.mem_cons_of_mem _ g0, e2.trans g1, e.trans g2⟩
theorem w_lkp {dflt : Int} {ps : Array (Int × Int)} {sw : List (Int × Nat)} {len : Nat} (hC : Cx p s m args meth c A X y cc nL scr) (hdg : decode cc pc = .ok (.lookupswitch dflt ps, len)) (ht : (pc : Int) + dflt = (tg : Int)) (hsw : sw = mkLk pc ps.toList) (hord : (ps.toList.zip (ps.toList.drop 1)).all (fun (a, next) => a.1 < next.1) = true) (hr : ∀ q ∈ ps.toList, -2147483648 ≤ q.1 ∧ q.1 < 2147483648) (hpos : ∀ q ∈ ps.toList, 0 ≤ (pc : Int) + q.2)
    {x : Int32} {rest : List Value} (hgo : ∀ pc' L' st' t', go pc' L' st' t' = some r → WSt p l e R s m args below meth c D A X ws0 nL n0 z0 Q r pc' L' st' t') (h : sSw x (go tg L rest t) (fun q => go q L rest t) sw = some r) : WSt p l e R s m args below meth c D A X ws0 nL n0 z0 Q r pc L (.int x :: rest) t := by
  rw [hsw] at h
  rcases sSw_lk (x := x) (d := go tg L rest t) (f := fun q => go q L rest t) (dflt := dflt) pc ps.toList hr with ⟨g1, g2⟩ | ⟨q, g0, g1, g2⟩
  · rw [g2] at h
    refine (hgo _ _ _ _ h).free (fun H locs ws cells slots L' ls st' hL hl hs k => ?_)
    obtain ⟨s1, rfl, hs1⟩ := hs.int
    exact lv_lookup hC.1 hC.2.1 hdg hord g1 ht (k L' ls _ hL hl hs1)
  · rw [g2] at h
    refine (hgo _ _ _ _ h).free (fun H locs ws cells slots L' ls st' hL hl hs k => ?_)
    obtain ⟨s1, rfl, hs1⟩ := hs.int
    have hm := hpos q g0
    exact lv_lookup hC.1 hC.2.1 hdg hord g1 (by omega) (k L' ls _ hL hl hs1)
end
