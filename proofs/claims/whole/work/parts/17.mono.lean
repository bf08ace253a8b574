section
variable {r : RR} {pc nx nL : Nat} {L : LV} {st rest : List Value} {t : SM} {go : Go} {i j k ci a b : Nat} {aux : List Nat}
/-- what comes behind has no less -/
def leM (t u : SM) : Prop := mN t ≤ mN u ∧ mZ t ≤ mZ u
def GoM (go : Go) (r : RR) (t : SM) : Prop := ∃ pc' L' st' t', go pc' L' st' t' = some r ∧ leM t t'
theorem GoM.mk {pc' : Nat} {L' : LV} {st' : List Value} {t' : SM} (h : go pc' L' st' t' = some r) (g : leM t t') : GoM go r t := ⟨_, _, _, _, h, g⟩
theorem leM.rf {t : SM} : leM t t := ⟨Nat.le_refl _, Nat.le_refl _⟩
theorem leM.push {g n z : Nat} : leM t (mPush t g n z) := ⟨Nat.le_succ _, Nat.le_add_right _ _⟩
theorem leM.tr {u v : SM} (h : leM t u) (g : leM u v) : leM t v := ⟨Nat.le_trans h.1 g.1, Nat.le_trans h.2 g.2⟩
theorem m_bG {x : Bool} {o : OR} (h : bG x o = some r) : o = some r := by
  cases x with
  | true => exact h
  | false => cases h
theorem m_load {kd : Nat} (h : sLoad go kd i nx L st t = some r) : GoM go r t := by
  unfold sLoad at h
  split at h
  · exact .mk (m_bG h) .rf
  · cases h
theorem m_store {kd : Nat} (h : sStore go kd nL i nx L st t = some r) : GoM go r t := by
  unfold sStore at h
  split at h
  · obtain ⟨M, g⟩ := filtC_any _ _ (m_bG h)
    exact .mk g .rf
  · cases h
theorem m_store2 (h : sStore2 go nL i nx L st t = some r) : GoM go r t := by
  unfold sStore2 at h
  split at h
  · obtain ⟨M, g⟩ := filtC_any _ _ (m_bG h)
    exact .mk g .rf
  · cases h
theorem m_inc {n : Int} (h : sInc go nL i n nx L st t = some r) : GoM go r t := by
  unfold sInc at h
  split at h
  · obtain ⟨M, g⟩ := filtC_any _ _ (m_bG h)
    exact .mk g .rf
  · cases h
theorem m_I2 {f : Int32 → Int32 → Int32} (h : sI2 go f nx L st t = some r) : GoM go r t := by
  unfold sI2 at h
  split at h
  · exact .mk h .rf
  · cases h
theorem m_L2 {f : Int64 → Int64 → Int64} (h : sL2 go f nx L st t = some r) : GoM go r t := by
  unfold sL2 at h
  split at h
  · exact .mk h .rf
  · cases h
theorem m_LS {f : Int64 → Int32 → Int64} (h : sLS go f nx L st t = some r) : GoM go r t := by
  unfold sLS at h
  split at h
  · exact .mk h .rf
  · cases h
theorem m_I1 {f : Int32 → Value} (h : sI1 go f nx L st t = some r) : GoM go r t := by
  unfold sI1 at h
  split at h
  · exact .mk h .rf
  · cases h
theorem m_L1 {f : Int64 → Value} (h : sL1 go f nx L st t = some r) : GoM go r t := by
  unfold sL1 at h
  split at h
  · exact .mk h .rf
  · cases h
theorem m_dup (h : sDup go nx L st t = some r) : GoM go r t := by
  unfold sDup at h
  split at h
  · exact .mk (m_bG h) .rf
  · cases h
theorem m_dup2 (h : sDup2 go nx L st t = some r) : GoM go r t := by
  unfold sDup2 at h
  split at h
  · exact .mk (m_bG h) .rf
  · cases h
theorem m_pop (h : sPop go nx L st t = some r) : GoM go r t := by
  unfold sPop at h
  split at h
  · exact .mk (m_bG h) .rf
  · cases h
theorem sem1_mono {ins : Instr} {o : OR} (h : sem1 nL go ins nx aux L st t o = some r) : GoM go r t ∨ o = some r := by
  unfold sem1 at h
  split at h <;> first
    | exact Or.inl (.mk h .rf)
    | exact Or.inl (m_load h)
    | exact Or.inl (m_store h)
    | exact Or.inl (m_store2 h)
    | exact Or.inl (m_inc h)
    | exact Or.inl (m_I2 h)
    | exact Or.inl (m_L2 h)
    | exact Or.inl (m_LS h)
    | exact Or.inl (m_I1 h)
    | exact Or.inl (m_L1 h)
    | exact Or.inl (m_dup h)
    | exact Or.inl (m_dup2 h)
    | exact Or.inl (m_pop h)
    | exact Or.inr h
theorem m_if {c : Jvm.ClassFile.Cond} {x y : Int32} {p q : OR} (h : sIf c x y p q = some r) : p = some r ∨ q = some r := by
  unfold sIf at h
  split at h <;> split at h <;> first | exact Or.inl h | exact Or.inr h
theorem m_sw {x : Int32} {d : OR} {f : Nat → OR} : ∀ {l : List (Int × Nat)}, sSw x d f l = some r → d = some r ∨ ∃ q, f q = some r
  | [], h => Or.inl h
  | q :: l, h => by
    unfold sSw at h
    split at h
    · exact Or.inr ⟨_, h⟩
    · exact m_sw h
theorem m_some {p : Prop} {_ : Decidable p} {o : OR} (h : (if p then o else none) = some r) : p ∧ o = some r := by
  split at h
  · exact ⟨by assumption, h⟩
  · cases h
def CalM (cal : Cal) (r : RR) : Prop := ∀ (mi : Nat) (as : List Value) (t : SM) (k : Option Value → SM → OR), cal mi as t k = some r → ∃ (v : Option Value) (u : SM), leM t u ∧ k v u = some r
theorem m_call {cal : Cal} (hc : CalM cal r) (h : sCall cal go aux nx L st t = some r) : GoM go r t := by
  unfold sCall at h
  split at h
  · obtain ⟨v, u, g1, g2⟩ := hc _ _ _ _ (m_some h).2
    exact .mk g2 g1
  · split at h
    · obtain ⟨v, u, g1, g2⟩ := hc _ _ _ _ (m_some (m_some h).2).2
      exact .mk g2 g1
    · obtain ⟨v, u, g1, g2⟩ := hc _ _ _ _ (m_some (m_some h).2).2
      exact .mk g2 g1
    · cases h
theorem m_get (h : sGet go aux nx L st t = some r) : GoM go r t := by
  unfold sGet at h
  split at h
  · split at h
    · exact .mk (m_some h).2 .rf
    · have h2 := (m_some h).2
      split at h2
      · exact .mk h2 .rf
      · exact .mk h2 .rf
    · exact .mk (m_some h).2 .rf
  · have h2 := (m_some h).2
    split at h2
    · exact .mk h2 .rf
    · exact .mk h2 .rf
  · cases h
theorem m_put (h : sPut go aux nx L st t = some r) : GoM go r t := by
  unfold sPut at h
  split at h
  · split at h
    · exact .mk (m_some h).2 ⟨Nat.le_refl _, Nat.le_refl _⟩
    · exact .mk (m_some (m_some h).2).2 ⟨Nat.le_refl _, Nat.le_refl _⟩
    · cases h
  · split at h
    · exact .mk (m_some h).2 ⟨Nat.le_refl _, Nat.le_refl _⟩
    · cases h
  · cases h
theorem m_spec {cal : Cal} (hc : CalM cal r) (h : sSpec cal go aux nx L st t = some r) : GoM go r t := by
  unfold sSpec at h
  split at h
  · split at h
    · exact .mk (m_some h).2 .rf
    · cases h
  · split at h
    · exact .mk (m_some (m_some h).2).2 ⟨Nat.le_refl _, Nat.le_refl _⟩
    · cases h
  · split at h
    · exact .mk (m_some (m_some h).2).2 ⟨Nat.le_succ _, Nat.le_add_right _ _⟩
    · cases h
  · exact m_call hc h
theorem m_ret {rk : Nat} {q : Bool} (h : sRet rk q st t = some r) : t = r.2 := by
  unfold sRet at h
  split at h
  · split at h
    · cases h
    · split at h
      · cases h; rfl
      · have h2 := (m_some h).2; cases h2; rfl
      · have h2 := (m_some h).2; cases h2; rfl
      · have h2 := (m_some h).2; cases h2; rfl
      · cases h
  · have h2 := (m_some h).2; cases h2; rfl
  · have h2 := (m_some h).2; cases h2; rfl
  · have h2 := (m_some h).2; cases h2; rfl
  · cases h
theorem m_nz {y : Int32} {o : OR} (h : hNZ y o = some r) : o = some r := by
  unfold hNZ at h
  split at h
  · cases h
  · exact h
theorem m_nzl {y : Int64} {o : OR} (h : hNZL y o = some r) : o = some r := by
  unfold hNZL at h
  split at h
  · cases h
  · exact h
theorem sem2_mono {rk : Nat} {scr : Scr} {byt : Byt} {clN : Nat → Nat} {cal : Cal} {ins : Instr} {sw : List (Int × Nat)} (hc : CalM cal r) (h : sem2 rk scr byt clN cal go ins nx aux sw L st t = some r) : GoM go r t ∨ t = r.2 := by
  unfold sem2 at h
  split at h
  · split at h
    · rcases m_if h with h | h <;> exact Or.inl (.mk h .rf)
    · cases h
  · split at h
    · rcases m_if h with h | h <;> exact Or.inl (.mk h .rf)
    · cases h
  · unfold sNull at h
    split at h <;> first | exact Or.inl (.mk h .rf) | cases h
  · unfold sNull at h
    split at h <;> first | exact Or.inl (.mk h .rf) | cases h
  · split at h
    · rcases m_sw h with h | ⟨q, h⟩ <;> exact Or.inl (.mk h .rf)
    · cases h
  · split at h
    · rcases m_sw h with h | ⟨q, h⟩ <;> exact Or.inl (.mk h .rf)
    · cases h
  · unfold sDiv at h
    split at h
    · exact Or.inl (.mk (m_nz h) .rf)
    · cases h
  · unfold sRem at h
    split at h
    · exact Or.inl (.mk (m_nz h) .rf)
    · cases h
  · unfold sLRem at h
    split at h
    · exact Or.inl (.mk (m_nzl h) .rf)
    · cases h
  · exact Or.inl (m_get h)
  · exact Or.inl (m_put h)
  · unfold sLd at h
    split at h
    · exact Or.inl (.mk (m_some h).2 .rf)
    · have h2 := (m_some h).2
      split at h2
      · exact Or.inl (.mk (m_some h2).2 .rf)
      · cases h2
    · cases h
  · unfold sSt at h
    split at h
    · exact Or.inl (.mk (m_some h).2 ⟨Nat.le_refl _, Nat.le_refl _⟩)
    · cases h
  · unfold sBLd at h
    split at h
    · exact Or.inl (.mk (m_some h).2 .rf)
    · exact Or.inl (.mk (m_some h).2 .rf)
    · cases h
  · unfold sBSt at h
    split at h
    · exact Or.inl (.mk (m_some (m_some h).2).2 ⟨Nat.le_refl _, Nat.le_refl _⟩)
    · cases h
  · unfold sQLd at h
    split at h
    · have h2 := (m_some h).2
      split at h2
      · exact Or.inl (.mk h2 .rf)
      · exact Or.inl (.mk h2 .rf)
    · cases h
  · unfold sQSt at h
    split at h
    · exact Or.inl (.mk (m_some h).2 ⟨Nat.le_refl _, Nat.le_refl _⟩)
    · cases h
  · unfold sLen at h
    split at h
    · exact Or.inl (.mk (m_some h).2 .rf)
    · split at h
      · split at h
        · exact Or.inl (.mk h .rf)
        · cases h
      · exact Or.inl (.mk (m_some h).2 .rf)
    · cases h
  · exact Or.inl (.mk h .push)
  · unfold sNewA at h
    split at h
    · exact Or.inl (.mk (m_some h).2 .push)
    · cases h
  · unfold sNewA at h
    split at h
    · exact Or.inl (.mk (m_some h).2 .push)
    · cases h
  · exact Or.inl (m_spec hc h)
  · exact Or.inl (m_spec hc h)
  · exact Or.inl (m_spec hc h)
  · exact Or.inr (m_ret h)
  · exact Or.inr (m_ret h)
  · have h2 := (m_some h).2
    cases h2
    exact Or.inr rfl
  · split at h <;> exact Or.inl (.mk h .rf)
  · exact Or.inl (.mk h .rf)
  · exact Or.inl (.mk h .rf)
  · split at h <;> exact Or.inl (.mk h .rf)
  · split at h
    · exact Or.inl (.mk (m_some (m_some h).2).2 .rf)
    · cases h
  · cases h
theorem ex_mono {clN : Nat → Nat} {P : SCode} {scr : Scr} {byt : Byt} {cal : Cal} {cut : List Nat} {kc : Go} (hc : CalM cal r) (hk : ∀ pc L st t, kc pc L st t = some r → leM t r.2) : ∀ (f pc : Nat) (L : LV) (st : List Value) (t : SM), ex clN P scr byt cal cut kc f pc L st t = some r → leM t r.2 := by
  intro f
  induction f with
  | zero => intro pc L st t h; cases h
  | succ f ih =>
    intro pc L st t h
    unfold ex at h
    split at h
    · cases h
    · have key : ∀ {t : SM}, GoM (fun pc' L' st' t' => match inN pc' cut with
        | true => kc pc' L' st' t'
        | false => ex clN P scr byt cal cut kc f pc' L' st' t') r t → leM t r.2 := by
        rintro t ⟨pc', L', st', t', h1, h2⟩
        dsimp only at h1
        split at h1
        · exact h2.tr (hk _ _ _ _ h1)
        · exact h2.tr (ih _ _ _ _ h1)
      rcases sem1_mono h with h | h
      · exact key h
      · rcases sem2_mono hc h with h | h
        · exact key h
        · rw [h]; exact .rf
end
