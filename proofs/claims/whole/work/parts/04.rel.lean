section
/-! WHAT THE SMALL MACHINE'S MEMORY SAYS OF THE HEAP -/
def TWg : List Cond := lw_tbl.filter goodWord
theorem TWg_in {w : Cond} {i : Nat} (h : lw_tbl[i]? = some w) (g : goodWord w = true) : w ∈ TWg := List.mem_filter.mpr ⟨List.mem_of_getElem? h, g⟩
theorem TWg_tbl {w : Cond} (h : w ∈ TWg) : w ∈ lw_tbl := (List.mem_filter.mp h).1
theorem TWg_good {w : Cond} (h : w ∈ TWg) : (w.onTables && w.keeps) = true ∨ ∃ ty, w = .arrayClass ty := good_of_word (List.mem_filter.mp h).2
def clN (ci : Nat) : Nat := match vwCl[ci]? with
  | some q => q.2.2
  | none => 0
def clTy : Nat → Nat → FieldType := fun ci => match ci with
  | 0 => tyX0
  | 1 => tyX1
  | 2 => tyX2
  | 3 => tyX3
  | 4 => tyX4
  | 5 => tyX5
  | 6 => tyX6
  | 7 => tyX7
  | 8 => tyX8
  | 9 => tyX9
  | 10 => tyX10
  | 11 => tyX11
  | _ => fun _ => .int
def isRT : FieldType → Bool
  | .object _ => true
  | .array _ => true
  | _ => false
def arrT (g : Nat) : FieldType := if g = 20 then .int else if g = 21 then .boolean else (match vwCl[g - 30]? with
  | some q => .object q.1
  | none => .int)
def RRef (ws : va_W) (r a : Nat) : Prop := ∃ e, ws[r]? = some (a, e)
def ROpt (ws : va_W) (o o' : Option Nat) : Prop := match o with
  | none => o' = none
  | some r => ∃ a, o' = some a ∧ RRef ws r a
def SFld (ws : va_W) (t : SM) (ci k j : Nat) (v : Value) : Prop := match isRT (clTy ci j) with
  | true => ∃ o', v = va_rf o' ∧ ROpt ws (mR t k j) o'
  | false => v = .int (mI t k j)
def SObj (ws : va_W) (t : SM) (k : Nat) (e : va_E) : Prop := (mT t k).1 < 12 ∧ ∃ fs, e = .inr ((mT t k).1, fs) ∧ fs.length = clN (mT t k).1 ∧ ∀ (j : Nat) (v : Value), fs[j]? = some v → SFld ws t (mT t k).1 k j v
def SInt (tys : List (ClassId × FieldType)) (t : SM) (k : Nat) (e : va_E) : Prop := ((mT t k).1 = 20 ∨ (mT t k).1 = 21) ∧ ∃ (cA : ClassId) (t0 : Nat), tys[t0]? = some (cA, arrT (mT t k).1) ∧ e = .inl (cA, (mT t k).2, .inl (mI t k))
def SRow (ws : va_W) (tys : List (ClassId × FieldType)) (t : SM) (k : Nat) (e : va_E) : Prop := (30 ≤ (mT t k).1 ∧ (mT t k).1 < 42) ∧ ∃ (cA : ClassId) (t0 : Nat) (f : Nat → Option Nat), tys[t0]? = some (cA, arrT (mT t k).1) ∧ e = .inl (cA, (mT t k).2, .inr (.inr (.inr (.inr f)))) ∧ ∀ j, ROpt ws (mR t k j) (f j)
def SCell (ws : va_W) (tys : List (ClassId × FieldType)) (t : SM) (k : Nat) (e : va_E) : Prop := SObj ws t k e ∨ SInt tys t k e ∨ SRow ws tys t k e
def SRel (ws : va_W) (tys : List (ClassId × FieldType)) (t : SM) : Prop := ws.length = mN t ∧ (∀ k, mN t ≤ k → (mT t k).1 = 999) ∧ ∀ (k a : Nat) (e : va_E), ws[k]? = some (a, e) → SCell ws tys t k e
def SExt (w0 w1 : va_W) : Prop := ∀ (k a : Nat) (e : va_E), w0[k]? = some (a, e) → ∃ e', w1[k]? = some (a, e')
abbrev PX : Type := UInt32 → Value → Prop
def VRel (X : PX) (ws : va_W) (v v' : Value) : Prop := match v with
  | .ref r => ∃ a, v' = .ref a ∧ RRef ws r a
  | .float k => X k v'
  | v => v' = v
def VsRel (X : PX) (ws : va_W) : List Value → List Value → Prop
  | [], [] => True
  | v :: l, v' :: l' => VRel X ws v v' ∧ VsRel X ws l l'
  | _, _ => False
def LsRel (X : PX) (ws : va_W) : LV → LV → Prop
  | [], [] => True
  | q :: l, q' :: l' => (q.1 = q'.1 ∧ VRel X ws q.2 q'.2) ∧ LsRel X ws l l'
  | _, _ => False
def OVRel (X : PX) (ws : va_W) (o o' : Option Value) : Prop := match o with
  | none => o' = none
  | some v => ∃ v', o' = some v' ∧ VRel X ws v v'
def tyExt (a b : List (ClassId × FieldType)) : Prop := ∀ (i : Nat) (q : ClassId × FieldType), a[i]? = some q → b[i]? = some q
theorem tyExt.rf {a : List (ClassId × FieldType)} : tyExt a a := fun _ _ h => h
theorem tyExt.app {a b : List (ClassId × FieldType)} : tyExt a (a ++ b) := fun i q h => by rw [List.getElem?_append_left (List.getElem?_eq_some_iff.mp h).1]; exact h
theorem SExt.rf {w : va_W} : SExt w w := fun _ _ e h => ⟨e, h⟩
theorem SExt.tr {a b c : va_W} (h : SExt a b) (g : SExt b c) : SExt a c := fun k q e x => by
  obtain ⟨e', h'⟩ := h k q e x
  exact g k q e' h'
theorem SExt.app {a b : va_W} : SExt a (a ++ b) := fun k q e h => ⟨e, by rw [List.getElem?_append_left (List.getElem?_eq_some_iff.mp h).1]; exact h⟩
theorem SExt.set {ws : va_W} {p a : Nat} {e0 e : va_E} (hp : ws[p]? = some (a, e0)) : SExt ws (ws.set p (a, e)) := fun k q x h => by
  by_cases hk : k = p
  · subst hk
    rw [hp] at h
    cases h
    exact ⟨e, by rw [List.getElem?_set_self (List.getElem?_eq_some_iff.mp hp).1]⟩
  · exact ⟨x, by rw [List.getElem?_set_ne (Ne.symm hk)]; exact h⟩
theorem RRef.ext {w0 w1 : va_W} {r a : Nat} (hE : SExt w0 w1) (h : RRef w0 r a) : RRef w1 r a := by
  obtain ⟨e, h⟩ := h
  exact hE r a e h
theorem ROpt.ext {w0 w1 : va_W} {o o' : Option Nat} (hE : SExt w0 w1) (h : ROpt w0 o o') : ROpt w1 o o' := by
  cases o with
  | none => exact h
  | some r =>
    obtain ⟨a, h1, h2⟩ := h
    exact ⟨a, h1, h2.ext hE⟩
theorem VRel.ext {X : PX} {w0 w1 : va_W} {v v' : Value} (hE : SExt w0 w1) (h : VRel X w0 v v') : VRel X w1 v v' := by
  cases v with
  | ref r =>
    obtain ⟨a, h1, h2⟩ := h
    exact ⟨a, h1, h2.ext hE⟩
  | _ => exact h
theorem VsRel.ext {X : PX} {w0 w1 : va_W} (hE : SExt w0 w1) : ∀ {l l' : List Value}, VsRel X w0 l l' → VsRel X w1 l l'
  | [], [], _ => trivial
  | _ :: _, _ :: _, h => ⟨h.1.ext hE, VsRel.ext hE h.2⟩
  | [], _ :: _, h => h.elim
  | _ :: _, [], h => h.elim
theorem LsRel.ext {X : PX} {w0 w1 : va_W} (hE : SExt w0 w1) : ∀ {l l' : LV}, LsRel X w0 l l' → LsRel X w1 l l'
  | [], [], _ => trivial
  | _ :: _, _ :: _, h => ⟨⟨h.1.1, h.1.2.ext hE⟩, LsRel.ext hE h.2⟩
  | [], _ :: _, h => h.elim
  | _ :: _, [], h => h.elim
theorem SCell.ext {w0 w1 : va_W} {y0 y1 : List (ClassId × FieldType)} {t u : SM} {k : Nat} {e : va_E} (h : SCell w0 y0 t k e) (hE : SExt w0 w1) (hY : tyExt y0 y1) (hI : mI u k = mI t k) (hR : mR u k = mR t k) (hT : mT u k = mT t k) : SCell w1 y1 u k e := by
  rcases h with ⟨h1, fs, h2, h3, h4⟩ | ⟨h1, cA, t0, h2, h3⟩ | ⟨h1, cA, t0, f, h2, h3, h4⟩
  · refine Or.inl ⟨by rw [hT]; exact h1, fs, by rw [hT]; exact h2, by rw [hT]; exact h3, fun j v hv => ?_⟩
    have h5 := h4 j v hv
    unfold SFld at h5 ⊢
    rw [hT, hI, hR]
    cases hq : isRT (clTy (mT t k).1 j) with
    | true =>
      rw [hq] at h5
      obtain ⟨o', g1, g2⟩ := h5
      exact ⟨o', g1, g2.ext hE⟩
    | false =>
      rw [hq] at h5
      exact h5
  · exact Or.inr (Or.inl ⟨by rw [hT]; exact h1, cA, t0, by rw [hT]; exact hY _ _ h2, by rw [hT, hI]; exact h3⟩)
  · exact Or.inr (Or.inr ⟨by rw [hT]; exact h1, cA, t0, f, by rw [hT]; exact hY _ _ h2, by rw [hT]; exact h3, fun j => by rw [hR]; exact (h4 j).ext hE⟩)
theorem SRel.upd {ws : va_W} {tys : List (ClassId × FieldType)} {t u : SM} {k a : Nat} {e0 e : va_E} (h : SRel ws tys t) (hk : ws[k]? = some (a, e0)) (hN : mN u = mN t) (hT : mT u = mT t) (hI : ∀ q, q ≠ k → mI u q = mI t q) (hR : ∀ q, q ≠ k → mR u q = mR t q) (hc : SCell (ws.set k (a, e)) tys u k e) : SRel (ws.set k (a, e)) tys u := by
  obtain ⟨h1, h2, h3⟩ := h
  refine ⟨by rw [List.length_set, h1, hN], fun q hq => by rw [hT]; exact h2 q (by rw [← hN]; exact hq), fun q b x hx => ?_⟩
  by_cases hq : q = k
  · subst hq
    rw [List.getElem?_set_self (List.getElem?_eq_some_iff.mp hk).1] at hx
    cases hx
    exact hc
  · rw [List.getElem?_set_ne (Ne.symm hq)] at hx
    exact (h3 q b x hx).ext (SExt.set hk) tyExt.rf (hI q hq) (hR q hq) (by rw [hT])
theorem SRel.push {ws : va_W} {tys ty' : List (ClassId × FieldType)} {t : SM} {g n z a : Nat} {e : va_E} (h : SRel ws tys t) (hY : tyExt tys ty') (hc : SCell (ws ++ [(a, e)]) ty' (mPush t g n z) (mN t) e) : SRel (ws ++ [(a, e)]) ty' (mPush t g n z) := by
  obtain ⟨h1, h2, h3⟩ := h
  refine ⟨by rw [List.length_append, h1]; rfl, fun q hq => ?_, fun q b x hx => ?_⟩
  · have hq' : mN t + 1 ≤ q := hq
    show (if q = mN t then (g, n) else mT t q).1 = 999
    rw [if_neg (by omega)]
    exact h2 q (by omega)
  · by_cases hl : q < ws.length
    · rw [List.getElem?_append_left hl] at hx
      have hne : ¬ q = mN t := by rw [← h1]; omega
      exact (h3 q b x hx).ext SExt.app hY (by show (if q = mN t then _ else mI t q) = _; rw [if_neg hne]) (by show (if q = mN t then _ else mR t q) = _; rw [if_neg hne]) (by show (if q = mN t then _ else mT t q) = _; rw [if_neg hne])
    · rw [List.getElem?_append_right (by omega)] at hx
      have hz : q - ws.length < 1 := (List.getElem?_eq_some_iff.mp hx).1
      have hq : q = mN t := by omega
      subst hq
      rw [← h1, Nat.sub_self] at hx
      cases hx
      exact hc
/-! what the small machine's numbers of texts, of the script stand for -/
def strJ : List (String × Nat × String) := [("EveryMapWrong", 83, "may 1 ; harm far ; price 3 + worlds ;"), ("EveryMapWrong$Reader", 133, "may"), ("EveryMapWrong$Reader", 135, "harm"), ("EveryMapWrong$Reader", 137, "price"), ("EveryMapWrong$Reader", 139, "or"), ("EveryMapWrong$Reader", 141, "and"), ("EveryMapWrong$Reader", 143, "not"), ("EveryMapWrong$Reader", 145, "a"), ("EveryMapWrong$Reader", 147, "b"), ("EveryMapWrong$Reader", 149, "c"), ("EveryMapWrong$Reader", 151, "d"), ("EveryMapWrong$Reader", 153, "far"), ("EveryMapWrong$Reader", 155, "worlds"), ("EveryMapWrong$Reader", 157, "();+-*<=")]
def nestJ : List Cond := [Cond.methodLinkNest "EveryMapWrong" 15 ⟨"EveryMapWrong$Atlas", "<init>", "()V"⟩ "EveryMapWrong", Cond.methodLinkNest "EveryMapWrong" 22 ⟨"EveryMapWrong$Streets", "<init>", "()V"⟩ "EveryMapWrong", Cond.methodLinkNest "EveryMapWrong" 39 ⟨"EveryMapWrong$Reader", "<init>", "()V"⟩ "EveryMapWrong", Cond.methodLinkNest "EveryMapWrong" 46 ⟨"EveryMapWrong$Image", "<init>", "()V"⟩ "EveryMapWrong", Cond.methodLinkNest "EveryMapWrong" 59 ⟨"EveryMapWrong$Worlds", "<init>", "()V"⟩ "EveryMapWrong", Cond.methodLinkNest "EveryMapWrong" 109 ⟨"EveryMapWrong$Sheet", "<init>", "()V"⟩ "EveryMapWrong", Cond.methodLinkNest "EveryMapWrong$Atlas" 55 ⟨"EveryMapWrong", "numberAt", "([II)I"⟩ "EveryMapWrong", Cond.methodLinkNest "EveryMapWrong$Street" 22 ⟨"EveryMapWrong", "hasChoice", "(II)Z"⟩ "EveryMapWrong", Cond.methodLinkNest "EveryMapWrong$Streets" 39 ⟨"EveryMapWrong", "goalOf", "(I)I"⟩ "EveryMapWrong", Cond.methodLinkNest "EveryMapWrong$Streets" 61 ⟨"EveryMapWrong", "setNumber", "([III)V"⟩ "EveryMapWrong", Cond.methodLinkNest "EveryMapWrong$Streets" 50 ⟨"EveryMapWrong", "numberAt", "([II)I"⟩ "EveryMapWrong", Cond.methodLinkNest "EveryMapWrong$Streets" 47 ⟨"EveryMapWrong", "startOf", "(I)I"⟩ "EveryMapWrong", Cond.methodLinkNest "EveryMapWrong$AtWorst" 90 ⟨"EveryMapWrong", "firstOf", "(I)I"⟩ "EveryMapWrong", Cond.methodLinkNest "EveryMapWrong$AtWorst" 86 ⟨"EveryMapWrong", "numberAt", "([II)I"⟩ "EveryMapWrong", Cond.methodLinkNest "EveryMapWrong$AtWorst" 96 ⟨"EveryMapWrong", "setNumber", "([III)V"⟩ "EveryMapWrong", Cond.methodLinkNest "EveryMapWrong$Worlds" 39 ⟨"EveryMapWrong", "numberAt", "([II)I"⟩ "EveryMapWrong", Cond.methodLinkNest "EveryMapWrong$Worlds" 35 ⟨"EveryMapWrong", "setNumber", "([III)V"⟩ "EveryMapWrong", Cond.methodLinkNest "EveryMapWrong$Atlas" 87 ⟨"EveryMapWrong", "setNumber", "([III)V"⟩ "EveryMapWrong", Cond.methodLinkNest "EveryMapWrong$Sheet" 26 ⟨"EveryMapWrong", "setNumber", "([III)V"⟩ "EveryMapWrong", Cond.methodLinkNest "EveryMapWrong$Sheet" 32 ⟨"EveryMapWrong", "numberAt", "([II)I"⟩ "EveryMapWrong"]
def fmtD : String := "Ljava/util/function/BiFunction;"
def SStr (X : PX) (A : Nat → Prop) (U : State) (H : Heap) : Prop := ∃ adK adV : Nat → Nat, vk_S 14 (bytJ.map List.length) bytJ adK adV A U H ∧ (∀ i, i < 14 → ∀ v, X (UInt32.ofNat i) v ↔ v = .ref (adK i)) ∧ (∀ i, i < 14 → ∀ v, X (UInt32.ofNat (i + 50)) v ↔ v = .ref (adV i)) ∧ (∀ (i : Nat) (q : String × Nat × String), strJ[i]? = some q → vk_R q.1 q.2.1 q.2.2 (adK i) U) ∧ va_Z "java/lang/String" "COMPACT_STRINGS" "Z" (.int 1) A U H ∧ ∃ z : Value, va_Z "jdk/internal/util/Preconditions" "SIOOBE_FORMATTER" fmtD z A U H ∧ X 201 z
def SX (X : PX) (A : Nat → Prop) (U : State) : Prop := (∀ w ∈ nestJ, va_Nw w U) ∧ (∀ (ci : Nat) (q : vw_C), ci = 2 ∨ ci = 5 ∨ ci = 6 ∨ ci = 8 → vwCl[ci]? = some q → va_AO q.1 U) ∧ va_Nw (.castable "[I" "java/lang/Cloneable") U ∧ (∀ k v, X k v → v = .null ∨ ∃ a, v = .ref a) ∧ SStr X A U U.heap
end
