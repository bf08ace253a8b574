section
/-! THE RULES: the small machine's steps, held against the machine's -/
theorem nestJ_form : ∀ w ∈ nestJ, ∃ (a : String) (i : Nat) (x : MethodName) (h : String), w = Cond.methodLinkNest a i x h := by
  intro w hw
  simp only [nestJ, List.mem_cons, List.not_mem_nil, or_false] at hw
  rcases hw with rfl | rfl | rfl | rfl | rfl | rfl | rfl | rfl | rfl | rfl | rfl | rfl | rfl | rfl | rfl | rfl | rfl | rfl | rfl | rfl <;> exact ⟨_, _, _, _, rfl⟩
theorem SX.call {X : PX} {A B : Nat → Prop} {s U : State} {H : Heap} (hW : s.WarmedH U.vm) (h : SX X A s) (hH : U.heap = H) (hk : ∀ a : Nat, a < s.heap.size → ¬ A a → H[a]? = s.heap[a]?) (hAB : ∀ q, B q → A q) : SX X B U := by
  obtain ⟨h1, h2, h3, h4, adK, adV, g1, g2, g3, g4, g5, z, g6, g7⟩ := h
  refine ⟨fun w hw => ?_, fun ci q hci hq => va_AO.moved hW.alike (h2 ci q hci hq), va_Nw.warmC hW h3, h4, adK, adV, ?_, g2, g3, fun i q hq => vk_R.warm hW (g4 i q hq), ?_, z, ?_, g7⟩
  · obtain ⟨a, i, x, hh, rfl⟩ := nestJ_form w hw
    exact va_Nw.warmM hW (h1 _ hw)
  · rw [hH]
    exact ((vk_S.moved hW.alike g1).kept hk).narrow hAB
  · rw [hH]
    exact ((va_Z.moved hW.alike g5).kept hk).narrow hAB
  · rw [hH]
    exact ((va_Z.moved hW.alike g6).kept hk).narrow hAB
/-- what a method's walk stands on: the machine, its code, its words, the texts; the script, where there is one -/
def Cx (p : Program) (s : State) (m : MethodId) (args : Array Value) (meth : Method) (c : Code) (A : Nat → Prop) (X : PX) (y : MethodName) (cc : ByteArray) (nL : Nat) (scr : Scr) : Prop :=
  p.tables.exec = Jvm.exec ∧ c.code = cc ∧ c.maxLocals = nL ∧ s.vm.findClass y.cls = some m.cls ∧ (∀ w ∈ TWg, w.before args s = true) ∧ meth.locks = false ∧ meth.name = y.name ∧ (∀ q : Nat, s.heap.size ≤ q → A q) ∧ SX X A s ∧
  ∀ q, scr = some q → ∃ b, va_X b q.1 q.2 s s.heap ∧ b < s.heap.size ∧ ¬ A b ∧ ∀ v, X 200 v → v = .ref b
/-- the machine's side of a state of the small machine -/
def Sm (D : va_G) (A : Nat → Prop) (X : PX) (ws0 : va_W) (s : State) (nL n0 z0 : Nat) (H : Heap) (locs : List Loc) (ws : va_W) (tys : List (ClassId × FieldType)) (L L' : LV) (ls : Array Slot) (st st' : List Value) (t : SM) : Prop :=
  va_K D vwCl tys s ∧ va_P D vwCl ws H ∧ va_D A ws ∧ va_S A s.heap H locs ∧ SRel ws tys t ∧ SExt ws0 ws ∧ (n0 ≤ mN t ∧ z0 ≤ mZ t) ∧ LsRel X ws L L' ∧ lv_has ls nL L' ∧ VsRel X ws st st'
/-- from here the machine comes to its end with what the small machine says (r) -/
def WSt (p : Program) (l : Launch) (e : Env) (R : Room) (s : State) (m : MethodId) (args : Array Value) (below : List Frame) (meth : Method) (c : Code) (D : va_G) (A : Nat → Prop) (X : PX) (ws0 : va_W) (nL n0 z0 : Nat) (Q : State → Prop) (r : RR) (pc : Nat) (L : LV) (st : List Value) (t : SM) : Prop :=
  (mN t ≤ mN r.2 ∧ mZ t ≤ mZ r.2) ∧ ∀ (H : Heap) (locs : List Loc) (ws : va_W) (tys : List (ClassId × FieldType)) (L' : LV) (ls : Array Slot) (st' : List Value), Sm D A X ws0 s nL n0 z0 H locs ws tys L L' ls st st' t → W p l e R s m args below meth c H locs (mN t - n0) (mZ t - z0) Q (F0 m pc ls st')
theorem lkp_rel {X : PX} {ws : va_W} {i : Nat} {v : Value} : ∀ {L L' : LV}, LsRel X ws L L' → lkp i L = some v → ∃ v', (i, v') ∈ L' ∧ VRel X ws v v'
  | q :: l, q' :: l', h, hl => by
    obtain ⟨⟨h1, h2⟩, h3⟩ := h
    unfold lkp at hl
    by_cases hq : q.1 = i
    · rw [if_pos hq] at hl
      cases hl
      obtain ⟨a, b⟩ := q'
      refine ⟨b, ?_, h2⟩
      rw [show i = a from hq.symm.trans h1]
      exact List.mem_cons_self
    · rw [if_neg hq] at hl
      obtain ⟨v', g1, g2⟩ := lkp_rel h3 hl
      exact ⟨v', List.mem_cons_of_mem _ g1, g2⟩
theorem filtC_rel {X : PX} {ws : va_W} {f : Nat × Value → Bool} {r : RR} (hf : ∀ q q' : Nat × Value, q.1 = q'.1 → VRel X ws q.2 q'.2 → f q = f q') : ∀ {L L' : LV} {k : LV → OR}, LsRel X ws L L' → filtC f k L = some r → ∃ M, k M = some r ∧ LsRel X ws M (L'.filter f)
  | [], [], k, _, h => ⟨[], h, trivial⟩
  | q :: l, q' :: l', k, h, hk => by
    obtain ⟨⟨h1, h2⟩, h3⟩ := h
    unfold filtC at hk
    have e := hf q q' h1 h2
    cases hq : f q with
    | true =>
      rw [hq] at hk
      obtain ⟨M, g1, g2⟩ := filtC_rel hf h3 hk
      refine ⟨q :: M, g1, ?_⟩
      rw [List.filter_cons_of_pos (by rw [← e]; exact hq)]
      exact ⟨⟨h1, h2⟩, g2⟩
    | false =>
      rw [hq] at hk
      obtain ⟨M, g1, g2⟩ := filtC_rel hf h3 hk
      refine ⟨M, g1, ?_⟩
      rw [List.filter_cons_of_neg (by rw [← e, hq]; decide)]
      exact g2
theorem VRel.cat {X : PX} {ws : va_W} {v v' : Value} (hX : ∀ k v, X k v → v = .null ∨ ∃ a, v = .ref a) (h : VRel X ws v v') : v.category = v'.category := by
  cases v with
  | ref r =>
    obtain ⟨a, rfl, -⟩ := h
    rfl
  | float k =>
    rcases hX k v' h with rfl | ⟨a, rfl⟩ <;> rfl
  | _ => rw [show v' = _ from h]
theorem keep1_rel {X : PX} {ws : va_W} (hX : ∀ k v, X k v → v = .null ∨ ∃ a, v = .ref a) (i : Nat) (q q' : Nat × Value) (h : q.1 = q'.1) (g : VRel X ws q.2 q'.2) : keep1 i q = keep1 i q' := by
  unfold keep1
  rw [h, g.cat hX]
theorem keep2_rel {X : PX} {ws : va_W} (hX : ∀ k v, X k v → v = .null ∨ ∃ a, v = .ref a) (i : Nat) (q q' : Nat × Value) (h : q.1 = q'.1) (g : VRel X ws q.2 q'.2) : keep2 i q = keep2 i q' := by
  unfold keep2
  rw [h, g.cat hX]
theorem catS_rel {X : PX} {ws : va_W} (hX : ∀ k v, X k v → v = .null ∨ ∃ a, v = .ref a) : ∀ {l l' : List Value}, VsRel X ws l l' → catS l = (l'.map fun v => v.category).sum
  | [], [], _ => rfl
  | v :: l, v' :: l', h => by
    have h2 := catS_rel hX h.2
    unfold catS at h2 ⊢
    rw [List.map_cons, List.map_cons, List.sum_cons, List.sum_cons, h2, h.1.cat hX]
theorem VsRel.len {X : PX} {ws : va_W} : ∀ {l l' : List Value}, VsRel X ws l l' → l.length = l'.length
  | [], [], _ => rfl
  | v :: l, v' :: l', h => by rw [List.length_cons, List.length_cons, VsRel.len h.2]
theorem VsRel.app {X : PX} {ws : va_W} : ∀ {a a' b b' : List Value}, VsRel X ws a a' → VsRel X ws b b' → VsRel X ws (a ++ b) (a' ++ b')
  | [], [], _, _, _, h => h
  | _ :: _, _ :: _, _, _, h, g => ⟨h.1, VsRel.app h.2 g⟩
theorem VsRel.rev {X : PX} {ws : va_W} : ∀ {a a' : List Value}, VsRel X ws a a' → VsRel X ws a.reverse a'.reverse
  | [], [], _ => trivial
  | v :: l, v' :: l', h => by
    rw [List.reverse_cons, List.reverse_cons]
    exact (VsRel.rev h.2).app ⟨h.1, trivial⟩
theorem VsRel.take {X : PX} {ws : va_W} : ∀ (n : Nat) {a a' : List Value}, VsRel X ws a a' → VsRel X ws (a.take n) (a'.take n)
  | 0, _, _, _ => by rw [List.take_zero, List.take_zero]; trivial
  | n + 1, [], [], _ => trivial
  | n + 1, v :: l, v' :: l', h => ⟨h.1, VsRel.take n h.2⟩
theorem VsRel.drop {X : PX} {ws : va_W} : ∀ (n : Nat) {a a' : List Value}, VsRel X ws a a' → VsRel X ws (a.drop n) (a'.drop n)
  | 0, _, _, h => h
  | n + 1, [], [], _ => trivial
  | n + 1, v :: l, v' :: l', h => VsRel.drop n h.2
theorem VsRel.cons {X : PX} {ws : va_W} {v : Value} {l l2 : List Value} (h : VsRel X ws (v :: l) l2) : ∃ v' l', l2 = v' :: l' ∧ VRel X ws v v' ∧ VsRel X ws l l' := by
  cases l2 with
  | nil => exact h.elim
  | cons a b => exact ⟨a, b, rfl, h.1, h.2⟩
theorem VsRel.int {X : PX} {ws : va_W} {x : Int32} {l l2 : List Value} (h : VsRel X ws (.int x :: l) l2) : ∃ l', l2 = .int x :: l' ∧ VsRel X ws l l' := by
  obtain ⟨v', l', rfl, h1, h2⟩ := h.cons
  cases (show v' = .int x from h1)
  exact ⟨l', rfl, h2⟩
theorem VsRel.lng {X : PX} {ws : va_W} {x : Int64} {l l2 : List Value} (h : VsRel X ws (.long x :: l) l2) : ∃ l', l2 = .long x :: l' ∧ VsRel X ws l l' := by
  obtain ⟨v', l', rfl, h1, h2⟩ := h.cons
  cases (show v' = .long x from h1)
  exact ⟨l', rfl, h2⟩
theorem VsRel.nul {X : PX} {ws : va_W} {l l2 : List Value} (h : VsRel X ws (.null :: l) l2) : ∃ l', l2 = .null :: l' ∧ VsRel X ws l l' := by
  obtain ⟨v', l', rfl, h1, h2⟩ := h.cons
  cases (show v' = .null from h1)
  exact ⟨l', rfl, h2⟩
theorem VsRel.ref {X : PX} {ws : va_W} {x : Nat} {l l2 : List Value} (h : VsRel X ws (.ref x :: l) l2) : ∃ a e l', l2 = .ref a :: l' ∧ ws[x]? = some (a, e) ∧ VsRel X ws l l' := by
  obtain ⟨v', l', rfl, ⟨a, rfl, e, h1⟩, h2⟩ := h.cons
  exact ⟨a, e, l', rfl, h1, h2⟩
theorem VsRel.flt {X : PX} {ws : va_W} {x : UInt32} {l l2 : List Value} (h : VsRel X ws (.float x :: l) l2) : ∃ v' l', l2 = v' :: l' ∧ X x v' ∧ VsRel X ws l l' := by
  obtain ⟨v', l', rfl, h1, h2⟩ := h.cons
  exact ⟨v', l', rfl, h1, h2⟩
theorem VsRel.nil {X : PX} {ws : va_W} {l2 : List Value} (h : VsRel X ws [] l2) : l2 = [] := by
  cases l2 with
  | nil => rfl
  | cons a b => exact h.elim
end
