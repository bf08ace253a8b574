section
variable {p : Program} {l : Launch} {e : Env} {R : Room} {s : State} {m : MethodId} {args : Array Value} {below : List Frame} {meth : Method} {c : Code} {D : va_G} {A : Nat → Prop} {X : PX} {ws0 : va_W} {nL n0 z0 : Nat} {Q : State → Prop} {r : RR} {scr : Scr} {y : MethodName} {cc : ByteArray}
variable {pc nx : Nat} {L : LV} {st rest : List Value} {t : SM} {go : Go} {ci j k ix a b : Nat} {q0 : vw_C} {ws : va_W} {tys : List (ClassId × FieldType)} {x : va_E}
theorem narrow_char {v : Int32} (h : 0 ≤ v ∧ v ≤ 65535) : narrow .char (.int v) = .int v := by
  have h0 : ¬ v < 0 := by
    intro z
    have h1 := Int32.le_iff_toInt_le.mp h.1
    have h2 := Int32.lt_iff_toInt_lt.mp z
    omega
  obtain ⟨n, hn, rfl⟩ := nI_of h0
  have h2 := Int32.le_iff_toInt_le.mp h.2
  rw [nI_toInt hn] at h2
  have h3 : (65535 : Int32).toInt = 65535 := by decide +kernel
  exact (pk_charN (by omega)).1
/-- a method's body from a place on -/
def Body (l : Launch) (d : Nat) (q : MT) (P : SCode) (r : RR) (pc : Nat) (L : LV) (st : List Value) (t : SM) : Prop := leM t r.2 ∧ ∀ (p : Program) (e : Env) (R : Room) (s : State) (m : MethodId) (args : Array Value) (below : List Frame) (meth : Method) (c : Code) (D : va_G) (A : Nat → Prop) (X : PX) (ws0 : va_W) (n0 z0 : Nat),
  Cx p s m args meth c A X q.1 q.2.1 P.2.1 none → (d ≤ R.frames ∧ 64 * d ≤ R.locals) → RoomOK R n0 z0 r → meth.sig.returnType = q.2.2.2.1 →
  WSt p l e R s m args below meth c D A X ws0 P.2.1 n0 z0 (MQ below (QcS D X ws0 A r) args s (mN r.2 - n0) (mZ r.2 - z0) A) r pc L st t
theorem w_fin {o : Option Value} {H : Heap} {locs : List Loc} {o' : Option Value} (hr : r = (o, t)) (h1 : va_K D vwCl tys s) (h2 : va_P D vwCl ws H) (h3 : va_D A ws) (h4 : va_S A s.heap H locs) (h5 : SRel ws tys t) (h6 : SExt ws0 ws) (ho : OVRel X ws o o') :
    ∀ t' : State, t'.heap = H → s.WarmedH t'.vm → QcS D X ws0 A r args s (.returned o') t' := fun t' ht hW => by
  subst hr
  exact ⟨⟨ws, tys, o', rfl, ho, by rw [ht]; exact h2, va_K.moved hW.alike h1, h3, h5, h6⟩, h4.F ht⟩
theorem w_ret {rk : Nat} {ret : Option FieldType} {ins : Instr} (hC : Cx p s m args meth c A X y cc nL scr) (hr : meth.sig.returnType = ret) (hrk : rk = rkOf ret) (hdg : decode cc pc = .ok (ins, 1)) (h : retR rk ins st t = some r) :
    WSt p l e R s m args below meth c D A X ws0 nL n0 z0 (MQ below (QcS D X ws0 A r) args s (mN r.2 - n0) (mZ r.2 - z0) A) r pc L st t := by
  have hX := hC.2.2.2.2.2.2.2.2.1.2.2.2.1
  have hlk := hC.2.2.2.2.2.1
  unfold retR at h
  split at h
  · unfold sRet at h
    split at h
    · rename_i v
      rw [if_neg (by decide)] at h
      have key : (o : some (some (Value.int v), t) = some r) → ∀ ty, ret = some ty → narrow ty (.int v) = .int v → WSt p l e R s m args below meth c D A X ws0 nL n0 z0 (MQ below (QcS D X ws0 A r) args s (mN r.2 - n0) (mZ r.2 - z0) A) r pc L [.int v] t := by
        intro o ty hty hn
        cases o
        refine ⟨⟨Nat.le_refl _, Nat.le_refl _⟩, fun H locs ws tys L' ls st' hS => ?_⟩
        obtain ⟨h1, h2, h3, h4, h5, h6, h7, h8, h9, h10⟩ := hS
        obtain ⟨s0, rfl, h11⟩ := h10.int
        obtain rfl := h11.nil
        exact W.zret (ty := ty) hC.1 hC.2.1 (hr.trans hty) hn (w_fin (o := some (.int v)) (X := X) rfl h1 h2 h3 h4 h5 h6 ⟨_, rfl, rfl⟩) h4.2.2 hdg hlk
      split at h
      · have hty : ret = some .int := by
          cases ret with
          | none => simp [rkOf] at hrk
          | some ty => cases ty <;> first | rfl | (simp [rkOf] at hrk)
        exact key h _ hty rfl
      · have hty : ret = some .boolean := by
          cases ret with
          | none => simp [rkOf] at hrk
          | some ty => cases ty <;> first | rfl | (simp [rkOf] at hrk)
        obtain ⟨hz, h⟩ := m_some h
        exact key h _ hty (by rcases hz with rfl | rfl <;> decide +kernel)
      · have hty : ret = some .char := by
          cases ret with
          | none => simp [rkOf] at hrk
          | some ty => cases ty <;> first | rfl | (simp [rkOf] at hrk)
        obtain ⟨hz, h⟩ := m_some h
        exact key h _ hty (narrow_char hz)
      · have hty : ret = some .byte := by
          cases ret with
          | none => simp [rkOf] at hrk
          | some ty => cases ty <;> first | rfl | (simp [rkOf] at hrk)
        obtain ⟨hz, h⟩ := m_some h
        exact key h _ hty (by rcases hz with rfl | rfl <;> decide +kernel)
      · cases h
    · have := (m_some h).1.1; cases this
    · have := (m_some h).1.1; cases this
    · have := (m_some h).1.1; cases this
    · cases h
  · have hty : rk = 5 → (∃ rt, ret = some rt ∧ ((∃ n, rt = .object n) ∨ ∃ u, rt = .array u)) := by
      intro h5
      rw [h5] at hrk
      cases ret with
      | none => simp [rkOf] at hrk
      | some ty =>
        cases ty with
        | object n => exact ⟨_, rfl, Or.inl ⟨n, rfl⟩⟩
        | array u => exact ⟨_, rfl, Or.inr ⟨u, rfl⟩⟩
        | _ => simp [rkOf] at hrk
    have key : ∀ v : Value, rk = 5 → some (some v, t) = some r → (∀ (ws : va_W) (v' : Value), VRel X ws v v' → v' = .null ∨ ∃ a, v' = .ref a) → WSt p l e R s m args below meth c D A X ws0 nL n0 z0 (MQ below (QcS D X ws0 A r) args s (mN r.2 - n0) (mZ r.2 - z0) A) r pc L [v] t := by
      intro v h5 o hv
      obtain ⟨rt, e1, e2⟩ := hty h5
      cases o
      refine ⟨⟨Nat.le_refl _, Nat.le_refl _⟩, fun H locs ws tys L' ls st' hS => ?_⟩
      obtain ⟨h1, h2, h3, h4, h5, h6, h7, h8, h9, h10⟩ := hS
      obtain ⟨v', s0, rfl, hvv, h11⟩ := h10.cons
      obtain rfl := h11.nil
      exact W.aret (rt := rt) hC.1 hC.2.1 (hr.trans e1) e2 (hv ws v' hvv) (w_fin (o := some v) (X := X) rfl h1 h2 h3 h4 h5 h6 ⟨_, rfl, hvv⟩) h4.2.2 hdg hlk
    unfold sRet at h
    split at h
    · rw [if_pos rfl] at h; cases h
    · obtain ⟨hz, h⟩ := m_some h
      exact key _ hz.2 h (fun ws v' hvv => by obtain ⟨a, rfl, -⟩ := hvv; exact Or.inr ⟨a, rfl⟩)
    · obtain ⟨hz, h⟩ := m_some h
      exact key _ hz.2 h (fun ws v' hvv => Or.inl hvv)
    · obtain ⟨hz, h⟩ := m_some h
      exact key _ hz.2.1 h (fun ws v' hvv => hX _ _ hvv)
    · cases h
  · obtain ⟨hz, h⟩ := m_some h
    have hty : ret = none := by
      cases ret with
      | none => rfl
      | some ty => have h0 := hz.1; rw [hrk] at h0; cases ty <;> simp [rkOf] at h0
    cases h
    refine ⟨⟨Nat.le_refl _, Nat.le_refl _⟩, fun H locs ws tys L' ls st' hS => ?_⟩
    obtain ⟨h1, h2, h3, h4, h5, h6, h7, h8, h9, h10⟩ := hS
    cases st with
    | cons a b => have := hz.2; cases this
    | nil =>
      obtain rfl := h10.nil
      exact W.vret hC.1 hC.2.1 (hr.trans hty) (w_fin (o := none) (X := X) rfl h1 h2 h3 h4 h5 h6 rfl) h4.2.2 hdg hlk
  · cases h
theorem calok_m {l : Launch} {d : Nat} {mt : List MT} {cal : Cal} (h : CalOK l d mt cal) : CalM cal r := fun mi as t k hh => by
  obtain ⟨q, d', u, -, -, -, g, g2⟩ := h _ _ _ _ _ hh
  exact ⟨u.1, u.2, g.1, g2⟩
theorem ex_body {mt : List MT} {cal : Cal} {d : Nat} {q : MT} {P : SCode} {cut : List Nat} {kc : Go} {f : Nat} (hcal : CalOK l d mt cal) (hd : 1 ≤ d) (hrk : P.2.2 = rkOf q.2.2.2.1) (hrows : ∀ z ∈ P.1, rowB mt q.1 q.2.1 z = true)
    (hkc : ∀ pc L st t, kc pc L st t = some r → Body l d q P r pc L st t) (h : ex clN P none bytJ cal cut kc f pc L st t = some r) : Body l d q P r pc L st t := by
  refine ⟨ex_mono (calok_m hcal) (fun pc L st t hh => (hkc pc L st t hh).1) f pc L st t h, fun p e R s m args below meth c D A X ws0 n0 z0 hC hR hRm hret => ?_⟩
  exact ex_sound hC hcal hd hR hRm (fun ins pc L st t hdg hh => w_ret hC hret hrk hdg hh) hrows (fun pc L st t hh => (hkc pc L st t hh).2 p e R s m args below meth c D A X ws0 n0 z0 hC hR hRm hret) f pc L st t h
theorem Body.less {d : Nat} {q : MT} {P : SCode} {L0 : LV} (h : Body l d q P r pc L0 st t) (hL : ∀ z ∈ L0, lkp z.1 L = some z.2) : Body l d q P r pc L st t := by
  refine ⟨h.1, fun p e R s m args below meth c D A X ws0 n0 z0 hC hR hRm hret => ?_⟩
  refine (h.2 p e R s m args below meth c D A X ws0 n0 z0 hC hR hRm hret).free (fun H locs ws cells slots L' ls st' g1 g2 g3 k => ?_)
  have key : ∀ M : LV, (∀ z ∈ M, lkp z.1 L = some z.2) → ∃ M', LsRel X ws M M' ∧ ∀ z ∈ M', ls[z.1]? = some (.val z.2) := by
    intro M
    induction M with
    | nil => exact fun _ => ⟨[], trivial, fun _ h => by cases h⟩
    | cons z M ih =>
      intro hM
      obtain ⟨M', f1, f2⟩ := ih (fun w hw => hM w (List.mem_cons_of_mem _ hw))
      obtain ⟨v', f3, f4⟩ := lkp_rel g1 (hM z List.mem_cons_self)
      refine ⟨(z.1, v') :: M', ⟨⟨rfl, f4⟩, f1⟩, fun w hw => ?_⟩
      rcases List.mem_cons.mp hw with rfl | hw
      · exact g2.2.2 _ f3
      · exact f2 w hw
  obtain ⟨M', f1, f2⟩ := key L0 hL
  exact k M' ls st' f1 ⟨g2.1, g2.2.1, f2⟩ g3
theorem ls_args (hX : ∀ k v, X k v → v = .null ∨ ∃ a, v = .ref a) : ∀ {as as' : List Value} {i : Nat}, VsRel X ws as as' → LsRel X ws (lv_args i as) (lv_args i as')
  | [], [], _, _ => trivial
  | v :: as, v' :: as', i, h => by
    unfold lv_args
    rw [h.1.cat hX]
    exact ⟨⟨rfl, h.1⟩, ls_args hX h.2⟩
theorem sl_len : ∀ (l : List Value), (lg_sl l).length = (l.map fun v => v.category).sum
  | [] => rfl
  | v :: l => by
    have h := sl_len l
    unfold lg_sl at h ⊢
    rw [List.flatMap_cons, List.length_append, h, List.map_cons, List.sum_cons]
    congr 1
    cases v <;> rfl
theorem con_of {d : Nat} {q : MT} {P : SCode} {as : List Value} (hpl : plainName q.1.cls = true) (hnL : P.2.1 = q.2.2.1) (hcat : catS as ≤ q.2.2.1) (hB : Body l d q P r 0 (lv_args 0 as) [] t) : Con l d q as t r := by
  refine ⟨hB.1, fun D ws tys X as' sz has hSR => ?_⟩
  refine Met.ofW (cc := q.2.1) (maxL := q.2.2.1) (ret := q.2.2.2.1) hpl rfl ?_
  intro p e s m args below meth c s₁ B hml hv
  obtain ⟨rfl, hsz, hP, hK, hD0, hSX⟩ := hv
  have hts := atoms_spec (ws := Cond.code q.1 q.2.1 q.2.2.1 q.2.2.2.1 :: TWg) B.pre
  have hX := hSX.2.2.2.1
  subst hsz
  have hC : Cx p s m as'.toArray meth c (va_A ws s.heap.size) X q.1 q.2.1 P.2.1 none := ⟨B.exec, B.bytes, hml.trans hnL.symm, findClass_of_methodNamed B.named, fun w hw => hts w (List.mem_cons_of_mem _ hw), B.notSynchronized, (name_of_methodNamed B.named B.method).1, fun z hz => Or.inr hz, hSX, fun z hz => by cases hz⟩
  have hW := (hB.2 p e (rmD d (mN r.2 - mN t) (mZ r.2 - mZ t)) s m as'.toArray below meth c D (va_A ws s.heap.size) X ws (mN t) (mZ t) hC ⟨Nat.le_refl _, Nat.le_refl _⟩ ⟨Nat.le_refl _, Nat.le_refl _⟩ B.returns).2
  have hlen : (lg_sl as').length ≤ q.2.2.1 := by rw [sl_len, ← catS_rel hX has]; exact hcat
  have hl := lv_entry as' (n := q.2.2.1) hlen
  rw [lg_entry_eq]
  have h3 := hW s.heap [] ws tys (lv_args 0 as') _ [] ⟨hK, hP, hD0.self, va_S.rf, hSR, SExt.rf, ⟨Nat.le_refl _, Nat.le_refl _⟩, ls_args hX has, by rw [hnL]; exact hl, trivial⟩
  rw [Nat.sub_self, Nat.sub_self] at h3
  exact h3
end
