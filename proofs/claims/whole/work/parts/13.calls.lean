section
variable {p : Program} {l : Launch} {e : Env} {R : Room} {s : State} {m : MethodId} {args : Array Value} {below : List Frame} {meth : Method} {c : Code} {D : va_G} {A : Nat → Prop} {X : PX} {ws0 : va_W} {nL n0 z0 : Nat} {Q : State → Prop} {r : RR} {scr : Scr} {y : MethodName} {cc : ByteArray}
variable {pc nx : Nat} {L : LV} {st rest : List Value} {t : SM} {go : Go} {ci j k ix a b : Nat} {q0 : vw_C} {ws : va_W} {tys : List (ClassId × FieldType)} {x : va_E}
/-- a method: name, code, locals, answer, how many arguments, kind (0 static, 1 of an object, 2 a constructor) -/
abbrev MT : Type := MethodName × ByteArray × Nat × Option FieldType × Nat × Nat
def MOK (q : MT) : Prop := Cond.code q.1 q.2.1 q.2.2.1 q.2.2.2.1 ∈ TWg ∧ q.2.2.1 ≤ 40 ∧ (q.1.cls ≠ "java/lang/invoke/MethodHandle" ∧ q.1.cls ≠ "java/lang/invoke/VarHandle" ∧ (parseMethodDescriptor q.1.desc).map (fun d => d.parameters.length) = some q.2.2.2.2.1) ∧ Cond.initialized q.1.cls ∈ TWg ∧
  ((q.2.2.2.2.2 = 0 ∧ Cond.static q.1 ∈ TWg) ∨ (q.2.2.2.2.2 = 1 ∧ Cond.instanceMethod q.1 ∈ TWg ∧ Cond.selects q.1.cls q.1 q.1 ∈ TWg) ∨ (q.2.2.2.2.2 = 2 ∧ q.1.name = "<init>" ∧ Cond.instanceMethod q.1 ∈ TWg ∧ q.2.2.2.1 = none))
def rmD (d mc ms : Nat) : Room := { frames := d, cells := mc, slots := ms, locals := 64 * d }
/-- a method's end -/
def QcS (D : va_G) (X : PX) (ws : va_W) (A : Nat → Prop) (r : RR) : Array Value → State → Outcome → State → Prop := fun _ st oc u =>
  (∃ (ws' : va_W) (tys' : List (ClassId × FieldType)) (v' : Option Value), oc = .returned v' ∧ OVRel X ws' r.1 v' ∧ va_P D vwCl ws' u.heap ∧ va_K D vwCl tys' u ∧ va_D A ws' ∧ SRel ws' tys' r.2 ∧ SExt ws ws') ∧ va_F A st u
/-- a method's start -/
def PcS (D : va_G) (X : PX) (ws : va_W) (tys : List (ClassId × FieldType)) (sz : Nat) (as' : List Value) : Array Value → State → Prop := va_Pc as' (fun U => U.heap.size = sz ∧ va_P D vwCl ws U.heap ∧ va_K D vwCl tys U ∧ va_D (fun _ => True) ws ∧ SX X (va_A ws sz) U)
/-- THE CONTRACT: at these arguments and this memory the method answers r.1, and leaves r.2 -/
def Con (l : Launch) (d : Nat) (q : MT) (as : List Value) (t : SM) (r : RR) : Prop :=
  (mN t ≤ mN r.2 ∧ mZ t ≤ mZ r.2) ∧ ∀ (D : va_G) (ws : va_W) (tys : List (ClassId × FieldType)) (X : PX) (as' : List Value) (sz : Nat), VsRel X ws as as' → SRel ws tys t →
    Met l q.1 (Cond.code q.1 q.2.1 q.2.2.1 q.2.2.2.1 :: TWg) (rmD d (mN r.2 - mN t) (mZ r.2 - mZ t)) (PcS D X ws tys sz as') (QcS D X ws (va_A ws sz) r) (mN r.2 - mN t) (mZ r.2 - mZ t) (va_A ws sz)
theorem PcS.blind {as' : List Value} {sz : Nat} : FrameBlind (PcS D X ws tys sz as') := by
  intro a U g mk h
  obtain ⟨h1, h2, h3, h4, h5, h6⟩ := h
  exact ⟨h1, h2, h3, va_K.moved (u := U) (U := U.calling g mk a) (Vm.Alike.refl U.vm) h4, h5, SX.call (s := U) (U := U.calling g mk a) (H := U.heap) (State.WarmedH.refl U) h6 rfl (fun _ _ _ => rfl) (fun _ z => z)⟩
theorem GoodIn.self {w : Jvm.Cond} (h : w ∈ TWg) : GoodIn TWg (w :: TWg) := by
  intro v hv
  rcases List.mem_cons.mp hv with rfl | hv
  · exact ⟨h, TWg_good h⟩
  · exact ⟨hv, TWg_good hv⟩
/-- where a call's name leads: by the class itself, or by the nest -/
def LinkOK (own : String) (ix : Nat) (q : MT) : Prop := Cond.methodLink own ix q.1 ∈ TWg ∨ ∃ host, Cond.methodLinkNest own ix q.1 host ∈ nestJ
theorem room_fit {d d' mc ms mx : Nat} (hd : d' + 1 ≤ d) (hR : d ≤ R.frames ∧ 64 * d ≤ R.locals) (hx : mx ≤ 40) : (rmD d' mc ms).frames + 1 ≤ R.frames ∧ 8 + (mx + 11) + (rmD d' mc ms).locals ≤ R.locals := by
  constructor
  · show d' + 1 ≤ _; omega
  · show 8 + (mx + 11) + 64 * d' ≤ _; omega
theorem c_code {q : MT} : (Cond.code q.1 q.2.1 q.2.2.1 q.2.2.2.1 :: TWg : List Jvm.Cond) = Cond.code q.1 q.2.1 q.2.2.1 q.2.2.2.1 :: TWg := rfl
theorem run_S {q : MT} {d d' : Nat} {as : List Value} {as' rest' : List Value} {u : RR} {H : Heap} {locs : List Loc} {cells slots : Nat} {ls : Array Slot} (hC : Cx p s m args meth c A X y cc nL scr) (hq : MOK q) (hk : q.2.2.2.2.2 = 0) (hl : LinkOK y.cls ix q) (hd : d' + 1 ≤ d) (hR : d ≤ R.frames ∧ 64 * d ≤ R.locals) (hCon : Con l d' q as t u)
    (hS1 : va_K D vwCl tys s) (hS2 : va_P D vwCl ws H) (hS3 : va_D A ws) (hS4 : va_S A s.heap H locs) (hS5 : SRel ws tys t) (hls : ls.size = nL) (has : VsRel X ws as as') (hn : as'.length = q.2.2.2.2.1) (hcat : (rest'.map fun v => v.category).sum ≤ 8) (hdg : decode cc pc = .ok (.invokestatic ix, 3))
    (hf : cells + (mN u.2 - mN t) ≤ R.cells ∧ slots + (mZ u.2 - mZ t) ≤ R.slots) (hF : ∀ z, va_A ws H.size z → A z) :
    va_Run p l e R s m args below meth c H locs cells slots (mN u.2 - mN t) (mZ u.2 - mZ t) (F0 m pc ls (as'.reverse ++ rest')) rest' (QcS D X ws (va_A ws H.size) u as'.toArray) (va_A ws H.size) := by
  obtain ⟨q1, q2, q3, q4, q5⟩ := hq
  have hst : Cond.static q.1 ∈ TWg := by
    rcases q5 with ⟨-, h⟩ | ⟨h, -⟩ | ⟨h, -⟩
    · exact h
    · omega
    · omega
  have hts := hC.2.2.2.2.1
  have hp : PreS s H (PcS D X ws tys H.size as') as' := ⟨PcS.blind, fun U hU hW => ⟨rfl, by rw [hU], by rw [hU]; exact hS2, va_K.moved hW.alike hS1, hS3.weaken (fun _ _ _ _ => trivial), SX.call hW hC.2.2.2.2.2.2.2.2.1 hU hS4.2.1 hF⟩⟩
  have hM := hCon.2 D ws tys X as' H.size has hS5
  rcases hl with hl | ⟨host, hl⟩
  · refine va_runS (As := as') (bytes := q.2.1) (maxL := q.2.2.1) (ret := q.2.2.2.1) ⟨hC.1, hC.2.1, hC.2.2.1, hC.2.2.2.1, hts⟩ hM ?_ hp rfl hn hls rfl (lv_room (m := m) (pc := pc) (ls := ls) (rest := rest') hcat) hdg hf
    refine va_cwS (bytes := q.2.1) (maxL := q.2.2.1) (ret := q.2.2.2.1) q.2.2.2.2.1 hts ?_ rfl rfl rfl q3 (room_fit hd hR q2)
    intro w hw
    simp only [va_wsS, List.cons_append, List.nil_append, List.mem_cons] at hw
    rcases hw with rfl | rfl | rfl | rfl | hw
    · exact ⟨hl, TWg_good hl⟩
    · exact ⟨hst, TWg_good hst⟩
    · exact ⟨q4, TWg_good q4⟩
    · exact ⟨q1, TWg_good q1⟩
    · exact ⟨hw, TWg_good hw⟩
  · refine va_runSN (As := as') (bytes := q.2.1) (maxL := q.2.2.1) (ret := q.2.2.2.1) (host := host) ⟨hC.1, hC.2.1, hC.2.2.1, hC.2.2.2.1, hts⟩ hM ⟨?_, hts _ hst, trivial⟩ hp rfl hn hls rfl (lv_room (m := m) (pc := pc) (ls := ls) (rest := rest') hcat) hdg hf
    exact va_cnB (bytes := q.2.1) (maxL := q.2.2.1) (ret := q.2.2.2.1) q.2.2.2.2.1 hts (GoodIn.self q1) rfl rfl rfl (hC.2.2.2.2.2.2.2.2.1.1 _ hl) (hts _ q4) q3 (room_fit hd hR q2)
theorem run_V {q : MT} {d d' b : Nat} {as : List Value} {as' rest' : List Value} {u : RR} {H : Heap} {locs : List Loc} {cells slots : Nat} {ls : Array Slot} (hC : Cx p s m args meth c A X y cc nL scr) (hq : MOK q) (hk : q.2.2.2.2.2 = 1) (hl : LinkOK y.cls ix q) (hd : d' + 1 ≤ d) (hR : d ≤ R.frames ∧ 64 * d ≤ R.locals) (hCon : Con l d' q as t u)
    (hS1 : va_K D vwCl tys s) (hS2 : va_P D vwCl ws H) (hS3 : va_D A ws) (hS4 : va_S A s.heap H locs) (hS5 : SRel ws tys t) (hls : ls.size = nL) (has : VsRel X ws as (.ref b :: as')) (hn : as'.length = q.2.2.2.2.1) (hcat : (rest'.map fun v => v.category).sum ≤ 8) (hdg : decode cc pc = .ok (.invokevirtual ix, 3))
    (hrc : ∃ cellB : Cell, H[b]? = some cellB ∧ cellB.vm.isStatics = false ∧ s.vm.findClass q.1.cls = some cellB.cls)
    (hf : cells + (mN u.2 - mN t) ≤ R.cells ∧ slots + (mZ u.2 - mZ t) ≤ R.slots) (hF : ∀ z, va_A ws H.size z → A z) :
    va_Run p l e R s m args below meth c H locs cells slots (mN u.2 - mN t) (mZ u.2 - mZ t) (F0 m pc ls (as'.reverse ++ .ref b :: rest')) rest' (QcS D X ws (va_A ws H.size) u (Value.ref b :: as').toArray) (va_A ws H.size) := by
  obtain ⟨q1, q2, q3, q4, q5⟩ := hq
  have hst : Cond.instanceMethod q.1 ∈ TWg ∧ Cond.selects q.1.cls q.1 q.1 ∈ TWg := by
    rcases q5 with ⟨h, -⟩ | ⟨-, h⟩ | ⟨h, -⟩
    · omega
    · exact h
    · omega
  have hts := hC.2.2.2.2.1
  have hp : PreV s H q.1.cls b (PcS D X ws tys H.size (.ref b :: as')) as' := ⟨PcS.blind, hrc, fun U hU hW => ⟨rfl, by rw [hU], by rw [hU]; exact hS2, va_K.moved hW.alike hS1, hS3.weaken (fun _ _ _ _ => trivial), SX.call hW hC.2.2.2.2.2.2.2.2.1 hU hS4.2.1 hF⟩⟩
  have hM := hCon.2 D ws tys X (.ref b :: as') H.size has hS5
  rcases hl with hl | ⟨host, hl⟩
  · refine va_runV (As := as') (bytes := q.2.1) (maxL := q.2.2.1) (ret := q.2.2.2.1) ⟨hC.1, hC.2.1, hC.2.2.1, hC.2.2.2.1, hts⟩ hM ?_ hp rfl hn hls rfl (lv_room (m := m) (pc := pc) (ls := ls) (rest := rest') hcat) hdg hf
    refine cwV (bytes := q.2.1) (maxL := q.2.2.1) (ret := q.2.2.2.1) q.2.2.2.2.1 hts ?_ rfl rfl rfl ⟨rfl, q3⟩ (room_fit hd hR q2)
    intro w hw
    simp only [wsV, List.cons_append, List.nil_append, List.mem_cons] at hw
    rcases hw with rfl | rfl | rfl | rfl | rfl | hw
    · exact ⟨hl, TWg_good hl⟩
    · exact ⟨hst.1, TWg_good hst.1⟩
    · exact ⟨hst.2, TWg_good hst.2⟩
    · exact ⟨q4, TWg_good q4⟩
    · exact ⟨q1, TWg_good q1⟩
    · exact ⟨hw, TWg_good hw⟩
  · refine va_runVN (As := as') (bytes := q.2.1) (maxL := q.2.2.1) (ret := q.2.2.2.1) (host := host) ⟨hC.1, hC.2.1, hC.2.2.1, hC.2.2.2.1, hts⟩ hM ⟨?_, hts _ hst.1, hts _ hst.2⟩ hp rfl hn hls rfl (lv_room (m := m) (pc := pc) (ls := ls) (rest := rest') hcat) hdg hf
    exact va_cnB (bytes := q.2.1) (maxL := q.2.2.1) (ret := q.2.2.2.1) q.2.2.2.2.1 hts (GoodIn.self q1) rfl rfl rfl (hC.2.2.2.2.2.2.2.2.1.1 _ hl) (hts _ q4) q3 (room_fit hd hR q2)
theorem run_I {q : MT} {d d' b : Nat} {as : List Value} {as' rest' : List Value} {u : RR} {H : Heap} {locs : List Loc} {cells slots : Nat} {ls : Array Slot} (hC : Cx p s m args meth c A X y cc nL scr) (hq : MOK q) (hk : q.2.2.2.2.2 = 2) (hl : LinkOK y.cls ix q) (hd : d' + 1 ≤ d) (hR : d ≤ R.frames ∧ 64 * d ≤ R.locals) (hCon : Con l d' q as t u)
    (hS1 : va_K D vwCl tys s) (hS2 : va_P D vwCl ws H) (hS3 : va_D A ws) (hS4 : va_S A s.heap H locs) (hS5 : SRel ws tys t) (hls : ls.size = nL) (has : VsRel X ws as (.ref b :: as')) (hn : as'.length = q.2.2.2.2.1) (hcat : (rest'.map fun v => v.category).sum ≤ 8) (hdg : decode cc pc = .ok (.invokespecial ix, 3))
    (hf : cells + (mN u.2 - mN t) ≤ R.cells ∧ slots + (mZ u.2 - mZ t) ≤ R.slots) (hF : ∀ z, va_A ws H.size z → A z) :
    va_Run p l e R s m args below meth c H locs cells slots (mN u.2 - mN t) (mZ u.2 - mZ t) (F0 m pc ls (as'.reverse ++ .ref b :: rest')) rest' (QcS D X ws (va_A ws H.size) u (Value.ref b :: as').toArray) (va_A ws H.size) := by
  obtain ⟨q1, q2, q3, q4, q5⟩ := hq
  have hst : q.1.name = "<init>" ∧ Cond.instanceMethod q.1 ∈ TWg ∧ q.2.2.2.1 = none := by
    rcases q5 with ⟨h, -⟩ | ⟨h, -⟩ | ⟨-, h⟩
    · omega
    · omega
    · exact h
  have hts := hC.2.2.2.2.1
  have hp : PreS s H (PcS D X ws tys H.size (.ref b :: as')) (.ref b :: as') := ⟨PcS.blind, fun U hU hW => ⟨rfl, by rw [hU], by rw [hU]; exact hS2, va_K.moved hW.alike hS1, hS3.weaken (fun _ _ _ _ => trivial), SX.call hW hC.2.2.2.2.2.2.2.2.1 hU hS4.2.1 hF⟩⟩
  have hM := hCon.2 D ws tys X (.ref b :: as') H.size has hS5
  have hG := GoodIn.self q1
  rcases hl with hl | ⟨host, hl⟩
  · refine va_runI (As := as') (bytes := q.2.1) (maxL := q.2.2.1) ⟨hC.1, hC.2.1, hC.2.2.1, hC.2.2.2.1, hts⟩ hM ?_ hp rfl hn hls rfl (lv_room (m := m) (pc := pc) (ls := ls) (rest := rest') hcat) hdg hf
    exact cwI (bytes := q.2.1) (maxL := q.2.2.1) q.2.2.2.2.1 hts hG (by rw [hst.2.2]) rfl rfl (hts _ q4) (hts _ hl) (hts _ hst.2.1) hst.1 q3 (room_fit hd hR q2)
  · refine va_runIN (As := as') (bytes := q.2.1) (maxL := q.2.2.1) (host := host) ⟨hC.1, hC.2.1, hC.2.2.1, hC.2.2.2.1, hts⟩ hM ⟨?_, hst.1, hts _ hst.2.1⟩ hp rfl hn hls rfl (lv_room (m := m) (pc := pc) (ls := ls) (rest := rest') hcat) hdg hf
    exact va_cnB (bytes := q.2.1) (maxL := q.2.2.1) (ret := none) q.2.2.2.2.1 hts hG (by rw [hst.2.2]) rfl rfl (hC.2.2.2.2.2.2.2.2.1.1 _ hl) (hts _ q4) q3 (room_fit hd hR q2)
/-- behind a call -/
theorem w_back {u : RR} {H : Heap} {locs : List Loc} {cells slots mc ms : Nat} {ls : Array Slot} {st0 rest' : List Value} {as' : Array Value} {A1 : Nat → Prop} (hr : va_Run p l e R s m args below meth c H locs cells slots mc ms (F0 m pc ls st0) rest' (QcS D X ws A1 u as') A1) (hS : va_S A s.heap H locs) (hA : ∀ q, A1 q → A q)
    (kk : ∀ (v' : Option Value) (ws' : va_W) (tys' : List (ClassId × FieldType)) (H1 : Heap) (locs1 : List Loc), OVRel X ws' u.1 v' → va_P D vwCl ws' H1 → va_K D vwCl tys' s → va_D A ws' → SRel ws' tys' u.2 → SExt ws ws' → va_S A s.heap H1 locs1 → W p l e R s m args below meth c H1 locs1 (cells + mc) (slots + ms) Q (F0 m (pc + 3) ls (v'.toList ++ rest'))) :
    W p l e R s m args below meth c H locs cells slots Q (F0 m pc ls st0) := by
  intro T hT X1
  obtain ⟨v, st₀, t, T', L, h0, X', hL, e1, e2, ⟨⟨ws', tys', v', hv, g1, g2, g3, g4, g5, g6⟩, hz, hk⟩, st⟩ := hr T hT X1
  cases hv
  rw [h0] at hz hk
  have hal : s.vm.Alike t.vm := by rw [← e2]; exact X'.warmed.alike
  obtain ⟨t2, a1, b1⟩ := kk v ws' tys' T'.heap (locs ++ L) g1 (by rw [e1]; exact g2) (va_K.moved hal.symm g3) (g4.weaken (fun _ _ _ h => hA _ h)) g5 g6
    ⟨Nat.le_trans hS.1 (by rw [e1]; exact hz), fun q h1 h2 => by rw [e1, hk q (Nat.lt_of_lt_of_le h1 hS.1) (fun z => h2 (hA q z))]; exact hS.2.1 q h1 h2, fun q hq => by
      rcases List.mem_append.mp hq with h | h
      · exact hS.2.2 q h
      · exact hA _ (hL q h)⟩ T' rfl X'
  exact ⟨t2, st t2 a1, b1⟩
theorem free_in {H : Heap} {locs : List Loc} (hC : Cx p s m args meth c A X y cc nL scr) (hD : va_D A ws) (hS : va_S A s.heap H locs) : ∀ z, va_A ws H.size z → A z := by
  intro z h
  rcases h with ⟨k, e, h⟩ | h
  · exact hD.2 k (z, e) h
  · exact hC.2.2.2.2.2.2.2.1 z (Nat.le_trans hS.1 h)
theorem OVRel.list {v v' : Option Value} (h : OVRel X ws v v') : VsRel X ws v.toList v'.toList := by
  cases v with
  | none => rw [show v' = none from h]; trivial
  | some a =>
    obtain ⟨w, rfl, h⟩ := h
    exact ⟨h, trivial⟩
/-- a call, whatever its kind: the state behind it -/
theorem w_callG {q : MT} {d d' n : Nat} {u : RR} {st1 rest1 : List Value} (hC : Cx p s m args meth c A X y cc nL scr) (hRm : RoomOK R n0 z0 r) (hCm : mN t ≤ mN u.2 ∧ mZ t ≤ mZ u.2)
    (kk : WSt p l e R s m args below meth c D A X ws0 nL n0 z0 Q r (pc + 3) L (u.1.toList ++ rest1) u.2)
    (hrun : ∀ (H : Heap) (locs : List Loc) (ws : va_W) (tys : List (ClassId × FieldType)) (L' : LV) (ls : Array Slot) (st' : List Value) (cells slots : Nat), Sm D A X ws0 s nL n0 z0 H locs ws tys L L' ls st1 st' t → cells + (mN u.2 - mN t) ≤ R.cells ∧ slots + (mZ u.2 - mZ t) ≤ R.slots → (∀ z, va_A ws H.size z → A z) → ∃ (rest' : List Value) (as' : Array Value), VsRel X ws rest1 rest' ∧ va_Run p l e R s m args below meth c H locs cells slots (mN u.2 - mN t) (mZ u.2 - mZ t) (F0 m pc ls st') rest' (QcS D X ws (va_A ws H.size) u as') (va_A ws H.size)) :
    WSt p l e R s m args below meth c D A X ws0 nL n0 z0 Q r pc L st1 t := by
  have k1 := kk.1
  refine ⟨⟨by omega, by omega⟩, fun H locs ws tys L' ls st' hS => ?_⟩
  have hS' := hS
  obtain ⟨h1, h2, h3, h4, h5, h6, h7, h8, h9, h10⟩ := hS
  have hF := free_in (nL := nL) hC h3 h4
  obtain ⟨rest', as', hrest, hr⟩ := hrun H locs ws tys L' ls st' (mN t - n0) (mZ t - z0) hS' ⟨by have := hRm.1; omega, by have := hRm.2; omega⟩ hF
  refine w_back hr h4 hF (fun v' ws' tys' H1 locs1 g1 g2 g3 g4 g5 g6 g7 => ?_)
  have ec : mN t - n0 + (mN u.2 - mN t) = mN u.2 - n0 := by omega
  have es : mZ t - z0 + (mZ u.2 - mZ t) = mZ u.2 - z0 := by omega
  rw [ec, es]
  exact kk.2 H1 locs1 ws' tys' L' ls _ ⟨g3, g2, g4, g7, g5, h6.tr g6, ⟨by omega, by omega⟩, h8.ext g6, h9, g1.list.app (hrest.ext g6)⟩
end
