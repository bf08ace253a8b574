section
variable {p : Program} {l : Launch} {e : Env} {R : Room} {s : State} {m : MethodId} {args : Array Value} {below : List Frame} {meth : Method} {c : Code} {D : va_G} {A : Nat → Prop} {X : PX} {ws0 : va_W} {nL n0 z0 : Nat} {Q : State → Prop} {r : RR} {scr : Scr} {y : MethodName} {cc : ByteArray}
variable {pc nx : Nat} {L : LV} {st rest : List Value} {t : SM} {go : Go} {ci j k ix a b : Nat} {q0 : vw_C} {ws : va_W} {tys : List (ClassId × FieldType)} {x : va_E}
theorem tyG_def {ty : FieldType} (h : tyG ty = true) : (match isRT ty with
    | true => ∃ o', defaultValue ty = va_rf o' ∧ ROpt ws none o'
    | false => defaultValue ty = .int 0) := by
  cases ty <;> first | (exact absurd h (by decide)) | rfl | exact ⟨none, rfl, rfl⟩
theorem RRef.last {n q : Nat} {e : va_E} (h : ws.length = n) : RRef (ws ++ [(q, e)]) n q := ⟨e, by rw [← h, List.getElem?_append_right (Nat.le_refl _), Nat.sub_self]; rfl⟩
theorem w_ald {i : Int32} (hC : Cx p s m args meth c A X y cc nL scr) (hdg : decode cc pc = .ok (.iaload, 1)) (hnx : nx = pc + 1) (hgo : ∀ pc' L' st' t', go pc' L' st' t' = some r → WSt p l e R s m args below meth c D A X ws0 nL n0 z0 Q r pc' L' st' t')
    (h : hALd t k i (fun x => go nx L (.int x :: rest) t) = some r) : WSt p l e R s m args below meth c D A X ws0 nL n0 z0 Q r pc L (.int i :: .ref k :: rest) t := by
  subst hnx
  unfold hALd at h
  by_cases hT : (mT t k).1 = 20 ∧ inB i (mT t k).2
  · rw [if_pos hT] at h
    have kk := hgo _ _ _ _ h
    refine ⟨kk.1, fun H locs ws tys L' ls st' hS => ?_⟩
    obtain ⟨h1, h2, h3, h4, h5, h6, h7, h8, h9, h10⟩ := hS
    obtain ⟨s0, rfl, h11⟩ := h10.int
    obtain ⟨a, x, s1, rfl, hx, hs1⟩ := h11.ref
    obtain ⟨cA, t0, g1, rfl⟩ := h5.arr hx (Or.inl hT.1)
    rw [hT.1] at g1
    exact va_iald hC.1 hC.2.1 h1 h2 k t0 hx g1 hT.2 hdg (kk.2 H locs ws tys L' ls _ ⟨h1, h2, h3, h4, h5, h6, h7, h8, h9, ⟨rfl, hs1⟩⟩)
  · rw [if_neg hT] at h; cases h
theorem w_bld {i : Int32} (hC : Cx p s m args meth c A X y cc nL scr) (hdg : decode cc pc = .ok (.baload, 1)) (hnx : nx = pc + 1) (hgo : ∀ pc' L' st' t', go pc' L' st' t' = some r → WSt p l e R s m args below meth c D A X ws0 nL n0 z0 Q r pc' L' st' t')
    (h : hBLd t k i (fun x => go nx L (.int x :: rest) t) = some r) : WSt p l e R s m args below meth c D A X ws0 nL n0 z0 Q r pc L (.int i :: .ref k :: rest) t := by
  subst hnx
  unfold hBLd at h
  by_cases hT : (mT t k).1 = 21 ∧ inB i (mT t k).2
  · rw [if_pos hT] at h
    have kk := hgo _ _ _ _ h
    refine ⟨kk.1, fun H locs ws tys L' ls st' hS => ?_⟩
    obtain ⟨h1, h2, h3, h4, h5, h6, h7, h8, h9, h10⟩ := hS
    obtain ⟨s0, rfl, h11⟩ := h10.int
    obtain ⟨a, x, s1, rfl, hx, hs1⟩ := h11.ref
    obtain ⟨cA, t0, g1, rfl⟩ := h5.arr hx (Or.inr hT.1)
    rw [hT.1] at g1
    exact va_zald hC.1 hC.2.1 h1 h2 k t0 hx g1 hT.2 hdg (kk.2 H locs ws tys L' ls _ ⟨h1, h2, h3, h4, h5, h6, h7, h8, h9, ⟨rfl, hs1⟩⟩)
  · rw [if_neg hT] at h; cases h
theorem w_ast {i v : Int32} (hC : Cx p s m args meth c A X y cc nL scr) (hdg : decode cc pc = .ok (.iastore, 1)) (hnx : nx = pc + 1) (hgo : ∀ pc' L' st' t', go pc' L' st' t' = some r → WSt p l e R s m args below meth c D A X ws0 nL n0 z0 Q r pc' L' st' t')
    (h : hASt t k i v (fun u => go nx L rest u) = some r) : WSt p l e R s m args below meth c D A X ws0 nL n0 z0 Q r pc L (.int v :: .int i :: .ref k :: rest) t := by
  subst hnx
  unfold hASt at h
  by_cases hT : (mT t k).1 = 20 ∧ inB i (mT t k).2
  · rw [if_pos hT] at h
    have kk := hgo _ _ _ _ h
    refine ⟨kk.1, fun H locs ws tys L' ls st' hS => ?_⟩
    obtain ⟨h1, h2, h3, h4, h5, h6, h7, h8, h9, h10⟩ := hS
    obtain ⟨s00, rfl, h12⟩ := h10.int
    obtain ⟨s0, rfl, h11⟩ := h12.int
    obtain ⟨a, x, s1, rfl, hx, hs1⟩ := h11.ref
    obtain ⟨cA, t0, g1, rfl⟩ := h5.arr hx (Or.inl hT.1)
    rw [hT.1] at g1
    exact va_iast hC.1 hC.2.1 h1 h2 h3 h4 k t0 hx g1 hT.2 hdg (fun H1 locs1 e1 e2 e3 => kk.2 H1 locs1 _ tys L' ls _ ⟨h1, e1, e2, e3, h5.stA hx, h6.tr (SExt.set hx), h7, h8.ext (SExt.set hx), h9, hs1.ext (SExt.set hx)⟩)
  · rw [if_neg hT] at h; cases h
theorem w_bst {i v : Int32} (hC : Cx p s m args meth c A X y cc nL scr) (hdg : decode cc pc = .ok (.bastore, 1)) (hnx : nx = pc + 1) (hgo : ∀ pc' L' st' t', go pc' L' st' t' = some r → WSt p l e R s m args below meth c D A X ws0 nL n0 z0 Q r pc' L' st' t')
    (h : hBSt t k i v (fun u => go nx L rest u) = some r) : WSt p l e R s m args below meth c D A X ws0 nL n0 z0 Q r pc L (.int v :: .int i :: .ref k :: rest) t := by
  subst hnx
  unfold hBSt at h
  by_cases hT : (mT t k).1 = 21 ∧ inB i (mT t k).2
  · rw [if_pos hT] at h
    by_cases hz : v = 0 ∨ v = 1
    · rw [if_pos hz] at h
      have kk := hgo _ _ _ _ h
      refine ⟨kk.1, fun H locs ws tys L' ls st' hS => ?_⟩
      obtain ⟨h1, h2, h3, h4, h5, h6, h7, h8, h9, h10⟩ := hS
      obtain ⟨s00, rfl, h12⟩ := h10.int
      obtain ⟨s0, rfl, h11⟩ := h12.int
      obtain ⟨a, x, s1, rfl, hx, hs1⟩ := h11.ref
      obtain ⟨cA, t0, g1, rfl⟩ := h5.arr hx (Or.inr hT.1)
      rw [hT.1] at g1
      have hnv : vp_nar .boolean v = v := by rcases hz with rfl | rfl <;> decide +kernel
      refine va_zast hC.1 hC.2.1 h1 h2 h3 h4 k t0 hx g1 hT.2 hdg (fun H1 locs1 e1 e2 e3 => ?_)
      rw [hnv] at e1 e2
      exact kk.2 H1 locs1 _ tys L' ls _ ⟨h1, e1, e2, e3, h5.stA hx, h6.tr (SExt.set hx), h7, h8.ext (SExt.set hx), h9, hs1.ext (SExt.set hx)⟩
    · rw [if_neg hz] at h; cases h
  · rw [if_neg hT] at h; cases h
theorem w_len (hC : Cx p s m args meth c A X y cc nL scr) (hdg : decode cc pc = .ok (.arraylength, 1)) (hnx : nx = pc + 1) (hgo : ∀ pc' L' st' t', go pc' L' st' t' = some r → WSt p l e R s m args below meth c D A X ws0 nL n0 z0 Q r pc' L' st' t')
    (h : hALen t k (fun x => go nx L (.int x :: rest) t) = some r) : WSt p l e R s m args below meth c D A X ws0 nL n0 z0 Q r pc L (.ref k :: rest) t := by
  subst hnx
  unfold hALen at h
  by_cases hT : 20 ≤ (mT t k).1 ∧ (mT t k).1 < 50
  · rw [if_pos hT] at h
    have kk := hgo _ _ _ _ h
    refine ⟨kk.1, fun H locs ws tys L' ls st' hS => ?_⟩
    obtain ⟨h1, h2, h3, h4, h5, h6, h7, h8, h9, h10⟩ := hS
    obtain ⟨a, x, s1, rfl, hx, hs1⟩ := h10.ref
    have k2 := kk.2 H locs ws tys L' ls (.int (Int32.ofNat (mT t k).2) :: s1) ⟨h1, h2, h3, h4, h5, h6, h7, h8, h9, ⟨rfl, hs1⟩⟩
    rcases h5.2.2 k a x hx with ⟨g1, -⟩ | ⟨g1, cA, t0, g2, rfl⟩ | ⟨g1, cA, t0, f, g2, rfl, -⟩
    · omega
    · exact va_alen hC.1 hC.2.1 h1 h2 k t0 hx g2 rfl hdg k2
    · exact va_alen hC.1 hC.2.1 h1 h2 k t0 hx g2 rfl hdg k2
  · rw [if_neg hT] at h; cases h
theorem w_qld {i : Int32} (hC : Cx p s m args meth c A X y cc nL scr) (hq : vwCl[ci]? = some q0) (hdg : decode cc pc = .ok (.aaload, 1)) (hnx : nx = pc + 1) (hgo : ∀ pc' L' st' t', go pc' L' st' t' = some r → WSt p l e R s m args below meth c D A X ws0 nL n0 z0 Q r pc' L' st' t')
    (h : hQLd t ci k i (go nx L (.null :: rest) t) (fun q => go nx L (.ref q :: rest) t) = some r) : WSt p l e R s m args below meth c D A X ws0 nL n0 z0 Q r pc L (.int i :: .ref k :: rest) t := by
  subst hnx
  unfold hQLd at h
  by_cases hT : (mT t k).1 = 30 + ci ∧ inB i (mT t k).2
  · rw [if_pos hT] at h
    have key : ∀ v : Value, v = va_rf (mR t k i.toNatClampNeg) → WSt p l e R s m args below meth c D A X ws0 nL n0 z0 Q r (pc + 1) L (v :: rest) t → WSt p l e R s m args below meth c D A X ws0 nL n0 z0 Q r pc L (.int i :: .ref k :: rest) t := by
      intro v hv kk
      refine ⟨kk.1, fun H locs ws tys L' ls st' hS => ?_⟩
      obtain ⟨h1, h2, h3, h4, h5, h6, h7, h8, h9, h10⟩ := hS
      obtain ⟨s0, rfl, h11⟩ := h10.int
      obtain ⟨a, x, s1, rfl, hx, hs1⟩ := h11.ref
      obtain ⟨cA, t0, f, g1, rfl, g2⟩ := h5.row hx hT.1
      rw [arrT_row hq] at g1
      refine va_aldq hC.1 hC.2.1 h1 h2 k t0 hx g1 hT.2 hdg (kk.2 H locs ws tys L' ls _ ⟨h1, h2, h3, h4, h5, h6, h7, h8, h9, ⟨?_, hs1⟩⟩)
      have e2 := g2 i.toNatClampNeg
      rw [hv]
      cases hm : mR t k i.toNatClampNeg with
      | none =>
        rw [hm] at e2
        rw [show f i.toNatClampNeg = none from e2]
        rfl
      | some q =>
        rw [hm] at e2
        obtain ⟨a2, e3, g5⟩ := e2
        rw [e3]
        exact ⟨a2, rfl, g5⟩
    cases hm : mR t k i.toNatClampNeg with
    | none =>
      rw [hm] at h
      exact key _ (by rw [hm]; rfl) (hgo _ _ _ _ h)
    | some q =>
      rw [hm] at h
      exact key _ (by rw [hm]; rfl) (hgo _ _ _ _ h)
  · rw [if_neg hT] at h; cases h
theorem w_qst {i : Int32} {v : Nat} (hC : Cx p s m args meth c A X y cc nL scr) (hq : vwCl[ci]? = some q0) (hdg : decode cc pc = .ok (.aastore, 1)) (hnx : nx = pc + 1) (hgo : ∀ pc' L' st' t', go pc' L' st' t' = some r → WSt p l e R s m args below meth c D A X ws0 nL n0 z0 Q r pc' L' st' t')
    (h : hQSt t ci k i v (fun u => go nx L rest u) = some r) : WSt p l e R s m args below meth c D A X ws0 nL n0 z0 Q r pc L (.ref v :: .int i :: .ref k :: rest) t := by
  subst hnx
  unfold hQSt at h
  by_cases hT : (mT t k).1 = 30 + ci ∧ inB i (mT t k).2 ∧ (mT t v).1 = ci
  · rw [if_pos hT] at h
    have kk := hgo _ _ _ _ h
    refine ⟨kk.1, fun H locs ws tys L' ls st' hS => ?_⟩
    obtain ⟨h1, h2, h3, h4, h5, h6, h7, h8, h9, h10⟩ := hS
    obtain ⟨av, xv, s00, rfl, hxv, h12⟩ := h10.ref
    obtain ⟨s0, rfl, h11⟩ := h12.int
    obtain ⟨a, x, s1, rfl, hx, hs1⟩ := h11.ref
    obtain ⟨cA, t0, f, g1, rfl, g2⟩ := h5.row hx hT.1
    rw [arrT_row hq] at g1
    obtain ⟨fs, rfl, -, -⟩ := h5.obj hxv hT.2.2 (cl_lt hq)
    have hR : SRel (ws.set k (a, .inl (cA, (mT t k).2, .inr (.inr (.inr (.inr (va_up f i.toNatClampNeg (some av)))))))) tys (setR t k i.toNatClampNeg (some v)) := by
      refine h5.upd hx rfl rfl (fun _ _ => rfl) (fun q hq => if_neg hq) (Or.inr (Or.inr ⟨by show 30 ≤ (mT t k).1 ∧ (mT t k).1 < 42; have := cl_lt hq; omega, cA, t0, _, by show tys[t0]? = some (cA, arrT (mT t k).1); rw [hT.1, arrT_row hq]; exact g1, rfl, fun q => ?_⟩))
      show ROpt _ ((if k = k then va_up (t.2.1 k) i.toNatClampNeg (some v) else t.2.1 k) q) _
      rw [if_pos rfl]
      unfold va_up
      by_cases hqi : q = i.toNatClampNeg
      · rw [if_pos hqi, if_pos hqi]
        exact ⟨av, rfl, RRef.ext (SExt.set hx) ⟨_, hxv⟩⟩
      · rw [if_neg hqi, if_neg hqi]
        exact (g2 q).ext (SExt.set hx)
    exact va_astq (r := q0) hC.1 hC.2.1 h1 h2 h3 h4 k t0 v ci hx g1 hxv hq hT.2.1 hdg (fun H1 locs1 e1 e2 e3 => kk.2 H1 locs1 _ tys L' ls _ ⟨h1, e1, e2, e3, hR, h6.tr (SExt.set hx), h7, h8.ext (SExt.set hx), h9, hs1.ext (SExt.set hx)⟩)
  · rw [if_neg hT] at h; cases h
/-- the room for what is made: the method's own, from its start on -/
def RoomOK (R : Room) (n0 z0 : Nat) (r : RR) : Prop := mN r.2 - n0 ≤ R.cells ∧ mZ r.2 - z0 ≤ R.slots
theorem w_new (hC : Cx p s m args meth c A X y cc nL scr) (hRm : RoomOK R n0 z0 r) (hq : vwCl[ci]? = some q0) (hw1 : Cond.classLink y.cls ix q0.1 ∈ TWg) (hw2 : Cond.instantiable q0.1 q0.2.2 ∈ TWg) (hw3 : Cond.initialized q0.1 ∈ TWg) (hdg : decode cc pc = .ok (.new ix, 3)) (hnx : nx = pc + 3) (hgo : ∀ pc' L' st' t', go pc' L' st' t' = some r → WSt p l e R s m args below meth c D A X ws0 nL n0 z0 Q r pc' L' st' t')
    (h : go nx L (.ref (mN t) :: st) (mPush t ci 0 (clN ci)) = some r) : WSt p l e R s m args below meth c D A X ws0 nL n0 z0 Q r pc L st t := by
  subst hnx
  have kk := hgo _ _ _ _ h
  have hM : mN t + 1 ≤ mN r.2 ∧ mZ t + clN ci ≤ mZ r.2 := kk.1
  refine ⟨⟨by omega, by omega⟩, fun H locs ws tys L' ls st' hS => ?_⟩
  obtain ⟨h1, h2, h3, h4, h5, h6, h7, h8, h9, h10⟩ := hS
  have hN := cl_N hq
  refine va_new (D := D) (ci := ci) (C := q0.1) (T := q0.2.1) (N := q0.2.2) (fs := (List.range q0.2.2).map (fun j => defaultValue (clTy ci j))) hC.1 hC.2.1 hC.2.2.2.2.1 (cl_in hq) (clTy ci) (cl_ty hq) hC.2.2.2.1 (hC.2.2.2.2.1 _ hw1) (hC.2.2.2.2.1 _ hw2) (hC.2.2.2.2.1 _ hw3) h1 h2 h3 h4 hC.2.2.2.2.2.2.2.1 hq (fun j hj => ?_) ?_ ?_ hdg (fun q H1 e1 e2 e3 => ?_)
  · unfold vp_V
    rw [List.getD_eq_getElem?_getD, List.getElem?_map, List.getElem?_range hj]
    rfl
  · have := hRm.1; omega
  · have := hRm.2; omega
  · have hR : SRel (ws ++ [(q, .inr (ci, (List.range q0.2.2).map (fun j => defaultValue (clTy ci j))))]) tys (mPush t ci 0 (clN ci)) := by
      have eT : mT (mPush t ci 0 (clN ci)) (mN t) = (ci, 0) := if_pos rfl
      have eR : mR (mPush t ci 0 (clN ci)) (mN t) = fun _ => none := if_pos rfl
      have eI : mI (mPush t ci 0 (clN ci)) (mN t) = fun _ => 0 := if_pos rfl
      refine h5.push tyExt.rf (Or.inl ⟨by rw [eT]; exact cl_lt hq, _, by rw [eT], by rw [eT, List.length_map, List.length_range, hN], fun j v hv => ?_⟩)
      rw [eT]
      have hj : j < q0.2.2 := by
        have := (List.getElem?_eq_some_iff.mp hv).1
        rwa [List.length_map, List.length_range] at this
      rw [List.getElem?_map, List.getElem?_range hj] at hv
      cases hv
      have hg := cl_tyG ci (cl_lt hq) j (by rw [hN]; exact hj)
      unfold SFld
      rw [eR, eI]
      exact tyG_def hg
    have ec : mN t - n0 + 1 = mN (mPush t ci 0 (clN ci)) - n0 := by show _ = mN t + 1 - n0; omega
    have es : mZ t - z0 + q0.2.2 = mZ (mPush t ci 0 (clN ci)) - z0 := by show _ = mZ t + clN ci - z0; omega
    rw [ec, es]
    refine kk.2 H1 locs _ tys L' ls _ ⟨h1, e1, e2, e3, hR, h6.tr SExt.app, ⟨by show n0 ≤ mN t + 1; omega, by show z0 ≤ mZ t + clN ci; omega⟩, h8.ext SExt.app, h9, ⟨⟨q, rfl, RRef.last h5.1⟩, h10.ext SExt.app⟩⟩
theorem w_newA {atype : ArrayType} {g : Nat} {n : Int32} (hC : Cx p s m args meth c A X y cc nL scr) (hRm : RoomOK R n0 z0 r) (hg : (g = 20 ∧ atype = .int) ∨ (g = 21 ∧ atype = .boolean)) (hw1 : Cond.arrayClass (newarray.typeOf atype) ∈ TWg) (hdg : decode cc pc = .ok (.newarray atype, 2)) (hnx : nx = pc + 2) (hgo : ∀ pc' L' st' t', go pc' L' st' t' = some r → WSt p l e R s m args below meth c D A X ws0 nL n0 z0 Q r pc' L' st' t')
    (h : hNewA t g n (fun q u => go nx L (.ref q :: rest) u) = some r) : WSt p l e R s m args below meth c D A X ws0 nL n0 z0 Q r pc L (.int n :: rest) t := by
  subst hnx
  unfold hNewA at h
  by_cases hT : ¬ n < 0 ∧ n.toNatClampNeg ≤ 100000
  · rw [if_pos hT] at h
    have kk := hgo _ _ _ _ h
    have hM : mN t + 1 ≤ mN r.2 ∧ mZ t + n.toNatClampNeg ≤ mZ r.2 := kk.1
    refine ⟨⟨by omega, by omega⟩, fun H locs ws tys L' ls st' hS => ?_⟩
    obtain ⟨h1, h2, h3, h4, h5, h6, h7, h8, h9, h10⟩ := hS
    obtain ⟨s0, rfl, hs1⟩ := h10.int
    have hgT : newarray.typeOf atype = arrT g := by rcases hg with ⟨rfl, rfl⟩ | ⟨rfl, rfl⟩ <;> rfl
    have hcb : n.toNatClampNeg * componentBytes (arrT g) ≤ 536870912 := by
      have hcb1 : componentBytes (arrT g) ≤ 8 := by rcases hg with ⟨rfl, -⟩ | ⟨rfl, -⟩ <;> decide
      have h3 := Nat.mul_le_mul hT.2 hcb1
      omega
    refine va_newa (atype := atype) hC.1 hC.2.1 (hC.2.2.2.2.1 _ hw1) hgT h1 h2 h3 h4 hC.2.2.2.2.2.2.2.1 (a0 := (n.toNatClampNeg, .inl (fun _ => 0))) (fun cA => ?_) hT.1 rfl hcb ?_ ?_ hdg (fun q cA H1 e0 e1 e2 e3 => ?_)
    · rw [vp_cell_i]
      rcases hg with ⟨rfl, -⟩ | ⟨rfl, -⟩ <;> rfl
    · have := hRm.1; omega
    · have := hRm.2; omega
    · have hR : SRel (ws ++ [(q, .inl (cA, n.toNatClampNeg, .inl (fun _ => 0)))]) (tys ++ [(cA, arrT g)]) (mPush t g n.toNatClampNeg n.toNatClampNeg) := by
        have eT : mT (mPush t g n.toNatClampNeg n.toNatClampNeg) (mN t) = (g, n.toNatClampNeg) := if_pos rfl
        have eI : mI (mPush t g n.toNatClampNeg n.toNatClampNeg) (mN t) = fun _ => 0 := if_pos rfl
        refine h5.push tyExt.app (Or.inr (Or.inl ⟨by rw [eT]; rcases hg with ⟨rfl, -⟩ | ⟨rfl, -⟩ <;> simp, cA, tys.length, ?_, by rw [eT, eI]⟩))
        rw [eT, List.getElem?_append_right (Nat.le_refl _), Nat.sub_self]; rfl
      have ec : mN t - n0 + 1 = mN (mPush t g n.toNatClampNeg n.toNatClampNeg) - n0 := by show _ = mN t + 1 - n0; omega
      have es : mZ t - z0 + n.toNatClampNeg = mZ (mPush t g n.toNatClampNeg n.toNatClampNeg) - z0 := by show _ = mZ t + n.toNatClampNeg - z0; omega
      rw [ec, es]
      refine kk.2 H1 locs _ _ L' ls _ ⟨e0, e1, e2, e3, hR, h6.tr SExt.app, ⟨by show n0 ≤ mN t + 1; omega, by show z0 ≤ mZ t + n.toNatClampNeg; omega⟩, h8.ext SExt.app, h9, ⟨⟨q, rfl, RRef.last h5.1⟩, hs1.ext SExt.app⟩⟩
  · rw [if_neg hT] at h; cases h
theorem w_newQ {n : Int32} (hC : Cx p s m args meth c A X y cc nL scr) (hRm : RoomOK R n0 z0 r) (hci : ci = 2 ∨ ci = 5 ∨ ci = 6 ∨ ci = 8) (hq : vwCl[ci]? = some q0) (hw1 : Cond.classLink y.cls ix q0.1 ∈ TWg) (hdg : decode cc pc = .ok (.anewarray ix, 3)) (hnx : nx = pc + 3) (hgo : ∀ pc' L' st' t', go pc' L' st' t' = some r → WSt p l e R s m args below meth c D A X ws0 nL n0 z0 Q r pc' L' st' t')
    (h : hNewA t (30 + ci) n (fun q u => go nx L (.ref q :: rest) u) = some r) : WSt p l e R s m args below meth c D A X ws0 nL n0 z0 Q r pc L (.int n :: rest) t := by
  subst hnx
  unfold hNewA at h
  by_cases hT : ¬ n < 0 ∧ n.toNatClampNeg ≤ 100000
  · rw [if_pos hT] at h
    have kk := hgo _ _ _ _ h
    have hM : mN t + 1 ≤ mN r.2 ∧ mZ t + n.toNatClampNeg ≤ mZ r.2 := kk.1
    refine ⟨⟨by omega, by omega⟩, fun H locs ws tys L' ls st' hS => ?_⟩
    obtain ⟨h1, h2, h3, h4, h5, h6, h7, h8, h9, h10⟩ := hS
    obtain ⟨s0, rfl, hs1⟩ := h10.int
    refine va_newq (C := q0.1) hC.1 hC.2.1 hC.2.2.2.1 (hC.2.2.2.2.1 _ hw1) (hC.2.2.2.2.2.2.2.2.1.2.1 ci q0 hci hq) h1 h2 h3 h4 hC.2.2.2.2.2.2.2.1 hT.1 rfl (by omega) ?_ ?_ hdg (fun q cA H1 e0 e1 e2 e3 => ?_)
    · have := hRm.1; omega
    · have := hRm.2; omega
    · have hR : SRel (ws ++ [(q, .inl (cA, n.toNatClampNeg, .inr (.inr (.inr (.inr (fun _ => none))))))]) (tys ++ [(cA, .object q0.1)]) (mPush t (30 + ci) n.toNatClampNeg n.toNatClampNeg) := by
        have eT : mT (mPush t (30 + ci) n.toNatClampNeg n.toNatClampNeg) (mN t) = (30 + ci, n.toNatClampNeg) := if_pos rfl
        have eR : mR (mPush t (30 + ci) n.toNatClampNeg n.toNatClampNeg) (mN t) = fun _ => none := if_pos rfl
        refine h5.push tyExt.app (Or.inr (Or.inr ⟨by rw [eT]; have := cl_lt hq; constructor <;> omega, cA, tys.length, fun _ => none, ?_, by rw [eT], fun j => by rw [eR]; rfl⟩))
        rw [eT, arrT_row hq, List.getElem?_append_right (Nat.le_refl _), Nat.sub_self]; rfl
      have ec : mN t - n0 + 1 = mN (mPush t (30 + ci) n.toNatClampNeg n.toNatClampNeg) - n0 := by show _ = mN t + 1 - n0; omega
      have es : mZ t - z0 + n.toNatClampNeg = mZ (mPush t (30 + ci) n.toNatClampNeg n.toNatClampNeg) - z0 := by show _ = mZ t + n.toNatClampNeg - z0; omega
      rw [ec, es]
      refine kk.2 H1 locs _ _ L' ls _ ⟨e0, e1, e2, e3, hR, h6.tr SExt.app, ⟨by show n0 ≤ mN t + 1; omega, by show z0 ≤ mZ t + n.toNatClampNeg; omega⟩, h8.ext SExt.app, h9, ⟨⟨q, rfl, RRef.last h5.1⟩, hs1.ext SExt.app⟩⟩
  · rw [if_neg hT] at h; cases h
end
