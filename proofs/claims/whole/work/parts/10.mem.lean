section
variable {p : Program} {l : Launch} {e : Env} {R : Room} {s : State} {m : MethodId} {args : Array Value} {below : List Frame} {meth : Method} {c : Code} {D : va_G} {A : Nat → Prop} {X : PX} {ws0 : va_W} {nL n0 z0 : Nat} {Q : State → Prop} {r : RR} {scr : Scr} {y : MethodName} {cc : ByteArray}
variable {pc nx : Nat} {L : LV} {st rest : List Value} {t : SM} {go : Go} {ci j k ix a b : Nat} {q0 : vw_C} {ws : va_W} {tys : List (ClassId × FieldType)} {x : va_E}
theorem SRel.obj (h : SRel ws tys t) (hk : ws[k]? = some (a, x)) (hT : (mT t k).1 = ci) (hci : ci < 12) : ∃ fs, x = .inr (ci, fs) ∧ fs.length = clN ci ∧ ∀ (j : Nat) (v : Value), fs[j]? = some v → SFld ws t ci k j v := by
  rcases h.2.2 k a x hk with ⟨h1, fs, h2, h3, h4⟩ | ⟨h1, -⟩ | ⟨h1, -⟩
  · subst hT
    exact ⟨fs, h2, h3, h4⟩
  · omega
  · omega
theorem SRel.arr (h : SRel ws tys t) (hk : ws[k]? = some (a, x)) (hT : (mT t k).1 = 20 ∨ (mT t k).1 = 21) : ∃ (cA : ClassId) (t0 : Nat), tys[t0]? = some (cA, arrT (mT t k).1) ∧ x = .inl (cA, (mT t k).2, .inl (mI t k)) := by
  rcases h.2.2 k a x hk with ⟨h1, -⟩ | ⟨h1, cA, t0, h2, h3⟩ | ⟨h1, -⟩
  · omega
  · exact ⟨cA, t0, h2, h3⟩
  · omega
theorem SRel.row (h : SRel ws tys t) (hk : ws[k]? = some (a, x)) (hT : (mT t k).1 = 30 + ci) : ∃ (cA : ClassId) (t0 : Nat) (f : Nat → Option Nat), tys[t0]? = some (cA, arrT (30 + ci)) ∧ x = .inl (cA, (mT t k).2, .inr (.inr (.inr (.inr f)))) ∧ ∀ j, ROpt ws (mR t k j) (f j) := by
  rcases h.2.2 k a x hk with ⟨h1, -⟩ | ⟨h1, -⟩ | ⟨h1, cA, t0, f, h2, h3, h4⟩
  · omega
  · omega
  · exact ⟨cA, t0, f, by rw [← hT]; exact h2, h3, h4⟩
theorem arrT_row (hq : vwCl[ci]? = some q0) : arrT (30 + ci) = .object q0.1 := by
  have h := cl_lt hq
  unfold arrT
  rw [if_neg (by omega), if_neg (by omega), show 30 + ci - 30 = ci by omega, hq]
theorem SRel.stA {f0 g : Nat → Int32} {cA : ClassId} {n : Nat} (h : SRel ws tys t) (hk : ws[k]? = some (a, .inl (cA, n, .inl f0))) : SRel (ws.set k (a, .inl (cA, n, .inl g))) tys (setA t k g) := by
  have hq : ∀ q, q ≠ k → mI (setA t k g) q = mI t q := fun q hq => if_neg hq
  refine h.upd hk rfl rfl hq (fun _ _ => rfl) ?_
  rcases h.2.2 k a _ hk with ⟨-, fs, h2, -⟩ | ⟨h1, cA', t0, h2, h3⟩ | ⟨-, cA', t0, f, -, h3, -⟩
  · cases h2
  · simp only [Sum.inl.injEq, Prod.mk.injEq] at h3
    obtain ⟨rfl, e2, -⟩ := h3
    exact Or.inr (Or.inl ⟨h1, cA, t0, h2, by rw [show mI (setA t k g) k = g from if_pos rfl, e2]; rfl⟩)
  · simp at h3
theorem SRel.setF {fs : List Value} {v : Value} {u : SM} (h : SRel ws tys t) (hk : ws[k]? = some (a, .inr (ci, fs))) (hT : (mT t k).1 = ci) (hci : ci < 12) (hN : mN u = mN t) (hTT : mT u = mT t) (hI : ∀ q, q ≠ k → mI u q = mI t q) (hR : ∀ q, q ≠ k → mR u q = mR t q)
    (hI2 : ∀ i, i ≠ j → mI u k i = mI t k i) (hR2 : ∀ i, i ≠ j → mR u k i = mR t k i) (hv : SFld (ws.set k (a, .inr (ci, fs.set j v))) u ci k j v) : SRel (ws.set k (a, .inr (ci, fs.set j v))) tys u := by
  refine h.upd hk hN hTT hI hR ?_
  obtain ⟨fs', e1, e2, e3⟩ := h.obj hk hT hci
  cases e1
  refine Or.inl ⟨by rw [hTT, hT]; exact hci, fs.set j v, by rw [hTT, hT], by rw [List.length_set, hTT, hT]; exact e2, fun i w hw => ?_⟩
  rw [hTT, hT]
  by_cases hij : i = j
  · subst hij
    have hl : i < fs.length := by
      have := (List.getElem?_eq_some_iff.mp hw).1
      rwa [List.length_set] at this
    rw [List.getElem?_set_self hl] at hw
    cases hw
    exact hv
  · rw [List.getElem?_set_ne (Ne.symm hij)] at hw
    have h5 := e3 i w hw
    unfold SFld at h5 ⊢
    rw [hI2 i hij, hR2 i hij]
    cases hb : isRT (clTy ci i) with
    | true =>
      rw [hb] at h5
      obtain ⟨o', g1, g2⟩ := h5
      exact ⟨o', g1, g2.ext (SExt.set hk)⟩
    | false =>
      rw [hb] at h5
      exact h5
theorem w_getI (hC : Cx p s m args meth c A X y cc nL scr) (hq : vwCl[ci]? = some q0) (hj : j < q0.2.2) (hw : Cond.fieldLink y.cls ix (q0.2.1 j).1 (q0.2.1 j).2.1 (q0.2.1 j).2.2.1 ∈ TWg) (hk : isRT (clTy ci j) = false) (hdg : decode cc pc = .ok (.getfield ix, 3)) (hnx : nx = pc + 3) (hgo : ∀ pc' L' st' t', go pc' L' st' t' = some r → WSt p l e R s m args below meth c D A X ws0 nL n0 z0 Q r pc' L' st' t')
    (h : hGetI t ci k j (fun x => go nx L (.int x :: rest) t) = some r) : WSt p l e R s m args below meth c D A X ws0 nL n0 z0 Q r pc L (.ref k :: rest) t := by
  subst hnx
  unfold hGetI at h
  by_cases hT : (mT t k).1 = ci
  · rw [if_pos hT] at h
    have kk := hgo _ _ _ _ h
    refine ⟨kk.1, fun H locs ws tys L' ls st' hS => ?_⟩
    obtain ⟨h1, h2, h3, h4, h5, h6, h7, h8, h9, h10⟩ := hS
    obtain ⟨a, x, s1, rfl, hx, hs1⟩ := h10.ref
    obtain ⟨fs, rfl, g2, g3⟩ := h5.obj hx hT (cl_lt hq)
    have hl : j < fs.length := by rw [g2, cl_N hq]; exact hj
    have g4 := g3 j _ (List.getElem?_eq_getElem hl)
    unfold SFld at g4
    rw [hk] at g4
    exact va_get (D := D) (C := q0.1) (T := q0.2.1) (N := q0.2.2) (ref := (q0.2.1 j).1) (v := .int (mI t k j)) hC.1 hC.2.1 hC.2.2.2.2.1 (cl_in hq) hC.2.2.2.1 h1 h2 k hx hq j hj (hC.2.2.2.2.1 _ hw) (fun _ z => z) (by rw [List.getElem?_eq_getElem hl, g4]) hdg
      (kk.2 H locs ws tys L' ls _ ⟨h1, h2, h3, h4, h5, h6, h7, h8, h9, ⟨rfl, hs1⟩⟩)
  · rw [if_neg hT] at h; cases h
theorem w_getV {v : Value} (hC : Cx p s m args meth c A X y cc nL scr) (hq : vwCl[ci]? = some q0) (hj : j < q0.2.2) (hw : Cond.fieldLink y.cls ix (q0.2.1 j).1 (q0.2.1 j).2.1 (q0.2.1 j).2.2.1 ∈ TWg) (hk : isRT (clTy ci j) = true) (hdg : decode cc pc = .ok (.getfield ix, 3)) (hnx : nx = pc + 3) (hT : (mT t k).1 = ci) (hv : v = va_rf (mR t k j))
    (kk : WSt p l e R s m args below meth c D A X ws0 nL n0 z0 Q r nx L (v :: rest) t) : WSt p l e R s m args below meth c D A X ws0 nL n0 z0 Q r pc L (.ref k :: rest) t := by
  subst hnx
  refine ⟨kk.1, fun H locs ws tys L' ls st' hS => ?_⟩
  obtain ⟨h1, h2, h3, h4, h5, h6, h7, h8, h9, h10⟩ := hS
  obtain ⟨a, x, s1, rfl, hx, hs1⟩ := h10.ref
  obtain ⟨fs, rfl, g2, g3⟩ := h5.obj hx hT (cl_lt hq)
  have hl : j < fs.length := by rw [g2, cl_N hq]; exact hj
  have g4 := g3 j _ (List.getElem?_eq_getElem hl)
  unfold SFld at g4
  rw [hk] at g4
  obtain ⟨o', e1, e2⟩ := g4
  refine va_get (D := D) (C := q0.1) (T := q0.2.1) (N := q0.2.2) (ref := (q0.2.1 j).1) (v := va_rf o') hC.1 hC.2.1 hC.2.2.2.2.1 (cl_in hq) hC.2.2.2.1 h1 h2 k hx hq j hj (hC.2.2.2.2.1 _ hw) (fun _ z => z) (by rw [List.getElem?_eq_getElem hl, e1]) hdg
      (kk.2 H locs ws tys L' ls _ ⟨h1, h2, h3, h4, h5, h6, h7, h8, h9, ⟨?_, hs1⟩⟩)
  rw [hv]
  cases hm : mR t k j with
  | none =>
    rw [hm] at e2
    rw [show o' = none from e2]
    rfl
  | some q =>
    rw [hm] at e2
    obtain ⟨a2, rfl, g5⟩ := e2
    exact ⟨a2, rfl, g5⟩
theorem w_getR (hC : Cx p s m args meth c A X y cc nL scr) (hq : vwCl[ci]? = some q0) (hj : j < q0.2.2) (hw : Cond.fieldLink y.cls ix (q0.2.1 j).1 (q0.2.1 j).2.1 (q0.2.1 j).2.2.1 ∈ TWg) (hk : isRT (clTy ci j) = true) (hdg : decode cc pc = .ok (.getfield ix, 3)) (hnx : nx = pc + 3) (hgo : ∀ pc' L' st' t', go pc' L' st' t' = some r → WSt p l e R s m args below meth c D A X ws0 nL n0 z0 Q r pc' L' st' t')
    (h : hGetR t ci k j (go nx L (.null :: rest) t) (fun q => go nx L (.ref q :: rest) t) = some r) : WSt p l e R s m args below meth c D A X ws0 nL n0 z0 Q r pc L (.ref k :: rest) t := by
  unfold hGetR at h
  by_cases hT : (mT t k).1 = ci
  · rw [if_pos hT] at h
    cases hm : mR t k j with
    | none =>
      rw [hm] at h
      exact w_getV hC hq hj hw hk hdg hnx hT (by rw [hm]; rfl) (hgo _ _ _ _ h)
    | some q =>
      rw [hm] at h
      exact w_getV hC hq hj hw hk hdg hnx hT (by rw [hm]; rfl) (hgo _ _ _ _ h)
  · rw [if_neg hT] at h; cases h
theorem w_getC {q : Nat} (hC : Cx p s m args meth c A X y cc nL scr) (hq : vwCl[ci]? = some q0) (hj : j < q0.2.2) (hw : Cond.fieldLink y.cls ix (q0.2.1 j).1 (q0.2.1 j).2.1 (q0.2.1 j).2.2.1 ∈ TWg) (hk : isRT (clTy ci j) = true) (hdg : decode cc pc = .ok (.getfield ix, 3)) (hnx : nx = pc + 3) (hgo : ∀ pc' L' st' t', go pc' L' st' t' = some r → WSt p l e R s m args below meth c D A X ws0 nL n0 z0 Q r pc' L' st' t')
    (h : hGetC t ci k j q (go nx L (.ref q :: rest) t) = some r) : WSt p l e R s m args below meth c D A X ws0 nL n0 z0 Q r pc L (.ref k :: rest) t := by
  unfold hGetC at h
  by_cases hT : (mT t k).1 = ci ∧ mR t k j = some q
  · rw [if_pos hT] at h
    exact w_getV hC hq hj hw hk hdg hnx hT.1 (by rw [hT.2]; rfl) (hgo _ _ _ _ h)
  · rw [if_neg hT] at h; cases h
theorem w_putI {ty : FieldType} {v : Int32} (hC : Cx p s m args meth c A X y cc nL scr) (hq : vwCl[ci]? = some q0) (hj : j < q0.2.2) (hw : Cond.fieldLink y.cls ix (q0.2.1 j).1 (q0.2.1 j).2.1 (q0.2.1 j).2.2.1 ∈ TWg) (hfin : (q0.2.1 j).2.2.2 = false ∨ ((q0.2.1 j).2.2.2 = true ∧ y.name = "<init>" ∧ (q0.2.1 j).1 = y.cls)) (hty : clTy ci j = ty) (hk : isRT ty = false) (hnar : narrow ty (.int v) = .int v) (hfit : fits ty (.int v) = true) (hdg : decode cc pc = .ok (.putfield ix, 3)) (hnx : nx = pc + 3) (hgo : ∀ pc' L' st' t', go pc' L' st' t' = some r → WSt p l e R s m args below meth c D A X ws0 nL n0 z0 Q r pc' L' st' t')
    (h : hPutI t ci k j v (fun u => go nx L rest u) = some r) : WSt p l e R s m args below meth c D A X ws0 nL n0 z0 Q r pc L (.int v :: .ref k :: rest) t := by
  subst hnx
  subst hty
  unfold hPutI at h
  by_cases hT : (mT t k).1 = ci
  · rw [if_pos hT] at h
    have kk := hgo _ _ _ _ h
    refine ⟨kk.1, fun H locs ws tys L' ls st' hS => ?_⟩
    obtain ⟨h1, h2, h3, h4, h5, h6, h7, h8, h9, h10⟩ := hS
    obtain ⟨s1, rfl, h11⟩ := h10.int
    obtain ⟨a, x, s2, rfl, hx, hs1⟩ := h11.ref
    obtain ⟨fs, rfl, g2, g3⟩ := h5.obj hx hT (cl_lt hq)
    have hl : j < fs.length := by rw [g2, cl_N hq]; exact hj
    have hR : SRel (ws.set k (a, .inr (ci, fs.set j (.int v)))) tys (setI t k j v) := by
      refine h5.setF hx hT (cl_lt hq) rfl rfl (fun q hq => if_neg hq) (fun _ _ => rfl) (fun i hi => ?_) (fun _ _ => rfl) ?_
      · show (if k = k then upd (t.1 k) j v else t.1 k) i = _
        rw [if_pos rfl]
        exact if_neg hi
      · unfold SFld
        rw [hk]
        show Value.int v = .int ((if k = k then upd (t.1 k) j v else t.1 k) j)
        rw [if_pos rfl]
        simp [upd]
    have fin : ∀ (H1 : Heap) (locs1 : List Loc), va_P D vwCl (ws.set k (a, .inr (ci, fs.set j (.int v)))) H1 → va_D A (ws.set k (a, .inr (ci, fs.set j (.int v)))) → va_S A s.heap H1 locs1 → W p l e R s m args below meth c H1 locs1 (mN t - n0) (mZ t - z0) Q (F0 m (pc + 3) ls s2) :=
      fun H1 locs1 e1 e2 e3 => kk.2 H1 locs1 _ tys L' ls s2 ⟨h1, e1, e2, e3, hR, h6.tr (SExt.set hx), h7, h8.ext (SExt.set hx), h9, hs1.ext (SExt.set hx)⟩
    rcases hfin with hf | ⟨hf, hi, ho⟩
    · exact va_put (D := D) (C := q0.1) (T := q0.2.1) (N := q0.2.2) (ref := (q0.2.1 j).1) hC.1 hC.2.1 hC.2.2.2.2.1 (cl_in hq) (clTy ci) (cl_ty hq) (cl_nm hq) hC.2.2.2.1 h1 h2 h3 h4 k hx hq j hj (hC.2.2.2.2.1 _ hw) (fun _ z => z) hf (cl_ty hq j hj) hnar hfit hl hdg fin
    · exact va_putF (D := D) (C := q0.1) (T := q0.2.1) (N := q0.2.2) (ref := (q0.2.1 j).1) hC.1 hC.2.1 hC.2.2.2.2.1 (cl_in hq) (clTy ci) (cl_ty hq) (cl_nm hq) hC.2.2.2.1 h1 h2 h3 h4 k hx hq j hj (hC.2.2.2.2.1 _ hw) (fun _ z => z) hf (hC.2.2.2.2.2.2.1.trans hi) ho (cl_ty hq j hj) hnar hfit hl hdg fin
  · rw [if_neg hT] at h; cases h
theorem w_putR {v : Nat} (hC : Cx p s m args meth c A X y cc nL scr) (hq : vwCl[ci]? = some q0) (hj : j < q0.2.2) (hw : Cond.fieldLink y.cls ix (q0.2.1 j).1 (q0.2.1 j).2.1 (q0.2.1 j).2.2.1 ∈ TWg) (hfin : (q0.2.1 j).2.2.2 = false ∨ ((q0.2.1 j).2.2.2 = true ∧ y.name = "<init>" ∧ (q0.2.1 j).1 = y.cls)) (hk : isRT (clTy ci j) = true) (hdg : decode cc pc = .ok (.putfield ix, 3)) (hnx : nx = pc + 3) (hgo : ∀ pc' L' st' t', go pc' L' st' t' = some r → WSt p l e R s m args below meth c D A X ws0 nL n0 z0 Q r pc' L' st' t')
    (h : hPutR t ci k j (some v) (fun u => go nx L rest u) = some r) : WSt p l e R s m args below meth c D A X ws0 nL n0 z0 Q r pc L (.ref v :: .ref k :: rest) t := by
  subst hnx
  unfold hPutR at h
  by_cases hT : (mT t k).1 = ci
  · rw [if_pos hT] at h
    have kk := hgo _ _ _ _ h
    refine ⟨kk.1, fun H locs ws tys L' ls st' hS => ?_⟩
    obtain ⟨h1, h2, h3, h4, h5, h6, h7, h8, h9, h10⟩ := hS
    obtain ⟨av, xv, s1, rfl, hxv, h11⟩ := h10.ref
    obtain ⟨a, x, s2, rfl, hx, hs1⟩ := h11.ref
    obtain ⟨fs, rfl, g2, g3⟩ := h5.obj hx hT (cl_lt hq)
    have hl : j < fs.length := by rw [g2, cl_N hq]; exact hj
    have hR : SRel (ws.set k (a, .inr (ci, fs.set j (.ref av)))) tys (setR t k j (some v)) := by
      refine h5.setF hx hT (cl_lt hq) rfl rfl (fun _ _ => rfl) (fun q hq => if_neg hq) (fun _ _ => rfl) (fun i hi => ?_) ?_
      · show (if k = k then va_up (t.2.1 k) j (some v) else t.2.1 k) i = _
        rw [if_pos rfl]
        exact if_neg hi
      · unfold SFld
        rw [hk]
        refine ⟨some av, rfl, ?_⟩
        have e0 : mR (setR t k j (some v)) k j = some v := by
          show (if k = k then va_up (t.2.1 k) j (some v) else t.2.1 k) j = _
          rw [if_pos rfl]
          simp [va_up]
        rw [e0]
        exact ⟨av, rfl, RRef.ext (SExt.set hx) ⟨xv, hxv⟩⟩
    have fin : ∀ (H1 : Heap) (locs1 : List Loc), va_P D vwCl (ws.set k (a, .inr (ci, fs.set j (.ref av)))) H1 → va_D A (ws.set k (a, .inr (ci, fs.set j (.ref av)))) → va_S A s.heap H1 locs1 → W p l e R s m args below meth c H1 locs1 (mN t - n0) (mZ t - z0) Q (F0 m (pc + 3) ls s2) :=
      fun H1 locs1 e1 e2 e3 => kk.2 H1 locs1 _ tys L' ls s2 ⟨h1, e1, e2, e3, hR, h6.tr (SExt.set hx), h7, h8.ext (SExt.set hx), h9, hs1.ext (SExt.set hx)⟩
    have hnar : narrow (clTy ci j) (.ref av) = .ref av := by
      cases hty : clTy ci j <;> rw [hty] at hk <;> first | rfl | cases hk
    have hfit : fits (clTy ci j) (.ref av) = true := by
      cases hty : clTy ci j <;> rw [hty] at hk <;> first | rfl | cases hk
    rcases hfin with hf | ⟨hf, hi, ho⟩
    · exact va_put (D := D) (C := q0.1) (T := q0.2.1) (N := q0.2.2) (ref := (q0.2.1 j).1) hC.1 hC.2.1 hC.2.2.2.2.1 (cl_in hq) (clTy ci) (cl_ty hq) (cl_nm hq) hC.2.2.2.1 h1 h2 h3 h4 k hx hq j hj (hC.2.2.2.2.1 _ hw) (fun _ z => z) hf (cl_ty hq j hj) hnar hfit hl hdg fin
    · exact va_putF (D := D) (C := q0.1) (T := q0.2.1) (N := q0.2.2) (ref := (q0.2.1 j).1) hC.1 hC.2.1 hC.2.2.2.2.1 (cl_in hq) (clTy ci) (cl_ty hq) (cl_nm hq) hC.2.2.2.1 h1 h2 h3 h4 k hx hq j hj (hC.2.2.2.2.1 _ hw) (fun _ z => z) hf (hC.2.2.2.2.2.2.1.trans hi) ho (cl_ty hq j hj) hnar hfit hl hdg fin
  · rw [if_neg hT] at h; cases h
end
