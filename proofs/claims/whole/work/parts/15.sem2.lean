section
variable {p : Program} {l : Launch} {e : Env} {R : Room} {s : State} {m : MethodId} {args : Array Value} {below : List Frame} {meth : Method} {c : Code} {D : va_G} {A : Nat → Prop} {X : PX} {ws0 : va_W} {nL n0 z0 : Nat} {Q : State → Prop} {r : RR} {scr : Scr} {y : MethodName} {cc : ByteArray}
variable {pc nx : Nat} {L : LV} {st rest : List Value} {t : SM} {go : Go} {ci j k ix a b : Nat} {q0 : vw_C} {ws : va_W} {tys : List (ClassId × FieldType)} {x : va_E}
theorem cl_inst {ci : Nat} {q : vw_C} (h : vwCl[ci]? = some q) : Cond.instantiable q.1 q.2.2 ∈ TWg ∧ Cond.initialized q.1 ∈ TWg := by
  match ci, h with
  | 0, h => cases h; exact ⟨TWg_in (i := 245) (by decide +kernel) (by decide +kernel), TWg_in (i := 94) (by decide +kernel) (by decide +kernel)⟩
  | 1, h => cases h; exact ⟨TWg_in (i := 118) (by decide +kernel) (by decide +kernel), TWg_in (i := 89) (by decide +kernel) (by decide +kernel)⟩
  | 2, h => cases h; exact ⟨TWg_in (i := 659) (by decide +kernel) (by decide +kernel), TWg_in (i := 106) (by decide +kernel) (by decide +kernel)⟩
  | 3, h => cases h; exact ⟨TWg_in (i := 199) (by decide +kernel) (by decide +kernel), TWg_in (i := 92) (by decide +kernel) (by decide +kernel)⟩
  | 4, h => cases h; exact ⟨TWg_in (i := 163) (by decide +kernel) (by decide +kernel), TWg_in (i := 91) (by decide +kernel) (by decide +kernel)⟩
  | 5, h => cases h; exact ⟨TWg_in (i := 535) (by decide +kernel) (by decide +kernel), TWg_in (i := 104) (by decide +kernel) (by decide +kernel)⟩
  | 6, h => cases h; exact ⟨TWg_in (i := 843) (by decide +kernel) (by decide +kernel), TWg_in (i := 108) (by decide +kernel) (by decide +kernel)⟩
  | 7, h => cases h; exact ⟨TWg_in (i := 141) (by decide +kernel) (by decide +kernel), TWg_in (i := 90) (by decide +kernel) (by decide +kernel)⟩
  | 8, h => cases h; exact ⟨TWg_in (i := 491) (by decide +kernel) (by decide +kernel), TWg_in (i := 103) (by decide +kernel) (by decide +kernel)⟩
  | 9, h => cases h; exact ⟨TWg_in (i := 227) (by decide +kernel) (by decide +kernel), TWg_in (i := 93) (by decide +kernel) (by decide +kernel)⟩
  | 10, h => cases h; exact ⟨TWg_in (i := 110) (by decide +kernel) (by decide +kernel), TWg_in (i := 88) (by decide +kernel) (by decide +kernel)⟩
  | 11, h => cases h; exact ⟨TWg_in (i := 1218) (by decide +kernel) (by decide +kernel), TWg_in (i := 105) (by decide +kernel) (by decide +kernel)⟩
  | k + 12, h => simp [vwCl] at h
theorem tw_aI : Cond.arrayClass (newarray.typeOf .int) ∈ TWg := TWg_in (i := 139) (by decide +kernel) (by decide +kernel)
theorem tw_aZ : Cond.arrayClass (newarray.typeOf .boolean) ∈ TWg := TWg_in (i := 269) (by decide +kernel) (by decide +kernel)
theorem tw_oI : Cond.instanceMethod Lib.objectInit ∈ TWg := TWg_in (i := 115) (by decide +kernel) (by decide +kernel)
theorem tw_oC : Cond.code Lib.objectInit ⟨#[0xb1]⟩ 1 none ∈ TWg := TWg_in (i := 116) (by decide +kernel) (by decide +kernel)
theorem tw_cN : Cond.native arraycopyName ∈ TWg := TWg_in (i := 489) (by decide +kernel) (by decide +kernel)
theorem tw_cS : Cond.static arraycopyName ∈ TWg := TWg_in (i := 488) (by decide +kernel) (by decide +kernel)
theorem tw_cI : Cond.initialized "java/lang/System" ∈ TWg := TWg_in (i := 102) (by decide +kernel) (by decide +kernel)
theorem tw_kS : Cond.sameMethod "[I" "java/lang/Object" "clone" "()Ljava/lang/Object;" ∈ TWg := TWg_in (i := 480) (by decide +kernel) (by decide +kernel)
theorem tw_kN : Cond.native ⟨"java/lang/Object", "clone", "()Ljava/lang/Object;"⟩ ∈ TWg := TWg_in (i := 481) (by decide +kernel) (by decide +kernel)
theorem tw_kI : Cond.instanceMethod ⟨"java/lang/Object", "clone", "()Ljava/lang/Object;"⟩ ∈ TWg := TWg_in (i := 482) (by decide +kernel) (by decide +kernel)
theorem tw_kE : Cond.selects "[I" ⟨"[I", "clone", "()Ljava/lang/Object;"⟩ ⟨"java/lang/Object", "clone", "()Ljava/lang/Object;"⟩ ∈ TWg := TWg_in (i := 483) (by decide +kernel) (by decide +kernel)
def retR (rk : Nat) (ins : Instr) (st : List Value) (t : SM) : OR := match ins with
  | .ireturn => sRet rk false st t
  | .areturn => sRet rk true st t
  | .return_ => if rk = 0 ∧ st.isEmpty = true then some (none, t) else none
  | _ => none
theorem bAnd {a b : Bool} (h : (a && b) = true) : a = true ∧ b = true := by simpa using h
theorem blt_lt {a b : Nat} (h : Nat.blt a b = true) : a < b := Nat.lt_of_lt_of_le (Nat.lt_succ_self a) (Nat.le_of_ble_eq_true h)
theorem getB_some {own : String} {ix : Nat} {aux : List Nat} {q : vw_C} (hq : vwCl[aux0 aux]? = some q) (h : getB own ix aux = true) : aux1 aux < q.2.2 ∧ Cond.fieldLink own ix (q.2.1 (aux1 aux)).1 (q.2.1 (aux1 aux)).2.1 (q.2.1 (aux1 aux)).2.2.1 ∈ TWg ∧ (match aux2 aux with
    | 0 => !isRT (clTy (aux0 aux) (aux1 aux))
    | _ => isRT (clTy (aux0 aux) (aux1 aux))) = true := by
  unfold getB at h
  rw [hq] at h
  obtain ⟨h1, h2⟩ := bAnd h
  obtain ⟨h3, h4⟩ := bAnd h1
  exact ⟨blt_lt h3, wOK_in h4, h2⟩
theorem w_sGet {aux : List Nat} (hC : Cx p s m args meth c A X y cc nL scr) (hrow : getB y.cls ix aux = true) (hdg : decode cc pc = .ok (.getfield ix, 3)) (hnx : nx = pc + 3) (hgo : ∀ pc' L' st' t', go pc' L' st' t' = some r → WSt p l e R s m args below meth c D A X ws0 nL n0 z0 Q r pc' L' st' t') (h : sGet go aux nx L st t = some r) : WSt p l e R s m args below meth c D A X ws0 nL n0 z0 Q r pc L st t := by
  unfold sGet at h
  split at h
  · rename_i k rest
    cases hq : vwCl[aux0 aux]? with
    | none =>
      have hn : ¬ (mT t k).1 = aux0 aux ∨ (mT t k).1 = aux0 aux := by omega
      have h60 : aux0 aux = 60 := by
        unfold getB at hrow
        rw [hq] at hrow
        exact of_decide_eq_true (bAnd hrow).1
      have hbad : ∀ (pc' : Nat) (st' : List Value), (mT t k).1 = 60 → go pc' L st' t = some r → WSt p l e R s m args below meth c D A X ws0 nL n0 z0 Q r pc L (.ref k :: rest) t := by
        intro pc' st' hT hg
        refine ⟨(hgo _ _ _ _ hg).1, fun H locs ws tys L' ls st' hS => ?_⟩
        obtain ⟨h1, h2, h3, h4, h5, h6, h7, h8, h9, h10⟩ := hS
        obtain ⟨a, x, s1, rfl, hx, hs1⟩ := h10.ref
        rcases h5.2.2 k a x hx with ⟨g, -⟩ | ⟨g, -⟩ | ⟨g, -⟩ <;> omega
      rw [h60] at h
      split at h
      · unfold hGetI at h
        by_cases hT : (mT t k).1 = 60
        · rw [if_pos hT] at h; exact hbad _ _ hT h
        · rw [if_neg hT] at h; cases h
      · unfold hGetR at h
        by_cases hT : (mT t k).1 = 60
        · rw [if_pos hT] at h
          split at h
          · exact hbad _ _ hT h
          · exact hbad _ _ hT h
        · rw [if_neg hT] at h; cases h
      · unfold hGetC at h
        rename_i q _
        by_cases hT : (mT t k).1 = 60 ∧ mR t k (aux1 aux) = some q
        · rw [if_pos hT] at h; exact hbad _ _ hT.1 h
        · rw [if_neg hT] at h; cases h
    | some q =>
      obtain ⟨h1, h2, h3⟩ := getB_some hq hrow
      split at h
      · rename_i e0
        rw [e0] at h3
        exact w_getI hC hq h1 h2 (by simpa using h3) hdg hnx hgo h
      · rename_i e0
        rw [e0] at h3
        exact w_getR hC hq h1 h2 h3 hdg hnx hgo h
      · rename_i q' e0
        rw [e0] at h3
        exact w_getC hC hq h1 h2 h3 hdg hnx hgo h
  · rename_i k rest
    by_cases hT : aux0 aux = 60 ∧ k.toNat < 14
    · rw [if_pos hT] at h
      unfold getB at hrow
      rw [show vwCl[aux0 aux]? = none by rw [hT.1]; rfl] at hrow
      exact w_strGet hC hT.2 h (wOK_in (bAnd hrow).2) hdg hnx hgo
    · rw [if_neg hT] at h; cases h
  · cases h
theorem w_sPut {aux : List Nat} (hC : Cx p s m args meth c A X y cc nL scr) (hrow : putB y ix aux = true) (hdg : decode cc pc = .ok (.putfield ix, 3)) (hnx : nx = pc + 3) (hgo : ∀ pc' L' st' t', go pc' L' st' t' = some r → WSt p l e R s m args below meth c D A X ws0 nL n0 z0 Q r pc' L' st' t') (h : sPut go aux nx L st t = some r) : WSt p l e R s m args below meth c D A X ws0 nL n0 z0 Q r pc L st t := by
  unfold putB at hrow
  cases hq : vwCl[aux0 aux]? with
  | none => rw [hq] at hrow; cases hrow
  | some q =>
    rw [hq] at hrow
    obtain ⟨h1, h2⟩ := bAnd hrow
    obtain ⟨h3, h4⟩ := bAnd h1
    obtain ⟨h5, h6⟩ := bAnd h2
    have hfin : (q.2.1 (aux1 aux)).2.2.2 = false ∨ ((q.2.1 (aux1 aux)).2.2.2 = true ∧ y.name = "<init>" ∧ (q.2.1 (aux1 aux)).1 = y.cls) := by
      cases hf : (q.2.1 (aux1 aux)).2.2.2 with
      | false => exact Or.inl rfl
      | true =>
        rw [hf] at h5
        have h7 := bAnd (show (decide (y.name = "<init>") && decide ((q.2.1 (aux1 aux)).1 = y.cls)) = true from h5)
        exact Or.inr ⟨rfl, of_decide_eq_true h7.1, of_decide_eq_true h7.2⟩
    unfold sPut at h
    split at h
    · rename_i v k rest
      split at h
      · rename_i e0
        rw [e0] at h6
        have hty := of_decide_eq_true h6
        exact w_putI hC hq (blt_lt h3) (wOK_in h4) hfin hty rfl rfl rfl hdg hnx hgo h
      · rename_i e0
        rw [e0] at h6
        have hty := of_decide_eq_true h6
        unfold hZ at h
        by_cases hz : v = 0 ∨ v = 1
        · rw [if_pos hz] at h
          exact w_putI hC hq (blt_lt h3) (wOK_in h4) hfin hty rfl (by rcases hz with rfl | rfl <;> decide +kernel) (by rcases hz with rfl | rfl <;> decide +kernel) hdg hnx hgo h
        · rw [if_neg hz] at h; cases h
      · cases h
    · rename_i v k rest
      split at h
      · rename_i e0
        rw [e0] at h6
        exact w_putR hC hq (blt_lt h3) (wOK_in h4) hfin h6 hdg hnx hgo h
      · cases h
    · cases h
theorem cl_get {ci : Nat} (h : Nat.blt ci 12 = true) : ∃ q, vwCl[ci]? = some q := by
  obtain ⟨q, h1, -⟩ := cl_some (blt_lt h)
  exact ⟨q, h1⟩
theorem w_inv {mt : List MT} {cal : Cal} {d kd : Nat} {aux : List Nat} {ins : Instr} (hC : Cx p s m args meth c A X y cc nL scr) (hcal : CalOK l d mt cal) (hrow : invB mt y.cls ix kd aux = true) (hR : d ≤ R.frames ∧ 64 * d ≤ R.locals) (hRm : RoomOK R n0 z0 r) (hins : (kd = 0 ∧ ins = .invokestatic ix) ∨ (kd = 1 ∧ ins = .invokevirtual ix) ∨ (kd = 2 ∧ ins = .invokespecial ix)) (hdg : decode cc pc = .ok (ins, 3)) (hnx : nx = pc + 3) (hgo : ∀ pc' L' st' t', go pc' L' st' t' = some r → WSt p l e R s m args below meth c D A X ws0 nL n0 z0 Q r pc' L' st' t') (h : sCall cal go aux nx L st t = some r) : WSt p l e R s m args below meth c D A X ws0 nL n0 z0 Q r pc L st t := by
  unfold invB at hrow
  cases hq : mt[aux0 aux]? with
  | none => rw [hq] at hrow; cases hrow
  | some q =>
    rw [hq] at hrow
    obtain ⟨h1, h2⟩ := bAnd hrow
    obtain ⟨h3, h4⟩ := bAnd h1
    obtain ⟨h5, h6⟩ := bAnd h2
    have hk := of_decide_eq_true h3
    have hn := of_decide_eq_true h4
    have hl := linkB_ok h5
    unfold sCall at h
    rcases hins with ⟨rfl, rfl⟩ | ⟨rfl, rfl⟩ | ⟨rfl, rfl⟩
    · rw [if_pos (of_decide_eq_true h6)] at h
      exact w_cS hC hcal hq hk hn hl hR hRm hdg hnx hgo h
    · have h6 : (match vwCl[aux2 aux]? with
        | some q0 => decide (q0.1 = q.1.cls)
        | none => decide (aux2 aux = 60) && (decide (q.1.cls = "java/lang/String") && decide (1 = 1))) = true := h6
      cases hc : vwCl[aux2 aux]? with
      | some q0 =>
        rw [hc] at h6
        have hlt := cl_lt hc
        rw [if_neg (by omega)] at h
        split at h
        · rename_i b r1 hst
          exact w_cO hC hcal hq hn hl hR hRm (Or.inl ⟨hk, hdg⟩) hc (of_decide_eq_true h6) hnx hst hgo h
        · rename_i b r1 hst
          rw [if_neg (by omega)] at h; cases h
        · cases h
      | none =>
        rw [hc] at h6
        obtain ⟨g1, g2⟩ := bAnd h6
        have e60 := of_decide_eq_true g1
        rw [if_neg (by omega)] at h
        split at h
        · rename_i b r1 hst
          rw [e60] at h
          by_cases hT : (st.take (aux1 aux)).length = aux1 aux ∧ catS r1 ≤ 8
          · rw [if_pos hT] at h
            unfold hRecv at h
            by_cases hB : (mT t b).1 = 60
            · rw [if_pos hB] at h
              obtain ⟨q', d', u, f1, f2, f3, f4, f5⟩ := hcal _ _ _ _ _ h
              have f6 := hgo _ _ _ _ f5
              refine ⟨⟨Nat.le_trans f4.1.1 f6.1.1, Nat.le_trans f4.1.2 f6.1.2⟩, fun H locs ws tys L' ls st' hS => ?_⟩
              obtain ⟨h1, h2, h3, h4, h5, h6, h7, h8, h9, h10⟩ := hS
              have hdr := h10.drop (aux1 aux)
              rw [hst] at hdr
              obtain ⟨ab, xb, r1', e1, hxb, hr1⟩ := hdr.ref
              rcases h5.2.2 b ab xb hxb with ⟨g, -⟩ | ⟨g, -⟩ | ⟨g, -⟩ <;> omega
            · rw [if_neg hB] at h; cases h
          · rw [if_neg hT] at h; cases h
        · rename_i b r1 hst
          rw [if_pos e60] at h
          exact w_cT hC hcal hq hn hl hR hRm hk hdg (of_decide_eq_true (bAnd g2).1) hnx hst hgo h
        · cases h
    · have h6 : (match vwCl[aux2 aux]? with
        | some q0 => decide (q0.1 = q.1.cls)
        | none => decide (aux2 aux = 60) && (decide (q.1.cls = "java/lang/String") && decide (2 = 1))) = true := h6
      cases hc : vwCl[aux2 aux]? with
      | some q0 =>
        rw [hc] at h6
        have hlt := cl_lt hc
        rw [if_neg (by omega)] at h
        split at h
        · rename_i b r1 hst
          exact w_cO hC hcal hq hn hl hR hRm (Or.inr ⟨hk, hdg⟩) hc (of_decide_eq_true h6) hnx hst hgo h
        · rw [if_neg (by omega)] at h; cases h
        · cases h
      | none =>
        rw [hc] at h6
        have := (bAnd (bAnd h6).2).2
        cases this
end
