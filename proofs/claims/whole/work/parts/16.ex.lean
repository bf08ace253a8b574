section
variable {p : Program} {l : Launch} {e : Env} {R : Room} {s : State} {m : MethodId} {args : Array Value} {below : List Frame} {meth : Method} {c : Code} {D : va_G} {A : Nat → Prop} {X : PX} {ws0 : va_W} {nL n0 z0 : Nat} {Q : State → Prop} {r : RR} {scr : Scr} {y : MethodName} {cc : ByteArray}
variable {pc nx : Nat} {L : LV} {st rest : List Value} {t : SM} {go : Go} {ci j k ix a b : Nat} {q0 : vw_C} {ws : va_W} {tys : List (ClassId × FieldType)} {x : va_E}
theorem w_sSpec {mt : List MT} {cal : Cal} {d : Nat} {aux : List Nat} {ins : Instr} (hC : Cx p s m args meth c A X y cc nL scr) (hcal : CalOK l d mt cal) (hd : 1 ≤ d) (hR : d ≤ R.frames ∧ 64 * d ≤ R.locals) (hRm : RoomOK R n0 z0 r) (hins : ins = .invokestatic ix ∨ ins = .invokevirtual ix ∨ ins = .invokespecial ix) (hrow : ∀ pc nx sw, linkRow mt y (pc, ins, nx, aux, sw) = true) (hdg : decode cc pc = .ok (ins, 3)) (hnx : nx = pc + 3) (hgo : ∀ pc' L' st' t', go pc' L' st' t' = some r → WSt p l e R s m args below meth c D A X ws0 nL n0 z0 Q r pc' L' st' t') (h : sSpec cal go aux nx L st t = some r) : WSt p l e R s m args below meth c D A X ws0 nL n0 z0 Q r pc L st t := by
  have hrow := hrow 0 0 []
  have hR1 : 1 ≤ R.frames ∧ 64 ≤ R.locals := by omega
  unfold sSpec at h
  split at h
  · rename_i e0
    split at h
    · rename_i b r1
      by_cases hc : catS r1 ≤ 8
      · rw [if_pos hc] at h
        rcases hins with rfl | rfl | rfl
        · simp only [linkRow, e0] at hrow; cases hrow
        · simp only [linkRow, e0] at hrow; cases hrow
        · simp only [linkRow, e0] at hrow
          exact w_objI hC hR1 (wOK_in hrow) tw_oI tw_oC hc hdg hnx hgo h
      · rw [if_neg hc] at h; cases h
    · cases h
  · rename_i e0
    split at h
    · rename_i n dp b sp a r1
      by_cases hc : catS r1 ≤ 8
      · rw [if_pos hc] at h
        rcases hins with rfl | rfl | rfl
        · simp only [linkRow, e0] at hrow
          exact w_cpy hC hR1 (wOK_in hrow) tw_cN tw_cS tw_cI hc hdg hnx hgo h
        · simp only [linkRow, e0] at hrow; cases hrow
        · simp only [linkRow, e0] at hrow; cases hrow
      · rw [if_neg hc] at h; cases h
    · cases h
  · rename_i e0
    split at h
    · rename_i a r1
      by_cases hc : catS r1 ≤ 8
      · rw [if_pos hc] at h
        rcases hins with rfl | rfl | rfl
        · simp only [linkRow, e0] at hrow; cases hrow
        · simp only [linkRow, e0] at hrow
          exact w_clone hC hR1 hRm (wOK_in hrow) tw_kS tw_kN tw_kI tw_kE hc hdg hnx hgo h
        · simp only [linkRow, e0] at hrow; cases hrow
      · rw [if_neg hc] at h; cases h
    · cases h
  · rename_i n1 n2 n3
    have key : ∀ (b1 b2 b3 b4 : Bool), (match aux0 aux with
      | 1000 => b1
      | 1001 => b2
      | 1002 => b3
      | _ => b4) = true → b4 = true := by
      intro b1 b2 b3 b4 hb
      split at hb
      · rename_i e0; exact absurd e0 n1
      · rename_i e0; exact absurd e0 n2
      · rename_i e0; exact absurd e0 n3
      · exact hb
    rcases hins with rfl | rfl | rfl
    · exact w_inv hC hcal (key _ _ _ _ hrow) hR hRm (Or.inl ⟨rfl, rfl⟩) hdg hnx hgo h
    · exact w_inv hC hcal (key _ _ _ _ hrow) hR hRm (Or.inr (Or.inl ⟨rfl, rfl⟩)) hdg hnx hgo h
    · exact w_inv hC hcal (key _ _ _ _ hrow) hR hRm (Or.inr (Or.inr ⟨rfl, rfl⟩)) hdg hnx hgo h
theorem linkRow_any {mt : List MT} {ins : Instr} {aux : List Nat} {sw : List (Int × Nat)} (hins : ins = .invokestatic ix ∨ ins = .invokevirtual ix ∨ ins = .invokespecial ix) (h : linkRow mt y (pc, ins, nx, aux, sw) = true) : ∀ pc nx sw, linkRow mt y (pc, ins, nx, aux, sw) = true := by
  intro pc' nx' sw'
  rcases hins with rfl | rfl | rfl <;> exact h
theorem sem2_sound {mt : List MT} {cal : Cal} {d rk : Nat} {aux : List Nat} {ins : Instr} {sw : List (Int × Nat)} (hC : Cx p s m args meth c A X y cc nL scr) (hcal : CalOK l d mt cal) (hd : 1 ≤ d) (hR : d ≤ R.frames ∧ 64 * d ≤ R.locals) (hRm : RoomOK R n0 z0 r)
    (hret : ∀ (ins : Instr) (pc : Nat) (L : LV) (st : List Value) (t : SM), decode cc pc = .ok (ins, 1) → retR rk ins st t = some r → WSt p l e R s m args below meth c D A X ws0 nL n0 z0 Q r pc L st t)
    (hrow : rowB mt y cc (pc, ins, nx, aux, sw) = true) (hgo : ∀ pc' L' st' t', go pc' L' st' t' = some r → WSt p l e R s m args below meth c D A X ws0 nL n0 z0 Q r pc' L' st' t') (h : sem2 rk scr bytJ clN cal go ins nx aux sw L st t = some r) : WSt p l e R s m args below meth c D A X ws0 nL n0 z0 Q r pc L st t := by
  have x1 := hC.1
  have x2 := hC.2.1
  by_cases hsw : isSw ins = true
  · unfold rowB at hrow
    rw [show isSw (pc, ins, nx, aux, sw).2.1 = true from hsw] at hrow
    obtain ⟨h1, h2⟩ := bAnd hrow
    cases ins with
    | tableswitch dflt lo hi offs =>
      dsimp only at h1 h2
      split at h1
      · rename_i z hz
        have e0 := of_decide_eq_true h1
        obtain ⟨g1, g2⟩ := bAnd h2
        obtain ⟨g3, g4⟩ := bAnd g1
        obtain ⟨g5, g6⟩ := bAnd g2
        obtain ⟨g7, g8⟩ := bAnd g5
        obtain ⟨g9, g10⟩ := bAnd g6
        unfold sem2 at h
        dsimp only at h
        split at h
        · exact w_tab (len := z.2) hC (by rw [hz, ← e0]) (of_decide_eq_true g3) (of_decide_eq_true g4) (of_decide_eq_true g7) (of_decide_eq_true g8) (of_decide_eq_true g9) (fun o ho => of_decide_eq_true (List.all_eq_true.mp g10 o ho)) hgo h
        · cases h
      · cases h1
    | lookupswitch dflt ps =>
      dsimp only at h1 h2
      split at h1
      · rename_i z hz
        have e0 := of_decide_eq_true h1
        obtain ⟨g1, g2⟩ := bAnd h2
        obtain ⟨g3, g4⟩ := bAnd g1
        obtain ⟨g5, g6⟩ := bAnd g2
        obtain ⟨g7, g8⟩ := bAnd g6
        unfold sem2 at h
        dsimp only at h
        split at h
        · exact w_lkp (len := z.2) hC (by rw [hz, ← e0]) (of_decide_eq_true g3) (of_decide_eq_true g4) g5 (fun q hq => by have := bAnd (List.all_eq_true.mp g7 q hq); exact ⟨of_decide_eq_true this.1, of_decide_eq_true this.2⟩) (fun q hq => of_decide_eq_true (List.all_eq_true.mp g8 q hq)) hgo h
        · cases h
      · cases h1
    | _ => cases hsw
  · have hsf : isSw ins = false := by simpa using hsw
    clear hsw
    unfold rowB at hrow
    rw [show isSw (pc, ins, nx, aux, sw).2.1 = false from hsf] at hrow
    obtain ⟨h1, hlk⟩ := bAnd hrow
    obtain ⟨h2, h3⟩ := bAnd h1
    have hdg : decode cc pc = .ok (ins, lenOf ins) := of_decide_eq_true h2
    have hnx : nx = pc + lenOf ins := of_decide_eq_true h3
    clear h1 h2 h3 hrow
    unfold sem2 at h
    split at h
    · split at h
      · exact w_if hC hdg hnx (of_decide_eq_true hlk) hgo h
      · cases h
    · split at h
      · exact w_icmp hC hdg hnx (of_decide_eq_true hlk) hgo h
      · cases h
    · exact w_ifnull hC hdg hnx (of_decide_eq_true hlk) hgo h
    · exact w_ifnonnull hC hdg hnx (of_decide_eq_true hlk) hgo h
    · cases hsf
    · cases hsf
    · exact w_div hC hdg hnx hgo h
    · exact w_rem hC hdg hnx hgo h
    · exact w_lrem hC hdg hnx hgo h
    · exact w_sGet hC hlk hdg hnx hgo h
    · exact w_sPut hC hlk hdg hnx hgo h
    · unfold sLd at h
      split at h
      · exact w_ald hC hdg hnx hgo h
      · rename_i i k rest
        by_cases hk : k.toNat = 200
        · rw [if_pos hk] at h
          split at h
          · exact w_scrLd hC hk rfl hdg hnx hgo h
          · cases h
        · rw [if_neg hk] at h; cases h
      · cases h
    · unfold sSt at h
      split at h
      · exact w_ast hC hdg hnx hgo h
      · cases h
    · unfold sBLd at h
      split at h
      · exact w_bld hC hdg hnx hgo h
      · exact w_strLd hC hdg hnx hgo h
      · cases h
    · unfold sBSt at h
      split at h
      · exact w_bst hC hdg hnx hgo h
      · cases h
    · unfold sQLd at h
      split at h
      · obtain ⟨q, hq⟩ := cl_get hlk
        exact w_qld hC hq hdg hnx hgo h
      · cases h
    · unfold sQSt at h
      split at h
      · obtain ⟨q, hq⟩ := cl_get hlk
        exact w_qst hC hq hdg hnx hgo h
      · cases h
    · unfold sLen at h
      split at h
      · exact w_len hC hdg hnx hgo h
      · rename_i k rest
        by_cases hk : k.toNat = 200
        · rw [if_pos hk] at h
          split at h
          · exact w_scrLen hC hk rfl hdg hnx hgo h
          · cases h
        · rw [if_neg hk] at h
          exact w_strLen hC hdg hnx hgo h
      · cases h
    · have hlk : clsB y.cls _ aux = true := hlk
      unfold clsB at hlk
      split at hlk
      · rename_i q hq
        exact w_new hC hRm hq (wOK_in hlk) (cl_inst hq).1 (cl_inst hq).2 hdg hnx hgo h
      · cases hlk
    · rename_i at0
      have hlk : ((decide (aux0 aux = 20) && decide (at0 = .int)) || (decide (aux0 aux = 21) && decide (at0 = .boolean))) = true := hlk
      have hg : (aux0 aux = 20 ∧ at0 = .int) ∨ (aux0 aux = 21 ∧ at0 = .boolean) := by
        simpa using hlk
      have hw : Cond.arrayClass (newarray.typeOf at0) ∈ TWg := by
        rcases hg with ⟨-, rfl⟩ | ⟨-, rfl⟩
        · exact tw_aI
        · exact tw_aZ
      unfold sNewA at h
      split at h
      · exact w_newA hC hRm hg hw hdg hnx hgo h
      · cases h
    · obtain ⟨hc1, hc2⟩ := bAnd hlk
      have hc1 : clsB y.cls _ aux = true := hc1
      unfold clsB at hc1
      split at hc1
      · rename_i q hq
        unfold sNewA at h
        split at h
        · exact w_newQ hC hRm (of_decide_eq_true hc2) hq (wOK_in hc1) hdg hnx hgo h
        · cases h
      · cases hc1
    · exact w_sSpec hC hcal hd hR hRm (Or.inr (Or.inl rfl)) (linkRow_any (Or.inr (Or.inl rfl)) hlk) hdg hnx hgo h
    · exact w_sSpec hC hcal hd hR hRm (Or.inr (Or.inr rfl)) (linkRow_any (Or.inr (Or.inr rfl)) hlk) hdg hnx hgo h
    · exact w_sSpec hC hcal hd hR hRm (Or.inl rfl) (linkRow_any (Or.inl rfl) hlk) hdg hnx hgo h
    · exact hret .ireturn pc L st t hdg h
    · exact hret .areturn pc L st t hdg h
    · exact hret .return_ pc L st t hdg h
    · rename_i ix
      have hlk : (match aux0 aux with
        | 0 => wOK (aux3 aux) (.constant y.cls ix (Int32.ofInt (sw.headD (0, 0)).1))
        | _ => Nat.blt (aux1 aux) 14 && (match strJ[aux1 aux]? with
          | some z => decide (z.1 = y.cls) && decide (z.2.1 = ix)
          | none => false)) = true := hlk
      split at h
      · rename_i e0
        rw [e0] at hlk
        exact w_ldcI hC (wOK_in hlk) hdg hnx hgo h
      · rename_i e0
        have hlk : (Nat.blt (aux1 aux) 14 && (match strJ[aux1 aux]? with
          | some z => decide (z.1 = y.cls) && decide (z.2.1 = ix)
          | none => false)) = true := by
          split at hlk
          · rename_i e1; exact absurd e1 e0
          · exact hlk
        obtain ⟨f1, f2⟩ := bAnd hlk
        split at f2
        · rename_i z hz
          obtain ⟨f3, f4⟩ := bAnd f2
          exact w_ldcS hC (blt_lt f1) hz (of_decide_eq_true f3) (of_decide_eq_true f4) hdg hnx hgo h
        · cases f2
    · exact w_ldcW hC (wOK_in hlk) hdg hnx hgo h
    · exact w_ldc2 hC (wOK_in hlk) hdg hnx hgo h
    · rename_i ix
      have hlk : (match aux0 aux with
        | 0 => wOK (aux3 aux) (.fieldLink y.cls ix "java/lang/String" "COMPACT_STRINGS" "Z")
        | _ => wOK (aux3 aux) (.fieldLink y.cls ix "jdk/internal/util/Preconditions" "SIOOBE_FORMATTER" fmtD)) = true := hlk
      split at h
      · rename_i e0
        rw [e0] at hlk
        exact w_getsC hC (wOK_in hlk) hdg hnx hgo h
      · rename_i e0
        have hlk : wOK (aux3 aux) (.fieldLink y.cls ix "jdk/internal/util/Preconditions" "SIOOBE_FORMATTER" fmtD) = true := by
          split at hlk
          · rename_i e1; exact absurd e1 e0
          · exact hlk
        exact w_getsF hC (wOK_in hlk) hdg hnx hgo h
    · split at h
      · exact w_castI hC (wOK_in hlk) hdg hnx hgo h
      · cases h
    · cases h
theorem atP_some {pc : Nat} {q : SI} : ∀ {l : List SI}, atP pc l = some q → q ∈ l ∧ q.1 = pc
  | a :: l, h => by
    unfold atP at h
    cases hb : Nat.beq a.1 pc with
    | true =>
      rw [hb] at h
      cases h
      exact ⟨List.mem_cons_self, Nat.eq_of_beq_eq_true hb⟩
    | false =>
      rw [hb] at h
      obtain ⟨h1, h2⟩ := atP_some h
      exact ⟨List.mem_cons_of_mem _ h1, h2⟩
/-- THE SMALL MACHINE IS HELD BY THE MACHINE: one stretch of code, up to its cuts -/
theorem ex_sound {mt : List MT} {cal : Cal} {d : Nat} {P : SCode} {cut : List Nat} {kc : Go} (hC : Cx p s m args meth c A X y cc P.2.1 scr) (hcal : CalOK l d mt cal) (hd : 1 ≤ d) (hR : d ≤ R.frames ∧ 64 * d ≤ R.locals) (hRm : RoomOK R n0 z0 r)
    (hret : ∀ (ins : Instr) (pc : Nat) (L : LV) (st : List Value) (t : SM), decode cc pc = .ok (ins, 1) → retR P.2.2 ins st t = some r → WSt p l e R s m args below meth c D A X ws0 P.2.1 n0 z0 Q r pc L st t)
    (hrows : ∀ q ∈ P.1, rowB mt y cc q = true) (hkc : ∀ pc L st t, kc pc L st t = some r → WSt p l e R s m args below meth c D A X ws0 P.2.1 n0 z0 Q r pc L st t) :
    ∀ (f pc : Nat) (L : LV) (st : List Value) (t : SM), ex clN P scr bytJ cal cut kc f pc L st t = some r → WSt p l e R s m args below meth c D A X ws0 P.2.1 n0 z0 Q r pc L st t := by
  intro f
  induction f with
  | zero => intro pc L st t h; cases h
  | succ f ih =>
    intro pc L st t h
    unfold ex at h
    cases hq : atP pc P.1 with
    | none => rw [hq] at h; cases h
    | some q =>
      rw [hq] at h
      obtain ⟨hm, hpc⟩ := atP_some hq
      have hrow := hrows q hm
      obtain ⟨qp, ins, nx, aux, sw⟩ := q
      cases (show qp = pc from hpc)
      have hgo : ∀ pc' L' st' t', (match inN pc' cut with
        | true => kc pc' L' st' t'
        | false => ex clN P scr bytJ cal cut kc f pc' L' st' t') = some r → WSt p l e R s m args below meth c D A X ws0 P.2.1 n0 z0 Q r pc' L' st' t' := by
        intro pc' L' st' t' hg
        split at hg
        · exact hkc _ _ _ _ hg
        · exact ih _ _ _ _ hg
      have h2 := fun hg => sem2_sound (L := L) (st := st) (t := t) (rk := P.2.2) hC hcal hd hR hRm hret hrow hgo hg
      dsimp only at h
      by_cases hsw : isSw ins = true
      · have h3 : sem1 P.2.1 (fun pc' L' st' t' => match inN pc' cut with
          | true => kc pc' L' st' t'
          | false => ex clN P scr bytJ cal cut kc f pc' L' st' t') ins nx aux L st t (sem2 P.2.2 scr bytJ clN cal (fun pc' L' st' t' => match inN pc' cut with
          | true => kc pc' L' st' t'
          | false => ex clN P scr bytJ cal cut kc f pc' L' st' t') ins nx aux sw L st t) = some r := h
        cases ins <;> first | exact h2 h3 | cases hsw
      · have hsf : isSw ins = false := by simpa using hsw
        have hrow2 := hrow
        unfold rowB at hrow2
        rw [show isSw (pc, ins, nx, aux, sw).2.1 = false from hsf] at hrow2
        obtain ⟨h3, hlk⟩ := bAnd hrow2
        obtain ⟨h4, h5⟩ := bAnd h3
        exact sem1_sound hC (of_decide_eq_true h4) (of_decide_eq_true h5) (fun off ho => by subst ho; exact of_decide_eq_true hlk) hgo h2 h
end
