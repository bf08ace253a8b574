section
variable {p : Program} {l : Launch} {e : Env} {R : Room} {s : State} {m : MethodId} {args : Array Value} {below : List Frame} {meth : Method} {c : Code} {D : va_G} {A : Nat → Prop} {X : PX} {ws0 : va_W} {nL n0 z0 : Nat} {Q : State → Prop} {r : RR} {scr : Scr} {y : MethodName} {cc : ByteArray}
variable {pc nx : Nat} {L : LV} {st rest : List Value} {t : SM} {go : Go} {ci j k ix a b : Nat} {q0 : vw_C} {ws : va_W} {tys : List (ClassId × FieldType)} {x : va_E}
/-- what the oracle of calls may say -/
def CalOK (l : Launch) (d : Nat) (mt : List MT) (cal : Cal) : Prop := ∀ (mi : Nat) (as : List Value) (t : SM) (k : Option Value → SM → OR) (r : RR), cal mi as t k = some r → ∃ (q : MT) (d' : Nat) (u : RR), mt[mi]? = some q ∧ MOK q ∧ d' + 1 ≤ d ∧ Con l d' q as t u ∧ k u.1 u.2 = some r
theorem take_drop {n : Nat} {st st' : List Value} (h : VsRel X ws st st') : st' = ((st'.take n).reverse).reverse ++ st'.drop n := by rw [List.reverse_reverse, List.take_append_drop]
theorem w_cS {mt : List MT} {cal : Cal} {q : MT} {d mi n : Nat} (hC : Cx p s m args meth c A X y cc nL scr) (hcal : CalOK l d mt cal) (hq : mt[mi]? = some q) (hk : q.2.2.2.2.2 = 0) (hn : q.2.2.2.2.1 = n) (hl : LinkOK y.cls ix q) (hR : d ≤ R.frames ∧ 64 * d ≤ R.locals) (hRm : RoomOK R n0 z0 r) (hdg : decode cc pc = .ok (.invokestatic ix, 3)) (hnx : nx = pc + 3) (hgo : ∀ pc' L' st' t', go pc' L' st' t' = some r → WSt p l e R s m args below meth c D A X ws0 nL n0 z0 Q r pc' L' st' t')
    (h : (if (st.take n).length = n ∧ catS (st.drop n) ≤ 8 then cal mi (st.take n).reverse t (fun v u => go nx L (v.toList ++ st.drop n) u) else none) = some r) : WSt p l e R s m args below meth c D A X ws0 nL n0 z0 Q r pc L st t := by
  subst hnx
  have hX := hC.2.2.2.2.2.2.2.2.1.2.2.2.1
  by_cases hT : (st.take n).length = n ∧ catS (st.drop n) ≤ 8
  · rw [if_pos hT] at h
    obtain ⟨q', d', u, g1, g2, g3, g4, g5⟩ := hcal _ _ _ _ _ h
    cases hq.symm.trans g1
    refine w_callG (q := q) (d := d) (d' := d') (n := n) (u := u) hC hRm g4.1 (hgo _ _ _ _ g5) (fun H locs ws tys L' ls st' cells slots hS hf hF => ?_)
    obtain ⟨h1, h2, h3, h4, h5, h6, h7, h8, h9, h10⟩ := hS
    have hc2 := catS_rel hX (h10.drop n)
    refine ⟨st'.drop n, ((st'.take n).reverse).toArray, h10.drop n, ?_⟩
    rw [take_drop (n := n) h10]
    have hh := run_S (p := p) (l := l) (e := e) (below := below) (as' := (st'.take n).reverse) (rest' := st'.drop n) hC g2 hk hl g3 hR g4 h1 h2 h3 h4 h5 h9.1 (h10.take n).rev (by rw [List.length_reverse, ← (h10.take n).len, hT.1, hn]) (by omega) hdg hf hF
    rw [← take_drop (n := n) h10] at hh ⊢
    exact hh
  · rw [if_neg hT] at h; cases h
theorem drop_cons {n : Nat} {st r1 : List Value} {v : Value} (h : st.drop n = v :: r1) : st.drop (n + 1) = r1 := by
  have := congrArg List.tail h
  simpa [List.tail_drop] using this
theorem w_cO {mt : List MT} {cal : Cal} {q : MT} {d mi n b : Nat} {r1 : List Value} (hC : Cx p s m args meth c A X y cc nL scr) (hcal : CalOK l d mt cal) (hq : mt[mi]? = some q) (hn : q.2.2.2.2.1 = n) (hl : LinkOK y.cls ix q) (hR : d ≤ R.frames ∧ 64 * d ≤ R.locals) (hRm : RoomOK R n0 z0 r) (hdg : (q.2.2.2.2.2 = 1 ∧ decode cc pc = .ok (.invokevirtual ix, 3)) ∨ (q.2.2.2.2.2 = 2 ∧ decode cc pc = .ok (.invokespecial ix, 3))) (hci : vwCl[ci]? = some q0) (hcn : q0.1 = q.1.cls) (hnx : nx = pc + 3) (hst : st.drop n = .ref b :: r1) (hgo : ∀ pc' L' st' t', go pc' L' st' t' = some r → WSt p l e R s m args below meth c D A X ws0 nL n0 z0 Q r pc' L' st' t')
    (h : (if (st.take n).length = n ∧ catS r1 ≤ 8 then hRecv t ci b (cal mi (.ref b :: (st.take n).reverse) t (fun v u => go nx L (v.toList ++ r1) u)) else none) = some r) : WSt p l e R s m args below meth c D A X ws0 nL n0 z0 Q r pc L st t := by
  subst hnx
  have hX := hC.2.2.2.2.2.2.2.2.1.2.2.2.1
  by_cases hT : (st.take n).length = n ∧ catS r1 ≤ 8
  · rw [if_pos hT] at h
    unfold hRecv at h
    by_cases hB : (mT t b).1 = ci
    · rw [if_pos hB] at h
      obtain ⟨q', d', u, g1, g2, g3, g4, g5⟩ := hcal _ _ _ _ _ h
      cases hq.symm.trans g1
      refine w_callG (q := q) (d := d) (d' := d') (n := n) (u := u) hC hRm g4.1 (hgo _ _ _ _ g5) (fun H locs ws tys L' ls st' cells slots hS hf hF => ?_)
      obtain ⟨h1, h2, h3, h4, h5, h6, h7, h8, h9, h10⟩ := hS
      have hdr := h10.drop n
      rw [hst] at hdr
      obtain ⟨ab, xb, r1', e1, hxb, hr1⟩ := hdr.ref
      have hc2 := catS_rel hX hr1
      refine ⟨r1', (Value.ref ab :: (st'.take n).reverse).toArray, hr1, ?_⟩
      have e2 : st' = ((st'.take n).reverse).reverse ++ .ref ab :: r1' := by rw [← e1]; exact take_drop h10
      obtain ⟨fs, rfl, -, -⟩ := h5.obj hxb hB (cl_lt hci)
      have hrc := va_recv h1 h2 hci hxb
      rw [hcn] at hrc
      have hlen : ((st'.take n).reverse).length = q.2.2.2.2.1 := by rw [List.length_reverse, ← (h10.take n).len, hT.1, hn]
      have has : VsRel X ws (.ref b :: (st.take n).reverse) (.ref ab :: (st'.take n).reverse) := ⟨⟨ab, rfl, _, hxb⟩, (h10.take n).rev⟩
      rw [e2]
      rcases hdg with ⟨hk, hdg⟩ | ⟨hk, hdg⟩
      · have hh := run_V (p := p) (l := l) (e := e) (below := below) (as' := (st'.take n).reverse) (rest' := r1') (b := ab) hC g2 hk hl g3 hR g4 h1 h2 h3 h4 h5 h9.1 has hlen (by omega) hdg hrc hf hF
        rw [← e2] at hh ⊢
        exact hh
      · have hh := run_I (p := p) (l := l) (e := e) (below := below) (as' := (st'.take n).reverse) (rest' := r1') (b := ab) hC g2 hk hl g3 hR g4 h1 h2 h3 h4 h5 h9.1 has hlen (by omega) hdg hf hF
        rw [← e2] at hh ⊢
        exact hh
    · rw [if_neg hB] at h; cases h
  · rw [if_neg hT] at h; cases h
theorem w_cT {mt : List MT} {cal : Cal} {q : MT} {d mi n : Nat} {b : UInt32} {r1 : List Value} (hC : Cx p s m args meth c A X y cc nL scr) (hcal : CalOK l d mt cal) (hq : mt[mi]? = some q) (hn : q.2.2.2.2.1 = n) (hl : LinkOK y.cls ix q) (hR : d ≤ R.frames ∧ 64 * d ≤ R.locals) (hRm : RoomOK R n0 z0 r) (hk : q.2.2.2.2.2 = 1) (hdg : decode cc pc = .ok (.invokevirtual ix, 3)) (hcn : q.1.cls = "java/lang/String") (hnx : nx = pc + 3) (hst : st.drop n = .float b :: r1) (hgo : ∀ pc' L' st' t', go pc' L' st' t' = some r → WSt p l e R s m args below meth c D A X ws0 nL n0 z0 Q r pc' L' st' t')
    (h : (if (st.take n).length = n ∧ catS r1 ≤ 8 ∧ b.toNat < 14 then cal mi (.float b :: (st.take n).reverse) t (fun v u => go nx L (v.toList ++ r1) u) else none) = some r) : WSt p l e R s m args below meth c D A X ws0 nL n0 z0 Q r pc L st t := by
  subst hnx
  have hX := hC.2.2.2.2.2.2.2.2.1.2.2.2.1
  by_cases hT : (st.take n).length = n ∧ catS r1 ≤ 8 ∧ b.toNat < 14
  · rw [if_pos hT] at h
    obtain ⟨q', d', u, g1, g2, g3, g4, g5⟩ := hcal _ _ _ _ _ h
    cases hq.symm.trans g1
    refine w_callG (q := q) (d := d) (d' := d') (n := n) (u := u) hC hRm g4.1 (hgo _ _ _ _ g5) (fun H locs ws tys L' ls st' cells slots hS hf hF => ?_)
    obtain ⟨h1, h2, h3, h4, h5, h6, h7, h8, h9, h10⟩ := hS
    obtain ⟨adK, adV, f1, f2, f3, -⟩ := hC.2.2.2.2.2.2.2.2.1.2.2.2.2
    have hdr := h10.drop n
    rw [hst] at hdr
    obtain ⟨v', r1', e1, hx, hr1⟩ := hdr.flt
    have hx0 := hx
    rw [← flt_nat (k := b)] at hx
    obtain rfl := (f2 _ hT.2.2 v').mp hx
    have hc2 := catS_rel hX hr1
    refine ⟨r1', (Value.ref (adK b.toNat) :: (st'.take n).reverse).toArray, hr1, ?_⟩
    have e2 : st' = ((st'.take n).reverse).reverse ++ .ref (adK b.toNat) :: r1' := by rw [← e1]; exact take_drop h10
    have hrc := vk_recv f1 hT.2.2 h4
    rw [← hcn] at hrc
    have hlen : ((st'.take n).reverse).length = q.2.2.2.2.1 := by rw [List.length_reverse, ← (h10.take n).len, hT.1, hn]
    have has : VsRel X ws (.float b :: (st.take n).reverse) (.ref (adK b.toNat) :: (st'.take n).reverse) := ⟨hx0, (h10.take n).rev⟩
    rw [e2]
    have hh := run_V (p := p) (l := l) (e := e) (below := below) (as' := (st'.take n).reverse) (rest' := r1') (b := adK b.toNat) hC g2 hk hl g3 hR g4 h1 h2 h3 h4 h5 h9.1 has hlen (by omega) hdg hrc hf hF
    rw [← e2] at hh ⊢
    exact hh
  · rw [if_neg hT] at h; cases h
/-! what a row of code must show -/
def wOK (i : Nat) (w : Jvm.Cond) : Bool := decide (lw_tbl[i]? = some w) && goodWord w
theorem wOK_in {i : Nat} {w : Jvm.Cond} (h : wOK i w = true) : w ∈ TWg := by
  simp only [wOK, Bool.and_eq_true, decide_eq_true_eq] at h
  exact TWg_in h.1 h.2
def nestB (own : String) (ix : Nat) (y : MethodName) (w : Jvm.Cond) : Bool := match w with
  | .methodLinkNest a i z _ => decide (a = own) && (decide (i = ix) && decide (z = y))
  | _ => false
def linkB (own : String) (ix : Nat) (q : MT) (wi : Nat) : Bool := wOK wi (.methodLink own ix q.1) || nestJ.any (nestB own ix q.1)
theorem linkB_ok {own : String} {ix wi : Nat} {q : MT} (h : linkB own ix q wi = true) : LinkOK own ix q := by
  simp only [linkB, Bool.or_eq_true, List.any_eq_true] at h
  rcases h with h | ⟨w, h1, h2⟩
  · exact Or.inl (wOK_in h)
  · refine Or.inr ?_
    unfold nestB at h2
    split at h2
    · rename_i a i z hst
      simp only [Bool.and_eq_true, decide_eq_true_eq] at h2
      obtain ⟨rfl, rfl, rfl⟩ := h2
      exact ⟨hst, h1⟩
    · cases h2
def getB (own : String) (ix : Nat) (aux : List Nat) : Bool := match vwCl[aux0 aux]? with
  | some q => (Nat.blt (aux1 aux) q.2.2 && wOK (aux3 aux) (.fieldLink own ix (q.2.1 (aux1 aux)).1 (q.2.1 (aux1 aux)).2.1 (q.2.1 (aux1 aux)).2.2.1)) && (match aux2 aux with
    | 0 => !isRT (clTy (aux0 aux) (aux1 aux))
    | _ => isRT (clTy (aux0 aux) (aux1 aux)))
  | none => decide (aux0 aux = 60) && wOK (aux3 aux) (.fieldLink own ix "java/lang/String" (if aux1 aux = 0 then "coder" else "value") (if aux1 aux = 0 then "B" else "[B"))
def putB (y : MethodName) (ix : Nat) (aux : List Nat) : Bool := match vwCl[aux0 aux]? with
  | some q => (Nat.blt (aux1 aux) q.2.2 && wOK (aux3 aux) (.fieldLink y.cls ix (q.2.1 (aux1 aux)).1 (q.2.1 (aux1 aux)).2.1 (q.2.1 (aux1 aux)).2.2.1)) && ((!(q.2.1 (aux1 aux)).2.2.2 || (decide (y.name = "<init>") && decide ((q.2.1 (aux1 aux)).1 = y.cls))) && (match aux2 aux with
    | 0 => decide (clTy (aux0 aux) (aux1 aux) = .int)
    | 1 => decide (clTy (aux0 aux) (aux1 aux) = .boolean)
    | _ => isRT (clTy (aux0 aux) (aux1 aux))))
  | none => false
def clsB (own : String) (ix : Nat) (aux : List Nat) : Bool := match vwCl[aux0 aux]? with
  | some q => wOK (aux3 aux) (.classLink own ix q.1)
  | none => false
def invB (mt : List MT) (own : String) (ix kd : Nat) (aux : List Nat) : Bool := match mt[aux0 aux]? with
  | some q => (decide (q.2.2.2.2.2 = kd) && decide (q.2.2.2.2.1 = aux1 aux)) && (linkB own ix q (aux3 aux) && (match kd with
    | 0 => decide (aux2 aux = 99)
    | _ => (match vwCl[aux2 aux]? with
      | some q0 => decide (q0.1 = q.1.cls)
      | none => decide (aux2 aux = 60) && (decide (q.1.cls = "java/lang/String") && decide (kd = 1)))))
  | none => false
def linkRow (mt : List MT) (y : MethodName) (q : SI) : Bool := match q.2.1 with
  | .goto off => decide ((q.1 : Int) + off = (aux0 q.2.2.2.1 : Int))
  | .ifCond _ off => decide ((q.1 : Int) + off = (aux0 q.2.2.2.1 : Int))
  | .if_icmp _ off => decide ((q.1 : Int) + off = (aux0 q.2.2.2.1 : Int))
  | .ifnull off => decide ((q.1 : Int) + off = (aux0 q.2.2.2.1 : Int))
  | .ifnonnull off => decide ((q.1 : Int) + off = (aux0 q.2.2.2.1 : Int))
  | .getfield ix => getB y.cls ix q.2.2.2.1
  | .putfield ix => putB y ix q.2.2.2.1
  | .new ix => clsB y.cls ix q.2.2.2.1
  | .newarray at0 => (decide (aux0 q.2.2.2.1 = 20) && decide (at0 = .int)) || (decide (aux0 q.2.2.2.1 = 21) && decide (at0 = .boolean))
  | .anewarray ix => clsB y.cls ix q.2.2.2.1 && decide (aux0 q.2.2.2.1 = 2 ∨ aux0 q.2.2.2.1 = 5 ∨ aux0 q.2.2.2.1 = 6 ∨ aux0 q.2.2.2.1 = 8)
  | .aaload => Nat.blt (aux0 q.2.2.2.1) 12
  | .aastore => Nat.blt (aux0 q.2.2.2.1) 12
  | .ldc ix => (match aux0 q.2.2.2.1 with
    | 0 => wOK (aux3 q.2.2.2.1) (.constant y.cls ix (Int32.ofInt (q.2.2.2.2.headD (0, 0)).1))
    | _ => Nat.blt (aux1 q.2.2.2.1) 14 && (match strJ[aux1 q.2.2.2.1]? with
      | some z => decide (z.1 = y.cls) && decide (z.2.1 = ix)
      | none => false))
  | .ldc_w ix => wOK (aux3 q.2.2.2.1) (.constant y.cls ix (Int32.ofInt (q.2.2.2.2.headD (0, 0)).1))
  | .ldc2_w ix => wOK (aux3 q.2.2.2.1) (.constantLong y.cls ix (Int64.ofInt (q.2.2.2.2.headD (0, 0)).1))
  | .getstatic ix => (match aux0 q.2.2.2.1 with
    | 0 => wOK (aux3 q.2.2.2.1) (.fieldLink y.cls ix "java/lang/String" "COMPACT_STRINGS" "Z")
    | _ => wOK (aux3 q.2.2.2.1) (.fieldLink y.cls ix "jdk/internal/util/Preconditions" "SIOOBE_FORMATTER" fmtD))
  | .checkcast ix => wOK (aux3 q.2.2.2.1) (.classLink y.cls ix "[I")
  | .invokevirtual ix => (match aux0 q.2.2.2.1 with
    | 1000 => false
    | 1001 => false
    | 1002 => wOK (aux3 q.2.2.2.1) (.methodLink y.cls ix ⟨"[I", "clone", "()Ljava/lang/Object;"⟩)
    | _ => invB mt y.cls ix 1 q.2.2.2.1)
  | .invokespecial ix => (match aux0 q.2.2.2.1 with
    | 1000 => wOK (aux3 q.2.2.2.1) (.methodLink y.cls ix Lib.objectInit)
    | 1001 => false
    | 1002 => false
    | _ => invB mt y.cls ix 2 q.2.2.2.1)
  | .invokestatic ix => (match aux0 q.2.2.2.1 with
    | 1000 => false
    | 1001 => wOK (aux3 q.2.2.2.1) (.methodLink y.cls ix arraycopyName)
    | 1002 => false
    | _ => invB mt y.cls ix 0 q.2.2.2.1)
  | _ => true
def isSw : Instr → Bool
  | .tableswitch _ _ _ _ => true
  | .lookupswitch _ _ => true
  | _ => false
def swRow (cc : ByteArray) (q : SI) : Bool := (match decode cc q.1 with
    | .ok z => decide (z.1 = q.2.1)
    | _ => false) && (match q.2.1 with
  | .tableswitch d lo hi offs => (decide ((q.1 : Int) + d = (aux0 q.2.2.2.1 : Int)) && decide (q.2.2.2.2 = mkSw q.1 lo offs.toList)) && ((decide (-2147483648 ≤ lo) && decide (lo + (offs.toList.length : Int) = hi + 1)) && (decide (hi < 2147483648) && offs.toList.all (fun o => decide (0 ≤ (q.1 : Int) + o))))
  | .lookupswitch d ps => (decide ((q.1 : Int) + d = (aux0 q.2.2.2.1 : Int)) && decide (q.2.2.2.2 = mkLk q.1 ps.toList)) && ((ps.toList.zip (ps.toList.drop 1)).all (fun (a, next) => a.1 < next.1) && (ps.toList.all (fun z => decide (-2147483648 ≤ z.1) && decide (z.1 < 2147483648)) && ps.toList.all (fun z => decide (0 ≤ (q.1 : Int) + z.2))))
  | _ => false)
def rowB (mt : List MT) (y : MethodName) (cc : ByteArray) (q : SI) : Bool := match isSw q.2.1 with
  | true => swRow cc q
  | false => (decide (decode cc q.1 = .ok (q.2.1, lenOf q.2.1)) && decide (q.2.2.1 = q.1 + lenOf q.2.1)) && linkRow mt y q
def rkOf : Option FieldType → Nat
  | none => 0
  | some .int => 1
  | some .boolean => 2
  | some .char => 3
  | some .byte => 4
  | some (.object _) => 5
  | some (.array _) => 5
  | _ => 9
end
