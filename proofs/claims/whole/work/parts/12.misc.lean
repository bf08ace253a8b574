section
variable {p : Program} {l : Launch} {e : Env} {R : Room} {s : State} {m : MethodId} {args : Array Value} {below : List Frame} {meth : Method} {c : Code} {D : va_G} {A : Nat → Prop} {X : PX} {ws0 : va_W} {nL n0 z0 : Nat} {Q : State → Prop} {r : RR} {scr : Scr} {y : MethodName} {cc : ByteArray}
variable {pc nx : Nat} {L : LV} {st rest : List Value} {t : SM} {go : Go} {ci j k ix a b : Nat} {q0 : vw_C} {ws : va_W} {tys : List (ClassId × FieldType)} {x : va_E}
theorem flt_nat {k : UInt32} : UInt32.ofNat k.toNat = k := UInt32.ofNat_toNat
theorem w_strGet {k : UInt32} (hC : Cx p s m args meth c A X y cc nL scr) (hk : k.toNat < 14) {w : Nat} (h : (match w with
    | 0 => go nx L (.int 0 :: rest) t
    | _ => go nx L (.float (k + 50) :: rest) t) = some r) (hw : Cond.fieldLink y.cls ix "java/lang/String" (if w = 0 then "coder" else "value") (if w = 0 then "B" else "[B") ∈ TWg) (hdg : decode cc pc = .ok (.getfield ix, 3)) (hnx : nx = pc + 3) (hgo : ∀ pc' L' st' t', go pc' L' st' t' = some r → WSt p l e R s m args below meth c D A X ws0 nL n0 z0 Q r pc' L' st' t') : WSt p l e R s m args below meth c D A X ws0 nL n0 z0 Q r pc L (.float k :: rest) t := by
  subst hnx
  obtain ⟨adK, adV, g1, g2, g3, -⟩ := hC.2.2.2.2.2.2.2.2.1.2.2.2.2
  have hO := g1.1 k.toNat hk
  have hwt := hC.2.2.2.2.1 _ hw
  cases w with
  | zero =>
    refine ⟨(hgo _ _ _ _ h).1, fun H locs ws tys L' ls st' hS => ?_⟩
    obtain ⟨h1, h2, h3, h4, h5, h6, h7, h8, h9, h10⟩ := hS
    obtain ⟨v', s1, rfl, hx, hs1⟩ := h10.flt
    rw [← flt_nat (k := k)] at hx
    obtain rfl := (g2 _ hk v').mp hx
    exact vk_getf hC.1 hC.2.1 hO.2.1 h4 hC.2.2.2.1 hwt (fun _ z => z) hdg ((hgo _ _ _ _ h).2 H locs ws tys L' ls _ ⟨h1, h2, h3, h4, h5, h6, h7, h8, h9, ⟨rfl, hs1⟩⟩)
  | succ w =>
    refine ⟨(hgo _ _ _ _ h).1, fun H locs ws tys L' ls st' hS => ?_⟩
    obtain ⟨h1, h2, h3, h4, h5, h6, h7, h8, h9, h10⟩ := hS
    obtain ⟨v', s1, rfl, hx, hs1⟩ := h10.flt
    rw [← flt_nat (k := k)] at hx
    obtain rfl := (g2 _ hk v').mp hx
    refine vk_getf hC.1 hC.2.1 hO.2.2.1 h4 hC.2.2.2.1 hwt (fun _ z => z) hdg ((hgo _ _ _ _ h).2 H locs ws tys L' ls _ ⟨h1, h2, h3, h4, h5, h6, h7, h8, h9, ⟨?_, hs1⟩⟩)
    show X (k + 50) _
    have e : UInt32.ofNat (k.toNat + 50) = k + 50 := by
      rw [UInt32.ofNat_add, flt_nat]
      rfl
    rw [← e]
    exact (g3 _ hk _).mpr rfl
theorem bytJ_all : ∀ i, i < 14 → (bytJ.getD i []).length < 2 ^ 31 := by decide +kernel
theorem bytJ_len : bytJ.length = 14 := rfl
theorem byt_map {i : Nat} : (bytJ.map List.length).getD i 0 = (bytJ.getD i []).length := by
  simp only [List.getD_eq_getElem?_getD, List.getElem?_map]
  cases bytJ[i]? <;> rfl
theorem w_strLd {k : UInt32} {i : Int32} (hC : Cx p s m args meth c A X y cc nL scr) (hdg : decode cc pc = .ok (.baload, 1)) (hnx : nx = pc + 1) (hgo : ∀ pc' L' st' t', go pc' L' st' t' = some r → WSt p l e R s m args below meth c D A X ws0 nL n0 z0 Q r pc' L' st' t')
    (h : (if 50 ≤ k.toNat ∧ k.toNat < 50 + bytJ.length ∧ inB i (bytJ.getD (k.toNat - 50) []).length then go nx L (.int ((bytJ.getD (k.toNat - 50) []).getD i.toNatClampNeg 0) :: rest) t else none) = some r) : WSt p l e R s m args below meth c D A X ws0 nL n0 z0 Q r pc L (.int i :: .float k :: rest) t := by
  subst hnx
  by_cases hT : 50 ≤ k.toNat ∧ k.toNat < 50 + bytJ.length ∧ inB i (bytJ.getD (k.toNat - 50) []).length
  · rw [if_pos hT] at h
    obtain ⟨adK, adV, g1, g2, g3, -⟩ := hC.2.2.2.2.2.2.2.2.1.2.2.2.2
    have hk : k.toNat - 50 < 14 := by have := bytJ_len; omega
    have hO := (g1.1 _ hk).2.2.2
    refine ⟨(hgo _ _ _ _ h).1, fun H locs ws tys L' ls st' hS => ?_⟩
    obtain ⟨h1, h2, h3, h4, h5, h6, h7, h8, h9, h10⟩ := hS
    obtain ⟨s0, rfl, h11⟩ := h10.int
    obtain ⟨v', s1, rfl, hx, hs1⟩ := h11.flt
    rw [← flt_nat (k := k), show k.toNat = k.toNat - 50 + 50 by omega] at hx
    obtain rfl := (g3 _ hk v').mp hx
    exact va_tb hC.1 hC.2.1 hO h4 (by rw [byt_map]; exact hT.2.2) rfl hdg ((hgo _ _ _ _ h).2 H locs ws tys L' ls _ ⟨h1, h2, h3, h4, h5, h6, h7, h8, h9, ⟨rfl, hs1⟩⟩)
  · rw [if_neg hT] at h; cases h
theorem w_strLen {k : UInt32} (hC : Cx p s m args meth c A X y cc nL scr) (hdg : decode cc pc = .ok (.arraylength, 1)) (hnx : nx = pc + 1) (hgo : ∀ pc' L' st' t', go pc' L' st' t' = some r → WSt p l e R s m args below meth c D A X ws0 nL n0 z0 Q r pc' L' st' t')
    (h : (if 50 ≤ k.toNat ∧ k.toNat < 50 + bytJ.length then go nx L (.int (Int32.ofNat (bytJ.getD (k.toNat - 50) []).length) :: rest) t else none) = some r) : WSt p l e R s m args below meth c D A X ws0 nL n0 z0 Q r pc L (.float k :: rest) t := by
  subst hnx
  by_cases hT : 50 ≤ k.toNat ∧ k.toNat < 50 + bytJ.length
  · rw [if_pos hT] at h
    obtain ⟨adK, adV, g1, g2, g3, -⟩ := hC.2.2.2.2.2.2.2.2.1.2.2.2.2
    have hk : k.toNat - 50 < 14 := by have := bytJ_len; omega
    have hO := (g1.1 _ hk).2.2.2
    refine ⟨(hgo _ _ _ _ h).1, fun H locs ws tys L' ls st' hS => ?_⟩
    obtain ⟨h1, h2, h3, h4, h5, h6, h7, h8, h9, h10⟩ := hS
    obtain ⟨v', s1, rfl, hx, hs1⟩ := h10.flt
    rw [← flt_nat (k := k), show k.toNat = k.toNat - 50 + 50 by omega] at hx
    obtain rfl := (g3 _ hk v').mp hx
    exact va_tlen hC.1 hC.2.1 hO h4 (by rw [byt_map]) hdg ((hgo _ _ _ _ h).2 H locs ws tys L' ls _ ⟨h1, h2, h3, h4, h5, h6, h7, h8, h9, ⟨rfl, hs1⟩⟩)
  · rw [if_neg hT] at h; cases h
theorem w_scrLd {k : UInt32} {i : Int32} {q : Nat × (Nat → Int32)} (hC : Cx p s m args meth c A X y cc nL scr) (hk : k.toNat = 200) (hs : scr = some q) (hdg : decode cc pc = .ok (.iaload, 1)) (hnx : nx = pc + 1) (hgo : ∀ pc' L' st' t', go pc' L' st' t' = some r → WSt p l e R s m args below meth c D A X ws0 nL n0 z0 Q r pc' L' st' t')
    (h : (if inB i q.1 then go nx L (.int (q.2 i.toNatClampNeg) :: rest) t else none) = some r) : WSt p l e R s m args below meth c D A X ws0 nL n0 z0 Q r pc L (.int i :: .float k :: rest) t := by
  subst hnx
  by_cases hT : inB i q.1
  · rw [if_pos hT] at h
    obtain ⟨b, hX, hb, hbA, hv⟩ := hC.2.2.2.2.2.2.2.2.2 q hs
    refine ⟨(hgo _ _ _ _ h).1, fun H locs ws tys L' ls st' hS => ?_⟩
    obtain ⟨h1, h2, h3, h4, h5, h6, h7, h8, h9, h10⟩ := hS
    obtain ⟨s0, rfl, h11⟩ := h10.int
    obtain ⟨v', s1, rfl, hx, hs1⟩ := h11.flt
    rw [← flt_nat (k := k), hk] at hx
    obtain rfl := hv v' hx
    exact va_sld hC.1 hC.2.1 hX hb hbA h4 hT hdg ((hgo _ _ _ _ h).2 H locs ws tys L' ls _ ⟨h1, h2, h3, h4, h5, h6, h7, h8, h9, ⟨rfl, hs1⟩⟩)
  · rw [if_neg hT] at h; cases h
theorem w_scrLen {k : UInt32} {q : Nat × (Nat → Int32)} (hC : Cx p s m args meth c A X y cc nL scr) (hk : k.toNat = 200) (hs : scr = some q) (hdg : decode cc pc = .ok (.arraylength, 1)) (hnx : nx = pc + 1) (hgo : ∀ pc' L' st' t', go pc' L' st' t' = some r → WSt p l e R s m args below meth c D A X ws0 nL n0 z0 Q r pc' L' st' t')
    (h : go nx L (.int (Int32.ofNat q.1) :: rest) t = some r) : WSt p l e R s m args below meth c D A X ws0 nL n0 z0 Q r pc L (.float k :: rest) t := by
  subst hnx
  obtain ⟨b, hX, hb, hbA, hv⟩ := hC.2.2.2.2.2.2.2.2.2 q hs
  refine ⟨(hgo _ _ _ _ h).1, fun H locs ws tys L' ls st' hS => ?_⟩
  obtain ⟨h1, h2, h3, h4, h5, h6, h7, h8, h9, h10⟩ := hS
  obtain ⟨v', s1, rfl, hx, hs1⟩ := h10.flt
  rw [← flt_nat (k := k), hk] at hx
  obtain rfl := hv v' hx
  exact va_slen hC.1 hC.2.1 hX hb hbA h4 hdg ((hgo _ _ _ _ h).2 H locs ws tys L' ls _ ⟨h1, h2, h3, h4, h5, h6, h7, h8, h9, ⟨rfl, hs1⟩⟩)
theorem w_ldcI {v : Int32} (hC : Cx p s m args meth c A X y cc nL scr) (hw : Cond.constant y.cls ix v ∈ TWg) (hdg : decode cc pc = .ok (.ldc ix, 2)) (hnx : nx = pc + 2) (hgo : ∀ pc' L' st' t', go pc' L' st' t' = some r → WSt p l e R s m args below meth c D A X ws0 nL n0 z0 Q r pc' L' st' t')
    (h : go nx L (.int v :: st) t = some r) : WSt p l e R s m args below meth c D A X ws0 nL n0 z0 Q r pc L st t := by
  subst hnx
  exact (hgo _ _ _ _ h).free (fun H locs ws cells slots L' ls st' hL hl hs k => lv_ldc hC.1 hC.2.1 hC.2.2.2.1 (hC.2.2.2.2.1 _ hw) hdg (k L' ls _ hL hl ⟨rfl, hs⟩))
theorem w_ldcW {v : Int32} (hC : Cx p s m args meth c A X y cc nL scr) (hw : Cond.constant y.cls ix v ∈ TWg) (hdg : decode cc pc = .ok (.ldc_w ix, 3)) (hnx : nx = pc + 3) (hgo : ∀ pc' L' st' t', go pc' L' st' t' = some r → WSt p l e R s m args below meth c D A X ws0 nL n0 z0 Q r pc' L' st' t')
    (h : go nx L (.int v :: st) t = some r) : WSt p l e R s m args below meth c D A X ws0 nL n0 z0 Q r pc L st t := by
  subst hnx
  exact (hgo _ _ _ _ h).free (fun H locs ws cells slots L' ls st' hL hl hs k => lv_ldcw hC.1 hC.2.1 hC.2.2.2.1 (hC.2.2.2.2.1 _ hw) hdg (k L' ls _ hL hl ⟨rfl, hs⟩))
theorem w_ldc2 {v : Int64} (hC : Cx p s m args meth c A X y cc nL scr) (hw : Cond.constantLong y.cls ix v ∈ TWg) (hdg : decode cc pc = .ok (.ldc2_w ix, 3)) (hnx : nx = pc + 3) (hgo : ∀ pc' L' st' t', go pc' L' st' t' = some r → WSt p l e R s m args below meth c D A X ws0 nL n0 z0 Q r pc' L' st' t')
    (h : go nx L (.long v :: st) t = some r) : WSt p l e R s m args below meth c D A X ws0 nL n0 z0 Q r pc L st t := by
  subst hnx
  exact (hgo _ _ _ _ h).free (fun H locs ws cells slots L' ls st' hL hl hs k => lv_ldc2 hC.1 hC.2.1 hC.2.2.2.1 (hC.2.2.2.2.1 _ hw) hdg (k L' ls _ hL hl ⟨rfl, hs⟩))
theorem w_ldcS {i : Nat} {q : String × Nat × String} (hC : Cx p s m args meth c A X y cc nL scr) (hi : i < 14) (hq : strJ[i]? = some q) (ho : q.1 = y.cls) (hx : q.2.1 = ix) (hdg : decode cc pc = .ok (.ldc ix, 2)) (hnx : nx = pc + 2) (hgo : ∀ pc' L' st' t', go pc' L' st' t' = some r → WSt p l e R s m args below meth c D A X ws0 nL n0 z0 Q r pc' L' st' t')
    (h : go nx L (.float (UInt32.ofNat i) :: st) t = some r) : WSt p l e R s m args below meth c D A X ws0 nL n0 z0 Q r pc L st t := by
  subst hnx
  subst hx
  obtain ⟨adK, adV, g1, g2, g3, g4, -⟩ := hC.2.2.2.2.2.2.2.2.1.2.2.2.2
  exact (hgo _ _ _ _ h).free (fun H locs ws cells slots L' ls st' hL hl hs k => va_ldcS hC.1 hC.2.1 (own := q.1) (by rw [ho]; exact hC.2.2.2.1) (g4 i q hq) hdg (k L' ls _ hL hl ⟨(g2 i hi _).mpr rfl, hs⟩))
theorem w_getsC (hC : Cx p s m args meth c A X y cc nL scr) (hw : Cond.fieldLink y.cls ix "java/lang/String" "COMPACT_STRINGS" "Z" ∈ TWg) (hdg : decode cc pc = .ok (.getstatic ix, 3)) (hnx : nx = pc + 3) (hgo : ∀ pc' L' st' t', go pc' L' st' t' = some r → WSt p l e R s m args below meth c D A X ws0 nL n0 z0 Q r pc' L' st' t')
    (h : go nx L (.int 1 :: st) t = some r) : WSt p l e R s m args below meth c D A X ws0 nL n0 z0 Q r pc L st t := by
  subst hnx
  obtain ⟨adK, adV, -, -, -, -, g5, -⟩ := hC.2.2.2.2.2.2.2.2.1.2.2.2.2
  refine ⟨(hgo _ _ _ _ h).1, fun H locs ws tys L' ls st' hS => ?_⟩
  obtain ⟨h1, h2, h3, h4, h5, h6, h7, h8, h9, h10⟩ := hS
  exact va_gets hC.1 hC.2.1 g5 h4 hC.2.2.2.1 (hC.2.2.2.2.1 _ hw) (fun _ z => z) hdg ((hgo _ _ _ _ h).2 H locs ws tys L' ls _ ⟨h1, h2, h3, h4, h5, h6, h7, h8, h9, ⟨rfl, h10⟩⟩)
theorem w_getsF (hC : Cx p s m args meth c A X y cc nL scr) (hw : Cond.fieldLink y.cls ix "jdk/internal/util/Preconditions" "SIOOBE_FORMATTER" fmtD ∈ TWg) (hdg : decode cc pc = .ok (.getstatic ix, 3)) (hnx : nx = pc + 3) (hgo : ∀ pc' L' st' t', go pc' L' st' t' = some r → WSt p l e R s m args below meth c D A X ws0 nL n0 z0 Q r pc' L' st' t')
    (h : go nx L (.float 201 :: st) t = some r) : WSt p l e R s m args below meth c D A X ws0 nL n0 z0 Q r pc L st t := by
  subst hnx
  obtain ⟨adK, adV, -, -, -, -, -, z, g6, g7⟩ := hC.2.2.2.2.2.2.2.2.1.2.2.2.2
  refine ⟨(hgo _ _ _ _ h).1, fun H locs ws tys L' ls st' hS => ?_⟩
  obtain ⟨h1, h2, h3, h4, h5, h6, h7, h8, h9, h10⟩ := hS
  exact va_gets hC.1 hC.2.1 g6 h4 hC.2.2.2.1 (hC.2.2.2.2.1 _ hw) (fun _ z => z) hdg ((hgo _ _ _ _ h).2 H locs ws tys L' ls _ ⟨h1, h2, h3, h4, h5, h6, h7, h8, h9, ⟨g7, h10⟩⟩)
theorem w_objI (hC : Cx p s m args meth c A X y cc nL scr) (hRm : 1 ≤ R.frames ∧ 64 ≤ R.locals) (hw1 : Cond.methodLink y.cls ix Lib.objectInit ∈ TWg) (hw2 : Cond.instanceMethod Lib.objectInit ∈ TWg) (hw3 : Cond.code Lib.objectInit ⟨#[0xb1]⟩ 1 none ∈ TWg) (hcat : catS rest ≤ 8) (hdg : decode cc pc = .ok (.invokespecial ix, 3)) (hnx : nx = pc + 3) (hgo : ∀ pc' L' st' t', go pc' L' st' t' = some r → WSt p l e R s m args below meth c D A X ws0 nL n0 z0 Q r pc' L' st' t')
    (h : go nx L rest t = some r) : WSt p l e R s m args below meth c D A X ws0 nL n0 z0 Q r pc L (.ref k :: rest) t := by
  subst hnx
  have hX := hC.2.2.2.2.2.2.2.2.1.2.2.2.1
  refine (hgo _ _ _ _ h).free (fun H locs ws cells slots L' ls st' hL hl hs kk => ?_)
  obtain ⟨a, x, s1, rfl, hx, hs1⟩ := hs.ref
  have hc2 := catS_rel hX hs1
  exact W.objInit hC.1 hC.2.1 hC.2.2.2.1 (hC.2.2.2.2.1 _ hw1) (hC.2.2.2.2.1 _ hw2) (hC.2.2.2.2.1 _ hw3) rfl (hl.1.trans hC.2.2.1.symm) rfl hdg hRm.1 (by show 2 * 0 + _ + 12 ≤ _; omega) (kk L' ls _ hL hl hs1)
theorem nfw7 : nativeFrameWords "java/lang/System" "arraycopy" 5 = 7 := by decide +kernel
theorem w_cpy {sp dp n : Int32} (hC : Cx p s m args meth c A X y cc nL scr) (hRm : 1 ≤ R.frames ∧ 64 ≤ R.locals) (hw1 : Cond.methodLink y.cls ix arraycopyName ∈ TWg) (hw2 : Cond.native arraycopyName ∈ TWg) (hw3 : Cond.static arraycopyName ∈ TWg) (hw4 : Cond.initialized "java/lang/System" ∈ TWg) (hcat : catS rest ≤ 8) (hdg : decode cc pc = .ok (.invokestatic ix, 3)) (hnx : nx = pc + 3) (hgo : ∀ pc' L' st' t', go pc' L' st' t' = some r → WSt p l e R s m args below meth c D A X ws0 nL n0 z0 Q r pc' L' st' t')
    (h : hCpy t a sp b dp n (fun u => go nx L rest u) = some r) : WSt p l e R s m args below meth c D A X ws0 nL n0 z0 Q r pc L (.int n :: .int dp :: .ref b :: .int sp :: .ref a :: rest) t := by
  subst hnx
  have hX := hC.2.2.2.2.2.2.2.2.1.2.2.2.1
  unfold hCpy at h
  by_cases hT : ((mT t a).1 = 20 ∧ (mT t b).1 = 20) ∧ (¬ sp < 0 ∧ ¬ dp < 0 ∧ ¬ n < 0) ∧ sp.toNatClampNeg + n.toNatClampNeg ≤ (mT t a).2 ∧ dp.toNatClampNeg + n.toNatClampNeg ≤ (mT t b).2
  · rw [if_pos hT] at h
    obtain ⟨⟨ha, hb⟩, ⟨i1, i2, i3⟩, i4, i5⟩ := hT
    have kk := hgo _ _ _ _ h
    refine ⟨kk.1, fun H locs ws tys L' ls st' hS => ?_⟩
    obtain ⟨h1, h2, h3, h4, h5, h6, h7, h8, h9, h10⟩ := hS
    obtain ⟨s1, rfl, j1⟩ := h10.int
    obtain ⟨s2, rfl, j2⟩ := j1.int
    obtain ⟨ab, xb, s3, rfl, hxb, j3⟩ := j2.ref
    obtain ⟨s4, rfl, j4⟩ := j3.int
    obtain ⟨aa, xa, s5, rfl, hxa, j5⟩ := j4.ref
    obtain ⟨cA, t0, e1, rfl⟩ := h5.arr hxa (Or.inl ha)
    obtain ⟨cB, t1, e2, rfl⟩ := h5.arr hxb (Or.inl hb)
    rw [ha] at e1
    rw [hb] at e2
    have hc2 := catS_rel hX j5
    exact va_copyi (ty := .int) hC.1 hC.2.1 (hC.2.2.1.trans h9.1.symm) hC.2.2.2.1 (hC.2.2.2.2.1 _ hw1) (hC.2.2.2.2.1 _ hw2) (hC.2.2.2.2.1 _ hw3) (hC.2.2.2.2.1 _ hw4) h1 h2 h3 h4 a b t0 t1 hxa hxb e1 e2 rfl i1 i2 i3 i4 i5 (fun _ _ => rfl) hRm.1 (by rw [nfw7]; omega) hdg (fun H1 locs1 g1 g2 g3 => kk.2 H1 locs1 _ tys L' ls _ ⟨h1, g1, g2, g3, h5.stA hxb, h6.tr (SExt.set hxb), h7, h8.ext (SExt.set hxb), h9, j5.ext (SExt.set hxb)⟩)
  · rw [if_neg hT] at h; cases h
theorem w_clone (hC : Cx p s m args meth c A X y cc nL scr) (hRm : 1 ≤ R.frames ∧ 64 ≤ R.locals) (hRo : RoomOK R n0 z0 r) (hw1 : Cond.methodLink y.cls ix ⟨"[I", "clone", "()Ljava/lang/Object;"⟩ ∈ TWg) (hw2 : Cond.sameMethod "[I" "java/lang/Object" "clone" "()Ljava/lang/Object;" ∈ TWg) (hw3 : Cond.native ⟨"java/lang/Object", "clone", "()Ljava/lang/Object;"⟩ ∈ TWg) (hw4 : Cond.instanceMethod ⟨"java/lang/Object", "clone", "()Ljava/lang/Object;"⟩ ∈ TWg) (hw5 : Cond.selects "[I" ⟨"[I", "clone", "()Ljava/lang/Object;"⟩ ⟨"java/lang/Object", "clone", "()Ljava/lang/Object;"⟩ ∈ TWg) (hcat : catS rest ≤ 8) (hdg : decode cc pc = .ok (.invokevirtual ix, 3)) (hnx : nx = pc + 3) (hgo : ∀ pc' L' st' t', go pc' L' st' t' = some r → WSt p l e R s m args below meth c D A X ws0 nL n0 z0 Q r pc' L' st' t')
    (h : hClone t a (fun q u => go nx L (.ref q :: rest) u) = some r) : WSt p l e R s m args below meth c D A X ws0 nL n0 z0 Q r pc L (.ref a :: rest) t := by
  subst hnx
  have hX := hC.2.2.2.2.2.2.2.2.1.2.2.2.1
  unfold hClone at h
  by_cases hT : (mT t a).1 = 20
  · rw [if_pos hT] at h
    have kk := hgo _ _ _ _ h
    have hM : mN t + 1 ≤ mN r.2 ∧ mZ t + (mT t a).2 ≤ mZ r.2 := kk.1
    refine ⟨⟨by omega, by omega⟩, fun H locs ws tys L' ls st' hS => ?_⟩
    obtain ⟨h1, h2, h3, h4, h5, h6, h7, h8, h9, h10⟩ := hS
    obtain ⟨aa, xa, s5, rfl, hxa, j5⟩ := h10.ref
    obtain ⟨cA, t0, e1, rfl⟩ := h5.arr hxa (Or.inl hT)
    rw [hT] at e1
    have hc2 := catS_rel hX j5
    refine va_clone (ty := .int) hC.1 hC.2.1 (hC.2.2.1.trans h9.1.symm) hC.2.2.2.1 (hC.2.2.2.2.1 _ hw1) (hC.2.2.2.2.1 _ hw2) (hC.2.2.2.2.1 _ hw3) (hC.2.2.2.2.1 _ hw4) (hC.2.2.2.2.1 _ hw5) hC.2.2.2.2.2.2.2.2.1.2.2.1 h1 h2 h3 h4 hC.2.2.2.2.2.2.2.1 a t0 hxa e1 (h1.2 t0 _ e1).2 (fun i v hv => va_fit (fun _ _ => rfl) i v hv) hRm.1 (by omega) (by have := hRo.1; omega) (by have := hRo.2; show mZ t - z0 + (mT t a).2 ≤ _; omega) hdg (fun q H1 g0 g1 g2 g3 => ?_)
    have hR : SRel (ws ++ [(q, .inl (cA, (mT t a).2, .inl (mI t a)))]) (tys ++ [(cA, .int)]) (setA (mPush t 20 (mT t a).2 (mT t a).2) (mN t) (mI t a)) := by
      have hp : SRel (ws ++ [(q, .inl (cA, (mT t a).2, .inl (fun _ => 0)))]) (tys ++ [(cA, .int)]) (mPush t 20 (mT t a).2 (mT t a).2) := by
        have eT : mT (mPush t 20 (mT t a).2 (mT t a).2) (mN t) = (20, (mT t a).2) := if_pos rfl
        have eI : mI (mPush t 20 (mT t a).2 (mT t a).2) (mN t) = fun _ => 0 := if_pos rfl
        refine h5.push tyExt.app (Or.inr (Or.inl ⟨by rw [eT]; exact Or.inl rfl, cA, tys.length, ?_, by rw [eT, eI]⟩))
        rw [eT, List.getElem?_append_right (Nat.le_refl _), Nat.sub_self]; rfl
      have hl : (ws ++ [(q, (.inl (cA, (mT t a).2, .inl (fun _ => 0)) : va_E))])[mN t]? = some (q, .inl (cA, (mT t a).2, .inl (fun _ => 0))) := by
        rw [← h5.1, List.getElem?_append_right (Nat.le_refl _), Nat.sub_self]; rfl
      have h9 := hp.stA (g := mI t a) hl
      rw [← h5.1, List.set_append_right _ _ (Nat.le_refl _), Nat.sub_self] at h9
      rw [← h5.1]
      exact h9
    have ec : mN t - n0 + 1 = mN (setA (mPush t 20 (mT t a).2 (mT t a).2) (mN t) (mI t a)) - n0 := by show _ = mN t + 1 - n0; omega
    have es : mZ t - z0 + (mT t a).2 = mZ (setA (mPush t 20 (mT t a).2 (mT t a).2) (mN t) (mI t a)) - z0 := by show _ = mZ t + (mT t a).2 - z0; omega
    rw [ec]
    show W p l e R s m args below meth c H1 locs _ (mZ t - z0 + (mT t a).2) Q _
    rw [es]
    exact kk.2 H1 locs _ _ L' ls _ ⟨g0, g1, g2, g3, hR, h6.tr SExt.app, ⟨by show n0 ≤ mN t + 1; omega, by show z0 ≤ mZ t + (mT t a).2; omega⟩, h8.ext SExt.app, h9, ⟨⟨q, rfl, RRef.last h5.1⟩, j5.ext SExt.app⟩⟩
  · rw [if_neg hT] at h; cases h
theorem w_castI (hC : Cx p s m args meth c A X y cc nL scr) (hw1 : Cond.classLink y.cls ix "[I" ∈ TWg) (hdg : decode cc pc = .ok (.checkcast ix, 3)) (hnx : nx = pc + 3) (hgo : ∀ pc' L' st' t', go pc' L' st' t' = some r → WSt p l e R s m args below meth c D A X ws0 nL n0 z0 Q r pc' L' st' t')
    (h : hALen t a (fun _ => if (mT t a).1 = 20 then go nx L (.ref a :: rest) t else none) = some r) : WSt p l e R s m args below meth c D A X ws0 nL n0 z0 Q r pc L (.ref a :: rest) t := by
  subst hnx
  unfold hALen at h
  by_cases hT : 20 ≤ (mT t a).1 ∧ (mT t a).1 < 50
  · rw [if_pos hT] at h
    by_cases h20 : (mT t a).1 = 20
    · rw [if_pos h20] at h
      have kk := hgo _ _ _ _ h
      refine ⟨kk.1, fun H locs ws tys L' ls st' hS => ?_⟩
      obtain ⟨h1, h2, h3, h4, h5, h6, h7, h8, h9, h10⟩ := hS
      have h10' := h10
      obtain ⟨aa, xa, s5, rfl, hxa, j5⟩ := h10.ref
      obtain ⟨cA, t0, e1, rfl⟩ := h5.arr hxa (Or.inl h20)
      rw [h20] at e1
      exact va_castA hC.1 hC.2.1 hC.2.2.2.1 (hC.2.2.2.2.1 _ hw1) h2 a hxa (h1.2 t0 _ e1).2 hdg (kk.2 H locs ws tys L' ls _ ⟨h1, h2, h3, h4, h5, h6, h7, h8, h9, h10'⟩)
    · rw [if_neg h20] at h; cases h
  · rw [if_neg hT] at h; cases h
end
