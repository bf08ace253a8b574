section
/-! THE CLAIM OUT OF ONE WALK OF THE LAW'S BODY. Your part is whole_start (and what it stands on); all else here is the same for every law, but numbers. -/
def R_law : String := "EveryMapWrongLaw"
def lw_P (b : Addr) (xs : List Int32) (args : Array Value) (s : State) : Prop := args = #[.ref b] ∧ s.IntsAt b xs ∧ xs.length ≤ 384 ∧ (Jvm.Cond.and given_1 narrow_1).before args s = true
def lw_Q (_ : Array Value) (s : State) (o : Outcome) (t : State) : Prop := o = .returned (some (.int 1)) ∧ Framed s o t [] 600000 7302249
def lw_Z (below : List Frame) (a : Array Value) (s : State) : State → Prop := fun t => ∃ o, t.status = .running ∧ Ended t below o ∧ lw_Q a s o t
/-- the law's own end, with 1 on the stack, nothing written that was there before, its room as the claim has it -/
theorem lw_ret {p : Program} {l : Launch} {e : Env} {s : State} {m : MethodId} {below : List Frame} {meth : Method} {c : Code} {b : Nat} (hx : p.tables.exec = Jvm.exec) (hb : c.code = code) (hr : meth.sig.returnType = ret) (hlocks : meth.locks = false) {pc : Nat} {H : Heap} {ls : Array Slot} (hdg : decode code pc = .ok (.ireturn, 1)) : W p l e room_1 s m #[Value.ref b] below meth c H [] 600000 7302249 (lw_Z below #[Value.ref b] s) (F0 m pc ls [.int 1]) := by
  intro T hT X
  obtain ⟨fs, hret, hrun, hended, hW, hframe⟩ := X.leave (v := some (.int 1)) (hlocks := hlocks) (fun h => by rw [hr] at h; cases h)
  have hmeth' : T.vm.method? m = some meth := X.method'
  refine ⟨T.setFrames fs, ?_, .returned (some (.int 1)), hrun, hended, rfl, ⟨_, rfl⟩, hW, hframe⟩
  jvm_step X.here [X.here.top, hx, hb, hdg, hmeth', hr, ret, narrow_b1]
  (try refine ⟨rfl, ?_⟩); (try refine ⟨rfl, ?_⟩)
  first | (intro acts; rw [hret _ acts rfl rfl rfl]) | rw [hret _ _ rfl rfl rfl]
  exact Steps.refl _
/-- what holds at the law's entry: the machine, the code, the tables' words (any of lw_tbl by 'hts w (by decide +kernel)'), the script of L ints xs at the cell b, what the Statement gives of the start (any of its parts by flat_of_before) -/
def lw_At (p : Program) (s : State) (m : MethodId) (meth : Method) (c : Code) (b L : Nat) (xs : Nat → Int32) : Prop :=
  p.tables.exec = Jvm.exec ∧ c.code = code ∧ meth.sig.returnType = ret ∧ c.maxLocals = 4 ∧ s.vm.findClass R_law = some m.cls ∧ (∀ w ∈ lw_tbl, w.before #[Value.ref b] s = true) ∧ va_X b L xs s s.heap ∧ b < s.heap.size ∧ meth.locks = false ∧ (Jvm.Cond.and given_1 narrow_1).before #[Value.ref b] s = true
end
section
variable {p : Program} {l : Launch} {e : Env} {s : State} {m : MethodId} {below : List Frame} {meth : Method} {c : Code} {D : va_G} {X : PX} {b xn : Nat} {xs : Nat → Int32} {r : RR} {pc : Nat} {L : LV} {st : List Value} {t : SM}
abbrev AS (s : State) : Nat → Prop := fun q => s.heap.size ≤ q
/-- from here the law comes to its end -/
abbrev LW (p : Program) (l : Launch) (e : Env) (s : State) (m : MethodId) (below : List Frame) (meth : Method) (c : Code) (D : va_G) (X : PX) (b : Nat) (r : RR) (pc : Nat) (L : LV) (st : List Value) (t : SM) : Prop :=
  WSt p l e room_1 s m #[Value.ref b] below meth c D (AS s) X [] 4 0 0 (lw_Z below #[Value.ref b] s) r pc L st t
theorem LW.less {M0 : LV} (h : LW p l e s m below meth c D X b r pc M0 st t) (hL : ∀ z ∈ M0, lkp z.1 L = some z.2) : LW p l e s m below meth c D X b r pc L st t := by
  refine WSt.free h (fun H locs ws cells slots L' ls st' g1 g2 g3 k => ?_)
  have key : ∀ M : LV, (∀ z ∈ M, lkp z.1 L = some z.2) → ∃ M', LsRel X ws M M' ∧ ∀ z ∈ M', ls[z.1]? = some (.val z.2) := by
    intro M
    induction M with
    | nil => exact fun _ => ⟨[], trivial, fun _ h => by cases h⟩
    | cons z M ih =>
      intro hM
      obtain ⟨M', f1, f2⟩ := ih (fun w hw => hM w (List.mem_cons_of_mem _ hw))
      obtain ⟨v', f3, f4⟩ := lkp_rel g1 (hM z List.mem_cons_self)
      refine ⟨(z.1, v') :: M', ⟨⟨rfl, f4⟩, f1⟩, fun w hw => ?_⟩
      rcases List.mem_cons.mp hw with rfl | hw
      · exact g2.2.2 _ f3
      · exact f2 w hw
  obtain ⟨M', f1, f2⟩ := key M0 hL
  exact k M' ls st' f1 ⟨g2.1, g2.2.1, f2⟩ g3
theorem law_ret (hx : p.tables.exec = Jvm.exec) (hb : c.code = code) (hr : meth.sig.returnType = ret) (hlocks : meth.locks = false) (hres : r.1 = some (.int 1)) (hRm : RoomOK room_1 0 0 r) : ∀ (ins : Instr) (pc : Nat) (L : LV) (st : List Value) (t : SM), decode code pc = .ok (ins, 1) → retR P_L.2.2 ins st t = some r → LW p l e s m below meth c D X b r pc L st t := by
  intro ins pc L st t hdg h
  change retR 2 ins st t = some r at h
  unfold retR at h
  split at h
  · unfold sRet at h
    split at h
    · rename_i v
      rw [if_neg (by decide)] at h
      change hZ v (some (some (.int v), t)) = some r at h
      obtain ⟨hz, h⟩ := m_some h
      cases h
      have hv : v = 1 := Value.int.inj (Option.some.inj (show some (Value.int v) = some (Value.int 1) from hres))
      subst hv
      refine ⟨⟨Nat.le_refl _, Nat.le_refl _⟩, fun H locs ws tys L' ls st' hS => ?_⟩
      obtain ⟨h1, h2, h3, h4, h5, h6, h7, h8, h9, h10⟩ := hS
      obtain ⟨s0, rfl, h11⟩ := h10.int
      obtain rfl := h11.nil
      exact va_forget (fun q hq => h4.2.2 q hq) (W.widen hRm.1 hRm.2 (lw_ret hx hb hr hlocks hdg))
    · exact absurd (m_some h).1.1 (by decide)
    · exact absurd (m_some h).1.1 (by decide)
    · exact absurd (m_some h).1.1 (by decide)
    · cases h
  · unfold sRet at h
    split at h
    · rw [if_pos rfl] at h; cases h
    · exact absurd (m_some h).1.2 (by decide)
    · exact absurd (m_some h).1.2 (by decide)
    · exact absurd (m_some h).1.2.1 (by decide)
    · cases h
  · exact absurd (m_some h).1.1 (by decide)
  · cases h
theorem kLw_ok {J : Nat → SM → Int32 → OR} (hJ : ∀ (pc : Nat) (t : SM) (v : Int32), J pc t v = some r → LW p l e s m below meth c D X b r pc (L0 v) [] t) : ∀ (pc : Nat) (L : LV) (st : List Value) (t : SM), kLw J pc L st t = some r → LW p l e s m below meth c D X b r pc L st t := by
  intro pc L st t h
  unfold kLw at h
  split at h
  · rename_i a0 ha0
    split at h
    · rename_i b0 hb0
      split at h
      · rename_i c0 hc0
        split at h
        · rename_i v hv
          split at h
          · split at h
            · rename_i hq
              obtain ⟨q1, q4⟩ := bAnd hq
              obtain ⟨q2, q3⟩ := bAnd q4
              have q1 : a0 = 200 := UInt32.toNat_inj.mp (Nat.eq_of_beq_eq_true q1)
              have q2 : b0 = 0 := Nat.eq_of_beq_eq_true q2
              have q3 : c0 = 39 := Nat.eq_of_beq_eq_true q3
              subst q1; subst q2; subst q3
              refine (hJ pc t v h).less (fun z hz => ?_)
              unfold L0 at hz
              simp only [List.mem_cons, List.not_mem_nil, or_false] at hz
              rcases hz with rfl | rfl | rfl | rfl
              · exact hv
              · exact hc0
              · exact hb0
              · exact ha0
            · cases h
          · cases h
        · cases h
      · cases h
    · cases h
  · cases h
end
def LR (xn : Nat) (xs : Nat → Int32) : Nat → Nat → SM → Int32 → OR
  | 0, _, _, _ => none
  | n + 1, pc, t, v => if pc = 18 then fL_h xn xs (LR xn xs n) t v
    else if pc = 236 then fL_0 xn xs F_108 F_188 (LR xn xs n) t v
    else if pc = 259 then fL_1 xn xs F_109 F_189 (LR xn xs n) t v
    else if pc = 282 then fL_2 xn xs F_110 F_190 (LR xn xs n) t v
    else if pc = 345 then fL_3 xn xs F_111 F_201 (LR xn xs n) t v
    else if pc = 358 then fL_4 xn xs F_112 F_205 (LR xn xs n) t v
    else if pc = 381 then fL_5 xn xs F_113 F_207 (LR xn xs n) t v
    else if pc = 404 then fL_6 xn xs F_114 F_208 (LR xn xs n) t v
    else if pc = 457 then fL_7 xn xs F_115 F_209 (LR xn xs n) t v
    else if pc = 470 then fL_8 xn xs F_116 F_210 (LR xn xs n) t v
    else if pc = 503 then fL_9 xn xs F_117 F_211 (LR xn xs n) t v
    else if pc = 536 then fL_10 xn xs F_118 F_214 (LR xn xs n) t v
    else if pc = 579 then fL_11 xn xs F_119 F_215 (LR xn xs n) t v
    else if pc = 612 then fL_12 xn xs F_120 F_220 (LR xn xs n) t v
    else if pc = 635 then fL_13 xn xs F_121 F_221 (LR xn xs n) t v
    else if pc = 658 then fL_14 xn xs F_122 F_224 (LR xn xs n) t v
    else if pc = 681 then fL_15 xn xs F_123 F_225 (LR xn xs n) t v
    else if pc = 694 then fL_16 xn xs F_124 F_226 (LR xn xs n) t v
    else if pc = 717 then fL_17 xn xs F_125 F_227 (LR xn xs n) t v
    else if pc = 770 then fL_18 xn xs F_126 F_233 (LR xn xs n) t v
    else if pc = 803 then fL_19 xn xs F_127 F_234 (LR xn xs n) t v
    else if pc = 826 then fL_20 xn xs F_128 F_241 (LR xn xs n) t v
    else if pc = 849 then fL_21 xn xs F_129 F_242 (LR xn xs n) t v
    else if pc = 882 then fL_22 xn xs F_130 F_244 (LR xn xs n) t v
    else if pc = 925 then fL_23 xn xs F_131 F_245 (LR xn xs n) t v
    else if pc = 948 then fL_24 xn xs F_132 F_248 (LR xn xs n) t v
    else if pc = 981 then fL_25 xn xs F_133 F_249 (LR xn xs n) t v
    else if pc = 1014 then fL_26 xn xs F_134 F_250 (LR xn xs n) t v
    else if pc = 1057 then fL_27 xn xs F_135 F_251 (LR xn xs n) t v
    else if pc = 1080 then fL_28 xn xs F_136 F_252 (LR xn xs n) t v
    else if pc = 1093 then fL_29 xn xs F_137 F_253 (LR xn xs n) t v
    else if pc = 1116 then fL_30 xn xs F_138 F_254 (LR xn xs n) t v
    else if pc = 1129 then fL_31 xn xs F_139 F_255 (LR xn xs n) t v
    else if pc = 1152 then fL_32 xn xs F_140 F_257 (LR xn xs n) t v
    else if pc = 1165 then fL_33 xn xs F_141 F_258 (LR xn xs n) t v
    else if pc = 1188 then fL_34 xn xs F_142 F_260 (LR xn xs n) t v
    else if pc = 1231 then fL_35 xn xs F_143 F_261 (LR xn xs n) t v
    else if pc = 1244 then fL_36 xn xs F_144 F_262 (LR xn xs n) t v
    else if pc = 1277 then fL_37 xn xs F_145 F_264 (LR xn xs n) t v
    else if pc = 1310 then fL_38 xn xs F_146 F_265 (LR xn xs n) t v
    else if pc = 1333 then fL_39 xn xs F_147 F_266 (LR xn xs n) t v
    else if pc = 1366 then fL_40 xn xs F_148 F_267 (LR xn xs n) t v
    else if pc = 1379 then fL_41 xn xs F_149 F_268 (LR xn xs n) t v
    else if pc = 1392 then fL_42 xn xs F_150 F_269 (LR xn xs n) t v
    else if pc = 1435 then fL_43 xn xs F_151 F_270 (LR xn xs n) t v
    else if pc = 1478 then fL_44 xn xs F_152 F_271 (LR xn xs n) t v
    else if pc = 1541 then fL_45 xn xs F_153 F_272 (LR xn xs n) t v
    else if pc = 1594 then fL_46 xn xs F_154 F_274 (LR xn xs n) t v
    else none
section
set_option maxRecDepth 100000
theorem LR_h : (fun (xn : Nat) (xs : Nat → Int32) (n : Nat) (t : SM) (v : Int32) => LR xn xs (n + 1) 18 t v) = (fun (xn : Nat) (xs : Nat → Int32) (n : Nat) (t : SM) (v : Int32) => fL_h xn xs (LR xn xs n) t v) := by rfl
theorem LR_0 : (fun (xn : Nat) (xs : Nat → Int32) (n : Nat) (t : SM) (v : Int32) => LR xn xs (n + 1) 236 t v) = (fun (xn : Nat) (xs : Nat → Int32) (n : Nat) (t : SM) (v : Int32) => fL_0 xn xs F_108 F_188 (LR xn xs n) t v) := by rfl
theorem LR_1 : (fun (xn : Nat) (xs : Nat → Int32) (n : Nat) (t : SM) (v : Int32) => LR xn xs (n + 1) 259 t v) = (fun (xn : Nat) (xs : Nat → Int32) (n : Nat) (t : SM) (v : Int32) => fL_1 xn xs F_109 F_189 (LR xn xs n) t v) := by rfl
theorem LR_2 : (fun (xn : Nat) (xs : Nat → Int32) (n : Nat) (t : SM) (v : Int32) => LR xn xs (n + 1) 282 t v) = (fun (xn : Nat) (xs : Nat → Int32) (n : Nat) (t : SM) (v : Int32) => fL_2 xn xs F_110 F_190 (LR xn xs n) t v) := by rfl
theorem LR_3 : (fun (xn : Nat) (xs : Nat → Int32) (n : Nat) (t : SM) (v : Int32) => LR xn xs (n + 1) 345 t v) = (fun (xn : Nat) (xs : Nat → Int32) (n : Nat) (t : SM) (v : Int32) => fL_3 xn xs F_111 F_201 (LR xn xs n) t v) := by rfl
theorem LR_4 : (fun (xn : Nat) (xs : Nat → Int32) (n : Nat) (t : SM) (v : Int32) => LR xn xs (n + 1) 358 t v) = (fun (xn : Nat) (xs : Nat → Int32) (n : Nat) (t : SM) (v : Int32) => fL_4 xn xs F_112 F_205 (LR xn xs n) t v) := by rfl
theorem LR_5 : (fun (xn : Nat) (xs : Nat → Int32) (n : Nat) (t : SM) (v : Int32) => LR xn xs (n + 1) 381 t v) = (fun (xn : Nat) (xs : Nat → Int32) (n : Nat) (t : SM) (v : Int32) => fL_5 xn xs F_113 F_207 (LR xn xs n) t v) := by rfl
theorem LR_6 : (fun (xn : Nat) (xs : Nat → Int32) (n : Nat) (t : SM) (v : Int32) => LR xn xs (n + 1) 404 t v) = (fun (xn : Nat) (xs : Nat → Int32) (n : Nat) (t : SM) (v : Int32) => fL_6 xn xs F_114 F_208 (LR xn xs n) t v) := by rfl
theorem LR_7 : (fun (xn : Nat) (xs : Nat → Int32) (n : Nat) (t : SM) (v : Int32) => LR xn xs (n + 1) 457 t v) = (fun (xn : Nat) (xs : Nat → Int32) (n : Nat) (t : SM) (v : Int32) => fL_7 xn xs F_115 F_209 (LR xn xs n) t v) := by rfl
theorem LR_8 : (fun (xn : Nat) (xs : Nat → Int32) (n : Nat) (t : SM) (v : Int32) => LR xn xs (n + 1) 470 t v) = (fun (xn : Nat) (xs : Nat → Int32) (n : Nat) (t : SM) (v : Int32) => fL_8 xn xs F_116 F_210 (LR xn xs n) t v) := by rfl
theorem LR_9 : (fun (xn : Nat) (xs : Nat → Int32) (n : Nat) (t : SM) (v : Int32) => LR xn xs (n + 1) 503 t v) = (fun (xn : Nat) (xs : Nat → Int32) (n : Nat) (t : SM) (v : Int32) => fL_9 xn xs F_117 F_211 (LR xn xs n) t v) := by rfl
theorem LR_10 : (fun (xn : Nat) (xs : Nat → Int32) (n : Nat) (t : SM) (v : Int32) => LR xn xs (n + 1) 536 t v) = (fun (xn : Nat) (xs : Nat → Int32) (n : Nat) (t : SM) (v : Int32) => fL_10 xn xs F_118 F_214 (LR xn xs n) t v) := by rfl
theorem LR_11 : (fun (xn : Nat) (xs : Nat → Int32) (n : Nat) (t : SM) (v : Int32) => LR xn xs (n + 1) 579 t v) = (fun (xn : Nat) (xs : Nat → Int32) (n : Nat) (t : SM) (v : Int32) => fL_11 xn xs F_119 F_215 (LR xn xs n) t v) := by rfl
theorem LR_12 : (fun (xn : Nat) (xs : Nat → Int32) (n : Nat) (t : SM) (v : Int32) => LR xn xs (n + 1) 612 t v) = (fun (xn : Nat) (xs : Nat → Int32) (n : Nat) (t : SM) (v : Int32) => fL_12 xn xs F_120 F_220 (LR xn xs n) t v) := by rfl
theorem LR_13 : (fun (xn : Nat) (xs : Nat → Int32) (n : Nat) (t : SM) (v : Int32) => LR xn xs (n + 1) 635 t v) = (fun (xn : Nat) (xs : Nat → Int32) (n : Nat) (t : SM) (v : Int32) => fL_13 xn xs F_121 F_221 (LR xn xs n) t v) := by rfl
theorem LR_14 : (fun (xn : Nat) (xs : Nat → Int32) (n : Nat) (t : SM) (v : Int32) => LR xn xs (n + 1) 658 t v) = (fun (xn : Nat) (xs : Nat → Int32) (n : Nat) (t : SM) (v : Int32) => fL_14 xn xs F_122 F_224 (LR xn xs n) t v) := by rfl
theorem LR_15 : (fun (xn : Nat) (xs : Nat → Int32) (n : Nat) (t : SM) (v : Int32) => LR xn xs (n + 1) 681 t v) = (fun (xn : Nat) (xs : Nat → Int32) (n : Nat) (t : SM) (v : Int32) => fL_15 xn xs F_123 F_225 (LR xn xs n) t v) := by rfl
theorem LR_16 : (fun (xn : Nat) (xs : Nat → Int32) (n : Nat) (t : SM) (v : Int32) => LR xn xs (n + 1) 694 t v) = (fun (xn : Nat) (xs : Nat → Int32) (n : Nat) (t : SM) (v : Int32) => fL_16 xn xs F_124 F_226 (LR xn xs n) t v) := by rfl
theorem LR_17 : (fun (xn : Nat) (xs : Nat → Int32) (n : Nat) (t : SM) (v : Int32) => LR xn xs (n + 1) 717 t v) = (fun (xn : Nat) (xs : Nat → Int32) (n : Nat) (t : SM) (v : Int32) => fL_17 xn xs F_125 F_227 (LR xn xs n) t v) := by rfl
theorem LR_18 : (fun (xn : Nat) (xs : Nat → Int32) (n : Nat) (t : SM) (v : Int32) => LR xn xs (n + 1) 770 t v) = (fun (xn : Nat) (xs : Nat → Int32) (n : Nat) (t : SM) (v : Int32) => fL_18 xn xs F_126 F_233 (LR xn xs n) t v) := by rfl
theorem LR_19 : (fun (xn : Nat) (xs : Nat → Int32) (n : Nat) (t : SM) (v : Int32) => LR xn xs (n + 1) 803 t v) = (fun (xn : Nat) (xs : Nat → Int32) (n : Nat) (t : SM) (v : Int32) => fL_19 xn xs F_127 F_234 (LR xn xs n) t v) := by rfl
theorem LR_20 : (fun (xn : Nat) (xs : Nat → Int32) (n : Nat) (t : SM) (v : Int32) => LR xn xs (n + 1) 826 t v) = (fun (xn : Nat) (xs : Nat → Int32) (n : Nat) (t : SM) (v : Int32) => fL_20 xn xs F_128 F_241 (LR xn xs n) t v) := by rfl
theorem LR_21 : (fun (xn : Nat) (xs : Nat → Int32) (n : Nat) (t : SM) (v : Int32) => LR xn xs (n + 1) 849 t v) = (fun (xn : Nat) (xs : Nat → Int32) (n : Nat) (t : SM) (v : Int32) => fL_21 xn xs F_129 F_242 (LR xn xs n) t v) := by rfl
theorem LR_22 : (fun (xn : Nat) (xs : Nat → Int32) (n : Nat) (t : SM) (v : Int32) => LR xn xs (n + 1) 882 t v) = (fun (xn : Nat) (xs : Nat → Int32) (n : Nat) (t : SM) (v : Int32) => fL_22 xn xs F_130 F_244 (LR xn xs n) t v) := by rfl
theorem LR_23 : (fun (xn : Nat) (xs : Nat → Int32) (n : Nat) (t : SM) (v : Int32) => LR xn xs (n + 1) 925 t v) = (fun (xn : Nat) (xs : Nat → Int32) (n : Nat) (t : SM) (v : Int32) => fL_23 xn xs F_131 F_245 (LR xn xs n) t v) := by rfl
theorem LR_24 : (fun (xn : Nat) (xs : Nat → Int32) (n : Nat) (t : SM) (v : Int32) => LR xn xs (n + 1) 948 t v) = (fun (xn : Nat) (xs : Nat → Int32) (n : Nat) (t : SM) (v : Int32) => fL_24 xn xs F_132 F_248 (LR xn xs n) t v) := by rfl
theorem LR_25 : (fun (xn : Nat) (xs : Nat → Int32) (n : Nat) (t : SM) (v : Int32) => LR xn xs (n + 1) 981 t v) = (fun (xn : Nat) (xs : Nat → Int32) (n : Nat) (t : SM) (v : Int32) => fL_25 xn xs F_133 F_249 (LR xn xs n) t v) := by rfl
theorem LR_26 : (fun (xn : Nat) (xs : Nat → Int32) (n : Nat) (t : SM) (v : Int32) => LR xn xs (n + 1) 1014 t v) = (fun (xn : Nat) (xs : Nat → Int32) (n : Nat) (t : SM) (v : Int32) => fL_26 xn xs F_134 F_250 (LR xn xs n) t v) := by rfl
theorem LR_27 : (fun (xn : Nat) (xs : Nat → Int32) (n : Nat) (t : SM) (v : Int32) => LR xn xs (n + 1) 1057 t v) = (fun (xn : Nat) (xs : Nat → Int32) (n : Nat) (t : SM) (v : Int32) => fL_27 xn xs F_135 F_251 (LR xn xs n) t v) := by rfl
theorem LR_28 : (fun (xn : Nat) (xs : Nat → Int32) (n : Nat) (t : SM) (v : Int32) => LR xn xs (n + 1) 1080 t v) = (fun (xn : Nat) (xs : Nat → Int32) (n : Nat) (t : SM) (v : Int32) => fL_28 xn xs F_136 F_252 (LR xn xs n) t v) := by rfl
theorem LR_29 : (fun (xn : Nat) (xs : Nat → Int32) (n : Nat) (t : SM) (v : Int32) => LR xn xs (n + 1) 1093 t v) = (fun (xn : Nat) (xs : Nat → Int32) (n : Nat) (t : SM) (v : Int32) => fL_29 xn xs F_137 F_253 (LR xn xs n) t v) := by rfl
theorem LR_30 : (fun (xn : Nat) (xs : Nat → Int32) (n : Nat) (t : SM) (v : Int32) => LR xn xs (n + 1) 1116 t v) = (fun (xn : Nat) (xs : Nat → Int32) (n : Nat) (t : SM) (v : Int32) => fL_30 xn xs F_138 F_254 (LR xn xs n) t v) := by rfl
theorem LR_31 : (fun (xn : Nat) (xs : Nat → Int32) (n : Nat) (t : SM) (v : Int32) => LR xn xs (n + 1) 1129 t v) = (fun (xn : Nat) (xs : Nat → Int32) (n : Nat) (t : SM) (v : Int32) => fL_31 xn xs F_139 F_255 (LR xn xs n) t v) := by rfl
theorem LR_32 : (fun (xn : Nat) (xs : Nat → Int32) (n : Nat) (t : SM) (v : Int32) => LR xn xs (n + 1) 1152 t v) = (fun (xn : Nat) (xs : Nat → Int32) (n : Nat) (t : SM) (v : Int32) => fL_32 xn xs F_140 F_257 (LR xn xs n) t v) := by rfl
theorem LR_33 : (fun (xn : Nat) (xs : Nat → Int32) (n : Nat) (t : SM) (v : Int32) => LR xn xs (n + 1) 1165 t v) = (fun (xn : Nat) (xs : Nat → Int32) (n : Nat) (t : SM) (v : Int32) => fL_33 xn xs F_141 F_258 (LR xn xs n) t v) := by rfl
theorem LR_34 : (fun (xn : Nat) (xs : Nat → Int32) (n : Nat) (t : SM) (v : Int32) => LR xn xs (n + 1) 1188 t v) = (fun (xn : Nat) (xs : Nat → Int32) (n : Nat) (t : SM) (v : Int32) => fL_34 xn xs F_142 F_260 (LR xn xs n) t v) := by rfl
theorem LR_35 : (fun (xn : Nat) (xs : Nat → Int32) (n : Nat) (t : SM) (v : Int32) => LR xn xs (n + 1) 1231 t v) = (fun (xn : Nat) (xs : Nat → Int32) (n : Nat) (t : SM) (v : Int32) => fL_35 xn xs F_143 F_261 (LR xn xs n) t v) := by rfl
theorem LR_36 : (fun (xn : Nat) (xs : Nat → Int32) (n : Nat) (t : SM) (v : Int32) => LR xn xs (n + 1) 1244 t v) = (fun (xn : Nat) (xs : Nat → Int32) (n : Nat) (t : SM) (v : Int32) => fL_36 xn xs F_144 F_262 (LR xn xs n) t v) := by rfl
theorem LR_37 : (fun (xn : Nat) (xs : Nat → Int32) (n : Nat) (t : SM) (v : Int32) => LR xn xs (n + 1) 1277 t v) = (fun (xn : Nat) (xs : Nat → Int32) (n : Nat) (t : SM) (v : Int32) => fL_37 xn xs F_145 F_264 (LR xn xs n) t v) := by rfl
theorem LR_38 : (fun (xn : Nat) (xs : Nat → Int32) (n : Nat) (t : SM) (v : Int32) => LR xn xs (n + 1) 1310 t v) = (fun (xn : Nat) (xs : Nat → Int32) (n : Nat) (t : SM) (v : Int32) => fL_38 xn xs F_146 F_265 (LR xn xs n) t v) := by rfl
theorem LR_39 : (fun (xn : Nat) (xs : Nat → Int32) (n : Nat) (t : SM) (v : Int32) => LR xn xs (n + 1) 1333 t v) = (fun (xn : Nat) (xs : Nat → Int32) (n : Nat) (t : SM) (v : Int32) => fL_39 xn xs F_147 F_266 (LR xn xs n) t v) := by rfl
theorem LR_40 : (fun (xn : Nat) (xs : Nat → Int32) (n : Nat) (t : SM) (v : Int32) => LR xn xs (n + 1) 1366 t v) = (fun (xn : Nat) (xs : Nat → Int32) (n : Nat) (t : SM) (v : Int32) => fL_40 xn xs F_148 F_267 (LR xn xs n) t v) := by rfl
theorem LR_41 : (fun (xn : Nat) (xs : Nat → Int32) (n : Nat) (t : SM) (v : Int32) => LR xn xs (n + 1) 1379 t v) = (fun (xn : Nat) (xs : Nat → Int32) (n : Nat) (t : SM) (v : Int32) => fL_41 xn xs F_149 F_268 (LR xn xs n) t v) := by rfl
theorem LR_42 : (fun (xn : Nat) (xs : Nat → Int32) (n : Nat) (t : SM) (v : Int32) => LR xn xs (n + 1) 1392 t v) = (fun (xn : Nat) (xs : Nat → Int32) (n : Nat) (t : SM) (v : Int32) => fL_42 xn xs F_150 F_269 (LR xn xs n) t v) := by rfl
theorem LR_43 : (fun (xn : Nat) (xs : Nat → Int32) (n : Nat) (t : SM) (v : Int32) => LR xn xs (n + 1) 1435 t v) = (fun (xn : Nat) (xs : Nat → Int32) (n : Nat) (t : SM) (v : Int32) => fL_43 xn xs F_151 F_270 (LR xn xs n) t v) := by rfl
theorem LR_44 : (fun (xn : Nat) (xs : Nat → Int32) (n : Nat) (t : SM) (v : Int32) => LR xn xs (n + 1) 1478 t v) = (fun (xn : Nat) (xs : Nat → Int32) (n : Nat) (t : SM) (v : Int32) => fL_44 xn xs F_152 F_271 (LR xn xs n) t v) := by rfl
theorem LR_45 : (fun (xn : Nat) (xs : Nat → Int32) (n : Nat) (t : SM) (v : Int32) => LR xn xs (n + 1) 1541 t v) = (fun (xn : Nat) (xs : Nat → Int32) (n : Nat) (t : SM) (v : Int32) => fL_45 xn xs F_153 F_272 (LR xn xs n) t v) := by rfl
theorem LR_46 : (fun (xn : Nat) (xs : Nat → Int32) (n : Nat) (t : SM) (v : Int32) => LR xn xs (n + 1) 1594 t v) = (fun (xn : Nat) (xs : Nat → Int32) (n : Nat) (t : SM) (v : Int32) => fL_46 xn xs F_154 F_274 (LR xn xs n) t v) := by rfl
end
section
variable {p : Program} {l : Launch} {e : Env} {s : State} {m : MethodId} {below : List Frame} {meth : Method} {c : Code} {D : va_G} {X : PX} {b xn : Nat} {xs : Nat → Int32} {r : RR}
theorem LR_ok (hC : Cx p s m #[Value.ref b] meth c (AS s) X x code 4 (some (xn, xs))) (hr : meth.sig.returnType = ret) (hres : r.1 = some (.int 1)) (hRm : RoomOK room_1 0 0 r) : ∀ (n pc : Nat) (t : SM) (v : Int32), LR xn xs n pc t v = some r → LW p l e s m below meth c D X b r pc (L0 v) [] t := by
  intro n
  induction n with
  | zero => intro pc t v h; cases h
  | succ n ih =>
    intro pc t v h
    have hR : 1000 ≤ room_1.frames ∧ 64 * 1000 ≤ room_1.locals := ⟨Nat.le_of_ble_eq_true rfl, Nat.le_of_ble_eq_true rfl⟩
    have hret := law_ret (below := below) (D := D) (X := X) (b := b) hC.1 hC.2.1 hr hC.2.2.2.2.2.1 hres hRm (p := p) (l := l) (e := e) (s := s) (m := m)
    by_cases e0 : pc = 18
    · subst e0
      have h2 : fL_h xn xs (LR xn xs n) t v = some r := (congrFun (congrFun (congrFun (congrFun (congrFun LR_h xn) xs) n) t) v).symm.trans h
      exact ex_sound (P := P_L) (cut := cutL) (kc := kLw (LR xn xs n)) hC (calOK (d := 1000) (mt := mtab) (rks := rks) FTok.nil) (by decide) hR hRm hret rows_L (kLw_ok ih) 400 18 (L0 v) [] t ((congrFun (congrFun (congrFun (congrFun (congrFun eL_h xn) xs) (LR xn xs n)) t) v).trans h2)
    by_cases e1 : pc = 236
    · subst e1
      have h2 : fL_0 xn xs F_108 F_188 (LR xn xs n) t v = some r := (congrFun (congrFun (congrFun (congrFun (congrFun LR_0 xn) xs) n) t) v).symm.trans h
      exact ex_sound (P := P_L) (cut := cutL) (kc := kLw (LR xn xs n)) hC (calOK (d := 1000) (mt := mtab) (rks := rks) (FTok.cons (ok_108 l) (by decide) (FTok.cons (ok_188 l) (by decide) FTok.nil))) (by decide) hR hRm hret rows_L (kLw_ok ih) 400 236 (L0 v) [] t ((congrFun (congrFun (congrFun (congrFun (congrFun (congrFun (congrFun eL_0 xn) xs) F_108) F_188) (LR xn xs n)) t) v).trans h2)
    by_cases e2 : pc = 259
    · subst e2
      have h2 : fL_1 xn xs F_109 F_189 (LR xn xs n) t v = some r := (congrFun (congrFun (congrFun (congrFun (congrFun LR_1 xn) xs) n) t) v).symm.trans h
      exact ex_sound (P := P_L) (cut := cutL) (kc := kLw (LR xn xs n)) hC (calOK (d := 1000) (mt := mtab) (rks := rks) (FTok.cons (ok_109 l) (by decide) (FTok.cons (ok_189 l) (by decide) FTok.nil))) (by decide) hR hRm hret rows_L (kLw_ok ih) 400 259 (L0 v) [] t ((congrFun (congrFun (congrFun (congrFun (congrFun (congrFun (congrFun eL_1 xn) xs) F_109) F_189) (LR xn xs n)) t) v).trans h2)
    by_cases e3 : pc = 282
    · subst e3
      have h2 : fL_2 xn xs F_110 F_190 (LR xn xs n) t v = some r := (congrFun (congrFun (congrFun (congrFun (congrFun LR_2 xn) xs) n) t) v).symm.trans h
      exact ex_sound (P := P_L) (cut := cutL) (kc := kLw (LR xn xs n)) hC (calOK (d := 1000) (mt := mtab) (rks := rks) (FTok.cons (ok_110 l) (by decide) (FTok.cons (ok_190 l) (by decide) FTok.nil))) (by decide) hR hRm hret rows_L (kLw_ok ih) 400 282 (L0 v) [] t ((congrFun (congrFun (congrFun (congrFun (congrFun (congrFun (congrFun eL_2 xn) xs) F_110) F_190) (LR xn xs n)) t) v).trans h2)
    by_cases e4 : pc = 345
    · subst e4
      have h2 : fL_3 xn xs F_111 F_201 (LR xn xs n) t v = some r := (congrFun (congrFun (congrFun (congrFun (congrFun LR_3 xn) xs) n) t) v).symm.trans h
      exact ex_sound (P := P_L) (cut := cutL) (kc := kLw (LR xn xs n)) hC (calOK (d := 1000) (mt := mtab) (rks := rks) (FTok.cons (ok_111 l) (by decide) (FTok.cons (ok_201 l) (by decide) FTok.nil))) (by decide) hR hRm hret rows_L (kLw_ok ih) 400 345 (L0 v) [] t ((congrFun (congrFun (congrFun (congrFun (congrFun (congrFun (congrFun eL_3 xn) xs) F_111) F_201) (LR xn xs n)) t) v).trans h2)
    by_cases e5 : pc = 358
    · subst e5
      have h2 : fL_4 xn xs F_112 F_205 (LR xn xs n) t v = some r := (congrFun (congrFun (congrFun (congrFun (congrFun LR_4 xn) xs) n) t) v).symm.trans h
      exact ex_sound (P := P_L) (cut := cutL) (kc := kLw (LR xn xs n)) hC (calOK (d := 1000) (mt := mtab) (rks := rks) (FTok.cons (ok_112 l) (by decide) (FTok.cons (ok_205 l) (by decide) FTok.nil))) (by decide) hR hRm hret rows_L (kLw_ok ih) 400 358 (L0 v) [] t ((congrFun (congrFun (congrFun (congrFun (congrFun (congrFun (congrFun eL_4 xn) xs) F_112) F_205) (LR xn xs n)) t) v).trans h2)
    by_cases e6 : pc = 381
    · subst e6
      have h2 : fL_5 xn xs F_113 F_207 (LR xn xs n) t v = some r := (congrFun (congrFun (congrFun (congrFun (congrFun LR_5 xn) xs) n) t) v).symm.trans h
      exact ex_sound (P := P_L) (cut := cutL) (kc := kLw (LR xn xs n)) hC (calOK (d := 1000) (mt := mtab) (rks := rks) (FTok.cons (ok_113 l) (by decide) (FTok.cons (ok_207 l) (by decide) FTok.nil))) (by decide) hR hRm hret rows_L (kLw_ok ih) 400 381 (L0 v) [] t ((congrFun (congrFun (congrFun (congrFun (congrFun (congrFun (congrFun eL_5 xn) xs) F_113) F_207) (LR xn xs n)) t) v).trans h2)
    by_cases e7 : pc = 404
    · subst e7
      have h2 : fL_6 xn xs F_114 F_208 (LR xn xs n) t v = some r := (congrFun (congrFun (congrFun (congrFun (congrFun LR_6 xn) xs) n) t) v).symm.trans h
      exact ex_sound (P := P_L) (cut := cutL) (kc := kLw (LR xn xs n)) hC (calOK (d := 1000) (mt := mtab) (rks := rks) (FTok.cons (ok_114 l) (by decide) (FTok.cons (ok_208 l) (by decide) FTok.nil))) (by decide) hR hRm hret rows_L (kLw_ok ih) 400 404 (L0 v) [] t ((congrFun (congrFun (congrFun (congrFun (congrFun (congrFun (congrFun eL_6 xn) xs) F_114) F_208) (LR xn xs n)) t) v).trans h2)
    by_cases e8 : pc = 457
    · subst e8
      have h2 : fL_7 xn xs F_115 F_209 (LR xn xs n) t v = some r := (congrFun (congrFun (congrFun (congrFun (congrFun LR_7 xn) xs) n) t) v).symm.trans h
      exact ex_sound (P := P_L) (cut := cutL) (kc := kLw (LR xn xs n)) hC (calOK (d := 1000) (mt := mtab) (rks := rks) (FTok.cons (ok_115 l) (by decide) (FTok.cons (ok_209 l) (by decide) FTok.nil))) (by decide) hR hRm hret rows_L (kLw_ok ih) 400 457 (L0 v) [] t ((congrFun (congrFun (congrFun (congrFun (congrFun (congrFun (congrFun eL_7 xn) xs) F_115) F_209) (LR xn xs n)) t) v).trans h2)
    by_cases e9 : pc = 470
    · subst e9
      have h2 : fL_8 xn xs F_116 F_210 (LR xn xs n) t v = some r := (congrFun (congrFun (congrFun (congrFun (congrFun LR_8 xn) xs) n) t) v).symm.trans h
      exact ex_sound (P := P_L) (cut := cutL) (kc := kLw (LR xn xs n)) hC (calOK (d := 1000) (mt := mtab) (rks := rks) (FTok.cons (ok_116 l) (by decide) (FTok.cons (ok_210 l) (by decide) FTok.nil))) (by decide) hR hRm hret rows_L (kLw_ok ih) 400 470 (L0 v) [] t ((congrFun (congrFun (congrFun (congrFun (congrFun (congrFun (congrFun eL_8 xn) xs) F_116) F_210) (LR xn xs n)) t) v).trans h2)
    by_cases e10 : pc = 503
    · subst e10
      have h2 : fL_9 xn xs F_117 F_211 (LR xn xs n) t v = some r := (congrFun (congrFun (congrFun (congrFun (congrFun LR_9 xn) xs) n) t) v).symm.trans h
      exact ex_sound (P := P_L) (cut := cutL) (kc := kLw (LR xn xs n)) hC (calOK (d := 1000) (mt := mtab) (rks := rks) (FTok.cons (ok_117 l) (by decide) (FTok.cons (ok_211 l) (by decide) FTok.nil))) (by decide) hR hRm hret rows_L (kLw_ok ih) 400 503 (L0 v) [] t ((congrFun (congrFun (congrFun (congrFun (congrFun (congrFun (congrFun eL_9 xn) xs) F_117) F_211) (LR xn xs n)) t) v).trans h2)
    by_cases e11 : pc = 536
    · subst e11
      have h2 : fL_10 xn xs F_118 F_214 (LR xn xs n) t v = some r := (congrFun (congrFun (congrFun (congrFun (congrFun LR_10 xn) xs) n) t) v).symm.trans h
      exact ex_sound (P := P_L) (cut := cutL) (kc := kLw (LR xn xs n)) hC (calOK (d := 1000) (mt := mtab) (rks := rks) (FTok.cons (ok_118 l) (by decide) (FTok.cons (ok_214 l) (by decide) FTok.nil))) (by decide) hR hRm hret rows_L (kLw_ok ih) 400 536 (L0 v) [] t ((congrFun (congrFun (congrFun (congrFun (congrFun (congrFun (congrFun eL_10 xn) xs) F_118) F_214) (LR xn xs n)) t) v).trans h2)
    by_cases e12 : pc = 579
    · subst e12
      have h2 : fL_11 xn xs F_119 F_215 (LR xn xs n) t v = some r := (congrFun (congrFun (congrFun (congrFun (congrFun LR_11 xn) xs) n) t) v).symm.trans h
      exact ex_sound (P := P_L) (cut := cutL) (kc := kLw (LR xn xs n)) hC (calOK (d := 1000) (mt := mtab) (rks := rks) (FTok.cons (ok_119 l) (by decide) (FTok.cons (ok_215 l) (by decide) FTok.nil))) (by decide) hR hRm hret rows_L (kLw_ok ih) 400 579 (L0 v) [] t ((congrFun (congrFun (congrFun (congrFun (congrFun (congrFun (congrFun eL_11 xn) xs) F_119) F_215) (LR xn xs n)) t) v).trans h2)
    by_cases e13 : pc = 612
    · subst e13
      have h2 : fL_12 xn xs F_120 F_220 (LR xn xs n) t v = some r := (congrFun (congrFun (congrFun (congrFun (congrFun LR_12 xn) xs) n) t) v).symm.trans h
      exact ex_sound (P := P_L) (cut := cutL) (kc := kLw (LR xn xs n)) hC (calOK (d := 1000) (mt := mtab) (rks := rks) (FTok.cons (ok_120 l) (by decide) (FTok.cons (ok_220 l) (by decide) FTok.nil))) (by decide) hR hRm hret rows_L (kLw_ok ih) 400 612 (L0 v) [] t ((congrFun (congrFun (congrFun (congrFun (congrFun (congrFun (congrFun eL_12 xn) xs) F_120) F_220) (LR xn xs n)) t) v).trans h2)
    by_cases e14 : pc = 635
    · subst e14
      have h2 : fL_13 xn xs F_121 F_221 (LR xn xs n) t v = some r := (congrFun (congrFun (congrFun (congrFun (congrFun LR_13 xn) xs) n) t) v).symm.trans h
      exact ex_sound (P := P_L) (cut := cutL) (kc := kLw (LR xn xs n)) hC (calOK (d := 1000) (mt := mtab) (rks := rks) (FTok.cons (ok_121 l) (by decide) (FTok.cons (ok_221 l) (by decide) FTok.nil))) (by decide) hR hRm hret rows_L (kLw_ok ih) 400 635 (L0 v) [] t ((congrFun (congrFun (congrFun (congrFun (congrFun (congrFun (congrFun eL_13 xn) xs) F_121) F_221) (LR xn xs n)) t) v).trans h2)
    by_cases e15 : pc = 658
    · subst e15
      have h2 : fL_14 xn xs F_122 F_224 (LR xn xs n) t v = some r := (congrFun (congrFun (congrFun (congrFun (congrFun LR_14 xn) xs) n) t) v).symm.trans h
      exact ex_sound (P := P_L) (cut := cutL) (kc := kLw (LR xn xs n)) hC (calOK (d := 1000) (mt := mtab) (rks := rks) (FTok.cons (ok_122 l) (by decide) (FTok.cons (ok_224 l) (by decide) FTok.nil))) (by decide) hR hRm hret rows_L (kLw_ok ih) 400 658 (L0 v) [] t ((congrFun (congrFun (congrFun (congrFun (congrFun (congrFun (congrFun eL_14 xn) xs) F_122) F_224) (LR xn xs n)) t) v).trans h2)
    by_cases e16 : pc = 681
    · subst e16
      have h2 : fL_15 xn xs F_123 F_225 (LR xn xs n) t v = some r := (congrFun (congrFun (congrFun (congrFun (congrFun LR_15 xn) xs) n) t) v).symm.trans h
      exact ex_sound (P := P_L) (cut := cutL) (kc := kLw (LR xn xs n)) hC (calOK (d := 1000) (mt := mtab) (rks := rks) (FTok.cons (ok_123 l) (by decide) (FTok.cons (ok_225 l) (by decide) FTok.nil))) (by decide) hR hRm hret rows_L (kLw_ok ih) 400 681 (L0 v) [] t ((congrFun (congrFun (congrFun (congrFun (congrFun (congrFun (congrFun eL_15 xn) xs) F_123) F_225) (LR xn xs n)) t) v).trans h2)
    by_cases e17 : pc = 694
    · subst e17
      have h2 : fL_16 xn xs F_124 F_226 (LR xn xs n) t v = some r := (congrFun (congrFun (congrFun (congrFun (congrFun LR_16 xn) xs) n) t) v).symm.trans h
      exact ex_sound (P := P_L) (cut := cutL) (kc := kLw (LR xn xs n)) hC (calOK (d := 1000) (mt := mtab) (rks := rks) (FTok.cons (ok_124 l) (by decide) (FTok.cons (ok_226 l) (by decide) FTok.nil))) (by decide) hR hRm hret rows_L (kLw_ok ih) 400 694 (L0 v) [] t ((congrFun (congrFun (congrFun (congrFun (congrFun (congrFun (congrFun eL_16 xn) xs) F_124) F_226) (LR xn xs n)) t) v).trans h2)
    by_cases e18 : pc = 717
    · subst e18
      have h2 : fL_17 xn xs F_125 F_227 (LR xn xs n) t v = some r := (congrFun (congrFun (congrFun (congrFun (congrFun LR_17 xn) xs) n) t) v).symm.trans h
      exact ex_sound (P := P_L) (cut := cutL) (kc := kLw (LR xn xs n)) hC (calOK (d := 1000) (mt := mtab) (rks := rks) (FTok.cons (ok_125 l) (by decide) (FTok.cons (ok_227 l) (by decide) FTok.nil))) (by decide) hR hRm hret rows_L (kLw_ok ih) 400 717 (L0 v) [] t ((congrFun (congrFun (congrFun (congrFun (congrFun (congrFun (congrFun eL_17 xn) xs) F_125) F_227) (LR xn xs n)) t) v).trans h2)
    by_cases e19 : pc = 770
    · subst e19
      have h2 : fL_18 xn xs F_126 F_233 (LR xn xs n) t v = some r := (congrFun (congrFun (congrFun (congrFun (congrFun LR_18 xn) xs) n) t) v).symm.trans h
      exact ex_sound (P := P_L) (cut := cutL) (kc := kLw (LR xn xs n)) hC (calOK (d := 1000) (mt := mtab) (rks := rks) (FTok.cons (ok_126 l) (by decide) (FTok.cons (ok_233 l) (by decide) FTok.nil))) (by decide) hR hRm hret rows_L (kLw_ok ih) 400 770 (L0 v) [] t ((congrFun (congrFun (congrFun (congrFun (congrFun (congrFun (congrFun eL_18 xn) xs) F_126) F_233) (LR xn xs n)) t) v).trans h2)
    by_cases e20 : pc = 803
    · subst e20
      have h2 : fL_19 xn xs F_127 F_234 (LR xn xs n) t v = some r := (congrFun (congrFun (congrFun (congrFun (congrFun LR_19 xn) xs) n) t) v).symm.trans h
      exact ex_sound (P := P_L) (cut := cutL) (kc := kLw (LR xn xs n)) hC (calOK (d := 1000) (mt := mtab) (rks := rks) (FTok.cons (ok_127 l) (by decide) (FTok.cons (ok_234 l) (by decide) FTok.nil))) (by decide) hR hRm hret rows_L (kLw_ok ih) 400 803 (L0 v) [] t ((congrFun (congrFun (congrFun (congrFun (congrFun (congrFun (congrFun eL_19 xn) xs) F_127) F_234) (LR xn xs n)) t) v).trans h2)
    by_cases e21 : pc = 826
    · subst e21
      have h2 : fL_20 xn xs F_128 F_241 (LR xn xs n) t v = some r := (congrFun (congrFun (congrFun (congrFun (congrFun LR_20 xn) xs) n) t) v).symm.trans h
      exact ex_sound (P := P_L) (cut := cutL) (kc := kLw (LR xn xs n)) hC (calOK (d := 1000) (mt := mtab) (rks := rks) (FTok.cons (ok_128 l) (by decide) (FTok.cons (ok_241 l) (by decide) FTok.nil))) (by decide) hR hRm hret rows_L (kLw_ok ih) 400 826 (L0 v) [] t ((congrFun (congrFun (congrFun (congrFun (congrFun (congrFun (congrFun eL_20 xn) xs) F_128) F_241) (LR xn xs n)) t) v).trans h2)
    by_cases e22 : pc = 849
    · subst e22
      have h2 : fL_21 xn xs F_129 F_242 (LR xn xs n) t v = some r := (congrFun (congrFun (congrFun (congrFun (congrFun LR_21 xn) xs) n) t) v).symm.trans h
      exact ex_sound (P := P_L) (cut := cutL) (kc := kLw (LR xn xs n)) hC (calOK (d := 1000) (mt := mtab) (rks := rks) (FTok.cons (ok_129 l) (by decide) (FTok.cons (ok_242 l) (by decide) FTok.nil))) (by decide) hR hRm hret rows_L (kLw_ok ih) 400 849 (L0 v) [] t ((congrFun (congrFun (congrFun (congrFun (congrFun (congrFun (congrFun eL_21 xn) xs) F_129) F_242) (LR xn xs n)) t) v).trans h2)
    by_cases e23 : pc = 882
    · subst e23
      have h2 : fL_22 xn xs F_130 F_244 (LR xn xs n) t v = some r := (congrFun (congrFun (congrFun (congrFun (congrFun LR_22 xn) xs) n) t) v).symm.trans h
      exact ex_sound (P := P_L) (cut := cutL) (kc := kLw (LR xn xs n)) hC (calOK (d := 1000) (mt := mtab) (rks := rks) (FTok.cons (ok_130 l) (by decide) (FTok.cons (ok_244 l) (by decide) FTok.nil))) (by decide) hR hRm hret rows_L (kLw_ok ih) 400 882 (L0 v) [] t ((congrFun (congrFun (congrFun (congrFun (congrFun (congrFun (congrFun eL_22 xn) xs) F_130) F_244) (LR xn xs n)) t) v).trans h2)
    by_cases e24 : pc = 925
    · subst e24
      have h2 : fL_23 xn xs F_131 F_245 (LR xn xs n) t v = some r := (congrFun (congrFun (congrFun (congrFun (congrFun LR_23 xn) xs) n) t) v).symm.trans h
      exact ex_sound (P := P_L) (cut := cutL) (kc := kLw (LR xn xs n)) hC (calOK (d := 1000) (mt := mtab) (rks := rks) (FTok.cons (ok_131 l) (by decide) (FTok.cons (ok_245 l) (by decide) FTok.nil))) (by decide) hR hRm hret rows_L (kLw_ok ih) 400 925 (L0 v) [] t ((congrFun (congrFun (congrFun (congrFun (congrFun (congrFun (congrFun eL_23 xn) xs) F_131) F_245) (LR xn xs n)) t) v).trans h2)
    by_cases e25 : pc = 948
    · subst e25
      have h2 : fL_24 xn xs F_132 F_248 (LR xn xs n) t v = some r := (congrFun (congrFun (congrFun (congrFun (congrFun LR_24 xn) xs) n) t) v).symm.trans h
      exact ex_sound (P := P_L) (cut := cutL) (kc := kLw (LR xn xs n)) hC (calOK (d := 1000) (mt := mtab) (rks := rks) (FTok.cons (ok_132 l) (by decide) (FTok.cons (ok_248 l) (by decide) FTok.nil))) (by decide) hR hRm hret rows_L (kLw_ok ih) 400 948 (L0 v) [] t ((congrFun (congrFun (congrFun (congrFun (congrFun (congrFun (congrFun eL_24 xn) xs) F_132) F_248) (LR xn xs n)) t) v).trans h2)
    by_cases e26 : pc = 981
    · subst e26
      have h2 : fL_25 xn xs F_133 F_249 (LR xn xs n) t v = some r := (congrFun (congrFun (congrFun (congrFun (congrFun LR_25 xn) xs) n) t) v).symm.trans h
      exact ex_sound (P := P_L) (cut := cutL) (kc := kLw (LR xn xs n)) hC (calOK (d := 1000) (mt := mtab) (rks := rks) (FTok.cons (ok_133 l) (by decide) (FTok.cons (ok_249 l) (by decide) FTok.nil))) (by decide) hR hRm hret rows_L (kLw_ok ih) 400 981 (L0 v) [] t ((congrFun (congrFun (congrFun (congrFun (congrFun (congrFun (congrFun eL_25 xn) xs) F_133) F_249) (LR xn xs n)) t) v).trans h2)
    by_cases e27 : pc = 1014
    · subst e27
      have h2 : fL_26 xn xs F_134 F_250 (LR xn xs n) t v = some r := (congrFun (congrFun (congrFun (congrFun (congrFun LR_26 xn) xs) n) t) v).symm.trans h
      exact ex_sound (P := P_L) (cut := cutL) (kc := kLw (LR xn xs n)) hC (calOK (d := 1000) (mt := mtab) (rks := rks) (FTok.cons (ok_134 l) (by decide) (FTok.cons (ok_250 l) (by decide) FTok.nil))) (by decide) hR hRm hret rows_L (kLw_ok ih) 400 1014 (L0 v) [] t ((congrFun (congrFun (congrFun (congrFun (congrFun (congrFun (congrFun eL_26 xn) xs) F_134) F_250) (LR xn xs n)) t) v).trans h2)
    by_cases e28 : pc = 1057
    · subst e28
      have h2 : fL_27 xn xs F_135 F_251 (LR xn xs n) t v = some r := (congrFun (congrFun (congrFun (congrFun (congrFun LR_27 xn) xs) n) t) v).symm.trans h
      exact ex_sound (P := P_L) (cut := cutL) (kc := kLw (LR xn xs n)) hC (calOK (d := 1000) (mt := mtab) (rks := rks) (FTok.cons (ok_135 l) (by decide) (FTok.cons (ok_251 l) (by decide) FTok.nil))) (by decide) hR hRm hret rows_L (kLw_ok ih) 400 1057 (L0 v) [] t ((congrFun (congrFun (congrFun (congrFun (congrFun (congrFun (congrFun eL_27 xn) xs) F_135) F_251) (LR xn xs n)) t) v).trans h2)
    by_cases e29 : pc = 1080
    · subst e29
      have h2 : fL_28 xn xs F_136 F_252 (LR xn xs n) t v = some r := (congrFun (congrFun (congrFun (congrFun (congrFun LR_28 xn) xs) n) t) v).symm.trans h
      exact ex_sound (P := P_L) (cut := cutL) (kc := kLw (LR xn xs n)) hC (calOK (d := 1000) (mt := mtab) (rks := rks) (FTok.cons (ok_136 l) (by decide) (FTok.cons (ok_252 l) (by decide) FTok.nil))) (by decide) hR hRm hret rows_L (kLw_ok ih) 400 1080 (L0 v) [] t ((congrFun (congrFun (congrFun (congrFun (congrFun (congrFun (congrFun eL_28 xn) xs) F_136) F_252) (LR xn xs n)) t) v).trans h2)
    by_cases e30 : pc = 1093
    · subst e30
      have h2 : fL_29 xn xs F_137 F_253 (LR xn xs n) t v = some r := (congrFun (congrFun (congrFun (congrFun (congrFun LR_29 xn) xs) n) t) v).symm.trans h
      exact ex_sound (P := P_L) (cut := cutL) (kc := kLw (LR xn xs n)) hC (calOK (d := 1000) (mt := mtab) (rks := rks) (FTok.cons (ok_137 l) (by decide) (FTok.cons (ok_253 l) (by decide) FTok.nil))) (by decide) hR hRm hret rows_L (kLw_ok ih) 400 1093 (L0 v) [] t ((congrFun (congrFun (congrFun (congrFun (congrFun (congrFun (congrFun eL_29 xn) xs) F_137) F_253) (LR xn xs n)) t) v).trans h2)
    by_cases e31 : pc = 1116
    · subst e31
      have h2 : fL_30 xn xs F_138 F_254 (LR xn xs n) t v = some r := (congrFun (congrFun (congrFun (congrFun (congrFun LR_30 xn) xs) n) t) v).symm.trans h
      exact ex_sound (P := P_L) (cut := cutL) (kc := kLw (LR xn xs n)) hC (calOK (d := 1000) (mt := mtab) (rks := rks) (FTok.cons (ok_138 l) (by decide) (FTok.cons (ok_254 l) (by decide) FTok.nil))) (by decide) hR hRm hret rows_L (kLw_ok ih) 400 1116 (L0 v) [] t ((congrFun (congrFun (congrFun (congrFun (congrFun (congrFun (congrFun eL_30 xn) xs) F_138) F_254) (LR xn xs n)) t) v).trans h2)
    by_cases e32 : pc = 1129
    · subst e32
      have h2 : fL_31 xn xs F_139 F_255 (LR xn xs n) t v = some r := (congrFun (congrFun (congrFun (congrFun (congrFun LR_31 xn) xs) n) t) v).symm.trans h
      exact ex_sound (P := P_L) (cut := cutL) (kc := kLw (LR xn xs n)) hC (calOK (d := 1000) (mt := mtab) (rks := rks) (FTok.cons (ok_139 l) (by decide) (FTok.cons (ok_255 l) (by decide) FTok.nil))) (by decide) hR hRm hret rows_L (kLw_ok ih) 400 1129 (L0 v) [] t ((congrFun (congrFun (congrFun (congrFun (congrFun (congrFun (congrFun eL_31 xn) xs) F_139) F_255) (LR xn xs n)) t) v).trans h2)
    by_cases e33 : pc = 1152
    · subst e33
      have h2 : fL_32 xn xs F_140 F_257 (LR xn xs n) t v = some r := (congrFun (congrFun (congrFun (congrFun (congrFun LR_32 xn) xs) n) t) v).symm.trans h
      exact ex_sound (P := P_L) (cut := cutL) (kc := kLw (LR xn xs n)) hC (calOK (d := 1000) (mt := mtab) (rks := rks) (FTok.cons (ok_140 l) (by decide) (FTok.cons (ok_257 l) (by decide) FTok.nil))) (by decide) hR hRm hret rows_L (kLw_ok ih) 400 1152 (L0 v) [] t ((congrFun (congrFun (congrFun (congrFun (congrFun (congrFun (congrFun eL_32 xn) xs) F_140) F_257) (LR xn xs n)) t) v).trans h2)
    by_cases e34 : pc = 1165
    · subst e34
      have h2 : fL_33 xn xs F_141 F_258 (LR xn xs n) t v = some r := (congrFun (congrFun (congrFun (congrFun (congrFun LR_33 xn) xs) n) t) v).symm.trans h
      exact ex_sound (P := P_L) (cut := cutL) (kc := kLw (LR xn xs n)) hC (calOK (d := 1000) (mt := mtab) (rks := rks) (FTok.cons (ok_141 l) (by decide) (FTok.cons (ok_258 l) (by decide) FTok.nil))) (by decide) hR hRm hret rows_L (kLw_ok ih) 400 1165 (L0 v) [] t ((congrFun (congrFun (congrFun (congrFun (congrFun (congrFun (congrFun eL_33 xn) xs) F_141) F_258) (LR xn xs n)) t) v).trans h2)
    by_cases e35 : pc = 1188
    · subst e35
      have h2 : fL_34 xn xs F_142 F_260 (LR xn xs n) t v = some r := (congrFun (congrFun (congrFun (congrFun (congrFun LR_34 xn) xs) n) t) v).symm.trans h
      exact ex_sound (P := P_L) (cut := cutL) (kc := kLw (LR xn xs n)) hC (calOK (d := 1000) (mt := mtab) (rks := rks) (FTok.cons (ok_142 l) (by decide) (FTok.cons (ok_260 l) (by decide) FTok.nil))) (by decide) hR hRm hret rows_L (kLw_ok ih) 400 1188 (L0 v) [] t ((congrFun (congrFun (congrFun (congrFun (congrFun (congrFun (congrFun eL_34 xn) xs) F_142) F_260) (LR xn xs n)) t) v).trans h2)
    by_cases e36 : pc = 1231
    · subst e36
      have h2 : fL_35 xn xs F_143 F_261 (LR xn xs n) t v = some r := (congrFun (congrFun (congrFun (congrFun (congrFun LR_35 xn) xs) n) t) v).symm.trans h
      exact ex_sound (P := P_L) (cut := cutL) (kc := kLw (LR xn xs n)) hC (calOK (d := 1000) (mt := mtab) (rks := rks) (FTok.cons (ok_143 l) (by decide) (FTok.cons (ok_261 l) (by decide) FTok.nil))) (by decide) hR hRm hret rows_L (kLw_ok ih) 400 1231 (L0 v) [] t ((congrFun (congrFun (congrFun (congrFun (congrFun (congrFun (congrFun eL_35 xn) xs) F_143) F_261) (LR xn xs n)) t) v).trans h2)
    by_cases e37 : pc = 1244
    · subst e37
      have h2 : fL_36 xn xs F_144 F_262 (LR xn xs n) t v = some r := (congrFun (congrFun (congrFun (congrFun (congrFun LR_36 xn) xs) n) t) v).symm.trans h
      exact ex_sound (P := P_L) (cut := cutL) (kc := kLw (LR xn xs n)) hC (calOK (d := 1000) (mt := mtab) (rks := rks) (FTok.cons (ok_144 l) (by decide) (FTok.cons (ok_262 l) (by decide) FTok.nil))) (by decide) hR hRm hret rows_L (kLw_ok ih) 400 1244 (L0 v) [] t ((congrFun (congrFun (congrFun (congrFun (congrFun (congrFun (congrFun eL_36 xn) xs) F_144) F_262) (LR xn xs n)) t) v).trans h2)
    by_cases e38 : pc = 1277
    · subst e38
      have h2 : fL_37 xn xs F_145 F_264 (LR xn xs n) t v = some r := (congrFun (congrFun (congrFun (congrFun (congrFun LR_37 xn) xs) n) t) v).symm.trans h
      exact ex_sound (P := P_L) (cut := cutL) (kc := kLw (LR xn xs n)) hC (calOK (d := 1000) (mt := mtab) (rks := rks) (FTok.cons (ok_145 l) (by decide) (FTok.cons (ok_264 l) (by decide) FTok.nil))) (by decide) hR hRm hret rows_L (kLw_ok ih) 400 1277 (L0 v) [] t ((congrFun (congrFun (congrFun (congrFun (congrFun (congrFun (congrFun eL_37 xn) xs) F_145) F_264) (LR xn xs n)) t) v).trans h2)
    by_cases e39 : pc = 1310
    · subst e39
      have h2 : fL_38 xn xs F_146 F_265 (LR xn xs n) t v = some r := (congrFun (congrFun (congrFun (congrFun (congrFun LR_38 xn) xs) n) t) v).symm.trans h
      exact ex_sound (P := P_L) (cut := cutL) (kc := kLw (LR xn xs n)) hC (calOK (d := 1000) (mt := mtab) (rks := rks) (FTok.cons (ok_146 l) (by decide) (FTok.cons (ok_265 l) (by decide) FTok.nil))) (by decide) hR hRm hret rows_L (kLw_ok ih) 400 1310 (L0 v) [] t ((congrFun (congrFun (congrFun (congrFun (congrFun (congrFun (congrFun eL_38 xn) xs) F_146) F_265) (LR xn xs n)) t) v).trans h2)
    by_cases e40 : pc = 1333
    · subst e40
      have h2 : fL_39 xn xs F_147 F_266 (LR xn xs n) t v = some r := (congrFun (congrFun (congrFun (congrFun (congrFun LR_39 xn) xs) n) t) v).symm.trans h
      exact ex_sound (P := P_L) (cut := cutL) (kc := kLw (LR xn xs n)) hC (calOK (d := 1000) (mt := mtab) (rks := rks) (FTok.cons (ok_147 l) (by decide) (FTok.cons (ok_266 l) (by decide) FTok.nil))) (by decide) hR hRm hret rows_L (kLw_ok ih) 400 1333 (L0 v) [] t ((congrFun (congrFun (congrFun (congrFun (congrFun (congrFun (congrFun eL_39 xn) xs) F_147) F_266) (LR xn xs n)) t) v).trans h2)
    by_cases e41 : pc = 1366
    · subst e41
      have h2 : fL_40 xn xs F_148 F_267 (LR xn xs n) t v = some r := (congrFun (congrFun (congrFun (congrFun (congrFun LR_40 xn) xs) n) t) v).symm.trans h
      exact ex_sound (P := P_L) (cut := cutL) (kc := kLw (LR xn xs n)) hC (calOK (d := 1000) (mt := mtab) (rks := rks) (FTok.cons (ok_148 l) (by decide) (FTok.cons (ok_267 l) (by decide) FTok.nil))) (by decide) hR hRm hret rows_L (kLw_ok ih) 400 1366 (L0 v) [] t ((congrFun (congrFun (congrFun (congrFun (congrFun (congrFun (congrFun eL_40 xn) xs) F_148) F_267) (LR xn xs n)) t) v).trans h2)
    by_cases e42 : pc = 1379
    · subst e42
      have h2 : fL_41 xn xs F_149 F_268 (LR xn xs n) t v = some r := (congrFun (congrFun (congrFun (congrFun (congrFun LR_41 xn) xs) n) t) v).symm.trans h
      exact ex_sound (P := P_L) (cut := cutL) (kc := kLw (LR xn xs n)) hC (calOK (d := 1000) (mt := mtab) (rks := rks) (FTok.cons (ok_149 l) (by decide) (FTok.cons (ok_268 l) (by decide) FTok.nil))) (by decide) hR hRm hret rows_L (kLw_ok ih) 400 1379 (L0 v) [] t ((congrFun (congrFun (congrFun (congrFun (congrFun (congrFun (congrFun eL_41 xn) xs) F_149) F_268) (LR xn xs n)) t) v).trans h2)
    by_cases e43 : pc = 1392
    · subst e43
      have h2 : fL_42 xn xs F_150 F_269 (LR xn xs n) t v = some r := (congrFun (congrFun (congrFun (congrFun (congrFun LR_42 xn) xs) n) t) v).symm.trans h
      exact ex_sound (P := P_L) (cut := cutL) (kc := kLw (LR xn xs n)) hC (calOK (d := 1000) (mt := mtab) (rks := rks) (FTok.cons (ok_150 l) (by decide) (FTok.cons (ok_269 l) (by decide) FTok.nil))) (by decide) hR hRm hret rows_L (kLw_ok ih) 400 1392 (L0 v) [] t ((congrFun (congrFun (congrFun (congrFun (congrFun (congrFun (congrFun eL_42 xn) xs) F_150) F_269) (LR xn xs n)) t) v).trans h2)
    by_cases e44 : pc = 1435
    · subst e44
      have h2 : fL_43 xn xs F_151 F_270 (LR xn xs n) t v = some r := (congrFun (congrFun (congrFun (congrFun (congrFun LR_43 xn) xs) n) t) v).symm.trans h
      exact ex_sound (P := P_L) (cut := cutL) (kc := kLw (LR xn xs n)) hC (calOK (d := 1000) (mt := mtab) (rks := rks) (FTok.cons (ok_151 l) (by decide) (FTok.cons (ok_270 l) (by decide) FTok.nil))) (by decide) hR hRm hret rows_L (kLw_ok ih) 400 1435 (L0 v) [] t ((congrFun (congrFun (congrFun (congrFun (congrFun (congrFun (congrFun eL_43 xn) xs) F_151) F_270) (LR xn xs n)) t) v).trans h2)
    by_cases e45 : pc = 1478
    · subst e45
      have h2 : fL_44 xn xs F_152 F_271 (LR xn xs n) t v = some r := (congrFun (congrFun (congrFun (congrFun (congrFun LR_44 xn) xs) n) t) v).symm.trans h
      exact ex_sound (P := P_L) (cut := cutL) (kc := kLw (LR xn xs n)) hC (calOK (d := 1000) (mt := mtab) (rks := rks) (FTok.cons (ok_152 l) (by decide) (FTok.cons (ok_271 l) (by decide) FTok.nil))) (by decide) hR hRm hret rows_L (kLw_ok ih) 400 1478 (L0 v) [] t ((congrFun (congrFun (congrFun (congrFun (congrFun (congrFun (congrFun eL_44 xn) xs) F_152) F_271) (LR xn xs n)) t) v).trans h2)
    by_cases e46 : pc = 1541
    · subst e46
      have h2 : fL_45 xn xs F_153 F_272 (LR xn xs n) t v = some r := (congrFun (congrFun (congrFun (congrFun (congrFun LR_45 xn) xs) n) t) v).symm.trans h
      exact ex_sound (P := P_L) (cut := cutL) (kc := kLw (LR xn xs n)) hC (calOK (d := 1000) (mt := mtab) (rks := rks) (FTok.cons (ok_153 l) (by decide) (FTok.cons (ok_272 l) (by decide) FTok.nil))) (by decide) hR hRm hret rows_L (kLw_ok ih) 400 1541 (L0 v) [] t ((congrFun (congrFun (congrFun (congrFun (congrFun (congrFun (congrFun eL_45 xn) xs) F_153) F_272) (LR xn xs n)) t) v).trans h2)
    by_cases e47 : pc = 1594
    · subst e47
      have h2 : fL_46 xn xs F_154 F_274 (LR xn xs n) t v = some r := (congrFun (congrFun (congrFun (congrFun (congrFun LR_46 xn) xs) n) t) v).symm.trans h
      exact ex_sound (P := P_L) (cut := cutL) (kc := kLw (LR xn xs n)) hC (calOK (d := 1000) (mt := mtab) (rks := rks) (FTok.cons (ok_154 l) (by decide) (FTok.cons (ok_274 l) (by decide) FTok.nil))) (by decide) hR hRm hret rows_L (kLw_ok ih) 400 1594 (L0 v) [] t ((congrFun (congrFun (congrFun (congrFun (congrFun (congrFun (congrFun eL_46 xn) xs) F_154) F_274) (LR xn xs n)) t) v).trans h2)
    exfalso
    unfold LR at h
    rw [if_neg e0, if_neg e1, if_neg e2, if_neg e3, if_neg e4, if_neg e5, if_neg e6, if_neg e7, if_neg e8, if_neg e9, if_neg e10, if_neg e11, if_neg e12, if_neg e13, if_neg e14, if_neg e15, if_neg e16, if_neg e17, if_neg e18, if_neg e19, if_neg e20, if_neg e21, if_neg e22, if_neg e23, if_neg e24, if_neg e25, if_neg e26, if_neg e27, if_neg e28, if_neg e29, if_neg e30, if_neg e31, if_neg e32, if_neg e33, if_neg e34, if_neg e35, if_neg e36, if_neg e37, if_neg e38, if_neg e39, if_neg e40, if_neg e41, if_neg e42, if_neg e43, if_neg e44, if_neg e45, if_neg e46, if_neg e47] at h
    cases h
theorem LR_start (hC : Cx p s m #[Value.ref b] meth c (AS s) X x code 4 (some (xn, xs))) (hr : meth.sig.returnType = ret) (hres : r.1 = some (.int 1)) (hRm : RoomOK room_1 0 0 r) (n : Nat) (h : fL_e xn xs F_107 F_181 (LR xn xs n) = some r) : LW p l e s m below meth c D X b r 0 [(0, .float 200)] [] tB0 := by
  have hR : 1000 ≤ room_1.frames ∧ 64 * 1000 ≤ room_1.locals := ⟨Nat.le_of_ble_eq_true rfl, Nat.le_of_ble_eq_true rfl⟩
  have hret := law_ret (below := below) (D := D) (X := X) (b := b) hC.1 hC.2.1 hr hC.2.2.2.2.2.1 hres hRm (p := p) (l := l) (e := e) (s := s) (m := m)
  exact ex_sound (P := P_L) (cut := cutL) (kc := kLw (LR xn xs n)) hC (calOK (d := 1000) (mt := mtab) (rks := rks) (FTok.cons (ok_107 l) (by decide) (FTok.cons (ok_181 l) (by decide) FTok.nil))) (by decide) hR hRm hret rows_L (kLw_ok (LR_ok hC hr hres hRm n)) 400 0 [(0, .float 200)] [] tB0 ((congrFun (congrFun (congrFun (congrFun (congrFun eL_e xn) xs) F_107) F_181) (LR xn xs n)).trans h)
end
