section
variable {p : Program} {l : Launch} {e : Env} {R : Room} {s : State} {m : MethodId} {args : Array Value} {below : List Frame} {meth : Method} {c : Code} {D : va_G} {A : Nat → Prop} {X : PX} {ws0 : va_W} {nL n0 z0 : Nat} {Q : State → Prop} {r : RR} {scr : Scr} {y : MethodName} {cc : ByteArray}
variable {pc nx i : Nat} {L L2 : LV} {st st2 : List Value} {t : SM} {go : Go}
theorem WSt.free (kk : WSt p l e R s m args below meth c D A X ws0 nL n0 z0 Q r nx L2 st2 t)
    (h : ∀ (H : Heap) (locs : List Loc) (ws : va_W) (cells slots : Nat) (L' : LV) (ls : Array Slot) (st' : List Value), LsRel X ws L L' → lv_has ls nL L' → VsRel X ws st st' →
      (∀ (L2' : LV) (ls2 : Array Slot) (st2' : List Value), LsRel X ws L2 L2' → lv_has ls2 nL L2' → VsRel X ws st2 st2' → W p l e R s m args below meth c H locs cells slots Q (F0 m nx ls2 st2')) → W p l e R s m args below meth c H locs cells slots Q (F0 m pc ls st')) :
    WSt p l e R s m args below meth c D A X ws0 nL n0 z0 Q r pc L st t := by
  refine ⟨kk.1, fun H locs ws tys L' ls st' hS => ?_⟩
  obtain ⟨h1, h2, h3, h4, h5, h6, h7, h8, h9, h10⟩ := hS
  exact h H locs ws _ _ L' ls st' h8 h9 h10 (fun L2' ls2 st2' g1 g2 g3 => kk.2 H locs ws tys L2' ls2 st2' ⟨h1, h2, h3, h4, h5, h6, h7, g1, g2, g3⟩)
theorem LsRel.mk {X : PX} {ws : va_W} {i : Nat} {v v' : Value} {M M' : LV} (h : VRel X ws v v') (g : LsRel X ws M M') : LsRel X ws ((i, v) :: M) ((i, v') :: M') := ⟨⟨rfl, h⟩, g⟩
theorem bG_some {b : Bool} {o : OR} (h : bG b o = some r) : b = true ∧ o = some r := by
  cases b with
  | true => exact ⟨rfl, h⟩
  | false => cases h
theorem okK_int {v : Value} (h : okK 0 v = true) : ∃ x, v = .int x := by
  cases v <;> first | exact ⟨_, rfl⟩ | (simp [okK] at h)
theorem okK_lng {v : Value} (h : okK 1 v = true) : ∃ x, v = .long x := by
  cases v <;> first | exact ⟨_, rfl⟩ | (simp [okK] at h)
theorem okK_ref {v v' : Value} {ws : va_W} (hX : ∀ k v, X k v → v = .null ∨ ∃ a, v = .ref a) (h : okK 2 v = true) (g : VRel X ws v v') : v' = .null ∨ ∃ a, v' = .ref a := by
  cases v with
  | ref k =>
    obtain ⟨a, rfl, -⟩ := g
    exact Or.inr ⟨a, rfl⟩
  | null => exact Or.inl g
  | float k => exact hX k v' g
  | _ => simp [okK] at h
theorem w_load0 (hC : Cx p s m args meth c A X y cc nL scr) (hdg : (∃ k : Fin 4, (k : Nat) = i ∧ decode cc pc = .ok (.iload_n k, 1) ∧ nx = pc + 1) ∨ (decode cc pc = .ok (.iload i, 2) ∧ nx = pc + 2))
    (hgo : ∀ pc' L' st' t', go pc' L' st' t' = some r → WSt p l e R s m args below meth c D A X ws0 nL n0 z0 Q r pc' L' st' t') (h : sLoad go 0 i nx L st t = some r) : WSt p l e R s m args below meth c D A X ws0 nL n0 z0 Q r pc L st t := by
  unfold sLoad at h
  cases hv : lkp i L with
  | none => rw [hv] at h; cases h
  | some v =>
    rw [hv] at h
    · have h : bG (okK 0 v) (go nx L (v :: st) t) = some r := h
      obtain ⟨hk, h⟩ := bG_some h
      obtain ⟨x, rfl⟩ := okK_int hk
      refine (hgo _ _ _ _ h).free (fun H locs ws cells slots L' ls st' hL hl hs k => ?_)
      obtain ⟨v', g1, g2⟩ := lkp_rel hL hv
      cases (show v' = .int x from g2)
      rcases hdg with ⟨k0, h1, h2, rfl⟩ | ⟨h2, rfl⟩
      · exact lv_iload_n hC.1 hC.2.1 h2 h1 (hl.2.2 _ g1) (k L' ls _ hL hl ⟨rfl, hs⟩)
      · exact lv_iload hC.1 hC.2.1 h2 (hl.2.2 _ g1) (k L' ls _ hL hl ⟨rfl, hs⟩)
theorem w_load1 (hC : Cx p s m args meth c A X y cc nL scr) (hdg : (∃ k : Fin 4, (k : Nat) = i ∧ decode cc pc = .ok (.lload_n k, 1) ∧ nx = pc + 1) ∨ (decode cc pc = .ok (.lload i, 2) ∧ nx = pc + 2))
    (hgo : ∀ pc' L' st' t', go pc' L' st' t' = some r → WSt p l e R s m args below meth c D A X ws0 nL n0 z0 Q r pc' L' st' t') (h : sLoad go 1 i nx L st t = some r) : WSt p l e R s m args below meth c D A X ws0 nL n0 z0 Q r pc L st t := by
  unfold sLoad at h
  cases hv : lkp i L with
  | none => rw [hv] at h; cases h
  | some v =>
    rw [hv] at h
    · have h : bG (okK 1 v) (go nx L (v :: st) t) = some r := h
      obtain ⟨hk, h⟩ := bG_some h
      obtain ⟨x, rfl⟩ := okK_lng hk
      refine (hgo _ _ _ _ h).free (fun H locs ws cells slots L' ls st' hL hl hs k => ?_)
      obtain ⟨v', g1, g2⟩ := lkp_rel hL hv
      cases (show v' = .long x from g2)
      rcases hdg with ⟨k0, h1, h2, rfl⟩ | ⟨h2, rfl⟩
      · exact lv_lload_n hC.1 hC.2.1 h2 h1 (hl.2.2 _ g1) (k L' ls _ hL hl ⟨rfl, hs⟩)
      · exact lv_lload hC.1 hC.2.1 h2 (hl.2.2 _ g1) (k L' ls _ hL hl ⟨rfl, hs⟩)
theorem w_load2 (hC : Cx p s m args meth c A X y cc nL scr) (hdg : (∃ k : Fin 4, (k : Nat) = i ∧ decode cc pc = .ok (.aload_n k, 1) ∧ nx = pc + 1) ∨ (decode cc pc = .ok (.aload i, 2) ∧ nx = pc + 2))
    (hgo : ∀ pc' L' st' t', go pc' L' st' t' = some r → WSt p l e R s m args below meth c D A X ws0 nL n0 z0 Q r pc' L' st' t') (h : sLoad go 2 i nx L st t = some r) : WSt p l e R s m args below meth c D A X ws0 nL n0 z0 Q r pc L st t := by
  have hX := hC.2.2.2.2.2.2.2.2.1.2.2.2.1
  unfold sLoad at h
  cases hv : lkp i L with
  | none => rw [hv] at h; cases h
  | some v =>
    rw [hv] at h
    · have h : bG (okK 2 v) (go nx L (v :: st) t) = some r := h
      obtain ⟨hk, h⟩ := bG_some h
      refine (hgo _ _ _ _ h).free (fun H locs ws cells slots L' ls st' hL hl hs k => ?_)
      obtain ⟨v', g1, g2⟩ := lkp_rel hL hv
      have k2 := k L' ls (v' :: st') hL hl ⟨g2, hs⟩
      rcases okK_ref hX hk g2 with rfl | ⟨a, rfl⟩
      · rcases hdg with ⟨k0, h1, h2, rfl⟩ | ⟨h2, rfl⟩
        · exact lv_aload_nN hC.1 hC.2.1 h2 h1 (hl.2.2 _ g1) k2
        · exact lv_aloadN hC.1 hC.2.1 h2 (hl.2.2 _ g1) k2
      · rcases hdg with ⟨k0, h1, h2, rfl⟩ | ⟨h2, rfl⟩
        · exact lv_aload_n hC.1 hC.2.1 h2 h1 (hl.2.2 _ g1) k2
        · exact lv_aload hC.1 hC.2.1 h2 (hl.2.2 _ g1) k2
theorem w_store0 (hC : Cx p s m args meth c A X y cc nL scr) (hdg : (∃ k : Fin 4, (k : Nat) = i ∧ decode cc pc = .ok (.istore_n k, 1) ∧ nx = pc + 1) ∨ (decode cc pc = .ok (.istore i, 2) ∧ nx = pc + 2))
    (hgo : ∀ pc' L' st' t', go pc' L' st' t' = some r → WSt p l e R s m args below meth c D A X ws0 nL n0 z0 Q r pc' L' st' t') (h : sStore go 0 nL i nx L st t = some r) : WSt p l e R s m args below meth c D A X ws0 nL n0 z0 Q r pc L st t := by
  have hX := hC.2.2.2.2.2.2.2.2.1.2.2.2.1
  cases st with
  | nil => cases h
  | cons v rest =>
    obtain ⟨hb, h⟩ := bG_some h
    simp only [Bool.and_eq_true] at hb
    obtain ⟨x, rfl⟩ := okK_int hb.1
    have hlt : i < nL := Nat.lt_of_lt_of_le (Nat.lt_succ_self i) (Nat.le_of_ble_eq_true hb.2)
    have hlt2 : i < nL := hlt
    have hM : mN t ≤ mN r.2 ∧ mZ t ≤ mZ r.2 := by
      have hh : ∃ M, go nx ((i, .int x) :: M) rest t = some r := by
        clear hb
        exact (show ∀ (L : LV) (k : LV → OR), filtC (keep1 i) k L = some r → ∃ M, k M = some r by
          intro L
          induction L with
          | nil => exact fun k h => ⟨[], h⟩
          | cons q l ih =>
            intro k h
            unfold filtC at h
            cases hq : keep1 i q with
            | true =>
              rw [hq] at h
              obtain ⟨M, g⟩ := ih _ h
              exact ⟨_, g⟩
            | false =>
              rw [hq] at h
              exact ih _ h) L _ h
      obtain ⟨M, g⟩ := hh
      exact (hgo _ _ _ _ g).1
    refine ⟨hM, fun H locs ws tys L' ls st' hS => ?_⟩
    obtain ⟨h1, h2, h3, h4, h5, h6, h7, h8, h9, h10⟩ := hS
    obtain ⟨st'', rfl, hs⟩ := h10.int
    obtain ⟨M, g1, g2⟩ := filtC_rel (keep1_rel hX i) h8 h
    have k2 := (hgo _ _ _ _ g1).2
    rcases hdg with ⟨k0, e1, e2, rfl⟩ | ⟨e2, rfl⟩
    · exact lv_istore_n hC.1 hC.2.1 e2 e1 h9 hlt rfl (fun ls' hl' => k2 H locs ws tys _ ls' st'' ⟨h1, h2, h3, h4, h5, h6, h7, LsRel.mk rfl g2, hl', hs⟩)
    · exact lv_istore hC.1 hC.2.1 e2 h9 hlt rfl (fun ls' hl' => k2 H locs ws tys _ ls' st'' ⟨h1, h2, h3, h4, h5, h6, h7, LsRel.mk rfl g2, hl', hs⟩)
theorem filtC_any {f : Nat × Value → Bool} : ∀ (L : LV) (k : LV → OR), filtC f k L = some r → ∃ M, k M = some r := by
  intro L
  induction L with
  | nil => exact fun k h => ⟨[], h⟩
  | cons q l ih =>
    intro k h
    unfold filtC at h
    cases hq : f q with
    | true =>
      rw [hq] at h
      obtain ⟨M, g⟩ := ih _ h
      exact ⟨_, g⟩
    | false =>
      rw [hq] at h
      exact ih _ h
theorem w_store2 (hC : Cx p s m args meth c A X y cc nL scr) (hdg : (∃ k : Fin 4, (k : Nat) = i ∧ decode cc pc = .ok (.astore_n k, 1) ∧ nx = pc + 1) ∨ (decode cc pc = .ok (.astore i, 2) ∧ nx = pc + 2))
    (hgo : ∀ pc' L' st' t', go pc' L' st' t' = some r → WSt p l e R s m args below meth c D A X ws0 nL n0 z0 Q r pc' L' st' t') (h : sStore go 2 nL i nx L st t = some r) : WSt p l e R s m args below meth c D A X ws0 nL n0 z0 Q r pc L st t := by
  have hX := hC.2.2.2.2.2.2.2.2.1.2.2.2.1
  cases st with
  | nil => cases h
  | cons v rest =>
    obtain ⟨hb, h⟩ := bG_some h
    simp only [Bool.and_eq_true] at hb
    have hlt : i < nL := Nat.lt_of_lt_of_le (Nat.lt_succ_self i) (Nat.le_of_ble_eq_true hb.2)
    have hM : mN t ≤ mN r.2 ∧ mZ t ≤ mZ r.2 := by
      obtain ⟨M, g⟩ := filtC_any _ _ h
      exact (hgo _ _ _ _ g).1
    refine ⟨hM, fun H locs ws tys L' ls st' hS => ?_⟩
    obtain ⟨h1, h2, h3, h4, h5, h6, h7, h8, h9, h10⟩ := hS
    obtain ⟨v', st'', rfl, hv, hs⟩ := h10.cons
    obtain ⟨M, g1, g2⟩ := filtC_rel (keep1_rel hX i) h8 h
    have k2 := (hgo _ _ _ _ g1).2
    rcases okK_ref hX hb.1 hv with rfl | ⟨a, rfl⟩
    · rcases hdg with ⟨k0, e1, e2, rfl⟩ | ⟨e2, rfl⟩
      · exact lv_astore_nN hC.1 hC.2.1 e2 e1 h9 hlt rfl (fun ls' hl' => k2 H locs ws tys _ ls' st'' ⟨h1, h2, h3, h4, h5, h6, h7, LsRel.mk hv g2, hl', hs⟩)
      · exact lv_astoreN hC.1 hC.2.1 e2 h9 hlt rfl (fun ls' hl' => k2 H locs ws tys _ ls' st'' ⟨h1, h2, h3, h4, h5, h6, h7, LsRel.mk hv g2, hl', hs⟩)
    · rcases hdg with ⟨k0, e1, e2, rfl⟩ | ⟨e2, rfl⟩
      · exact lv_astore_n hC.1 hC.2.1 e2 e1 h9 hlt rfl (fun ls' hl' => k2 H locs ws tys _ ls' st'' ⟨h1, h2, h3, h4, h5, h6, h7, LsRel.mk hv g2, hl', hs⟩)
      · exact lv_astore hC.1 hC.2.1 e2 h9 hlt rfl (fun ls' hl' => k2 H locs ws tys _ ls' st'' ⟨h1, h2, h3, h4, h5, h6, h7, LsRel.mk hv g2, hl', hs⟩)
theorem w_store1 (hC : Cx p s m args meth c A X y cc nL scr) (hdg : (∃ k : Fin 4, (k : Nat) = i ∧ decode cc pc = .ok (.lstore_n k, 1) ∧ nx = pc + 1) ∨ (decode cc pc = .ok (.lstore i, 2) ∧ nx = pc + 2))
    (hgo : ∀ pc' L' st' t', go pc' L' st' t' = some r → WSt p l e R s m args below meth c D A X ws0 nL n0 z0 Q r pc' L' st' t') (h : sStore2 go nL i nx L st t = some r) : WSt p l e R s m args below meth c D A X ws0 nL n0 z0 Q r pc L st t := by
  have hX := hC.2.2.2.2.2.2.2.2.1.2.2.2.1
  cases st with
  | nil => cases h
  | cons v rest =>
    obtain ⟨hb, h⟩ := bG_some h
    simp only [Bool.and_eq_true] at hb
    obtain ⟨x, rfl⟩ := okK_lng hb.1
    have hlt : i + 1 < nL := Nat.lt_of_lt_of_le (Nat.lt_succ_self (i + 1)) (Nat.le_of_ble_eq_true hb.2)
    have hM : mN t ≤ mN r.2 ∧ mZ t ≤ mZ r.2 := by
      obtain ⟨M, g⟩ := filtC_any _ _ h
      exact (hgo _ _ _ _ g).1
    refine ⟨hM, fun H locs ws tys L' ls st' hS => ?_⟩
    obtain ⟨h1, h2, h3, h4, h5, h6, h7, h8, h9, h10⟩ := hS
    obtain ⟨st'', rfl, hs⟩ := h10.lng
    obtain ⟨M, g1, g2⟩ := filtC_rel (keep2_rel hX i) h8 h
    have k2 := (hgo _ _ _ _ g1).2
    rcases hdg with ⟨k0, e1, e2, rfl⟩ | ⟨e2, rfl⟩
    · exact lv_lstore_n hC.1 hC.2.1 e2 e1 h9 hlt rfl (fun ls' hl' => k2 H locs ws tys _ ls' st'' ⟨h1, h2, h3, h4, h5, h6, h7, LsRel.mk rfl g2, hl', hs⟩)
    · exact lv_lstore hC.1 hC.2.1 e2 h9 hlt rfl (fun ls' hl' => k2 H locs ws tys _ ls' st'' ⟨h1, h2, h3, h4, h5, h6, h7, LsRel.mk rfl g2, hl', hs⟩)
theorem w_inc {n : Int} (hC : Cx p s m args meth c A X y cc nL scr) (hdg : decode cc pc = .ok (.iinc i n, 3)) (hnx : nx = pc + 3)
    (hgo : ∀ pc' L' st' t', go pc' L' st' t' = some r → WSt p l e R s m args below meth c D A X ws0 nL n0 z0 Q r pc' L' st' t') (h : sInc go nL i n nx L st t = some r) : WSt p l e R s m args below meth c D A X ws0 nL n0 z0 Q r pc L st t := by
  have hX := hC.2.2.2.2.2.2.2.2.1.2.2.2.1
  unfold sInc at h
  split at h
  case h_2 => cases h
  case h_1 _ x hv =>
    obtain ⟨hb, h⟩ := bG_some h
    have hlt : i < nL := Nat.lt_of_lt_of_le (Nat.lt_succ_self i) (Nat.le_of_ble_eq_true hb)
    have hM : mN t ≤ mN r.2 ∧ mZ t ≤ mZ r.2 := by
      obtain ⟨M, g⟩ := filtC_any _ _ h
      exact (hgo _ _ _ _ g).1
    refine ⟨hM, fun H locs ws tys L' ls st' hS => ?_⟩
    obtain ⟨h1, h2, h3, h4, h5, h6, h7, h8, h9, h10⟩ := hS
    obtain ⟨v', f1, f2⟩ := lkp_rel h8 hv
    cases (show v' = .int x from f2)
    obtain ⟨k0, hk0⟩ := List.getElem?_of_mem f1
    obtain ⟨M, g1, g2⟩ := filtC_rel (keep1_rel hX i) h8 h
    have k2 := (hgo _ _ _ _ g1).2
    subst hnx
    exact lv_iinc hC.1 hC.2.1 hdg h9 (k := k0) hk0 rfl hlt rfl (fun ls' hl' => k2 H locs ws tys _ ls' st' ⟨h1, h2, h3, h4, h5, h6, h7, LsRel.mk rfl g2, hl', h10⟩)
end
