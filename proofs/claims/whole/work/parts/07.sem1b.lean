section
variable {p : Program} {l : Launch} {e : Env} {R : Room} {s : State} {m : MethodId} {args : Array Value} {below : List Frame} {meth : Method} {c : Code} {D : va_G} {A : Nat → Prop} {X : PX} {ws0 : va_W} {nL n0 z0 : Nat} {Q : State → Prop} {r : RR} {scr : Scr} {y : MethodName} {cc : ByteArray}
variable {pc nx i : Nat} {L L2 : LV} {st st2 : List Value} {t : SM} {go : Go}
def lenOf : Instr → Nat
  | .bipush _ => 2
  | .sipush _ => 3
  | .iload _ => 2
  | .lload _ => 2
  | .aload _ => 2
  | .istore _ => 2
  | .lstore _ => 2
  | .astore _ => 2
  | .iinc _ _ => 3
  | .goto _ => 3
  | .ifCond _ _ => 3
  | .if_icmp _ _ => 3
  | .ifnull _ => 3
  | .ifnonnull _ => 3
  | .getfield _ => 3
  | .putfield _ => 3
  | .new _ => 3
  | .newarray _ => 2
  | .anewarray _ => 3
  | .invokevirtual _ => 3
  | .invokespecial _ => 3
  | .invokestatic _ => 3
  | .ldc _ => 2
  | .ldc_w _ => 3
  | .ldc2_w _ => 3
  | .getstatic _ => 3
  | .checkcast _ => 3
  | _ => 1
theorem w_sI2 {f : Int32 → Int32 → Int32} (hW : ∀ (H : Heap) (locs : List Loc) (cells slots : Nat) (ls : Array Slot) (y : Int32) (x : Int32) (rest : List Value), W p l e R s m args below meth c H locs cells slots Q (F0 m nx ls (.int (f x y) :: rest)) → W p l e R s m args below meth c H locs cells slots Q (F0 m pc ls (.int y :: .int x :: rest))) (hgo : ∀ pc' L' st' t', go pc' L' st' t' = some r → WSt p l e R s m args below meth c D A X ws0 nL n0 z0 Q r pc' L' st' t') (h : sI2 go f nx L st t = some r) : WSt p l e R s m args below meth c D A X ws0 nL n0 z0 Q r pc L st t := by
  unfold sI2 at h
  split at h
  · rename_i y x rest
    refine (hgo _ _ _ _ h).free (fun H locs ws cells slots L' ls st' hL hl hs k => ?_)
    obtain ⟨st0, rfl, hs0⟩ := hs.int
    obtain ⟨st1, rfl, hs1⟩ := hs0.int
    exact hW H locs cells slots ls y x _ (k L' ls _ hL hl ⟨rfl, hs1⟩)
  · cases h
theorem w_sL2 {f : Int64 → Int64 → Int64} (hW : ∀ (H : Heap) (locs : List Loc) (cells slots : Nat) (ls : Array Slot) (y : Int64) (x : Int64) (rest : List Value), W p l e R s m args below meth c H locs cells slots Q (F0 m nx ls (.long (f x y) :: rest)) → W p l e R s m args below meth c H locs cells slots Q (F0 m pc ls (.long y :: .long x :: rest))) (hgo : ∀ pc' L' st' t', go pc' L' st' t' = some r → WSt p l e R s m args below meth c D A X ws0 nL n0 z0 Q r pc' L' st' t') (h : sL2 go f nx L st t = some r) : WSt p l e R s m args below meth c D A X ws0 nL n0 z0 Q r pc L st t := by
  unfold sL2 at h
  split at h
  · rename_i y x rest
    refine (hgo _ _ _ _ h).free (fun H locs ws cells slots L' ls st' hL hl hs k => ?_)
    obtain ⟨st0, rfl, hs0⟩ := hs.lng
    obtain ⟨st1, rfl, hs1⟩ := hs0.lng
    exact hW H locs cells slots ls y x _ (k L' ls _ hL hl ⟨rfl, hs1⟩)
  · cases h
theorem w_sLS {f : Int64 → Int32 → Int64} (hW : ∀ (H : Heap) (locs : List Loc) (cells slots : Nat) (ls : Array Slot) (y : Int32) (x : Int64) (rest : List Value), W p l e R s m args below meth c H locs cells slots Q (F0 m nx ls (.long (f x y) :: rest)) → W p l e R s m args below meth c H locs cells slots Q (F0 m pc ls (.int y :: .long x :: rest))) (hgo : ∀ pc' L' st' t', go pc' L' st' t' = some r → WSt p l e R s m args below meth c D A X ws0 nL n0 z0 Q r pc' L' st' t') (h : sLS go f nx L st t = some r) : WSt p l e R s m args below meth c D A X ws0 nL n0 z0 Q r pc L st t := by
  unfold sLS at h
  split at h
  · rename_i y x rest
    refine (hgo _ _ _ _ h).free (fun H locs ws cells slots L' ls st' hL hl hs k => ?_)
    obtain ⟨st0, rfl, hs0⟩ := hs.int
    obtain ⟨st1, rfl, hs1⟩ := hs0.lng
    exact hW H locs cells slots ls y x _ (k L' ls _ hL hl ⟨rfl, hs1⟩)
  · cases h
theorem w_sI1 {f : Int32 → Value} (hf : ∀ (x : Int32) {ws : va_W}, VRel X ws (f x) (f x)) (hW : ∀ (H : Heap) (locs : List Loc) (cells slots : Nat) (ls : Array Slot) (x : Int32) (rest : List Value), W p l e R s m args below meth c H locs cells slots Q (F0 m nx ls (f x :: rest)) → W p l e R s m args below meth c H locs cells slots Q (F0 m pc ls (.int x :: rest))) (hgo : ∀ pc' L' st' t', go pc' L' st' t' = some r → WSt p l e R s m args below meth c D A X ws0 nL n0 z0 Q r pc' L' st' t') (h : sI1 go f nx L st t = some r) : WSt p l e R s m args below meth c D A X ws0 nL n0 z0 Q r pc L st t := by
  unfold sI1 at h
  split at h
  · rename_i x rest
    refine (hgo _ _ _ _ h).free (fun H locs ws cells slots L' ls st' hL hl hs k => ?_)
    obtain ⟨st0, rfl, hs0⟩ := hs.int
    exact hW H locs cells slots ls x _ (k L' ls _ hL hl ⟨hf x, hs0⟩)
  · cases h
theorem w_sL1 {f : Int64 → Value} (hf : ∀ (x : Int64) {ws : va_W}, VRel X ws (f x) (f x)) (hW : ∀ (H : Heap) (locs : List Loc) (cells slots : Nat) (ls : Array Slot) (x : Int64) (rest : List Value), W p l e R s m args below meth c H locs cells slots Q (F0 m nx ls (f x :: rest)) → W p l e R s m args below meth c H locs cells slots Q (F0 m pc ls (.long x :: rest))) (hgo : ∀ pc' L' st' t', go pc' L' st' t' = some r → WSt p l e R s m args below meth c D A X ws0 nL n0 z0 Q r pc' L' st' t') (h : sL1 go f nx L st t = some r) : WSt p l e R s m args below meth c D A X ws0 nL n0 z0 Q r pc L st t := by
  unfold sL1 at h
  split at h
  · rename_i x rest
    refine (hgo _ _ _ _ h).free (fun H locs ws cells slots L' ls st' hL hl hs k => ?_)
    obtain ⟨st0, rfl, hs0⟩ := hs.lng
    exact hW H locs cells slots ls x _ (k L' ls _ hL hl ⟨hf x, hs0⟩)
  · cases h
theorem isLng_cat {v v' : Value} {ws : va_W} (hX : ∀ k v, X k v → v = .null ∨ ∃ a, v = .ref a) (h : (!isLng v) = true) (g : VRel X ws v v') : v'.category = 1 := by
  rw [← g.cat hX]
  cases v <;> first | rfl | (simp [isLng] at h)
theorem w_dup (hC : Cx p s m args meth c A X y cc nL scr) (hdg : decode cc pc = .ok (.dup, 1)) (hnx : nx = pc + 1) (hgo : ∀ pc' L' st' t', go pc' L' st' t' = some r → WSt p l e R s m args below meth c D A X ws0 nL n0 z0 Q r pc' L' st' t') (h : sDup go nx L st t = some r) : WSt p l e R s m args below meth c D A X ws0 nL n0 z0 Q r pc L st t := by
  have hX := hC.2.2.2.2.2.2.2.2.1.2.2.2.1
  cases st with
  | nil => cases h
  | cons v rest =>
    obtain ⟨hb, h⟩ := bG_some h
    subst hnx
    refine (hgo _ _ _ _ h).free (fun H locs ws cells slots L' ls st' hL hl hs k => ?_)
    obtain ⟨v', st'', rfl, g1, g2⟩ := hs.cons
    exact lv_dup hC.1 hC.2.1 hdg (isLng_cat hX hb g1) (k L' ls _ hL hl ⟨g1, g1, g2⟩)
theorem w_pop (hC : Cx p s m args meth c A X y cc nL scr) (hdg : decode cc pc = .ok (.pop, 1)) (hnx : nx = pc + 1) (hgo : ∀ pc' L' st' t', go pc' L' st' t' = some r → WSt p l e R s m args below meth c D A X ws0 nL n0 z0 Q r pc' L' st' t') (h : sPop go nx L st t = some r) : WSt p l e R s m args below meth c D A X ws0 nL n0 z0 Q r pc L st t := by
  have hX := hC.2.2.2.2.2.2.2.2.1.2.2.2.1
  cases st with
  | nil => cases h
  | cons v rest =>
    obtain ⟨hb, h⟩ := bG_some h
    subst hnx
    refine (hgo _ _ _ _ h).free (fun H locs ws cells slots L' ls st' hL hl hs k => ?_)
    obtain ⟨v', st'', rfl, g1, g2⟩ := hs.cons
    exact lv_pop hC.1 hC.2.1 hdg (isLng_cat hX hb g1) (k L' ls _ hL hl g2)
theorem w_dup2 (hC : Cx p s m args meth c A X y cc nL scr) (hdg : decode cc pc = .ok (.dup2, 1)) (hnx : nx = pc + 1) (hgo : ∀ pc' L' st' t', go pc' L' st' t' = some r → WSt p l e R s m args below meth c D A X ws0 nL n0 z0 Q r pc' L' st' t') (h : sDup2 go nx L st t = some r) : WSt p l e R s m args below meth c D A X ws0 nL n0 z0 Q r pc L st t := by
  have hX := hC.2.2.2.2.2.2.2.2.1.2.2.2.1
  unfold sDup2 at h
  split at h
  · rename_i v w rest
    obtain ⟨hb, h⟩ := bG_some h
    simp only [Bool.and_eq_true] at hb
    subst hnx
    refine (hgo _ _ _ _ h).free (fun H locs ws cells slots L' ls st' hL hl hs k => ?_)
    obtain ⟨v', st'', rfl, g1, g2⟩ := hs.cons
    obtain ⟨w', st3, rfl, g3, g4⟩ := g2.cons
    exact lv_dup2_11 hC.1 hC.2.1 hdg (isLng_cat hX hb.1 g1) (isLng_cat hX hb.2 g3) (k L' ls _ hL hl ⟨g1, g3, g1, g3, g4⟩)
  · cases h
theorem sem1_sound (hC : Cx p s m args meth c A X y cc nL scr) {ins : Instr} {aux : List Nat} (hdg : decode cc pc = .ok (ins, lenOf ins)) (hnx : nx = pc + lenOf ins) (hgt : ∀ off, ins = .goto off → (pc : Int) + off = (aux0 aux : Int))
    (hgo : ∀ pc' L' st' t', go pc' L' st' t' = some r → WSt p l e R s m args below meth c D A X ws0 nL n0 z0 Q r pc' L' st' t') {rest : OR} (hrest : rest = some r → WSt p l e R s m args below meth c D A X ws0 nL n0 z0 Q r pc L st t) (h : sem1 nL go ins nx aux L st t rest = some r) : WSt p l e R s m args below meth c D A X ws0 nL n0 z0 Q r pc L st t := by
  have x1 := hC.1
  have x2 := hC.2.1
  unfold sem1 at h
  split at h
  · subst hnx; exact (hgo _ _ _ _ h).free (fun H locs ws cells slots L' ls st' hL hl hs k => lv_iconst x1 x2 hdg rfl (k L' ls _ hL hl ⟨rfl, hs⟩))
  · subst hnx; exact (hgo _ _ _ _ h).free (fun H locs ws cells slots L' ls st' hL hl hs k => lv_bipush x1 x2 hdg rfl (k L' ls _ hL hl ⟨rfl, hs⟩))
  · subst hnx; exact (hgo _ _ _ _ h).free (fun H locs ws cells slots L' ls st' hL hl hs k => lv_sipush x1 x2 hdg rfl (k L' ls _ hL hl ⟨rfl, hs⟩))
  · subst hnx; exact (hgo _ _ _ _ h).free (fun H locs ws cells slots L' ls st' hL hl hs k => lv_lconst x1 x2 hdg rfl (k L' ls _ hL hl ⟨rfl, hs⟩))
  · rename_i k; exact w_load0 hC (Or.inl ⟨k, rfl, hdg, hnx⟩) hgo h
  · exact w_load0 hC (Or.inr ⟨hdg, hnx⟩) hgo h
  · rename_i k; exact w_load1 hC (Or.inl ⟨k, rfl, hdg, hnx⟩) hgo h
  · exact w_load1 hC (Or.inr ⟨hdg, hnx⟩) hgo h
  · rename_i k; exact w_load2 hC (Or.inl ⟨k, rfl, hdg, hnx⟩) hgo h
  · exact w_load2 hC (Or.inr ⟨hdg, hnx⟩) hgo h
  · rename_i k; exact w_store0 hC (Or.inl ⟨k, rfl, hdg, hnx⟩) hgo h
  · exact w_store0 hC (Or.inr ⟨hdg, hnx⟩) hgo h
  · rename_i k; exact w_store1 hC (Or.inl ⟨k, rfl, hdg, hnx⟩) hgo h
  · exact w_store1 hC (Or.inr ⟨hdg, hnx⟩) hgo h
  · rename_i k; exact w_store2 hC (Or.inl ⟨k, rfl, hdg, hnx⟩) hgo h
  · exact w_store2 hC (Or.inr ⟨hdg, hnx⟩) hgo h
  · exact w_inc hC hdg hnx hgo h
  · subst hnx; exact w_sI2 (fun H locs cells slots ls y x rest k => lv_iadd x1 x2 hdg k) hgo h
  · subst hnx; exact w_sI2 (fun H locs cells slots ls y x rest k => lv_isub x1 x2 hdg k) hgo h
  · subst hnx; exact w_sI2 (fun H locs cells slots ls y x rest k => lv_imul x1 x2 hdg k) hgo h
  · subst hnx; exact w_sI2 (fun H locs cells slots ls y x rest k => lv_iand x1 x2 hdg k) hgo h
  · subst hnx; exact w_sI2 (fun H locs cells slots ls y x rest k => lv_ior x1 x2 hdg k) hgo h
  · subst hnx; exact w_sI2 (fun H locs cells slots ls y x rest k => lv_ixor x1 x2 hdg k) hgo h
  · subst hnx; exact w_sI2 (fun H locs cells slots ls y x rest k => lv_ishl x1 x2 hdg k) hgo h
  · subst hnx; exact w_sI2 (fun H locs cells slots ls y x rest k => lv_ishr x1 x2 hdg k) hgo h
  · subst hnx; exact w_sI2 (fun H locs cells slots ls y x rest k => lv_iushr x1 x2 hdg rfl k) hgo h
  · subst hnx; exact w_sI1 (by intro x ws; exact rfl) (fun H locs cells slots ls x rest k => lv_ineg x1 x2 hdg k) hgo h
  · subst hnx; exact w_sL2 (fun H locs cells slots ls y x rest k => lv_ladd x1 x2 hdg k) hgo h
  · subst hnx; exact w_sL2 (fun H locs cells slots ls y x rest k => lv_lmul x1 x2 hdg k) hgo h
  · subst hnx; exact w_sL2 (fun H locs cells slots ls y x rest k => lv_land x1 x2 hdg k) hgo h
  · subst hnx; exact w_sL2 (fun H locs cells slots ls y x rest k => lv_lor x1 x2 hdg k) hgo h
  · subst hnx; exact w_sLS (fun H locs cells slots ls y x rest k => lv_lshl x1 x2 hdg rfl k) hgo h
  · subst hnx; exact w_sLS (fun H locs cells slots ls y x rest k => lv_lshr x1 x2 hdg rfl k) hgo h
  · subst hnx; exact w_sI1 (by intro x ws; exact rfl) (fun H locs cells slots ls x rest k => lv_i2l x1 x2 hdg rfl k) hgo h
  · subst hnx; exact w_sL1 (by intro x ws; exact rfl) (fun H locs cells slots ls x rest k => lv_l2i x1 x2 hdg rfl k) hgo h
  · subst hnx; exact w_sI1 (by intro x ws; exact rfl) (fun H locs cells slots ls x rest k => lv_i2b x1 x2 hdg rfl k) hgo h
  · subst hnx; exact w_sI1 (by intro x ws; exact rfl) (fun H locs cells slots ls x rest k => lv_i2s x1 x2 hdg rfl k) hgo h
  · subst hnx; exact w_sI1 (by intro x ws; exact rfl) (fun H locs cells slots ls x rest k => lv_i2c x1 x2 hdg rfl k) hgo h
  · exact w_dup hC hdg hnx hgo h
  · exact w_dup2 hC hdg hnx hgo h
  · exact w_pop hC hdg hnx hgo h
  · rename_i off; exact (hgo _ _ _ _ h).free (fun H locs ws cells slots L' ls st' hL hl hs k => lv_goto x1 x2 hdg (hgt off rfl) (k L' ls _ hL hl hs))
  · subst hnx; exact (hgo _ _ _ _ h).free (fun H locs ws cells slots L' ls st' hL hl hs k => lv_null x1 x2 hdg (k L' ls _ hL hl ⟨rfl, hs⟩))
  · exact hrest h
end
