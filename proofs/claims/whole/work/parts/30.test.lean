/-! java/lang/Integer.bitCount(I)I -/
def fjI_bitCount (t : SM) (a : Int32) : OR :=
  rI ((((((((a - (((Int32.toUInt32 a >>> (Int32.toUInt32 1 &&& Int32.toUInt32 31)).toInt32) &&& 1431655765)) &&& 858993459) + (((Int32.toUInt32 (a - (((Int32.toUInt32 a >>> (Int32.toUInt32 1 &&& Int32.toUInt32 31)).toInt32) &&& 1431655765)) >>> (Int32.toUInt32 2 &&& Int32.toUInt32 31)).toInt32) &&& 858993459)) + ((Int32.toUInt32 (((a - (((Int32.toUInt32 a >>> (Int32.toUInt32 1 &&& Int32.toUInt32 31)).toInt32) &&& 1431655765)) &&& 858993459) + (((Int32.toUInt32 (a - (((Int32.toUInt32 a >>> (Int32.toUInt32 1 &&& Int32.toUInt32 31)).toInt32) &&& 1431655765)) >>> (Int32.toUInt32 2 &&& Int32.toUInt32 31)).toInt32) &&& 858993459)) >>> (Int32.toUInt32 4 &&& Int32.toUInt32 31)).toInt32)) &&& 252645135) + ((Int32.toUInt32 (((((a - (((Int32.toUInt32 a >>> (Int32.toUInt32 1 &&& Int32.toUInt32 31)).toInt32) &&& 1431655765)) &&& 858993459) + (((Int32.toUInt32 (a - (((Int32.toUInt32 a >>> (Int32.toUInt32 1 &&& Int32.toUInt32 31)).toInt32) &&& 1431655765)) >>> (Int32.toUInt32 2 &&& Int32.toUInt32 31)).toInt32) &&& 858993459)) + ((Int32.toUInt32 (((a - (((Int32.toUInt32 a >>> (Int32.toUInt32 1 &&& Int32.toUInt32 31)).toInt32) &&& 1431655765)) &&& 858993459) + (((Int32.toUInt32 (a - (((Int32.toUInt32 a >>> (Int32.toUInt32 1 &&& Int32.toUInt32 31)).toInt32) &&& 1431655765)) >>> (Int32.toUInt32 2 &&& Int32.toUInt32 31)).toInt32) &&& 858993459)) >>> (Int32.toUInt32 4 &&& Int32.toUInt32 31)).toInt32)) &&& 252645135) >>> (Int32.toUInt32 8 &&& Int32.toUInt32 31)).toInt32)) + ((Int32.toUInt32 ((((((a - (((Int32.toUInt32 a >>> (Int32.toUInt32 1 &&& Int32.toUInt32 31)).toInt32) &&& 1431655765)) &&& 858993459) + (((Int32.toUInt32 (a - (((Int32.toUInt32 a >>> (Int32.toUInt32 1 &&& Int32.toUInt32 31)).toInt32) &&& 1431655765)) >>> (Int32.toUInt32 2 &&& Int32.toUInt32 31)).toInt32) &&& 858993459)) + ((Int32.toUInt32 (((a - (((Int32.toUInt32 a >>> (Int32.toUInt32 1 &&& Int32.toUInt32 31)).toInt32) &&& 1431655765)) &&& 858993459) + (((Int32.toUInt32 (a - (((Int32.toUInt32 a >>> (Int32.toUInt32 1 &&& Int32.toUInt32 31)).toInt32) &&& 1431655765)) >>> (Int32.toUInt32 2 &&& Int32.toUInt32 31)).toInt32) &&& 858993459)) >>> (Int32.toUInt32 4 &&& Int32.toUInt32 31)).toInt32)) &&& 252645135) + ((Int32.toUInt32 (((((a - (((Int32.toUInt32 a >>> (Int32.toUInt32 1 &&& Int32.toUInt32 31)).toInt32) &&& 1431655765)) &&& 858993459) + (((Int32.toUInt32 (a - (((Int32.toUInt32 a >>> (Int32.toUInt32 1 &&& Int32.toUInt32 31)).toInt32) &&& 1431655765)) >>> (Int32.toUInt32 2 &&& Int32.toUInt32 31)).toInt32) &&& 858993459)) + ((Int32.toUInt32 (((a - (((Int32.toUInt32 a >>> (Int32.toUInt32 1 &&& Int32.toUInt32 31)).toInt32) &&& 1431655765)) &&& 858993459) + (((Int32.toUInt32 (a - (((Int32.toUInt32 a >>> (Int32.toUInt32 1 &&& Int32.toUInt32 31)).toInt32) &&& 1431655765)) >>> (Int32.toUInt32 2 &&& Int32.toUInt32 31)).toInt32) &&& 858993459)) >>> (Int32.toUInt32 4 &&& Int32.toUInt32 31)).toInt32)) &&& 252645135) >>> (Int32.toUInt32 8 &&& Int32.toUInt32 31)).toInt32)) >>> (Int32.toUInt32 16 &&& Int32.toUInt32 31)).toInt32)) &&& 63) t
def F_0 (as : List Value) (t : SM) : OR := match as with
  | [.int a] => fjI_bitCount t a
  | _ => none
section
variable {l : Launch} {r : RR}
def FT_0 : FT := []
theorem ft_0 : FTok l 1 mtab FT_0 := FTok.nil
theorem fjI_bitCount_eq : (fun (t : SM) (a : Int32) => ex clN P_0 none bytJ (mkCal rks FT_0) [] (kDisp []) 400 0 [(0, .int a)] [] t) = (fun (t : SM) (a : Int32) => fjI_bitCount t a) := by rfl
theorem fjI_bitCount_ok (t : SM) (a : Int32) (h : fjI_bitCount t a = some r) : Body l 1 q_0 P_0 r 0 [(0, .int a)] [] t :=
  blk ft_0 (by omega) rfl rows_0 (KDok.nil) ((congrFun (congrFun (fjI_bitCount_eq) t) a).trans h)
theorem ok_0 (l : Launch) : Fok l 1 mtab 0 (F_0) := by
  intro as t r h
  unfold F_0 at h
  split at h
  · exact ⟨q_0, rfl, mok_0, con_of (P := P_0) (by decide +kernel) rfl (Nat.le_of_ble_eq_true rfl) (fjI_bitCount_ok t a h)⟩
  · cases h
end
/-! java/lang/Math.max(II)I -/
def fjM_max (t : SM) (a : Int32) (b : Int32) : OR :=
  if a < b then rI b t
  else rI a t
def F_1 (as : List Value) (t : SM) : OR := match as with
  | [.int a, .int b] => fjM_max t a b
  | _ => none
section
variable {l : Launch} {r : RR}
def FT_1 : FT := []
theorem ft_1 : FTok l 1 mtab FT_1 := FTok.nil
theorem fjM_max_eq : (fun (t : SM) (a : Int32) (b : Int32) => ex clN P_1 none bytJ (mkCal rks FT_1) [] (kDisp []) 400 0 [(0, .int a), (1, .int b)] [] t) = (fun (t : SM) (a : Int32) (b : Int32) => fjM_max t a b) := by rfl
theorem fjM_max_ok (t : SM) (a : Int32) (b : Int32) (h : fjM_max t a b = some r) : Body l 1 q_1 P_1 r 0 [(0, .int a), (1, .int b)] [] t :=
  blk ft_1 (by omega) rfl rows_1 (KDok.nil) ((congrFun (congrFun (congrFun (fjM_max_eq) t) a) b).trans h)
theorem ok_1 (l : Launch) : Fok l 1 mtab 1 (F_1) := by
  intro as t r h
  unfold F_1 at h
  split at h
  · exact ⟨q_1, rfl, mok_1, con_of (P := P_1) (by decide +kernel) rfl (Nat.le_of_ble_eq_true rfl) (fjM_max_ok t a b h)⟩
  · cases h
end
/-! java/util/Arrays.fill([II)V -/
def fjA_fill_5 (r5 : SM → Nat → Int32 → Int32 → Int32 → OR) (t : SM) (v0 : Nat) (v1 : Int32) (v2 : Int32) (v3 : Int32) : OR :=
  if v3 ≤ v2 then rV t
  else hASt t v0 v2 v1 fun t1 =>
  r5 t1 v0 v1 (v2 + 1) v3
def fjA_fill_l5 : Nat → SM → Nat → Int32 → Int32 → Int32 → OR
  | 0, _, _, _, _, _ => none
  | n + 1, t, v0, v1, v2, v3 => fjA_fill_5 (fjA_fill_l5 n) t v0 v1 v2 v3
def fjA_fill (t : SM) (a : Nat) (b : Int32) : OR :=
  hALen t a fun n1 =>
  fjA_fill_l5 1000000 t a b 0 n1
def F_3 (as : List Value) (t : SM) : OR := match as with
  | [.ref a, .int b] => fjA_fill t a b
  | _ => none
section
variable {l : Launch} {r : RR}
def FT_3 : FT := []
theorem ft_3 : FTok l 1 mtab FT_3 := FTok.nil
theorem fjA_fill_5_eq : (fun (r5 : SM → Nat → Int32 → Int32 → Int32 → OR) (t : SM) (v0 : Nat) (v1 : Int32) (v2 : Int32) (v3 : Int32) => ex clN P_3 none bytJ (mkCal rks FT_3) [5] (kDisp [(5, kR 0 fun w0 => kI 1 fun w1 => kI 2 fun w2 => kI 3 fun w3 => kE fun t => r5 t w0 w1 w2 w3)]) 400 5 [(3, .int v3), (2, .int v2), (1, .int v1), (0, .ref v0)] [] t) = (fun (r5 : SM → Nat → Int32 → Int32 → Int32 → OR) (t : SM) (v0 : Nat) (v1 : Int32) (v2 : Int32) (v3 : Int32) => fjA_fill_5 r5 t v0 v1 v2 v3) := by rfl
theorem fjA_fill_5_ok {r5 : SM → Nat → Int32 → Int32 → Int32 → OR} (h_r5 : ∀ (t : SM) (v0 : Nat) (v1 : Int32) (v2 : Int32) (v3 : Int32), r5 t v0 v1 v2 v3 = some r → Body l 1 q_3 P_3 r 5 [(3, .int v3), (2, .int v2), (1, .int v1), (0, .ref v0)] [] t) (t : SM) (v0 : Nat) (v1 : Int32) (v2 : Int32) (v3 : Int32) (h : fjA_fill_5 r5 t v0 v1 v2 v3 = some r) : Body l 1 q_3 P_3 r 5 [(3, .int v3), (2, .int v2), (1, .int v1), (0, .ref v0)] [] t :=
  blk ft_3 (by omega) rfl rows_3 (KDok.cons (KOK.rf fun w0 => KOK.i fun w1 => KOK.i fun w2 => KOK.i fun w3 => KOK.e fun t h => h_r5 t w0 w1 w2 w3 h) (KDok.nil)) ((congrFun (congrFun (congrFun (congrFun (congrFun (congrFun (fjA_fill_5_eq) r5) t) v0) v1) v2) v3).trans h)
theorem fjA_fill_l5_ok : ∀ (n : Nat) (t : SM) (v0 : Nat) (v1 : Int32) (v2 : Int32) (v3 : Int32), fjA_fill_l5 n t v0 v1 v2 v3 = some r → Body l 1 q_3 P_3 r 5 [(3, .int v3), (2, .int v2), (1, .int v1), (0, .ref v0)] [] t
  | 0, _, _, _, _, _, h => by cases h
  | n + 1, t, v0, v1, v2, v3, h => fjA_fill_5_ok (fjA_fill_l5_ok n) t v0 v1 v2 v3 h
theorem fjA_fill_eq : (fun (t : SM) (a : Nat) (b : Int32) => ex clN P_3 none bytJ (mkCal rks FT_3) [5] (kDisp [(5, kR 0 fun w0 => kI 1 fun w1 => kI 2 fun w2 => kI 3 fun w3 => kE fun t => fjA_fill_l5 1000000 t w0 w1 w2 w3)]) 400 0 [(0, .ref a), (1, .int b)] [] t) = (fun (t : SM) (a : Nat) (b : Int32) => fjA_fill t a b) := by rfl
theorem fjA_fill_ok (t : SM) (a : Nat) (b : Int32) (h : fjA_fill t a b = some r) : Body l 1 q_3 P_3 r 0 [(0, .ref a), (1, .int b)] [] t :=
  blk ft_3 (by omega) rfl rows_3 (KDok.cons (KOK.rf fun w0 => KOK.i fun w1 => KOK.i fun w2 => KOK.i fun w3 => KOK.e fun t h => fjA_fill_l5_ok 1000000 t w0 w1 w2 w3 h) (KDok.nil)) ((congrFun (congrFun (congrFun (fjA_fill_eq) t) a) b).trans h)
theorem ok_3 (l : Launch) : Fok l 1 mtab 3 (F_3) := by
  intro as t r h
  unfold F_3 at h
  split at h
  · exact ⟨q_3, rfl, mok_3, con_of (P := P_3) (by decide +kernel) rfl (Nat.le_of_ble_eq_true rfl) (fjA_fill_ok t a b h)⟩
  · cases h
end
/-! EveryMapWrong.numberAt([II)I -/
def fx_numberAt (t : SM) (a : Nat) (b : Int32) : OR :=
  if b < 0 then rI 0 t
  else hALen t a fun n1 =>
  if n1 ≤ b then rI 0 t
  else hALd t a b fun e2 =>
  rI e2 t
def F_166 (as : List Value) (t : SM) : OR := match as with
  | [.ref a, .int b] => fx_numberAt t a b
  | _ => none
section
variable {l : Launch} {r : RR}
def FT_166 : FT := []
theorem ft_166 : FTok l 1 mtab FT_166 := FTok.nil
theorem fx_numberAt_eq : (fun (t : SM) (a : Nat) (b : Int32) => ex clN P_166 none bytJ (mkCal rks FT_166) [] (kDisp []) 400 0 [(0, .ref a), (1, .int b)] [] t) = (fun (t : SM) (a : Nat) (b : Int32) => fx_numberAt t a b) := by rfl
theorem fx_numberAt_ok (t : SM) (a : Nat) (b : Int32) (h : fx_numberAt t a b = some r) : Body l 1 q_166 P_166 r 0 [(0, .ref a), (1, .int b)] [] t :=
  blk ft_166 (by omega) rfl rows_166 (KDok.nil) ((congrFun (congrFun (congrFun (fx_numberAt_eq) t) a) b).trans h)
theorem ok_166 (l : Launch) : Fok l 1 mtab 166 (F_166) := by
  intro as t r h
  unfold F_166 at h
  split at h
  · exact ⟨q_166, rfl, mok_166, con_of (P := P_166) (by decide +kernel) rfl (Nat.le_of_ble_eq_true rfl) (fx_numberAt_ok t a b h)⟩
  · cases h
end
/-! EveryMapWrong.setNumber([III)V -/
def fx_setNumber (t : SM) (a : Nat) (b : Int32) (c : Int32) : OR :=
  if b < 0 then rV t
  else hALen t a fun n1 =>
  if n1 ≤ b then rV t
  else hASt t a b c fun t2 =>
  rV t2
def F_167 (as : List Value) (t : SM) : OR := match as with
  | [.ref a, .int b, .int c] => fx_setNumber t a b c
  | _ => none
section
variable {l : Launch} {r : RR}
def FT_167 : FT := []
theorem ft_167 : FTok l 1 mtab FT_167 := FTok.nil
theorem fx_setNumber_eq : (fun (t : SM) (a : Nat) (b : Int32) (c : Int32) => ex clN P_167 none bytJ (mkCal rks FT_167) [] (kDisp []) 400 0 [(0, .ref a), (1, .int b), (2, .int c)] [] t) = (fun (t : SM) (a : Nat) (b : Int32) (c : Int32) => fx_setNumber t a b c) := by rfl
theorem fx_setNumber_ok (t : SM) (a : Nat) (b : Int32) (c : Int32) (h : fx_setNumber t a b c = some r) : Body l 1 q_167 P_167 r 0 [(0, .ref a), (1, .int b), (2, .int c)] [] t :=
  blk ft_167 (by omega) rfl rows_167 (KDok.nil) ((congrFun (congrFun (congrFun (congrFun (fx_setNumber_eq) t) a) b) c).trans h)
theorem ok_167 (l : Launch) : Fok l 1 mtab 167 (F_167) := by
  intro as t r h
  unfold F_167 at h
  split at h
  · exact ⟨q_167, rfl, mok_167, con_of (P := P_167) (by decide +kernel) rfl (Nat.le_of_ble_eq_true rfl) (fx_setNumber_ok t a b c h)⟩
  · cases h
end
/-! EveryMapWrong.addTo([III)V -/
def fx_addTo (t : SM) (a : Nat) (b : Int32) (c : Int32) : OR :=
  bI (fx_numberAt t a b) fun numberAt2 t1 =>
  bV (fx_setNumber t1 a b (numberAt2 + c)) fun t3 =>
  rV t3
def F_175 (as : List Value) (t : SM) : OR := match as with
  | [.ref a, .int b, .int c] => fx_addTo t a b c
  | _ => none
section
variable {l : Launch} {r : RR}
def FT_175 : FT := (166, F_166) :: (167, F_167) :: []
theorem ft_175 : FTok l 2 mtab FT_175 := FTok.cons (ok_166 l) (by omega) (FTok.cons (ok_167 l) (by omega) (FTok.nil))
theorem fx_addTo_eq : (fun (t : SM) (a : Nat) (b : Int32) (c : Int32) => ex clN P_175 none bytJ (mkCal rks FT_175) [] (kDisp []) 400 0 [(0, .ref a), (1, .int b), (2, .int c)] [] t) = (fun (t : SM) (a : Nat) (b : Int32) (c : Int32) => fx_addTo t a b c) := by rfl
theorem fx_addTo_ok (t : SM) (a : Nat) (b : Int32) (c : Int32) (h : fx_addTo t a b c = some r) : Body l 2 q_175 P_175 r 0 [(0, .ref a), (1, .int b), (2, .int c)] [] t :=
  blk ft_175 (by omega) rfl rows_175 (KDok.nil) ((congrFun (congrFun (congrFun (congrFun (fx_addTo_eq) t) a) b) c).trans h)
theorem ok_175 (l : Launch) : Fok l 2 mtab 175 (F_175) := by
  intro as t r h
  unfold F_175 at h
  split at h
  · exact ⟨q_175, rfl, mok_175, con_of (P := P_175) (by decide +kernel) rfl (Nat.le_of_ble_eq_true rfl) (fx_addTo_ok t a b c h)⟩
  · cases h
end
/-! EveryMapWrongModel.in(III)Z -/
def fm_in (t : SM) (a : Int32) (b : Int32) (c : Int32) : OR :=
  if a < b then rI 0 t
  else if c < a then rI 0 t
  else rI 1 t
def F_182 (as : List Value) (t : SM) : OR := match as with
  | [.int a, .int b, .int c] => fm_in t a b c
  | _ => none
section
variable {l : Launch} {r : RR}
def FT_182 : FT := []
theorem ft_182 : FTok l 1 mtab FT_182 := FTok.nil
theorem fm_in_eq : (fun (t : SM) (a : Int32) (b : Int32) (c : Int32) => ex clN P_182 none bytJ (mkCal rks FT_182) [] (kDisp []) 400 0 [(0, .int a), (1, .int b), (2, .int c)] [] t) = (fun (t : SM) (a : Int32) (b : Int32) (c : Int32) => fm_in t a b c) := by rfl
theorem fm_in_ok (t : SM) (a : Int32) (b : Int32) (c : Int32) (h : fm_in t a b c = some r) : Body l 1 q_182 P_182 r 0 [(0, .int a), (1, .int b), (2, .int c)] [] t :=
  blk ft_182 (by omega) rfl rows_182 (KDok.nil) ((congrFun (congrFun (congrFun (congrFun (fm_in_eq) t) a) b) c).trans h)
theorem ok_182 (l : Launch) : Fok l 1 mtab 182 (F_182) := by
  intro as t r h
  unfold F_182 at h
  split at h
  · exact ⟨q_182, rfl, mok_182, con_of (P := P_182) (by decide +kernel) rfl (Nat.le_of_ble_eq_true rfl) (fm_in_ok t a b c h)⟩
  · cases h
end
/-! EveryMapWrongModel.isTown(I)Z -/
def fm_isTown (t : SM) (a : Int32) : OR :=
  hGetI t 11 39 0 fun choices1 =>
  bI (fm_in t a 0 (((1 : Int32) <<< (choices1 &&& 31)) - 1)) fun in3 t2 =>
  hZ in3 (rI in3 t2)
def F_183 (as : List Value) (t : SM) : OR := match as with
  | [.ref z, .int a] => (match Nat.beq z 39 with
    | true => fm_isTown t a
    | false => none)
  | _ => none
section
variable {l : Launch} {r : RR}
def FT_183 : FT := (182, F_182) :: []
theorem ft_183 : FTok l 2 mtab FT_183 := FTok.cons (ok_182 l) (by omega) (FTok.nil)
theorem fm_isTown_eq : (fun (t : SM) (a : Int32) => ex clN P_183 none bytJ (mkCal rks FT_183) [] (kDisp []) 400 0 [(0, .ref 39), (1, .int a)] [] t) = (fun (t : SM) (a : Int32) => fm_isTown t a) := by rfl
theorem fm_isTown_ok (t : SM) (a : Int32) (h : fm_isTown t a = some r) : Body l 2 q_183 P_183 r 0 [(0, .ref 39), (1, .int a)] [] t :=
  blk ft_183 (by omega) rfl rows_183 (KDok.nil) ((congrFun (congrFun (fm_isTown_eq) t) a).trans h)
theorem ok_183 (l : Launch) : Fok l 2 mtab 183 (F_183) := by
  intro as t r h
  unfold F_183 at h
  split at h
  · split at h
    · rename_i hz
      obtain rfl := Nat.eq_of_beq_eq_true hz
      exact ⟨q_183, rfl, mok_183, con_of (P := P_183) (by decide +kernel) rfl (Nat.le_of_ble_eq_true rfl) (fm_isTown_ok t a h)⟩
    · cases h
  · cases h
end
/-! java/lang/String.coder()B -/
def fjS_coder (t : SM) (o : UInt32) : OR :=
  hTx o (rI 0 t)
def F_9 (as : List Value) (t : SM) : OR := match as with
  | [.float o] => fjS_coder t o
  | _ => none
section
variable {l : Launch} {r : RR}
def FT_9 : FT := []
theorem ft_9 : FTok l 1 mtab FT_9 := FTok.nil
theorem fjS_coder_eq : (fun (t : SM) (o : UInt32) => ex clN P_9 none bytJ (mkCal rks FT_9) [] (kDisp []) 400 0 [(0, .float o)] [] t) = (fun (t : SM) (o : UInt32) => fjS_coder t o) := by rfl
theorem fjS_coder_ok (t : SM) (o : UInt32) (h : fjS_coder t o = some r) : Body l 1 q_9 P_9 r 0 [(0, .float o)] [] t :=
  blk ft_9 (by omega) rfl rows_9 (KDok.nil) ((congrFun (congrFun (fjS_coder_eq) t) o).trans h)
theorem ok_9 (l : Launch) : Fok l 1 mtab 9 (F_9) := by
  intro as t r h
  unfold F_9 at h
  split at h
  · exact ⟨q_9, rfl, mok_9, con_of (P := P_9) (by decide +kernel) rfl (Nat.le_of_ble_eq_true rfl) (fjS_coder_ok t o h)⟩
  · cases h
end
/-! java/lang/String.length()I -/
def fjS_length (t : SM) (o : UInt32) : OR :=
  hTx o (hTLen (o + 50) fun n1 =>
  hTc 0 1 o <| bI (fjS_coder t o) fun coder3 t2 =>
  rI (n1 >>> (coder3 &&& 31)) t2)
def F_5 (as : List Value) (t : SM) : OR := match as with
  | [.float o] => fjS_length t o
  | _ => none
section
variable {l : Launch} {r : RR}
def FT_5 : FT := (9, F_9) :: []
theorem ft_5 : FTok l 2 mtab FT_5 := FTok.cons (ok_9 l) (by omega) (FTok.nil)
theorem fjS_length_eq : (fun (t : SM) (o : UInt32) => ex clN P_5 none bytJ (mkCal rks FT_5) [] (kDisp []) 400 0 [(0, .float o)] [] t) = (fun (t : SM) (o : UInt32) => fjS_length t o) := by rfl
theorem fjS_length_ok (t : SM) (o : UInt32) (h : fjS_length t o = some r) : Body l 2 q_5 P_5 r 0 [(0, .float o)] [] t :=
  blk ft_5 (by omega) rfl rows_5 (KDok.nil) ((congrFun (congrFun (fjS_length_eq) t) o).trans h)
theorem ok_5 (l : Launch) : Fok l 2 mtab 5 (F_5) := by
  intro as t r h
  unfold F_5 at h
  split at h
  · exact ⟨q_5, rfl, mok_5, con_of (P := P_5) (by decide +kernel) rfl (Nat.le_of_ble_eq_true rfl) (fjS_length_ok t o h)⟩
  · cases h
end
