section
set_option maxRecDepth 100000
variable {l : Launch} {r : RR}
def FT_0 : FT := []
theorem ft_0 : FTok l 1 mtab FT_0 := FTok.nil
theorem fjI_bitCount_eq : (fun (t : SM) (a : Int32) => ex clN P_0 none bytJ (mkCal rks ([])) [] (kDisp []) 400 0 [(0, .int a)] [] t) = (fun (t : SM) (a : Int32) =>
  rI ((((((((a - (((Int32.toUInt32 a >>> (Int32.toUInt32 1 &&& Int32.toUInt32 31)).toInt32) &&& 1431655765)) &&& 858993459) + (((Int32.toUInt32 (a - (((Int32.toUInt32 a >>> (Int32.toUInt32 1 &&& Int32.toUInt32 31)).toInt32) &&& 1431655765)) >>> (Int32.toUInt32 2 &&& Int32.toUInt32 31)).toInt32) &&& 858993459)) + ((Int32.toUInt32 (((a - (((Int32.toUInt32 a >>> (Int32.toUInt32 1 &&& Int32.toUInt32 31)).toInt32) &&& 1431655765)) &&& 858993459) + (((Int32.toUInt32 (a - (((Int32.toUInt32 a >>> (Int32.toUInt32 1 &&& Int32.toUInt32 31)).toInt32) &&& 1431655765)) >>> (Int32.toUInt32 2 &&& Int32.toUInt32 31)).toInt32) &&& 858993459)) >>> (Int32.toUInt32 4 &&& Int32.toUInt32 31)).toInt32)) &&& 252645135) + ((Int32.toUInt32 (((((a - (((Int32.toUInt32 a >>> (Int32.toUInt32 1 &&& Int32.toUInt32 31)).toInt32) &&& 1431655765)) &&& 858993459) + (((Int32.toUInt32 (a - (((Int32.toUInt32 a >>> (Int32.toUInt32 1 &&& Int32.toUInt32 31)).toInt32) &&& 1431655765)) >>> (Int32.toUInt32 2 &&& Int32.toUInt32 31)).toInt32) &&& 858993459)) + ((Int32.toUInt32 (((a - (((Int32.toUInt32 a >>> (Int32.toUInt32 1 &&& Int32.toUInt32 31)).toInt32) &&& 1431655765)) &&& 858993459) + (((Int32.toUInt32 (a - (((Int32.toUInt32 a >>> (Int32.toUInt32 1 &&& Int32.toUInt32 31)).toInt32) &&& 1431655765)) >>> (Int32.toUInt32 2 &&& Int32.toUInt32 31)).toInt32) &&& 858993459)) >>> (Int32.toUInt32 4 &&& Int32.toUInt32 31)).toInt32)) &&& 252645135) >>> (Int32.toUInt32 8 &&& Int32.toUInt32 31)).toInt32)) + ((Int32.toUInt32 ((((((a - (((Int32.toUInt32 a >>> (Int32.toUInt32 1 &&& Int32.toUInt32 31)).toInt32) &&& 1431655765)) &&& 858993459) + (((Int32.toUInt32 (a - (((Int32.toUInt32 a >>> (Int32.toUInt32 1 &&& Int32.toUInt32 31)).toInt32) &&& 1431655765)) >>> (Int32.toUInt32 2 &&& Int32.toUInt32 31)).toInt32) &&& 858993459)) + ((Int32.toUInt32 (((a - (((Int32.toUInt32 a >>> (Int32.toUInt32 1 &&& Int32.toUInt32 31)).toInt32) &&& 1431655765)) &&& 858993459) + (((Int32.toUInt32 (a - (((Int32.toUInt32 a >>> (Int32.toUInt32 1 &&& Int32.toUInt32 31)).toInt32) &&& 1431655765)) >>> (Int32.toUInt32 2 &&& Int32.toUInt32 31)).toInt32) &&& 858993459)) >>> (Int32.toUInt32 4 &&& Int32.toUInt32 31)).toInt32)) &&& 252645135) + ((Int32.toUInt32 (((((a - (((Int32.toUInt32 a >>> (Int32.toUInt32 1 &&& Int32.toUInt32 31)).toInt32) &&& 1431655765)) &&& 858993459) + (((Int32.toUInt32 (a - (((Int32.toUInt32 a >>> (Int32.toUInt32 1 &&& Int32.toUInt32 31)).toInt32) &&& 1431655765)) >>> (Int32.toUInt32 2 &&& Int32.toUInt32 31)).toInt32) &&& 858993459)) + ((Int32.toUInt32 (((a - (((Int32.toUInt32 a >>> (Int32.toUInt32 1 &&& Int32.toUInt32 31)).toInt32) &&& 1431655765)) &&& 858993459) + (((Int32.toUInt32 (a - (((Int32.toUInt32 a >>> (Int32.toUInt32 1 &&& Int32.toUInt32 31)).toInt32) &&& 1431655765)) >>> (Int32.toUInt32 2 &&& Int32.toUInt32 31)).toInt32) &&& 858993459)) >>> (Int32.toUInt32 4 &&& Int32.toUInt32 31)).toInt32)) &&& 252645135) >>> (Int32.toUInt32 8 &&& Int32.toUInt32 31)).toInt32)) >>> (Int32.toUInt32 16 &&& Int32.toUInt32 31)).toInt32)) &&& 63) t) := by rfl
theorem fjI_bitCount_ok (t : SM) (a : Int32) (h : fjI_bitCount t a = some r) : Body l 1 q_0 P_0 r 0 [(0, .int a)] [] t :=
  blk ft_0 (by omega) rfl rows_0 (KDok.nil) ((congrFun (congrFun (fjI_bitCount_eq) t) a).trans h)
theorem ok_0 (l : Launch) : Fok l 1 mtab 0 (F_0) := by
  intro as t r h
  unfold F_0 at h
  split at h
  · rename_i a
    exact ⟨q_0, rfl, mok_0, con_of (P := P_0) (by decide +kernel) rfl (Nat.le_of_ble_eq_true rfl) (fjI_bitCount_ok t a h)⟩
  · cases h
end
theorem ok_1 (l : Launch) : Fok l 1 mtab 1 F_1 := by
  intro as t r h
  unfold F_1 at h
  split at h
  · rename_i a b
    cases h
    exact ⟨q_1, rfl, mok_1, con_max a b t⟩
  · cases h
theorem ok_2 (l : Launch) : Fok l 1 mtab 2 F_2 := by
  intro as t r h
  unfold F_2 at h
  split at h
  · rename_i a b
    cases h
    exact ⟨q_2, rfl, mok_2, con_min a b t⟩
  · cases h
section
set_option maxRecDepth 100000
variable {l : Launch} {r : RR}
def FT_3 : FT := []
theorem ft_3 : FTok l 1 mtab FT_3 := FTok.nil
theorem fjA_fill_5_eq : (fun (j5 : SM → Nat → Int32 → Int32 → Int32 → OR) (t : SM) (v0 : Nat) (v1 : Int32) (v2 : Int32) (v3 : Int32) => ex clN P_3 none bytJ (mkCal rks ([])) [5] (kDisp [(5, kR 0 fun w0 => kI 1 fun w1 => kI 2 fun w2 => kI 3 fun w3 => kE fun t => j5 t w0 w1 w2 w3)]) 400 5 [(3, .int v3), (2, .int v2), (1, .int v1), (0, .ref v0)] [] t) = (fun (j5 : SM → Nat → Int32 → Int32 → Int32 → OR) (t : SM) (v0 : Nat) (v1 : Int32) (v2 : Int32) (v3 : Int32) =>
  if v3 ≤ v2 then rV t
  else hASt t v0 v2 v1 fun t1 =>
  j5 t1 v0 v1 (v2 + 1) v3) := by rfl
theorem fjA_fill_5_ok {r5 : SM → Nat → Int32 → Int32 → Int32 → OR} (h_r5 : ∀ (t : SM) (v0 : Nat) (v1 : Int32) (v2 : Int32) (v3 : Int32), r5 t v0 v1 v2 v3 = some r → Body l 1 q_3 P_3 r 5 [(3, .int v3), (2, .int v2), (1, .int v1), (0, .ref v0)] [] t) (t : SM) (v0 : Nat) (v1 : Int32) (v2 : Int32) (v3 : Int32) (h : fjA_fill_5 r5 t v0 v1 v2 v3 = some r) : Body l 1 q_3 P_3 r 5 [(3, .int v3), (2, .int v2), (1, .int v1), (0, .ref v0)] [] t :=
  blk ft_3 (by omega) rfl rows_3 (KDok.cons (KOK.rf fun w0 => KOK.i fun w1 => KOK.i fun w2 => KOK.i fun w3 => KOK.e (f := fun t => r5 t w0 w1 w2 w3) fun t h => h_r5 t w0 w1 w2 w3 h) (KDok.nil)) ((congrFun (congrFun (congrFun (congrFun (congrFun (congrFun (fjA_fill_5_eq) (fun t u0 u1 u2 u3 => r5 t u0 u1 u2 u3)) t) v0) v1) v2) v3).trans h)
theorem fjA_fill_l5_ok : ∀ (n : Nat) (t : SM) (v0 : Nat) (v1 : Int32) (v2 : Int32) (v3 : Int32), fjA_fill_l5 n t v0 v1 v2 v3 = some r → Body l 1 q_3 P_3 r 5 [(3, .int v3), (2, .int v2), (1, .int v1), (0, .ref v0)] [] t
  | 0, _, _, _, _, _, h => by cases h
  | n + 1, t, v0, v1, v2, v3, h => fjA_fill_5_ok (fjA_fill_l5_ok n) t v0 v1 v2 v3 h
theorem fjA_fill_eq : (fun (j5 : SM → Nat → Int32 → Int32 → Int32 → OR) (t : SM) (a : Nat) (b : Int32) => ex clN P_3 none bytJ (mkCal rks ([])) [5] (kDisp [(5, kR 0 fun w0 => kI 1 fun w1 => kI 2 fun w2 => kI 3 fun w3 => kE fun t => j5 t w0 w1 w2 w3)]) 400 0 [(0, .ref a), (1, .int b)] [] t) = (fun (j5 : SM → Nat → Int32 → Int32 → Int32 → OR) (t : SM) (a : Nat) (b : Int32) =>
  hALen t a fun n1 =>
  j5 t a b 0 n1) := by rfl
theorem fjA_fill_ok (t : SM) (a : Nat) (b : Int32) (h : fjA_fill t a b = some r) : Body l 1 q_3 P_3 r 0 [(0, .ref a), (1, .int b)] [] t :=
  blk ft_3 (by omega) rfl rows_3 (KDok.cons (KOK.rf fun w0 => KOK.i fun w1 => KOK.i fun w2 => KOK.i fun w3 => KOK.e (f := fun t => fjA_fill_l5 1000000 t w0 w1 w2 w3) fun t h => fjA_fill_l5_ok 1000000 t w0 w1 w2 w3 h) (KDok.nil)) ((congrFun (congrFun (congrFun (congrFun (fjA_fill_eq) (fun t u0 u1 u2 u3 => fjA_fill_l5 1000000 t u0 u1 u2 u3)) t) a) b).trans h)
theorem ok_3 (l : Launch) : Fok l 1 mtab 3 (F_3) := by
  intro as t r h
  unfold F_3 at h
  split at h
  · rename_i a b
    exact ⟨q_3, rfl, mok_3, con_of (P := P_3) (by decide +kernel) rfl (Nat.le_of_ble_eq_true rfl) (fjA_fill_ok t a b h)⟩
  · cases h
end
section
set_option maxRecDepth 100000
variable {l : Launch} {r : RR}
def FT_4 : FT := (2, F_2) :: []
theorem ft_4 : FTok l 2 mtab FT_4 := FTok.cons (ok_2 l) (by omega) (FTok.nil)
theorem fjA_copyOf_eq : (fun (G2 : List Value → SM → OR) (t : SM) (a : Nat) (b : Int32) => ex clN P_4 none bytJ (mkCal rks ((2, G2) :: [])) [] (kDisp []) 400 0 [(0, .ref a), (1, .int b)] [] t) = (fun (G2 : List Value → SM → OR) (t : SM) (a : Nat) (b : Int32) =>
  hALen t a fun n1 =>
  if b = n1 then hClone t a fun q8 t9 =>
  hALen t9 q8 fun _ => if (mT t9 q8).1 = 20 then rR q8 t9 else none
  else hNewA t 20 b fun q2 t3 =>
    hALen t3 a fun n4 =>
    bI (G2 [.int n4, .int b] t3) fun min6 t5 =>
    hCpy t5 a 0 q2 0 min6 fun t7 =>
    rR q2 t7) := by rfl
theorem fjA_copyOf_ok (t : SM) (a : Nat) (b : Int32) (h : fjA_copyOf t a b = some r) : Body l 2 q_4 P_4 r 0 [(0, .ref a), (1, .int b)] [] t :=
  blk ft_4 (by omega) rfl rows_4 (KDok.nil) ((congrFun (congrFun (congrFun (congrFun (fjA_copyOf_eq) F_2) t) a) b).trans h)
theorem ok_4 (l : Launch) : Fok l 2 mtab 4 (F_4) := by
  intro as t r h
  unfold F_4 at h
  split at h
  · rename_i a b
    exact ⟨q_4, rfl, mok_4, con_of (P := P_4) (by decide +kernel) rfl (Nat.le_of_ble_eq_true rfl) (fjA_copyOf_ok t a b h)⟩
  · cases h
end
section
set_option maxRecDepth 100000
variable {l : Launch} {r : RR}
def FT_9 : FT := []
theorem ft_9 : FTok l 1 mtab FT_9 := FTok.nil
theorem fjS_coder_eq : (fun (t : SM) (o : UInt32) => ex clN P_9 none bytJ (mkCal rks ([])) [] (kDisp []) 400 0 [(0, .float o)] [] t) = (fun (t : SM) (o : UInt32) =>
  hTx o (rI 0 t)) := by rfl
theorem fjS_coder_ok (t : SM) (o : UInt32) (h : fjS_coder t o = some r) : Body l 1 q_9 P_9 r 0 [(0, .float o)] [] t :=
  blk ft_9 (by omega) rfl rows_9 (KDok.nil) ((congrFun (congrFun (fjS_coder_eq) t) o).trans h)
theorem ok_9 (l : Launch) : Fok l 1 mtab 9 (F_9) := by
  intro as t r h
  unfold F_9 at h
  split at h
  · rename_i o
    exact ⟨q_9, rfl, mok_9, con_of (P := P_9) (by decide +kernel) rfl (Nat.le_of_ble_eq_true rfl) (fjS_coder_ok t o h)⟩
  · cases h
end
section
set_option maxRecDepth 100000
variable {l : Launch} {r : RR}
def FT_5 : FT := (9, F_9) :: []
theorem ft_5 : FTok l 2 mtab FT_5 := FTok.cons (ok_9 l) (by omega) (FTok.nil)
theorem fjS_length_eq : (fun (G9 : List Value → SM → OR) (t : SM) (o : UInt32) => ex clN P_5 none bytJ (mkCal rks ((9, G9) :: [])) [] (kDisp []) 400 0 [(0, .float o)] [] t) = (fun (G9 : List Value → SM → OR) (t : SM) (o : UInt32) =>
  hTx o (hTLen (o + 50) fun n1 =>
  hTc 0 1 o <| bI (G9 [.float o] t) fun coder3 t2 =>
  rI (n1 >>> (coder3 &&& 31)) t2)) := by rfl
theorem fjS_length_ok (t : SM) (o : UInt32) (h : fjS_length t o = some r) : Body l 2 q_5 P_5 r 0 [(0, .float o)] [] t :=
  blk ft_5 (by omega) rfl rows_5 (KDok.nil) ((congrFun (congrFun (congrFun (fjS_length_eq) F_9) t) o).trans h)
theorem ok_5 (l : Launch) : Fok l 2 mtab 5 (F_5) := by
  intro as t r h
  unfold F_5 at h
  split at h
  · rename_i o
    exact ⟨q_5, rfl, mok_5, con_of (P := P_5) (by decide +kernel) rfl (Nat.le_of_ble_eq_true rfl) (fjS_length_ok t o h)⟩
  · cases h
end
section
set_option maxRecDepth 100000
variable {l : Launch} {r : RR}
def FT_10 : FT := []
theorem ft_10 : FTok l 1 mtab FT_10 := FTok.nil
theorem fjS_isLatin1_eq : (fun (t : SM) (o : UInt32) => ex clN P_10 none bytJ (mkCal rks ([])) [] (kDisp []) 400 0 [(0, .float o)] [] t) = (fun (t : SM) (o : UInt32) =>
  hTx o (rI 1 t)) := by rfl
theorem fjS_isLatin1_ok (t : SM) (o : UInt32) (h : fjS_isLatin1 t o = some r) : Body l 1 q_10 P_10 r 0 [(0, .float o)] [] t :=
  blk ft_10 (by omega) rfl rows_10 (KDok.nil) ((congrFun (congrFun (fjS_isLatin1_eq) t) o).trans h)
theorem ok_10 (l : Launch) : Fok l 1 mtab 10 (F_10) := by
  intro as t r h
  unfold F_10 at h
  split at h
  · rename_i o
    exact ⟨q_10, rfl, mok_10, con_of (P := P_10) (by decide +kernel) rfl (Nat.le_of_ble_eq_true rfl) (fjS_isLatin1_ok t o h)⟩
  · cases h
end
section
set_option maxRecDepth 100000
variable {l : Launch} {r : RR}
def FT_16 : FT := []
theorem ft_16 : FTok l 1 mtab FT_16 := FTok.nil
theorem fjP_checkIndex_eq : (fun (t : SM) (a : Int32) (b : Int32) (c : UInt32) => ex clN P_16 none bytJ (mkCal rks ([])) [] (kDisp []) 400 0 [(0, .int a), (1, .int b), (2, .float c)] [] t) = (fun (t : SM) (a : Int32) (b : Int32) (c : UInt32) =>
  if a < 0 then none
  else if a < b then rI a t
  else none) := by rfl
theorem fjP_checkIndex_ok (t : SM) (a : Int32) (b : Int32) (c : UInt32) (h : fjP_checkIndex t a b c = some r) : Body l 1 q_16 P_16 r 0 [(0, .int a), (1, .int b), (2, .float c)] [] t :=
  blk ft_16 (by omega) rfl rows_16 (KDok.nil) ((congrFun (congrFun (congrFun (congrFun (fjP_checkIndex_eq) t) a) b) c).trans h)
theorem ok_16 (l : Launch) : Fok l 1 mtab 16 (F_16) := by
  intro as t r h
  unfold F_16 at h
  split at h
  · rename_i a b c
    exact ⟨q_16, rfl, mok_16, con_of (P := P_16) (by decide +kernel) rfl (Nat.le_of_ble_eq_true rfl) (fjP_checkIndex_ok t a b c h)⟩
  · cases h
end
section
set_option maxRecDepth 100000
variable {l : Launch} {r : RR}
def FT_11 : FT := (16, F_16) :: []
theorem ft_11 : FTok l 2 mtab FT_11 := FTok.cons (ok_16 l) (by omega) (FTok.nil)
theorem fjS_checkIndex_eq : (fun (G16 : List Value → SM → OR) (t : SM) (a : Int32) (b : Int32) => ex clN P_11 none bytJ (mkCal rks ((16, G16) :: [])) [] (kDisp []) 400 0 [(0, .int a), (1, .int b)] [] t) = (fun (G16 : List Value → SM → OR) (t : SM) (a : Int32) (b : Int32) =>
  bI (G16 [.int a, .int b, .float 201] t) fun checkIndex2 t1 =>
  rV t1) := by rfl
theorem fjS_checkIndex_ok (t : SM) (a : Int32) (b : Int32) (h : fjS_checkIndex t a b = some r) : Body l 2 q_11 P_11 r 0 [(0, .int a), (1, .int b)] [] t :=
  blk ft_11 (by omega) rfl rows_11 (KDok.nil) ((congrFun (congrFun (congrFun (congrFun (fjS_checkIndex_eq) F_16) t) a) b).trans h)
theorem ok_11 (l : Launch) : Fok l 2 mtab 11 (F_11) := by
  intro as t r h
  unfold F_11 at h
  split at h
  · rename_i a b
    exact ⟨q_11, rfl, mok_11, con_of (P := P_11) (by decide +kernel) rfl (Nat.le_of_ble_eq_true rfl) (fjS_checkIndex_ok t a b h)⟩
  · cases h
end
section
set_option maxRecDepth 100000
variable {l : Launch} {r : RR}
def FT_12 : FT := (11, F_11) :: []
theorem ft_12 : FTok l 3 mtab FT_12 := FTok.cons (ok_11 l) (by omega) (FTok.nil)
theorem fjL_charAt_eq : (fun (G11 : List Value → SM → OR) (t : SM) (a : UInt32) (b : Int32) => ex clN P_12 none bytJ (mkCal rks ((11, G11) :: [])) [] (kDisp []) 400 0 [(0, .float a), (1, .int b)] [] t) = (fun (G11 : List Value → SM → OR) (t : SM) (a : UInt32) (b : Int32) =>
  hTLen a fun n1 =>
  bV (G11 [.int b, .int n1] t) fun t2 =>
  hTLd a b fun e3 =>
  hC16 (UInt32.toInt32 (Int32.toUInt32 (e3 &&& 255) % 65536)) (rI (UInt32.toInt32 (Int32.toUInt32 (e3 &&& 255) % 65536)) t2)) := by rfl
theorem fjL_charAt_ok (t : SM) (a : UInt32) (b : Int32) (h : fjL_charAt t a b = some r) : Body l 3 q_12 P_12 r 0 [(0, .float a), (1, .int b)] [] t :=
  blk ft_12 (by omega) rfl rows_12 (KDok.nil) ((congrFun (congrFun (congrFun (congrFun (fjL_charAt_eq) F_11) t) a) b).trans h)
theorem ok_12 (l : Launch) : Fok l 3 mtab 12 (F_12) := by
  intro as t r h
  unfold F_12 at h
  split at h
  · rename_i a b
    exact ⟨q_12, rfl, mok_12, con_of (P := P_12) (by decide +kernel) rfl (Nat.le_of_ble_eq_true rfl) (fjL_charAt_ok t a b h)⟩
  · cases h
end
section
set_option maxRecDepth 100000
variable {l : Launch} {r : RR}
def FT_6 : FT := (10, F_10) :: (12, F_12) :: []
theorem ft_6 : FTok l 4 mtab FT_6 := FTok.cons (ok_10 l) (by omega) (FTok.cons (ok_12 l) (by omega) (FTok.nil))
theorem fjS_charAt_eq : (fun (G10 : List Value → SM → OR) (G12 : List Value → SM → OR) (t : SM) (o : UInt32) (a : Int32) => ex clN P_6 none bytJ (mkCal rks ((10, G10) :: (12, G12) :: [])) [] (kDisp []) 400 0 [(0, .float o), (1, .int a)] [] t) = (fun (G10 : List Value → SM → OR) (G12 : List Value → SM → OR) (t : SM) (o : UInt32) (a : Int32) =>
  hTc 0 0 o <| bI (G10 [.float o] t) fun isLatin2 t1 =>
  if isLatin2 = 0 then hTx o (none)
  else hTx o (bI (G12 [.float (o + 50), .int a] t1) fun charAt4 t3 =>
  hC16 charAt4 (rI charAt4 t3))) := by rfl
theorem fjS_charAt_ok (t : SM) (o : UInt32) (a : Int32) (h : fjS_charAt t o a = some r) : Body l 4 q_6 P_6 r 0 [(0, .float o), (1, .int a)] [] t :=
  blk ft_6 (by omega) rfl rows_6 (KDok.nil) ((congrFun (congrFun (congrFun (congrFun (congrFun (fjS_charAt_eq) F_10) F_12) t) o) a).trans h)
theorem ok_6 (l : Launch) : Fok l 4 mtab 6 (F_6) := by
  intro as t r h
  unfold F_6 at h
  split at h
  · rename_i o a
    exact ⟨q_6, rfl, mok_6, con_of (P := P_6) (by decide +kernel) rfl (Nat.le_of_ble_eq_true rfl) (fjS_charAt_ok t o a h)⟩
  · cases h
end
section
set_option maxRecDepth 100000
variable {l : Launch} {r : RR}
def FT_13 : FT := []
theorem ft_13 : FTok l 1 mtab FT_13 := FTok.nil
theorem fjL_canEncode_eq : (fun (t : SM) (a : Int32) => ex clN P_13 none bytJ (mkCal rks ([])) [] (kDisp []) 400 0 [(0, .int a)] [] t) = (fun (t : SM) (a : Int32) =>
  if a < 0 then rI 0 t
  else if 255 < a then rI 0 t
  else rI 1 t) := by rfl
theorem fjL_canEncode_ok (t : SM) (a : Int32) (h : fjL_canEncode t a = some r) : Body l 1 q_13 P_13 r 0 [(0, .int a)] [] t :=
  blk ft_13 (by omega) rfl rows_13 (KDok.nil) ((congrFun (congrFun (fjL_canEncode_eq) t) a).trans h)
theorem ok_13 (l : Launch) : Fok l 1 mtab 13 (F_13) := by
  intro as t r h
  unfold F_13 at h
  split at h
  · rename_i a
    exact ⟨q_13, rfl, mok_13, con_of (P := P_13) (by decide +kernel) rfl (Nat.le_of_ble_eq_true rfl) (fjL_canEncode_ok t a h)⟩
  · cases h
end
section
set_option maxRecDepth 100000
variable {l : Launch} {r : RR}
def FT_15 : FT := []
theorem ft_15 : FTok l 1 mtab FT_15 := FTok.nil
theorem fjL_indexOfChar_7_eq : (fun (j7 : SM → UInt32 → Int32 → Int32 → Int32 → OR) (t : SM) (v0 : UInt32) (v3 : Int32) (v4 : Int32) (v5 : Int32) => ex clN P_15 none bytJ (mkCal rks ([])) [7] (kDisp [(7, kT 0 fun w0 => kI 3 fun w3 => kI 4 fun w4 => kI 5 fun w5 => kE fun t => j7 t w0 w3 w4 w5)]) 400 7 [(5, .int v5), (4, .int v4), (3, .int v3), (0, .float v0)] [] t) = (fun (j7 : SM → UInt32 → Int32 → Int32 → Int32 → OR) (t : SM) (v0 : UInt32) (v3 : Int32) (v4 : Int32) (v5 : Int32) =>
  if v3 ≤ v5 then rI (-1) t
  else hTLd v0 v5 fun e1 =>
  if e1 = v4 then rI v5 t
  else j7 t v0 v3 v4 (v5 + 1)) := by rfl
theorem fjL_indexOfChar_7_ok {r7 : SM → UInt32 → Int32 → Int32 → Int32 → OR} (h_r7 : ∀ (t : SM) (v0 : UInt32) (v3 : Int32) (v4 : Int32) (v5 : Int32), r7 t v0 v3 v4 v5 = some r → Body l 1 q_15 P_15 r 7 [(5, .int v5), (4, .int v4), (3, .int v3), (0, .float v0)] [] t) (t : SM) (v0 : UInt32) (v3 : Int32) (v4 : Int32) (v5 : Int32) (h : fjL_indexOfChar_7 r7 t v0 v3 v4 v5 = some r) : Body l 1 q_15 P_15 r 7 [(5, .int v5), (4, .int v4), (3, .int v3), (0, .float v0)] [] t :=
  blk ft_15 (by omega) rfl rows_15 (KDok.cons (KOK.tx fun w0 => KOK.i fun w3 => KOK.i fun w4 => KOK.i fun w5 => KOK.e (f := fun t => r7 t w0 w3 w4 w5) fun t h => h_r7 t w0 w3 w4 w5 h) (KDok.nil)) ((congrFun (congrFun (congrFun (congrFun (congrFun (congrFun (fjL_indexOfChar_7_eq) (fun t u0 u3 u4 u5 => r7 t u0 u3 u4 u5)) t) v0) v3) v4) v5).trans h)
theorem fjL_indexOfChar_l7_ok : ∀ (n : Nat) (t : SM) (v0 : UInt32) (v3 : Int32) (v4 : Int32) (v5 : Int32), fjL_indexOfChar_l7 n t v0 v3 v4 v5 = some r → Body l 1 q_15 P_15 r 7 [(5, .int v5), (4, .int v4), (3, .int v3), (0, .float v0)] [] t
  | 0, _, _, _, _, _, h => by cases h
  | n + 1, t, v0, v3, v4, v5, h => fjL_indexOfChar_7_ok (fjL_indexOfChar_l7_ok n) t v0 v3 v4 v5 h
theorem fjL_indexOfChar_eq : (fun (j7 : SM → UInt32 → Int32 → Int32 → Int32 → OR) (t : SM) (a : UInt32) (b : Int32) (c : Int32) (d : Int32) => ex clN P_15 none bytJ (mkCal rks ([])) [7] (kDisp [(7, kT 0 fun w0 => kI 3 fun w3 => kI 4 fun w4 => kI 5 fun w5 => kE fun t => j7 t w0 w3 w4 w5)]) 400 0 [(0, .float a), (1, .int b), (2, .int c), (3, .int d)] [] t) = (fun (j7 : SM → UInt32 → Int32 → Int32 → Int32 → OR) (t : SM) (a : UInt32) (b : Int32) (c : Int32) (d : Int32) =>
  j7 t a d (Int8.toInt32 (Int32.toInt8 b)) c) := by rfl
theorem fjL_indexOfChar_ok (t : SM) (a : UInt32) (b : Int32) (c : Int32) (d : Int32) (h : fjL_indexOfChar t a b c d = some r) : Body l 1 q_15 P_15 r 0 [(0, .float a), (1, .int b), (2, .int c), (3, .int d)] [] t :=
  blk ft_15 (by omega) rfl rows_15 (KDok.cons (KOK.tx fun w0 => KOK.i fun w3 => KOK.i fun w4 => KOK.i fun w5 => KOK.e (f := fun t => fjL_indexOfChar_l7 1000000 t w0 w3 w4 w5) fun t h => fjL_indexOfChar_l7_ok 1000000 t w0 w3 w4 w5 h) (KDok.nil)) ((congrFun (congrFun (congrFun (congrFun (congrFun (congrFun (fjL_indexOfChar_eq) (fun t u0 u3 u4 u5 => fjL_indexOfChar_l7 1000000 t u0 u3 u4 u5)) t) a) b) c) d).trans h)
theorem ok_15 (l : Launch) : Fok l 1 mtab 15 (F_15) := by
  intro as t r h
  unfold F_15 at h
  split at h
  · rename_i a b c d
    exact ⟨q_15, rfl, mok_15, con_of (P := P_15) (by decide +kernel) rfl (Nat.le_of_ble_eq_true rfl) (fjL_indexOfChar_ok t a b c d h)⟩
  · cases h
end
section
set_option maxRecDepth 100000
variable {l : Launch} {r : RR}
def FT_14 : FT := (13, F_13) :: (1, F_1) :: (2, F_2) :: (15, F_15) :: []
theorem ft_14 : FTok l 2 mtab FT_14 := FTok.cons (ok_13 l) (by omega) (FTok.cons (ok_1 l) (by omega) (FTok.cons (ok_2 l) (by omega) (FTok.cons (ok_15 l) (by omega) (FTok.nil))))
theorem fjL_indexOf_eq : (fun (G13 : List Value → SM → OR) (G1 : List Value → SM → OR) (G2 : List Value → SM → OR) (G15 : List Value → SM → OR) (t : SM) (a : UInt32) (b : Int32) (c : Int32) (d : Int32) => ex clN P_14 none bytJ (mkCal rks ((13, G13) :: (1, G1) :: (2, G2) :: (15, G15) :: [])) [] (kDisp []) 400 0 [(0, .float a), (1, .int b), (2, .int c), (3, .int d)] [] t) = (fun (G13 : List Value → SM → OR) (G1 : List Value → SM → OR) (G2 : List Value → SM → OR) (G15 : List Value → SM → OR) (t : SM) (a : UInt32) (b : Int32) (c : Int32) (d : Int32) =>
  bI (G13 [.int b] t) fun canEncode2 t1 =>
  if canEncode2 = 0 then rI (-1) t1
  else bI (G1 [.int c, .int 0] t1) fun max4 t3 =>
    hTLen a fun n5 =>
    bI (G2 [.int d, .int n5] t3) fun min7 t6 =>
    if max4 < min7 then bI (G15 [.float a, .int b, .int max4, .int min7] t6) fun indexOfChar9 t8 =>
      rI indexOfChar9 t8
    else rI (-1) t6) := by rfl
theorem fjL_indexOf_ok (t : SM) (a : UInt32) (b : Int32) (c : Int32) (d : Int32) (h : fjL_indexOf t a b c d = some r) : Body l 2 q_14 P_14 r 0 [(0, .float a), (1, .int b), (2, .int c), (3, .int d)] [] t :=
  blk ft_14 (by omega) rfl rows_14 (KDok.nil) ((congrFun (congrFun (congrFun (congrFun (congrFun (congrFun (congrFun (congrFun (congrFun (fjL_indexOf_eq) F_13) F_1) F_2) F_15) t) a) b) c) d).trans h)
theorem ok_14 (l : Launch) : Fok l 2 mtab 14 (F_14) := by
  intro as t r h
  unfold F_14 at h
  split at h
  · rename_i a b c d
    exact ⟨q_14, rfl, mok_14, con_of (P := P_14) (by decide +kernel) rfl (Nat.le_of_ble_eq_true rfl) (fjL_indexOf_ok t a b c d h)⟩
  · cases h
end
section
set_option maxRecDepth 100000
variable {l : Launch} {r : RR}
def FT_8 : FT := (10, F_10) :: (5, F_5) :: (14, F_14) :: []
theorem ft_8 : FTok l 3 mtab FT_8 := FTok.cons (ok_10 l) (by omega) (FTok.cons (ok_5 l) (by omega) (FTok.cons (ok_14 l) (by omega) (FTok.nil)))
theorem fjS_indexOf2_eq : (fun (G10 : List Value → SM → OR) (G5 : List Value → SM → OR) (G14 : List Value → SM → OR) (t : SM) (o : UInt32) (a : Int32) (b : Int32) => ex clN P_8 none bytJ (mkCal rks ((10, G10) :: (5, G5) :: (14, G14) :: [])) [] (kDisp []) 400 0 [(0, .float o), (1, .int a), (2, .int b)] [] t) = (fun (G10 : List Value → SM → OR) (G5 : List Value → SM → OR) (G14 : List Value → SM → OR) (t : SM) (o : UInt32) (a : Int32) (b : Int32) =>
  hTc 0 0 o <| bI (G10 [.float o] t) fun isLatin2 t1 =>
  if isLatin2 = 0 then hTx o (hTc 0 3 o <| bI (G5 [.float o] t1) fun length4 t3 =>
    none)
  else hTx o (hTc 0 3 o <| bI (G5 [.float o] t1) fun length6 t5 =>
  bI (G14 [.float (o + 50), .int a, .int b, .int length6] t5) fun indexOf8 t7 =>
  rI indexOf8 t7)) := by rfl
theorem fjS_indexOf2_ok (t : SM) (o : UInt32) (a : Int32) (b : Int32) (h : fjS_indexOf2 t o a b = some r) : Body l 3 q_8 P_8 r 0 [(0, .float o), (1, .int a), (2, .int b)] [] t :=
  blk ft_8 (by omega) rfl rows_8 (KDok.nil) ((congrFun (congrFun (congrFun (congrFun (congrFun (congrFun (congrFun (fjS_indexOf2_eq) F_10) F_5) F_14) t) o) a) b).trans h)
theorem ok_8 (l : Launch) : Fok l 3 mtab 8 (F_8) := by
  intro as t r h
  unfold F_8 at h
  split at h
  · rename_i o a b
    exact ⟨q_8, rfl, mok_8, con_of (P := P_8) (by decide +kernel) rfl (Nat.le_of_ble_eq_true rfl) (fjS_indexOf2_ok t o a b h)⟩
  · cases h
end
section
set_option maxRecDepth 100000
variable {l : Launch} {r : RR}
def FT_7 : FT := (8, F_8) :: []
theorem ft_7 : FTok l 4 mtab FT_7 := FTok.cons (ok_8 l) (by omega) (FTok.nil)
theorem fjS_indexOf_eq : (fun (G8 : List Value → SM → OR) (t : SM) (o : UInt32) (a : Int32) => ex clN P_7 none bytJ (mkCal rks ((8, G8) :: [])) [] (kDisp []) 400 0 [(0, .float o), (1, .int a)] [] t) = (fun (G8 : List Value → SM → OR) (t : SM) (o : UInt32) (a : Int32) =>
  hTc 2 0 o <| bI (G8 [.float o, .int a, .int 0] t) fun indexOf2 t1 =>
  rI indexOf2 t1) := by rfl
theorem fjS_indexOf_ok (t : SM) (o : UInt32) (a : Int32) (h : fjS_indexOf t o a = some r) : Body l 4 q_7 P_7 r 0 [(0, .float o), (1, .int a)] [] t :=
  blk ft_7 (by omega) rfl rows_7 (KDok.nil) ((congrFun (congrFun (congrFun (congrFun (fjS_indexOf_eq) F_8) t) o) a).trans h)
theorem ok_7 (l : Launch) : Fok l 4 mtab 7 (F_7) := by
  intro as t r h
  unfold F_7 at h
  split at h
  · rename_i o a
    exact ⟨q_7, rfl, mok_7, con_of (P := P_7) (by decide +kernel) rfl (Nat.le_of_ble_eq_true rfl) (fjS_indexOf_ok t o a h)⟩
  · cases h
end
section
set_option maxRecDepth 100000
variable {l : Launch} {r : RR}
def FT_17 : FT := []
theorem ft_17 : FTok l 1 mtab FT_17 := FTok.nil
theorem fAW_init_eq : (fun (t : SM) (a : Nat) => ex clN P_17 none bytJ (mkCal rks ([])) [] (kDisp []) 400 0 [(0, .ref 22), (1, .ref a)] [] t) = (fun (t : SM) (a : Nat) =>
  hNewA t 20 768 fun q1 t2 =>
  hPutR t2 0 22 0 (some q1) fun t3 =>
  hNewA t3 20 7 fun q4 t5 =>
  hPutR t5 0 22 1 (some q4) fun t6 =>
  hNewA t6 20 6 fun q7 t8 =>
  hPutR t8 0 22 2 (some q7) fun t9 =>
  hPutR t9 0 22 3 (some a) fun t10 =>
  rV t10) := by rfl
theorem fAW_init_ok (t : SM) (a : Nat) (h : fAW_init t a = some r) : Body l 1 q_17 P_17 r 0 [(0, .ref 22), (1, .ref a)] [] t :=
  blk ft_17 (by omega) rfl rows_17 (KDok.nil) ((congrFun (congrFun (fAW_init_eq) t) a).trans h)
theorem ok_17 (l : Launch) : Fok l 1 mtab 17 (F_17) := by
  intro as t r h
  unfold F_17 at h
  split at h
  · rename_i z0 a
    split at h
    · rename_i hz0
      obtain rfl := Nat.eq_of_beq_eq_true hz0
      exact ⟨q_17, rfl, mok_17, con_of (P := P_17) (by decide +kernel) rfl (Nat.le_of_ble_eq_true rfl) (fAW_init_ok t a h)⟩
    · cases h
  · cases h
end
section
set_option maxRecDepth 100000
variable {l : Launch} {r : RR}
def FT_99 : FT := []
theorem ft_99 : FTok l 1 mtab FT_99 := FTok.nil
theorem fWd_townAt_eq : (fun (t : SM) (a : Int32) => ex clN P_99 none bytJ (mkCal rks ([])) [] (kDisp []) 400 0 [(0, .ref 16), (1, .int a)] [] t) = (fun (t : SM) (a : Int32) =>
  if a < 0 then rI (-1) t
  else hGetI t 9 16 1 fun size1 =>
  if size1 ≤ a then rI (-1) t
  else hGetC t 9 16 0 17 <|
  hALen t 17 fun n2 =>
  if n2 ≤ a then rI (-1) t
  else hGetC t 9 16 0 17 <|
  hALd t 17 a fun e3 =>
  rI e3 t) := by rfl
theorem fWd_townAt_ok (t : SM) (a : Int32) (h : fWd_townAt t a = some r) : Body l 1 q_99 P_99 r 0 [(0, .ref 16), (1, .int a)] [] t :=
  blk ft_99 (by omega) rfl rows_99 (KDok.nil) ((congrFun (congrFun (fWd_townAt_eq) t) a).trans h)
theorem ok_99 (l : Launch) : Fok l 1 mtab 99 (F_99) := by
  intro as t r h
  unfold F_99 at h
  split at h
  · rename_i z0 a
    split at h
    · rename_i hz0
      obtain rfl := Nat.eq_of_beq_eq_true hz0
      exact ⟨q_99, rfl, mok_99, con_of (P := P_99) (by decide +kernel) rfl (Nat.le_of_ble_eq_true rfl) (fWd_townAt_ok t a h)⟩
    · cases h
  · cases h
end
section
set_option maxRecDepth 100000
variable {l : Launch} {r : RR}
def FT_80 : FT := []
theorem ft_80 : FTok l 1 mtab FT_80 := FTok.nil
theorem fSs_streetAt_eq : (fun (t : SM) (a : Int32) => ex clN P_80 none bytJ (mkCal rks ([])) [] (kDisp []) 400 0 [(0, .ref 5), (1, .int a)] [] t) = (fun (t : SM) (a : Int32) =>
  if a < 0 then rN t
  else hGetI t 7 5 1 fun size1 =>
  if size1 ≤ a then rN t
  else hGetC t 7 5 0 6 <|
  hALen t 6 fun n2 =>
  if n2 ≤ a then rN t
  else hGetC t 7 5 0 6 <|
  hQLd t 6 6 a (rN t) fun q3 =>
  rR q3 t) := by rfl
theorem fSs_streetAt_ok (t : SM) (a : Int32) (h : fSs_streetAt t a = some r) : Body l 1 q_80 P_80 r 0 [(0, .ref 5), (1, .int a)] [] t :=
  blk ft_80 (by omega) rfl rows_80 (KDok.nil) ((congrFun (congrFun (fSs_streetAt_eq) t) a).trans h)
theorem ok_80 (l : Launch) : Fok l 1 mtab 80 (F_80) := by
  intro as t r h
  unfold F_80 at h
  split at h
  · rename_i z0 a
    split at h
    · rename_i hz0
      obtain rfl := Nat.eq_of_beq_eq_true hz0
      exact ⟨q_80, rfl, mok_80, con_of (P := P_80) (by decide +kernel) rfl (Nat.le_of_ble_eq_true rfl) (fSs_streetAt_ok t a h)⟩
    · cases h
  · cases h
end
section
set_option maxRecDepth 100000
variable {l : Launch} {r : RR}
def FT_163 : FT := []
theorem ft_163 : FTok l 1 mtab FT_163 := FTok.nil
theorem fx_hasChoice_eq : (fun (t : SM) (a : Int32) (b : Int32) => ex clN P_163 none bytJ (mkCal rks ([])) [] (kDisp []) 400 0 [(0, .int a), (1, .int b)] [] t) = (fun (t : SM) (a : Int32) (b : Int32) =>
  if ((a >>> (b &&& 31)) &&& 1) = 1 then rI 1 t
  else rI 0 t) := by rfl
theorem fx_hasChoice_ok (t : SM) (a : Int32) (b : Int32) (h : fx_hasChoice t a b = some r) : Body l 1 q_163 P_163 r 0 [(0, .int a), (1, .int b)] [] t :=
  blk ft_163 (by omega) rfl rows_163 (KDok.nil) ((congrFun (congrFun (congrFun (fx_hasChoice_eq) t) a) b).trans h)
theorem ok_163 (l : Launch) : Fok l 1 mtab 163 (F_163) := by
  intro as t r h
  unfold F_163 at h
  split at h
  · rename_i a b
    exact ⟨q_163, rfl, mok_163, con_of (P := P_163) (by decide +kernel) rfl (Nat.le_of_ble_eq_true rfl) (fx_hasChoice_ok t a b h)⟩
  · cases h
end
section
set_option maxRecDepth 100000
variable {l : Launch} {r : RR}
def FT_76 : FT := (163, F_163) :: []
theorem ft_76 : FTok l 2 mtab FT_76 := FTok.cons (ok_163 l) (by omega) (FTok.nil)
theorem fSt_isOpenIn_eq : (fun (G163 : List Value → SM → OR) (t : SM) (o : Nat) (a : Int32) => ex clN P_76 none bytJ (mkCal rks ((163, G163) :: [])) [] (kDisp []) 400 0 [(0, .ref o), (1, .int a)] [] t) = (fun (G163 : List Value → SM → OR) (t : SM) (o : Nat) (a : Int32) =>
  hGetI t 6 o 2 fun choice1 =>
  if choice1 = (-1) then rI 1 t
  else hGetI t 6 o 2 fun choice2 =>
  bI (G163 [.int a, .int choice2] t) fun hasChoice4 t3 =>
  if hasChoice4 = 0 then rI 0 t3
  else rI 1 t3) := by rfl
theorem fSt_isOpenIn_ok (t : SM) (o : Nat) (a : Int32) (h : fSt_isOpenIn t o a = some r) : Body l 2 q_76 P_76 r 0 [(0, .ref o), (1, .int a)] [] t :=
  blk ft_76 (by omega) rfl rows_76 (KDok.nil) ((congrFun (congrFun (congrFun (congrFun (fSt_isOpenIn_eq) F_163) t) o) a).trans h)
theorem ok_76 (l : Launch) : Fok l 2 mtab 76 (F_76) := by
  intro as t r h
  unfold F_76 at h
  split at h
  · rename_i o a
    exact ⟨q_76, rfl, mok_76, con_of (P := P_76) (by decide +kernel) rfl (Nat.le_of_ble_eq_true rfl) (fSt_isOpenIn_ok t o a h)⟩
  · cases h
end
section
set_option maxRecDepth 100000
variable {l : Launch} {r : RR}
def FT_82 : FT := (80, F_80) :: (76, F_76) :: []
theorem ft_82 : FTok l 3 mtab FT_82 := FTok.cons (ok_80 l) (by omega) (FTok.cons (ok_76 l) (by omega) (FTok.nil))
theorem fSs_openIn_4_eq : (fun (G80 : List Value → SM → OR) (G76 : List Value → SM → OR) (j4 : SM → Int32 → Int32 → Int32 → OR) (t : SM) (v1 : Int32) (v2 : Int32) (v3 : Int32) => ex clN P_82 none bytJ (mkCal rks ((80, G80) :: (76, G76) :: [])) [4] (kDisp [(4, kF 0 5 <| kI 1 fun w1 => kI 2 fun w2 => kI 3 fun w3 => kE fun t => j4 t w1 w2 w3)]) 400 4 [(3, .int v3), (2, .int v2), (1, .int v1), (0, .ref 5)] [] t) = (fun (G80 : List Value → SM → OR) (G76 : List Value → SM → OR) (j4 : SM → Int32 → Int32 → Int32 → OR) (t : SM) (v1 : Int32) (v2 : Int32) (v3 : Int32) =>
  hGetI t 7 5 1 fun size1 =>
  if size1 ≤ v3 then rI v2 t
  else hRecv t 7 5 <| bQ (G80 [.ref 5, .int v3] t) (fun t2 => j4 t2 v1 v2 (v3 + 1)) fun q3 t2 =>
  hRecv t2 6 q3 <| bI (G76 [.ref q3, .int v1] t2) fun isOpenIn5 t4 =>
  if isOpenIn5 = 0 then j4 t4 v1 v2 (v3 + 1)
  else j4 t4 v1 (v2 ||| ((1 : Int32) <<< (v3 &&& 31))) (v3 + 1)) := by rfl
theorem fSs_openIn_4_ok {r4 : SM → Int32 → Int32 → Int32 → OR} (h_r4 : ∀ (t : SM) (v1 : Int32) (v2 : Int32) (v3 : Int32), r4 t v1 v2 v3 = some r → Body l 3 q_82 P_82 r 4 [(3, .int v3), (2, .int v2), (1, .int v1), (0, .ref 5)] [] t) (t : SM) (v1 : Int32) (v2 : Int32) (v3 : Int32) (h : fSs_openIn_4 r4 t v1 v2 v3 = some r) : Body l 3 q_82 P_82 r 4 [(3, .int v3), (2, .int v2), (1, .int v1), (0, .ref 5)] [] t :=
  blk ft_82 (by omega) rfl rows_82 (KDok.cons (KOK.f <| KOK.i fun w1 => KOK.i fun w2 => KOK.i fun w3 => KOK.e (f := fun t => r4 t w1 w2 w3) fun t h => h_r4 t w1 w2 w3 h) (KDok.nil)) ((congrFun (congrFun (congrFun (congrFun (congrFun (congrFun (congrFun (fSs_openIn_4_eq) F_80) F_76) (fun t u1 u2 u3 => r4 t u1 u2 u3)) t) v1) v2) v3).trans h)
theorem fSs_openIn_l4_ok : ∀ (n : Nat) (t : SM) (v1 : Int32) (v2 : Int32) (v3 : Int32), fSs_openIn_l4 n t v1 v2 v3 = some r → Body l 3 q_82 P_82 r 4 [(3, .int v3), (2, .int v2), (1, .int v1), (0, .ref 5)] [] t
  | 0, _, _, _, _, h => by cases h
  | n + 1, t, v1, v2, v3, h => fSs_openIn_4_ok (fSs_openIn_l4_ok n) t v1 v2 v3 h
theorem fSs_openIn_eq : (fun (G80 : List Value → SM → OR) (G76 : List Value → SM → OR) (j4 : SM → Int32 → Int32 → Int32 → OR) (t : SM) (a : Int32) => ex clN P_82 none bytJ (mkCal rks ((80, G80) :: (76, G76) :: [])) [4] (kDisp [(4, kF 0 5 <| kI 1 fun w1 => kI 2 fun w2 => kI 3 fun w3 => kE fun t => j4 t w1 w2 w3)]) 400 0 [(0, .ref 5), (1, .int a)] [] t) = (fun (G80 : List Value → SM → OR) (G76 : List Value → SM → OR) (j4 : SM → Int32 → Int32 → Int32 → OR) (t : SM) (a : Int32) =>
  j4 t a 0 0) := by rfl
theorem fSs_openIn_ok (t : SM) (a : Int32) (h : fSs_openIn t a = some r) : Body l 3 q_82 P_82 r 0 [(0, .ref 5), (1, .int a)] [] t :=
  blk ft_82 (by omega) rfl rows_82 (KDok.cons (KOK.f <| KOK.i fun w1 => KOK.i fun w2 => KOK.i fun w3 => KOK.e (f := fun t => fSs_openIn_l4 1000000 t w1 w2 w3) fun t h => fSs_openIn_l4_ok 1000000 t w1 w2 w3 h) (KDok.nil)) ((congrFun (congrFun (congrFun (congrFun (congrFun (fSs_openIn_eq) F_80) F_76) (fun t u1 u2 u3 => fSs_openIn_l4 1000000 t u1 u2 u3)) t) a).trans h)
theorem ok_82 (l : Launch) : Fok l 3 mtab 82 (F_82) := by
  intro as t r h
  unfold F_82 at h
  split at h
  · rename_i z0 a
    split at h
    · rename_i hz0
      obtain rfl := Nat.eq_of_beq_eq_true hz0
      exact ⟨q_82, rfl, mok_82, con_of (P := P_82) (by decide +kernel) rfl (Nat.le_of_ble_eq_true rfl) (fSs_openIn_ok t a h)⟩
    · cases h
  · cases h
end
section
set_option maxRecDepth 100000
variable {l : Launch} {r : RR}
def FT_77 : FT := []
theorem ft_77 : FTok l 1 mtab FT_77 := FTok.nil
theorem fSt_touches_eq : (fun (t : SM) (o : Nat) (a : Int32) => ex clN P_77 none bytJ (mkCal rks ([])) [] (kDisp []) 400 0 [(0, .ref o), (1, .int a)] [] t) = (fun (t : SM) (o : Nat) (a : Int32) =>
  hGetI t 6 o 0 fun u1 =>
  if a = u1 then rI 1 t
  else hGetI t 6 o 1 fun vv2 =>
  if a = vv2 then rI 1 t
  else rI 0 t) := by rfl
theorem fSt_touches_ok (t : SM) (o : Nat) (a : Int32) (h : fSt_touches t o a = some r) : Body l 1 q_77 P_77 r 0 [(0, .ref o), (1, .int a)] [] t :=
  blk ft_77 (by omega) rfl rows_77 (KDok.nil) ((congrFun (congrFun (congrFun (fSt_touches_eq) t) o) a).trans h)
theorem ok_77 (l : Launch) : Fok l 1 mtab 77 (F_77) := by
  intro as t r h
  unfold F_77 at h
  split at h
  · rename_i o a
    exact ⟨q_77, rfl, mok_77, con_of (P := P_77) (by decide +kernel) rfl (Nat.le_of_ble_eq_true rfl) (fSt_touches_ok t o a h)⟩
  · cases h
end
section
set_option maxRecDepth 100000
variable {l : Launch} {r : RR}
def FT_83 : FT := (80, F_80) :: (77, F_77) :: []
theorem ft_83 : FTok l 2 mtab FT_83 := FTok.cons (ok_80 l) (by omega) (FTok.cons (ok_77 l) (by omega) (FTok.nil))
theorem fSs_touching_4_eq : (fun (G80 : List Value → SM → OR) (G77 : List Value → SM → OR) (j4 : SM → Int32 → Int32 → Int32 → OR) (t : SM) (v1 : Int32) (v2 : Int32) (v3 : Int32) => ex clN P_83 none bytJ (mkCal rks ((80, G80) :: (77, G77) :: [])) [4] (kDisp [(4, kF 0 5 <| kI 1 fun w1 => kI 2 fun w2 => kI 3 fun w3 => kE fun t => j4 t w1 w2 w3)]) 400 4 [(3, .int v3), (2, .int v2), (1, .int v1), (0, .ref 5)] [] t) = (fun (G80 : List Value → SM → OR) (G77 : List Value → SM → OR) (j4 : SM → Int32 → Int32 → Int32 → OR) (t : SM) (v1 : Int32) (v2 : Int32) (v3 : Int32) =>
  hGetI t 7 5 1 fun size1 =>
  if size1 ≤ v3 then rI v2 t
  else hRecv t 7 5 <| bQ (G80 [.ref 5, .int v3] t) (fun t2 => j4 t2 v1 v2 (v3 + 1)) fun q3 t2 =>
  hRecv t2 6 q3 <| bI (G77 [.ref q3, .int v1] t2) fun touches5 t4 =>
  if touches5 = 0 then j4 t4 v1 v2 (v3 + 1)
  else j4 t4 v1 (v2 ||| ((1 : Int32) <<< (v3 &&& 31))) (v3 + 1)) := by rfl
theorem fSs_touching_4_ok {r4 : SM → Int32 → Int32 → Int32 → OR} (h_r4 : ∀ (t : SM) (v1 : Int32) (v2 : Int32) (v3 : Int32), r4 t v1 v2 v3 = some r → Body l 2 q_83 P_83 r 4 [(3, .int v3), (2, .int v2), (1, .int v1), (0, .ref 5)] [] t) (t : SM) (v1 : Int32) (v2 : Int32) (v3 : Int32) (h : fSs_touching_4 r4 t v1 v2 v3 = some r) : Body l 2 q_83 P_83 r 4 [(3, .int v3), (2, .int v2), (1, .int v1), (0, .ref 5)] [] t :=
  blk ft_83 (by omega) rfl rows_83 (KDok.cons (KOK.f <| KOK.i fun w1 => KOK.i fun w2 => KOK.i fun w3 => KOK.e (f := fun t => r4 t w1 w2 w3) fun t h => h_r4 t w1 w2 w3 h) (KDok.nil)) ((congrFun (congrFun (congrFun (congrFun (congrFun (congrFun (congrFun (fSs_touching_4_eq) F_80) F_77) (fun t u1 u2 u3 => r4 t u1 u2 u3)) t) v1) v2) v3).trans h)
theorem fSs_touching_l4_ok : ∀ (n : Nat) (t : SM) (v1 : Int32) (v2 : Int32) (v3 : Int32), fSs_touching_l4 n t v1 v2 v3 = some r → Body l 2 q_83 P_83 r 4 [(3, .int v3), (2, .int v2), (1, .int v1), (0, .ref 5)] [] t
  | 0, _, _, _, _, h => by cases h
  | n + 1, t, v1, v2, v3, h => fSs_touching_4_ok (fSs_touching_l4_ok n) t v1 v2 v3 h
theorem fSs_touching_eq : (fun (G80 : List Value → SM → OR) (G77 : List Value → SM → OR) (j4 : SM → Int32 → Int32 → Int32 → OR) (t : SM) (a : Int32) => ex clN P_83 none bytJ (mkCal rks ((80, G80) :: (77, G77) :: [])) [4] (kDisp [(4, kF 0 5 <| kI 1 fun w1 => kI 2 fun w2 => kI 3 fun w3 => kE fun t => j4 t w1 w2 w3)]) 400 0 [(0, .ref 5), (1, .int a)] [] t) = (fun (G80 : List Value → SM → OR) (G77 : List Value → SM → OR) (j4 : SM → Int32 → Int32 → Int32 → OR) (t : SM) (a : Int32) =>
  j4 t a 0 0) := by rfl
theorem fSs_touching_ok (t : SM) (a : Int32) (h : fSs_touching t a = some r) : Body l 2 q_83 P_83 r 0 [(0, .ref 5), (1, .int a)] [] t :=
  blk ft_83 (by omega) rfl rows_83 (KDok.cons (KOK.f <| KOK.i fun w1 => KOK.i fun w2 => KOK.i fun w3 => KOK.e (f := fun t => fSs_touching_l4 1000000 t w1 w2 w3) fun t h => fSs_touching_l4_ok 1000000 t w1 w2 w3 h) (KDok.nil)) ((congrFun (congrFun (congrFun (congrFun (congrFun (fSs_touching_eq) F_80) F_77) (fun t u1 u2 u3 => fSs_touching_l4 1000000 t u1 u2 u3)) t) a).trans h)
theorem ok_83 (l : Launch) : Fok l 2 mtab 83 (F_83) := by
  intro as t r h
  unfold F_83 at h
  split at h
  · rename_i z0 a
    split at h
    · rename_i hz0
      obtain rfl := Nat.eq_of_beq_eq_true hz0
      exact ⟨q_83, rfl, mok_83, con_of (P := P_83) (by decide +kernel) rfl (Nat.le_of_ble_eq_true rfl) (fSs_touching_ok t a h)⟩
    · cases h
  · cases h
end
section
set_option maxRecDepth 100000
variable {l : Launch} {r : RR}
def FT_164 : FT := []
theorem ft_164 : FTok l 1 mtab FT_164 := FTok.nil
theorem fx_firstOf_2_eq : (fun (j2 : SM → Int32 → Int32 → OR) (t : SM) (v0 : Int32) (v1 : Int32) => ex clN P_164 none bytJ (mkCal rks ([])) [2] (kDisp [(2, kI 0 fun w0 => kI 1 fun w1 => kE fun t => j2 t w0 w1)]) 400 2 [(1, .int v1), (0, .int v0)] [] t) = (fun (j2 : SM → Int32 → Int32 → OR) (t : SM) (v0 : Int32) (v1 : Int32) =>
  if 31 ≤ v1 then rI (-1) t
  else if ((v0 >>> (v1 &&& 31)) &&& 1) = 1 then rI v1 t
  else j2 t v0 (v1 + 1)) := by rfl
theorem fx_firstOf_2_ok {r2 : SM → Int32 → Int32 → OR} (h_r2 : ∀ (t : SM) (v0 : Int32) (v1 : Int32), r2 t v0 v1 = some r → Body l 1 q_164 P_164 r 2 [(1, .int v1), (0, .int v0)] [] t) (t : SM) (v0 : Int32) (v1 : Int32) (h : fx_firstOf_2 r2 t v0 v1 = some r) : Body l 1 q_164 P_164 r 2 [(1, .int v1), (0, .int v0)] [] t :=
  blk ft_164 (by omega) rfl rows_164 (KDok.cons (KOK.i fun w0 => KOK.i fun w1 => KOK.e (f := fun t => r2 t w0 w1) fun t h => h_r2 t w0 w1 h) (KDok.nil)) ((congrFun (congrFun (congrFun (congrFun (fx_firstOf_2_eq) (fun t u0 u1 => r2 t u0 u1)) t) v0) v1).trans h)
theorem fx_firstOf_l2_ok : ∀ (n : Nat) (t : SM) (v0 : Int32) (v1 : Int32), fx_firstOf_l2 n t v0 v1 = some r → Body l 1 q_164 P_164 r 2 [(1, .int v1), (0, .int v0)] [] t
  | 0, _, _, _, h => by cases h
  | n + 1, t, v0, v1, h => fx_firstOf_2_ok (fx_firstOf_l2_ok n) t v0 v1 h
theorem fx_firstOf_eq : (fun (j2 : SM → Int32 → Int32 → OR) (t : SM) (a : Int32) => ex clN P_164 none bytJ (mkCal rks ([])) [2] (kDisp [(2, kI 0 fun w0 => kI 1 fun w1 => kE fun t => j2 t w0 w1)]) 400 0 [(0, .int a)] [] t) = (fun (j2 : SM → Int32 → Int32 → OR) (t : SM) (a : Int32) =>
  j2 t a 0) := by rfl
theorem fx_firstOf_ok (t : SM) (a : Int32) (h : fx_firstOf t a = some r) : Body l 1 q_164 P_164 r 0 [(0, .int a)] [] t :=
  blk ft_164 (by omega) rfl rows_164 (KDok.cons (KOK.i fun w0 => KOK.i fun w1 => KOK.e (f := fun t => fx_firstOf_l2 1000000 t w0 w1) fun t h => fx_firstOf_l2_ok 1000000 t w0 w1 h) (KDok.nil)) ((congrFun (congrFun (congrFun (fx_firstOf_eq) (fun t u0 u1 => fx_firstOf_l2 1000000 t u0 u1)) t) a).trans h)
theorem ok_164 (l : Launch) : Fok l 1 mtab 164 (F_164) := by
  intro as t r h
  unfold F_164 at h
  split at h
  · rename_i a
    exact ⟨q_164, rfl, mok_164, con_of (P := P_164) (by decide +kernel) rfl (Nat.le_of_ble_eq_true rfl) (fx_firstOf_ok t a h)⟩
  · cases h
end
section
set_option maxRecDepth 100000
variable {l : Launch} {r : RR}
def FT_166 : FT := []
theorem ft_166 : FTok l 1 mtab FT_166 := FTok.nil
theorem fx_numberAt_eq : (fun (t : SM) (a : Nat) (b : Int32) => ex clN P_166 none bytJ (mkCal rks ([])) [] (kDisp []) 400 0 [(0, .ref a), (1, .int b)] [] t) = (fun (t : SM) (a : Nat) (b : Int32) =>
  if b < 0 then rI 0 t
  else hALen t a fun n1 =>
  if n1 ≤ b then rI 0 t
  else hALd t a b fun e2 =>
  rI e2 t) := by rfl
theorem fx_numberAt_ok (t : SM) (a : Nat) (b : Int32) (h : fx_numberAt t a b = some r) : Body l 1 q_166 P_166 r 0 [(0, .ref a), (1, .int b)] [] t :=
  blk ft_166 (by omega) rfl rows_166 (KDok.nil) ((congrFun (congrFun (congrFun (fx_numberAt_eq) t) a) b).trans h)
theorem ok_166 (l : Launch) : Fok l 1 mtab 166 (F_166) := by
  intro as t r h
  unfold F_166 at h
  split at h
  · rename_i a b
    exact ⟨q_166, rfl, mok_166, con_of (P := P_166) (by decide +kernel) rfl (Nat.le_of_ble_eq_true rfl) (fx_numberAt_ok t a b h)⟩
  · cases h
end
section
set_option maxRecDepth 100000
variable {l : Launch} {r : RR}
def FT_22 : FT := (166, F_166) :: []
theorem ft_22 : FTok l 2 mtab FT_22 := FTok.cons (ok_166 l) (by omega) (FTok.nil)
theorem fAW_openAt_eq : (fun (G166 : List Value → SM → OR) (t : SM) (a : Int32) (b : Int32) => ex clN P_22 none bytJ (mkCal rks ((166, G166) :: [])) [] (kDisp []) 400 0 [(0, .ref 22), (1, .int a), (2, .int b)] [] t) = (fun (G166 : List Value → SM → OR) (t : SM) (a : Int32) (b : Int32) =>
  hGetC t 0 22 1 24 <|
  bI (G166 [.ref 24, .int b] t) fun numberAt2 t1 =>
  hGetC t1 0 22 2 25 <|
  bI (G166 [.ref 25, .int a] t1) fun numberAt4 t3 =>
  rI (numberAt2 &&& numberAt4) t3) := by rfl
theorem fAW_openAt_ok (t : SM) (a : Int32) (b : Int32) (h : fAW_openAt t a b = some r) : Body l 2 q_22 P_22 r 0 [(0, .ref 22), (1, .int a), (2, .int b)] [] t :=
  blk ft_22 (by omega) rfl rows_22 (KDok.nil) ((congrFun (congrFun (congrFun (congrFun (fAW_openAt_eq) F_166) t) a) b).trans h)
theorem ok_22 (l : Launch) : Fok l 2 mtab 22 (F_22) := by
  intro as t r h
  unfold F_22 at h
  split at h
  · rename_i z0 a b
    split at h
    · rename_i hz0
      obtain rfl := Nat.eq_of_beq_eq_true hz0
      exact ⟨q_22, rfl, mok_22, con_of (P := P_22) (by decide +kernel) rfl (Nat.le_of_ble_eq_true rfl) (fAW_openAt_ok t a b h)⟩
    · cases h
  · cases h
end
section
set_option maxRecDepth 100000
variable {l : Launch} {r : RR}
def FT_23 : FT := (22, F_22) :: []
theorem ft_23 : FTok l 3 mtab FT_23 := FTok.cons (ok_22 l) (by omega) (FTok.nil)
theorem fAW_lookingLike_6_eq : (fun (G22 : List Value → SM → OR) (j6 : SM → Int32 → Int32 → Int32 → Int32 → Int32 → OR) (t : SM) (v1 : Int32) (v2 : Int32) (v3 : Int32) (v4 : Int32) (v5 : Int32) => ex clN P_23 none bytJ (mkCal rks ((22, G22) :: [])) [6] (kDisp [(6, kF 0 22 <| kI 1 fun w1 => kI 2 fun w2 => kI 3 fun w3 => kI 4 fun w4 => kI 5 fun w5 => kE fun t => j6 t w1 w2 w3 w4 w5)]) 400 6 [(5, .int v5), (4, .int v4), (3, .int v3), (2, .int v2), (1, .int v1), (0, .ref 22)] [] t) = (fun (G22 : List Value → SM → OR) (j6 : SM → Int32 → Int32 → Int32 → Int32 → Int32 → OR) (t : SM) (v1 : Int32) (v2 : Int32) (v3 : Int32) (v4 : Int32) (v5 : Int32) =>
  if 7 ≤ v5 then rI v4 t
  else if ((v3 >>> (v5 &&& 31)) &&& 1) = 1 then hRecv t 0 22 <| bI (G22 [.ref 22, .int v2, .int v5] t) fun openAt2 t1 =>
  hRecv t1 0 22 <| bI (G22 [.ref 22, .int v2, .int v1] t1) fun openAt4 t3 =>
  if openAt2 = openAt4 then j6 t3 v1 v2 v3 (v4 ||| ((1 : Int32) <<< (v5 &&& 31))) (v5 + 1)
  else j6 t3 v1 v2 v3 v4 (v5 + 1)
  else j6 t v1 v2 v3 v4 (v5 + 1)) := by rfl
theorem fAW_lookingLike_6_ok {r6 : SM → Int32 → Int32 → Int32 → Int32 → Int32 → OR} (h_r6 : ∀ (t : SM) (v1 : Int32) (v2 : Int32) (v3 : Int32) (v4 : Int32) (v5 : Int32), r6 t v1 v2 v3 v4 v5 = some r → Body l 3 q_23 P_23 r 6 [(5, .int v5), (4, .int v4), (3, .int v3), (2, .int v2), (1, .int v1), (0, .ref 22)] [] t) (t : SM) (v1 : Int32) (v2 : Int32) (v3 : Int32) (v4 : Int32) (v5 : Int32) (h : fAW_lookingLike_6 r6 t v1 v2 v3 v4 v5 = some r) : Body l 3 q_23 P_23 r 6 [(5, .int v5), (4, .int v4), (3, .int v3), (2, .int v2), (1, .int v1), (0, .ref 22)] [] t :=
  blk ft_23 (by omega) rfl rows_23 (KDok.cons (KOK.f <| KOK.i fun w1 => KOK.i fun w2 => KOK.i fun w3 => KOK.i fun w4 => KOK.i fun w5 => KOK.e (f := fun t => r6 t w1 w2 w3 w4 w5) fun t h => h_r6 t w1 w2 w3 w4 w5 h) (KDok.nil)) ((congrFun (congrFun (congrFun (congrFun (congrFun (congrFun (congrFun (congrFun (fAW_lookingLike_6_eq) F_22) (fun t u1 u2 u3 u4 u5 => r6 t u1 u2 u3 u4 u5)) t) v1) v2) v3) v4) v5).trans h)
theorem fAW_lookingLike_l6_ok : ∀ (n : Nat) (t : SM) (v1 : Int32) (v2 : Int32) (v3 : Int32) (v4 : Int32) (v5 : Int32), fAW_lookingLike_l6 n t v1 v2 v3 v4 v5 = some r → Body l 3 q_23 P_23 r 6 [(5, .int v5), (4, .int v4), (3, .int v3), (2, .int v2), (1, .int v1), (0, .ref 22)] [] t
  | 0, _, _, _, _, _, _, h => by cases h
  | n + 1, t, v1, v2, v3, v4, v5, h => fAW_lookingLike_6_ok (fAW_lookingLike_l6_ok n) t v1 v2 v3 v4 v5 h
theorem fAW_lookingLike_eq : (fun (G22 : List Value → SM → OR) (j6 : SM → Int32 → Int32 → Int32 → Int32 → Int32 → OR) (t : SM) (a : Int32) (b : Int32) (c : Int32) => ex clN P_23 none bytJ (mkCal rks ((22, G22) :: [])) [6] (kDisp [(6, kF 0 22 <| kI 1 fun w1 => kI 2 fun w2 => kI 3 fun w3 => kI 4 fun w4 => kI 5 fun w5 => kE fun t => j6 t w1 w2 w3 w4 w5)]) 400 0 [(0, .ref 22), (1, .int a), (2, .int b), (3, .int c)] [] t) = (fun (G22 : List Value → SM → OR) (j6 : SM → Int32 → Int32 → Int32 → Int32 → Int32 → OR) (t : SM) (a : Int32) (b : Int32) (c : Int32) =>
  j6 t a b c 0 0) := by rfl
theorem fAW_lookingLike_ok (t : SM) (a : Int32) (b : Int32) (c : Int32) (h : fAW_lookingLike t a b c = some r) : Body l 3 q_23 P_23 r 0 [(0, .ref 22), (1, .int a), (2, .int b), (3, .int c)] [] t :=
  blk ft_23 (by omega) rfl rows_23 (KDok.cons (KOK.f <| KOK.i fun w1 => KOK.i fun w2 => KOK.i fun w3 => KOK.i fun w4 => KOK.i fun w5 => KOK.e (f := fun t => fAW_lookingLike_l6 1000000 t w1 w2 w3 w4 w5) fun t h => fAW_lookingLike_l6_ok 1000000 t w1 w2 w3 w4 w5 h) (KDok.nil)) ((congrFun (congrFun (congrFun (congrFun (congrFun (congrFun (fAW_lookingLike_eq) F_22) (fun t u1 u2 u3 u4 u5 => fAW_lookingLike_l6 1000000 t u1 u2 u3 u4 u5)) t) a) b) c).trans h)
theorem ok_23 (l : Launch) : Fok l 3 mtab 23 (F_23) := by
  intro as t r h
  unfold F_23 at h
  split at h
  · rename_i z0 a b c
    split at h
    · rename_i hz0
      obtain rfl := Nat.eq_of_beq_eq_true hz0
      exact ⟨q_23, rfl, mok_23, con_of (P := P_23) (by decide +kernel) rfl (Nat.le_of_ble_eq_true rfl) (fAW_lookingLike_ok t a b c h)⟩
    · cases h
  · cases h
end
section
set_option maxRecDepth 100000
variable {l : Launch} {r : RR}
def FT_21 : FT := (166, F_166) :: []
theorem ft_21 : FTok l 2 mtab FT_21 := FTok.cons (ok_166 l) (by omega) (FTok.nil)
theorem fAW_longestFor_eq : (fun (G166 : List Value → SM → OR) (t : SM) (a : Int32) (b : Int32) => ex clN P_21 none bytJ (mkCal rks ((166, G166) :: [])) [] (kDisp []) 400 0 [(0, .ref 22), (1, .int a), (2, .int b)] [] t) = (fun (G166 : List Value → SM → OR) (t : SM) (a : Int32) (b : Int32) =>
  hGetC t 0 22 0 23 <|
  bI (G166 [.ref 23, .int ((a * 128) + b)] t) fun numberAt2 t1 =>
  rI numberAt2 t1) := by rfl
theorem fAW_longestFor_ok (t : SM) (a : Int32) (b : Int32) (h : fAW_longestFor t a b = some r) : Body l 2 q_21 P_21 r 0 [(0, .ref 22), (1, .int a), (2, .int b)] [] t :=
  blk ft_21 (by omega) rfl rows_21 (KDok.nil) ((congrFun (congrFun (congrFun (congrFun (fAW_longestFor_eq) F_166) t) a) b).trans h)
theorem ok_21 (l : Launch) : Fok l 2 mtab 21 (F_21) := by
  intro as t r h
  unfold F_21 at h
  split at h
  · rename_i z0 a b
    split at h
    · rename_i hz0
      obtain rfl := Nat.eq_of_beq_eq_true hz0
      exact ⟨q_21, rfl, mok_21, con_of (P := P_21) (by decide +kernel) rfl (Nat.le_of_ble_eq_true rfl) (fAW_longestFor_ok t a b h)⟩
    · cases h
  · cases h
end
section
set_option maxRecDepth 100000
variable {l : Launch} {r : RR}
def FT_25 : FT := (23, F_23) :: (21, F_21) :: (1, F_1) :: []
theorem ft_25 : FTok l 4 mtab FT_25 := FTok.cons (ok_23 l) (by omega) (FTok.cons (ok_21 l) (by omega) (FTok.cons (ok_1 l) (by omega) (FTok.nil)))
theorem fAW_worstOfParts_5_eq : (fun (G23 : List Value → SM → OR) (G21 : List Value → SM → OR) (G1 : List Value → SM → OR) (j5 : SM → Int32 → Int32 → Int32 → Int32 → OR) (t : SM) (v1 : Int32) (v2 : Int32) (v3 : Int32) (v4 : Int32) => ex clN P_25 none bytJ (mkCal rks ((23, G23) :: (21, G21) :: (1, G1) :: [])) [5] (kDisp [(5, kF 0 22 <| kI 1 fun w1 => kI 2 fun w2 => kI 3 fun w3 => kI 4 fun w4 => kE fun t => j5 t w1 w2 w3 w4)]) 400 5 [(4, .int v4), (3, .int v3), (2, .int v2), (1, .int v1), (0, .ref 22)] [] t) = (fun (G23 : List Value → SM → OR) (G21 : List Value → SM → OR) (G1 : List Value → SM → OR) (j5 : SM → Int32 → Int32 → Int32 → Int32 → OR) (t : SM) (v1 : Int32) (v2 : Int32) (v3 : Int32) (v4 : Int32) =>
  if 7 ≤ v4 then rI v3 t
  else if ((v2 >>> (v4 &&& 31)) &&& 1) = 1 then hRecv t 0 22 <| bI (G23 [.ref 22, .int v4, .int v1, .int v2] t) fun lookingLike2 t1 =>
  hRecv t1 0 22 <| bI (G21 [.ref 22, .int v1, .int lookingLike2] t1) fun longestFor4 t3 =>
  bI (G1 [.int v3, .int longestFor4] t3) fun max6 t5 =>
  j5 t5 v1 v2 max6 (v4 + 1)
  else j5 t v1 v2 v3 (v4 + 1)) := by rfl
theorem fAW_worstOfParts_5_ok {r5 : SM → Int32 → Int32 → Int32 → Int32 → OR} (h_r5 : ∀ (t : SM) (v1 : Int32) (v2 : Int32) (v3 : Int32) (v4 : Int32), r5 t v1 v2 v3 v4 = some r → Body l 4 q_25 P_25 r 5 [(4, .int v4), (3, .int v3), (2, .int v2), (1, .int v1), (0, .ref 22)] [] t) (t : SM) (v1 : Int32) (v2 : Int32) (v3 : Int32) (v4 : Int32) (h : fAW_worstOfParts_5 r5 t v1 v2 v3 v4 = some r) : Body l 4 q_25 P_25 r 5 [(4, .int v4), (3, .int v3), (2, .int v2), (1, .int v1), (0, .ref 22)] [] t :=
  blk ft_25 (by omega) rfl rows_25 (KDok.cons (KOK.f <| KOK.i fun w1 => KOK.i fun w2 => KOK.i fun w3 => KOK.i fun w4 => KOK.e (f := fun t => r5 t w1 w2 w3 w4) fun t h => h_r5 t w1 w2 w3 w4 h) (KDok.nil)) ((congrFun (congrFun (congrFun (congrFun (congrFun (congrFun (congrFun (congrFun (congrFun (fAW_worstOfParts_5_eq) F_23) F_21) F_1) (fun t u1 u2 u3 u4 => r5 t u1 u2 u3 u4)) t) v1) v2) v3) v4).trans h)
theorem fAW_worstOfParts_l5_ok : ∀ (n : Nat) (t : SM) (v1 : Int32) (v2 : Int32) (v3 : Int32) (v4 : Int32), fAW_worstOfParts_l5 n t v1 v2 v3 v4 = some r → Body l 4 q_25 P_25 r 5 [(4, .int v4), (3, .int v3), (2, .int v2), (1, .int v1), (0, .ref 22)] [] t
  | 0, _, _, _, _, _, h => by cases h
  | n + 1, t, v1, v2, v3, v4, h => fAW_worstOfParts_5_ok (fAW_worstOfParts_l5_ok n) t v1 v2 v3 v4 h
theorem fAW_worstOfParts_eq : (fun (G23 : List Value → SM → OR) (G21 : List Value → SM → OR) (G1 : List Value → SM → OR) (j5 : SM → Int32 → Int32 → Int32 → Int32 → OR) (t : SM) (a : Int32) (b : Int32) => ex clN P_25 none bytJ (mkCal rks ((23, G23) :: (21, G21) :: (1, G1) :: [])) [5] (kDisp [(5, kF 0 22 <| kI 1 fun w1 => kI 2 fun w2 => kI 3 fun w3 => kI 4 fun w4 => kE fun t => j5 t w1 w2 w3 w4)]) 400 0 [(0, .ref 22), (1, .int a), (2, .int b)] [] t) = (fun (G23 : List Value → SM → OR) (G21 : List Value → SM → OR) (G1 : List Value → SM → OR) (j5 : SM → Int32 → Int32 → Int32 → Int32 → OR) (t : SM) (a : Int32) (b : Int32) =>
  j5 t a b 0 0) := by rfl
theorem fAW_worstOfParts_ok (t : SM) (a : Int32) (b : Int32) (h : fAW_worstOfParts t a b = some r) : Body l 4 q_25 P_25 r 0 [(0, .ref 22), (1, .int a), (2, .int b)] [] t :=
  blk ft_25 (by omega) rfl rows_25 (KDok.cons (KOK.f <| KOK.i fun w1 => KOK.i fun w2 => KOK.i fun w3 => KOK.i fun w4 => KOK.e (f := fun t => fAW_worstOfParts_l5 1000000 t w1 w2 w3 w4) fun t h => fAW_worstOfParts_l5_ok 1000000 t w1 w2 w3 w4 h) (KDok.nil)) ((congrFun (congrFun (congrFun (congrFun (congrFun (congrFun (congrFun (fAW_worstOfParts_eq) F_23) F_21) F_1) (fun t u1 u2 u3 u4 => fAW_worstOfParts_l5 1000000 t u1 u2 u3 u4)) t) a) b).trans h)
theorem ok_25 (l : Launch) : Fok l 4 mtab 25 (F_25) := by
  intro as t r h
  unfold F_25 at h
  split at h
  · rename_i z0 a b
    split at h
    · rename_i hz0
      obtain rfl := Nat.eq_of_beq_eq_true hz0
      exact ⟨q_25, rfl, mok_25, con_of (P := P_25) (by decide +kernel) rfl (Nat.le_of_ble_eq_true rfl) (fAW_worstOfParts_ok t a b h)⟩
    · cases h
  · cases h
end
section
set_option maxRecDepth 100000
variable {l : Launch} {r : RR}
def FT_167 : FT := []
theorem ft_167 : FTok l 1 mtab FT_167 := FTok.nil
theorem fx_setNumber_eq : (fun (t : SM) (a : Nat) (b : Int32) (c : Int32) => ex clN P_167 none bytJ (mkCal rks ([])) [] (kDisp []) 400 0 [(0, .ref a), (1, .int b), (2, .int c)] [] t) = (fun (t : SM) (a : Nat) (b : Int32) (c : Int32) =>
  if b < 0 then rV t
  else hALen t a fun n1 =>
  if n1 ≤ b then rV t
  else hASt t a b c fun t2 =>
  rV t2) := by rfl
theorem fx_setNumber_ok (t : SM) (a : Nat) (b : Int32) (c : Int32) (h : fx_setNumber t a b c = some r) : Body l 1 q_167 P_167 r 0 [(0, .ref a), (1, .int b), (2, .int c)] [] t :=
  blk ft_167 (by omega) rfl rows_167 (KDok.nil) ((congrFun (congrFun (congrFun (congrFun (fx_setNumber_eq) t) a) b) c).trans h)
theorem ok_167 (l : Launch) : Fok l 1 mtab 167 (F_167) := by
  intro as t r h
  unfold F_167 at h
  split at h
  · rename_i a b c
    exact ⟨q_167, rfl, mok_167, con_of (P := P_167) (by decide +kernel) rfl (Nat.le_of_ble_eq_true rfl) (fx_setNumber_ok t a b c h)⟩
  · cases h
end
section
set_option maxRecDepth 100000
variable {l : Launch} {r : RR}
def FT_78 : FT := []
theorem ft_78 : FTok l 1 mtab FT_78 := FTok.nil
theorem fSt_otherEnd_eq : (fun (t : SM) (o : Nat) (a : Int32) => ex clN P_78 none bytJ (mkCal rks ([])) [] (kDisp []) 400 0 [(0, .ref o), (1, .int a)] [] t) = (fun (t : SM) (o : Nat) (a : Int32) =>
  hGetI t 6 o 0 fun u1 =>
  if a = u1 then hGetI t 6 o 1 fun vv3 =>
  rI vv3 t
  else hGetI t 6 o 0 fun u2 =>
    rI u2 t) := by rfl
theorem fSt_otherEnd_ok (t : SM) (o : Nat) (a : Int32) (h : fSt_otherEnd t o a = some r) : Body l 1 q_78 P_78 r 0 [(0, .ref o), (1, .int a)] [] t :=
  blk ft_78 (by omega) rfl rows_78 (KDok.nil) ((congrFun (congrFun (congrFun (fSt_otherEnd_eq) t) o) a).trans h)
theorem ok_78 (l : Launch) : Fok l 1 mtab 78 (F_78) := by
  intro as t r h
  unfold F_78 at h
  split at h
  · rename_i o a
    exact ⟨q_78, rfl, mok_78, con_of (P := P_78) (by decide +kernel) rfl (Nat.le_of_ble_eq_true rfl) (fSt_otherEnd_ok t o a h)⟩
  · cases h
end
section
set_option maxRecDepth 100000
variable {l : Launch} {r : RR}
def FT_27 : FT := (78, F_78) :: (21, F_21) :: (167, F_167) :: []
theorem ft_27 : FTok l 3 mtab FT_27 := FTok.cons (ok_78 l) (by omega) (FTok.cons (ok_21 l) (by omega) (FTok.cons (ok_167 l) (by omega) (FTok.nil)))
theorem fAW_shorten_eq : (fun (G78 : List Value → SM → OR) (G21 : List Value → SM → OR) (G167 : List Value → SM → OR) (t : SM) (a : Nat) (b : Int32) (c : Int32) => ex clN P_27 none bytJ (mkCal rks ((78, G78) :: (21, G21) :: (167, G167) :: [])) [] (kDisp []) 400 0 [(0, .ref 22), (1, .ref a), (2, .int b), (3, .int c)] [] t) = (fun (G78 : List Value → SM → OR) (G21 : List Value → SM → OR) (G167 : List Value → SM → OR) (t : SM) (a : Nat) (b : Int32) (c : Int32) =>
  hGetI t 6 a 3 fun takes1 =>
  hRecv t 6 a <| bI (G78 [.ref a, .int b] t) fun otherEnd3 t2 =>
  hRecv t2 0 22 <| bI (G21 [.ref 22, .int otherEnd3, .int c] t2) fun longestFor5 t4 =>
  hRecv t4 0 22 <| bI (G21 [.ref 22, .int b, .int c] t4) fun longestFor7 t6 =>
  if (takes1 + longestFor5) < longestFor7 then hGetC t6 0 22 0 23 <|
    bV (G167 [.ref 23, .int ((b * 128) + c), .int (takes1 + longestFor5)] t6) fun t8 =>
    rI 1 t8
  else rI 0 t6) := by rfl
theorem fAW_shorten_ok (t : SM) (a : Nat) (b : Int32) (c : Int32) (h : fAW_shorten t a b c = some r) : Body l 3 q_27 P_27 r 0 [(0, .ref 22), (1, .ref a), (2, .int b), (3, .int c)] [] t :=
  blk ft_27 (by omega) rfl rows_27 (KDok.nil) ((congrFun (congrFun (congrFun (congrFun (congrFun (congrFun (congrFun (fAW_shorten_eq) F_78) F_21) F_167) t) a) b) c).trans h)
theorem ok_27 (l : Launch) : Fok l 3 mtab 27 (F_27) := by
  intro as t r h
  unfold F_27 at h
  split at h
  · rename_i z0 a b c
    split at h
    · rename_i hz0
      obtain rfl := Nat.eq_of_beq_eq_true hz0
      exact ⟨q_27, rfl, mok_27, con_of (P := P_27) (by decide +kernel) rfl (Nat.le_of_ble_eq_true rfl) (fAW_shorten_ok t a b c h)⟩
    · cases h
  · cases h
end
section
set_option maxRecDepth 100000
variable {l : Launch} {r : RR}
def FT_26 : FT := (80, F_80) :: (166, F_166) :: (27, F_27) :: []
theorem ft_26 : FTok l 4 mtab FT_26 := FTok.cons (ok_80 l) (by omega) (FTok.cons (ok_166 l) (by omega) (FTok.cons (ok_27 l) (by omega) (FTok.nil)))
theorem fAW_shortenAll_6_eq : (fun (G80 : List Value → SM → OR) (G166 : List Value → SM → OR) (G27 : List Value → SM → OR) (j6 : SM → Int32 → Int32 → Int32 → Int32 → Int32 → OR) (t : SM) (v1 : Int32) (v2 : Int32) (v3 : Int32) (v4 : Int32) (v5 : Int32) => ex clN P_26 none bytJ (mkCal rks ((80, G80) :: (166, G166) :: (27, G27) :: [])) [6] (kDisp [(6, kF 0 22 <| kI 1 fun w1 => kI 2 fun w2 => kI 3 fun w3 => kI 4 fun w4 => kI 5 fun w5 => kE fun t => j6 t w1 w2 w3 w4 w5)]) 400 6 [(5, .int v5), (4, .int v4), (3, .int v3), (2, .int v2), (1, .int v1), (0, .ref 22)] [] t) = (fun (G80 : List Value → SM → OR) (G166 : List Value → SM → OR) (G27 : List Value → SM → OR) (j6 : SM → Int32 → Int32 → Int32 → Int32 → Int32 → OR) (t : SM) (v1 : Int32) (v2 : Int32) (v3 : Int32) (v4 : Int32) (v5 : Int32) =>
  hGetC t 0 22 3 5 <|
  hGetI t 7 5 1 fun size1 =>
  if size1 ≤ v5 then hZ v4 (rI v4 t)
  else hGetC t 0 22 3 5 <|
  hRecv t 7 5 <| bQ (G80 [.ref 5, .int v5] t) (fun t2 => j6 t2 v1 v2 v3 v4 (v5 + 1)) fun q3 t2 =>
  hGetC t2 0 22 1 24 <|
  bI (G166 [.ref 24, .int v2] t2) fun numberAt5 t4 =>
  if ((numberAt5 >>> (v5 &&& 31)) &&& 1) = 1 then hGetI t4 6 q3 0 fun u6 =>
  if ((v3 >>> (u6 &&& 31)) &&& 1) = 0 then hGetI t4 6 q3 0 fun u11 =>
  hRecv t4 0 22 <| bI (G27 [.ref 22, .ref q3, .int u11, .int v1] t4) fun shorten13 t12 =>
  if shorten13 = 0 then hGetI t12 6 q3 1 fun vv14 =>
    if ((v3 >>> (vv14 &&& 31)) &&& 1) = 0 then hGetI t12 6 q3 1 fun vv15 =>
    hRecv t12 0 22 <| bI (G27 [.ref 22, .ref q3, .int vv15, .int v1] t12) fun shorten17 t16 =>
    if shorten17 = 0 then j6 t16 v1 v2 v3 ((v4 ||| 0) ||| 0) (v5 + 1)
    else j6 t16 v1 v2 v3 ((v4 ||| 0) ||| 1) (v5 + 1)
    else j6 t12 v1 v2 v3 ((v4 ||| 0) ||| 0) (v5 + 1)
  else hGetI t12 6 q3 1 fun vv18 =>
  if ((v3 >>> (vv18 &&& 31)) &&& 1) = 0 then hGetI t12 6 q3 1 fun vv19 =>
  hRecv t12 0 22 <| bI (G27 [.ref 22, .ref q3, .int vv19, .int v1] t12) fun shorten21 t20 =>
  if shorten21 = 0 then j6 t20 v1 v2 v3 ((v4 ||| 1) ||| 0) (v5 + 1)
  else j6 t20 v1 v2 v3 ((v4 ||| 1) ||| 1) (v5 + 1)
  else j6 t12 v1 v2 v3 ((v4 ||| 1) ||| 0) (v5 + 1)
  else hGetI t4 6 q3 1 fun vv7 =>
    if ((v3 >>> (vv7 &&& 31)) &&& 1) = 0 then hGetI t4 6 q3 1 fun vv8 =>
    hRecv t4 0 22 <| bI (G27 [.ref 22, .ref q3, .int vv8, .int v1] t4) fun shorten10 t9 =>
    if shorten10 = 0 then j6 t9 v1 v2 v3 ((v4 ||| 0) ||| 0) (v5 + 1)
    else j6 t9 v1 v2 v3 ((v4 ||| 0) ||| 1) (v5 + 1)
    else j6 t4 v1 v2 v3 ((v4 ||| 0) ||| 0) (v5 + 1)
  else j6 t4 v1 v2 v3 v4 (v5 + 1)) := by rfl
theorem fAW_shortenAll_6_ok {r6 : SM → Int32 → Int32 → Int32 → Int32 → Int32 → OR} (h_r6 : ∀ (t : SM) (v1 : Int32) (v2 : Int32) (v3 : Int32) (v4 : Int32) (v5 : Int32), r6 t v1 v2 v3 v4 v5 = some r → Body l 4 q_26 P_26 r 6 [(5, .int v5), (4, .int v4), (3, .int v3), (2, .int v2), (1, .int v1), (0, .ref 22)] [] t) (t : SM) (v1 : Int32) (v2 : Int32) (v3 : Int32) (v4 : Int32) (v5 : Int32) (h : fAW_shortenAll_6 r6 t v1 v2 v3 v4 v5 = some r) : Body l 4 q_26 P_26 r 6 [(5, .int v5), (4, .int v4), (3, .int v3), (2, .int v2), (1, .int v1), (0, .ref 22)] [] t :=
  blk ft_26 (by omega) rfl rows_26 (KDok.cons (KOK.f <| KOK.i fun w1 => KOK.i fun w2 => KOK.i fun w3 => KOK.i fun w4 => KOK.i fun w5 => KOK.e (f := fun t => r6 t w1 w2 w3 w4 w5) fun t h => h_r6 t w1 w2 w3 w4 w5 h) (KDok.nil)) ((congrFun (congrFun (congrFun (congrFun (congrFun (congrFun (congrFun (congrFun (congrFun (congrFun (fAW_shortenAll_6_eq) F_80) F_166) F_27) (fun t u1 u2 u3 u4 u5 => r6 t u1 u2 u3 u4 u5)) t) v1) v2) v3) v4) v5).trans h)
theorem fAW_shortenAll_l6_ok : ∀ (n : Nat) (t : SM) (v1 : Int32) (v2 : Int32) (v3 : Int32) (v4 : Int32) (v5 : Int32), fAW_shortenAll_l6 n t v1 v2 v3 v4 v5 = some r → Body l 4 q_26 P_26 r 6 [(5, .int v5), (4, .int v4), (3, .int v3), (2, .int v2), (1, .int v1), (0, .ref 22)] [] t
  | 0, _, _, _, _, _, _, h => by cases h
  | n + 1, t, v1, v2, v3, v4, v5, h => fAW_shortenAll_6_ok (fAW_shortenAll_l6_ok n) t v1 v2 v3 v4 v5 h
theorem fAW_shortenAll_eq : (fun (G80 : List Value → SM → OR) (G166 : List Value → SM → OR) (G27 : List Value → SM → OR) (j6 : SM → Int32 → Int32 → Int32 → Int32 → Int32 → OR) (t : SM) (a : Int32) (b : Int32) (c : Int32) => ex clN P_26 none bytJ (mkCal rks ((80, G80) :: (166, G166) :: (27, G27) :: [])) [6] (kDisp [(6, kF 0 22 <| kI 1 fun w1 => kI 2 fun w2 => kI 3 fun w3 => kI 4 fun w4 => kI 5 fun w5 => kE fun t => j6 t w1 w2 w3 w4 w5)]) 400 0 [(0, .ref 22), (1, .int a), (2, .int b), (3, .int c)] [] t) = (fun (G80 : List Value → SM → OR) (G166 : List Value → SM → OR) (G27 : List Value → SM → OR) (j6 : SM → Int32 → Int32 → Int32 → Int32 → Int32 → OR) (t : SM) (a : Int32) (b : Int32) (c : Int32) =>
  j6 t a b c 0 0) := by rfl
theorem fAW_shortenAll_ok (t : SM) (a : Int32) (b : Int32) (c : Int32) (h : fAW_shortenAll t a b c = some r) : Body l 4 q_26 P_26 r 0 [(0, .ref 22), (1, .int a), (2, .int b), (3, .int c)] [] t :=
  blk ft_26 (by omega) rfl rows_26 (KDok.cons (KOK.f <| KOK.i fun w1 => KOK.i fun w2 => KOK.i fun w3 => KOK.i fun w4 => KOK.i fun w5 => KOK.e (f := fun t => fAW_shortenAll_l6 1000000 t w1 w2 w3 w4 w5) fun t h => fAW_shortenAll_l6_ok 1000000 t w1 w2 w3 w4 w5 h) (KDok.nil)) ((congrFun (congrFun (congrFun (congrFun (congrFun (congrFun (congrFun (congrFun (fAW_shortenAll_eq) F_80) F_166) F_27) (fun t u1 u2 u3 u4 u5 => fAW_shortenAll_l6 1000000 t u1 u2 u3 u4 u5)) t) a) b) c).trans h)
theorem ok_26 (l : Launch) : Fok l 4 mtab 26 (F_26) := by
  intro as t r h
  unfold F_26 at h
  split at h
  · rename_i z0 a b c
    split at h
    · rename_i hz0
      obtain rfl := Nat.eq_of_beq_eq_true hz0
      exact ⟨q_26, rfl, mok_26, con_of (P := P_26) (by decide +kernel) rfl (Nat.le_of_ble_eq_true rfl) (fAW_shortenAll_ok t a b c h)⟩
    · cases h
  · cases h
end
section
set_option maxRecDepth 100000
variable {l : Launch} {r : RR}
def FT_24 : FT := (164, F_164) :: (23, F_23) :: (25, F_25) :: (167, F_167) :: (26, F_26) :: []
theorem ft_24 : FTok l 5 mtab FT_24 := FTok.cons (ok_164 l) (by omega) (FTok.cons (ok_23 l) (by omega) (FTok.cons (ok_25 l) (by omega) (FTok.cons (ok_167 l) (by omega) (FTok.cons (ok_26 l) (by omega) (FTok.nil)))))
theorem fAW_settle_118_eq : (fun (G164 : List Value → SM → OR) (G23 : List Value → SM → OR) (G25 : List Value → SM → OR) (G167 : List Value → SM → OR) (G26 : List Value → SM → OR) (j118 : SM → Int32 → Int32 → Int32 → Int32 → Int32 → OR) (t : SM) (v1 : Int32) (v2 : Int32) (v3 : Int32) (v4 : Int32) (v5 : Int32) => ex clN P_24 none bytJ (mkCal rks ((164, G164) :: (23, G23) :: (25, G25) :: (167, G167) :: (26, G26) :: [])) [118] (kDisp [(118, kF 0 22 <| kI 1 fun w1 => kI 2 fun w2 => kI 3 fun w3 => kI 4 fun w4 => kI 5 fun w5 => kE fun t => j118 t w1 w2 w3 w4 w5)]) 400 118 [(5, .int v5), (4, .int v4), (3, .int v3), (2, .int v2), (1, .int v1), (0, .ref 22)] [] t) = (fun (G164 : List Value → SM → OR) (G23 : List Value → SM → OR) (G25 : List Value → SM → OR) (G167 : List Value → SM → OR) (G26 : List Value → SM → OR) (j118 : SM → Int32 → Int32 → Int32 → Int32 → Int32 → OR) (t : SM) (v1 : Int32) (v2 : Int32) (v3 : Int32) (v4 : Int32) (v5 : Int32) =>
  if 6 ≤ v5 then rV t
  else if v4 = 0 then rV t
  else hRecv t 0 22 <| bI (G26 [.ref 22, .int v1, .int v2, .int v3] t) fun shortenAll2 t1 =>
  j118 t1 v1 v2 v3 shortenAll2 (v5 + 1)) := by rfl
theorem fAW_settle_118_ok {r118 : SM → Int32 → Int32 → Int32 → Int32 → Int32 → OR} (h_r118 : ∀ (t : SM) (v1 : Int32) (v2 : Int32) (v3 : Int32) (v4 : Int32) (v5 : Int32), r118 t v1 v2 v3 v4 v5 = some r → Body l 5 q_24 P_24 r 118 [(5, .int v5), (4, .int v4), (3, .int v3), (2, .int v2), (1, .int v1), (0, .ref 22)] [] t) (t : SM) (v1 : Int32) (v2 : Int32) (v3 : Int32) (v4 : Int32) (v5 : Int32) (h : fAW_settle_118 r118 t v1 v2 v3 v4 v5 = some r) : Body l 5 q_24 P_24 r 118 [(5, .int v5), (4, .int v4), (3, .int v3), (2, .int v2), (1, .int v1), (0, .ref 22)] [] t :=
  blk ft_24 (by omega) rfl rows_24 (KDok.cons (KOK.f <| KOK.i fun w1 => KOK.i fun w2 => KOK.i fun w3 => KOK.i fun w4 => KOK.i fun w5 => KOK.e (f := fun t => r118 t w1 w2 w3 w4 w5) fun t h => h_r118 t w1 w2 w3 w4 w5 h) (KDok.nil)) ((congrFun (congrFun (congrFun (congrFun (congrFun (congrFun (congrFun (congrFun (congrFun (congrFun (congrFun (congrFun (fAW_settle_118_eq) F_164) F_23) F_25) F_167) F_26) (fun t u1 u2 u3 u4 u5 => r118 t u1 u2 u3 u4 u5)) t) v1) v2) v3) v4) v5).trans h)
theorem fAW_settle_l118_ok : ∀ (n : Nat) (t : SM) (v1 : Int32) (v2 : Int32) (v3 : Int32) (v4 : Int32) (v5 : Int32), fAW_settle_l118 n t v1 v2 v3 v4 v5 = some r → Body l 5 q_24 P_24 r 118 [(5, .int v5), (4, .int v4), (3, .int v3), (2, .int v2), (1, .int v1), (0, .ref 22)] [] t
  | 0, _, _, _, _, _, _, h => by cases h
  | n + 1, t, v1, v2, v3, v4, v5, h => fAW_settle_118_ok (fAW_settle_l118_ok n) t v1 v2 v3 v4 v5 h
theorem fAW_settle_112_eq : (fun (G164 : List Value → SM → OR) (G23 : List Value → SM → OR) (G25 : List Value → SM → OR) (G167 : List Value → SM → OR) (G26 : List Value → SM → OR) (j118 : SM → Int32 → Int32 → Int32 → Int32 → Int32 → OR) (t : SM) (v1 : Int32) (v2 : Int32) (v3 : Int32) => ex clN P_24 none bytJ (mkCal rks ((164, G164) :: (23, G23) :: (25, G25) :: (167, G167) :: (26, G26) :: [])) [118] (kDisp [(118, kF 0 22 <| kI 1 fun w1 => kI 2 fun w2 => kI 3 fun w3 => kI 4 fun w4 => kI 5 fun w5 => kE fun t => j118 t w1 w2 w3 w4 w5)]) 400 112 [(3, .int v3), (2, .int v2), (1, .int v1), (0, .ref 22)] [] t) = (fun (G164 : List Value → SM → OR) (G23 : List Value → SM → OR) (G25 : List Value → SM → OR) (G167 : List Value → SM → OR) (G26 : List Value → SM → OR) (j118 : SM → Int32 → Int32 → Int32 → Int32 → Int32 → OR) (t : SM) (v1 : Int32) (v2 : Int32) (v3 : Int32) =>
  j118 t v1 v2 v3 1 0) := by rfl
theorem fAW_settle_112_ok (t : SM) (v1 : Int32) (v2 : Int32) (v3 : Int32) (h : fAW_settle_112 t v1 v2 v3 = some r) : Body l 5 q_24 P_24 r 112 [(3, .int v3), (2, .int v2), (1, .int v1), (0, .ref 22)] [] t :=
  blk ft_24 (by omega) rfl rows_24 (KDok.cons (KOK.f <| KOK.i fun w1 => KOK.i fun w2 => KOK.i fun w3 => KOK.i fun w4 => KOK.i fun w5 => KOK.e (f := fun t => fAW_settle_l118 1000000 t w1 w2 w3 w4 w5) fun t h => fAW_settle_l118_ok 1000000 t w1 w2 w3 w4 w5 h) (KDok.nil)) ((congrFun (congrFun (congrFun (congrFun (congrFun (congrFun (congrFun (congrFun (congrFun (congrFun (fAW_settle_112_eq) F_164) F_23) F_25) F_167) F_26) (fun t u1 u2 u3 u4 u5 => fAW_settle_l118 1000000 t u1 u2 u3 u4 u5)) t) v1) v2) v3).trans h)
theorem fAW_settle_10_eq : (fun (G164 : List Value → SM → OR) (G23 : List Value → SM → OR) (G25 : List Value → SM → OR) (G167 : List Value → SM → OR) (G26 : List Value → SM → OR) (j10 : SM → Int32 → Int32 → Int32 → Int32 → OR) (j112 : SM → Int32 → Int32 → Int32 → OR) (t : SM) (v1 : Int32) (v2 : Int32) (v3 : Int32) (v4 : Int32) => ex clN P_24 none bytJ (mkCal rks ((164, G164) :: (23, G23) :: (25, G25) :: (167, G167) :: (26, G26) :: [])) [10, 112] (kDisp [(10, kF 0 22 <| kI 1 fun w1 => kI 2 fun w2 => kI 3 fun w3 => kI 4 fun w4 => kE fun t => j10 t w1 w2 w3 w4), (112, kF 0 22 <| kI 1 fun w1 => kI 2 fun w2 => kI 3 fun w3 => kE fun t => j112 t w1 w2 w3)]) 400 10 [(4, .int v4), (3, .int v3), (2, .int v2), (1, .int v1), (0, .ref 22)] [] t) = (fun (G164 : List Value → SM → OR) (G23 : List Value → SM → OR) (G25 : List Value → SM → OR) (G167 : List Value → SM → OR) (G26 : List Value → SM → OR) (j10 : SM → Int32 → Int32 → Int32 → Int32 → OR) (j112 : SM → Int32 → Int32 → Int32 → OR) (t : SM) (v1 : Int32) (v2 : Int32) (v3 : Int32) (v4 : Int32) =>
  if 6 ≤ v4 then j112 t v1 v2 v3
  else hRecv t 0 22 <| bI (G23 [.ref 22, .int v2, .int v4, .int v1] t) fun lookingLike2 t1 =>
  if lookingLike2 = v1 then hGetI t1 0 22 5 fun goal3 =>
    if v4 = goal3 then hGetC t1 0 22 0 23 <|
    bV (G167 [.ref 23, .int ((v4 * 128) + v1), .int 0] t1) fun t6 =>
    hGetI t6 0 22 5 fun goal7 =>
    if v4 = goal7 then j10 t6 v1 v2 (v3 ||| ((1 : Int32) <<< (v4 &&& 31))) (v4 + 1)
    else j10 t6 v1 v2 v3 (v4 + 1)
    else hGetC t1 0 22 0 23 <|
      bV (G167 [.ref 23, .int ((v4 * 128) + v1), .int 1000000] t1) fun t4 =>
      hGetI t4 0 22 5 fun goal5 =>
      if v4 = goal5 then j10 t4 v1 v2 (v3 ||| ((1 : Int32) <<< (v4 &&& 31))) (v4 + 1)
      else j10 t4 v1 v2 v3 (v4 + 1)
  else hGetI t1 0 22 5 fun goal8 =>
  if v4 = goal8 then hGetC t1 0 22 0 23 <|
  bV (G167 [.ref 23, .int ((v4 * 128) + v1), .int 0] t1) fun t13 =>
  hGetI t13 0 22 5 fun goal14 =>
  if v4 = goal14 then j10 t13 v1 v2 (v3 ||| ((1 : Int32) <<< (v4 &&& 31))) (v4 + 1)
  else j10 t13 v1 v2 (v3 ||| ((1 : Int32) <<< (v4 &&& 31))) (v4 + 1)
  else hRecv t1 0 22 <| bI (G25 [.ref 22, .int v4, .int v1] t1) fun worstOfParts10 t9 =>
    hGetC t9 0 22 0 23 <|
    bV (G167 [.ref 23, .int ((v4 * 128) + v1), .int worstOfParts10] t9) fun t11 =>
    hGetI t11 0 22 5 fun goal12 =>
    if v4 = goal12 then j10 t11 v1 v2 (v3 ||| ((1 : Int32) <<< (v4 &&& 31))) (v4 + 1)
    else j10 t11 v1 v2 (v3 ||| ((1 : Int32) <<< (v4 &&& 31))) (v4 + 1)) := by rfl
theorem fAW_settle_10_ok {k112 : SM → Int32 → Int32 → Int32 → OR} {r10 : SM → Int32 → Int32 → Int32 → Int32 → OR} (h_k112 : ∀ (t : SM) (v1 : Int32) (v2 : Int32) (v3 : Int32), k112 t v1 v2 v3 = some r → Body l 5 q_24 P_24 r 112 [(3, .int v3), (2, .int v2), (1, .int v1), (0, .ref 22)] [] t) (h_r10 : ∀ (t : SM) (v1 : Int32) (v2 : Int32) (v3 : Int32) (v4 : Int32), r10 t v1 v2 v3 v4 = some r → Body l 5 q_24 P_24 r 10 [(4, .int v4), (3, .int v3), (2, .int v2), (1, .int v1), (0, .ref 22)] [] t) (t : SM) (v1 : Int32) (v2 : Int32) (v3 : Int32) (v4 : Int32) (h : fAW_settle_10 k112 r10 t v1 v2 v3 v4 = some r) : Body l 5 q_24 P_24 r 10 [(4, .int v4), (3, .int v3), (2, .int v2), (1, .int v1), (0, .ref 22)] [] t :=
  blk ft_24 (by omega) rfl rows_24 (KDok.cons (KOK.f <| KOK.i fun w1 => KOK.i fun w2 => KOK.i fun w3 => KOK.i fun w4 => KOK.e (f := fun t => r10 t w1 w2 w3 w4) fun t h => h_r10 t w1 w2 w3 w4 h) (KDok.cons (KOK.f <| KOK.i fun w1 => KOK.i fun w2 => KOK.i fun w3 => KOK.e (f := fun t => k112 t w1 w2 w3) fun t h => h_k112 t w1 w2 w3 h) (KDok.nil))) ((congrFun (congrFun (congrFun (congrFun (congrFun (congrFun (congrFun (congrFun (congrFun (congrFun (congrFun (congrFun (fAW_settle_10_eq) F_164) F_23) F_25) F_167) F_26) (fun t u1 u2 u3 u4 => r10 t u1 u2 u3 u4)) (fun t u1 u2 u3 => k112 t u1 u2 u3)) t) v1) v2) v3) v4).trans h)
theorem fAW_settle_l10_ok {k112 : SM → Int32 → Int32 → Int32 → OR} (h_k112 : ∀ (t : SM) (v1 : Int32) (v2 : Int32) (v3 : Int32), k112 t v1 v2 v3 = some r → Body l 5 q_24 P_24 r 112 [(3, .int v3), (2, .int v2), (1, .int v1), (0, .ref 22)] [] t) : ∀ (n : Nat) (t : SM) (v1 : Int32) (v2 : Int32) (v3 : Int32) (v4 : Int32), fAW_settle_l10 k112 n t v1 v2 v3 v4 = some r → Body l 5 q_24 P_24 r 10 [(4, .int v4), (3, .int v3), (2, .int v2), (1, .int v1), (0, .ref 22)] [] t
  | 0, _, _, _, _, _, h => by cases h
  | n + 1, t, v1, v2, v3, v4, h => fAW_settle_10_ok h_k112 (fAW_settle_l10_ok h_k112 n) t v1 v2 v3 v4 h
theorem fAW_settle_eq : (fun (G164 : List Value → SM → OR) (G23 : List Value → SM → OR) (G25 : List Value → SM → OR) (G167 : List Value → SM → OR) (G26 : List Value → SM → OR) (j10 : SM → Int32 → Int32 → Int32 → Int32 → OR) (t : SM) (a : Int32) => ex clN P_24 none bytJ (mkCal rks ((164, G164) :: (23, G23) :: (25, G25) :: (167, G167) :: (26, G26) :: [])) [10] (kDisp [(10, kF 0 22 <| kI 1 fun w1 => kI 2 fun w2 => kI 3 fun w3 => kI 4 fun w4 => kE fun t => j10 t w1 w2 w3 w4)]) 400 0 [(0, .ref 22), (1, .int a)] [] t) = (fun (G164 : List Value → SM → OR) (G23 : List Value → SM → OR) (G25 : List Value → SM → OR) (G167 : List Value → SM → OR) (G26 : List Value → SM → OR) (j10 : SM → Int32 → Int32 → Int32 → Int32 → OR) (t : SM) (a : Int32) =>
  bI (G164 [.int a] t) fun firstOf2 t1 =>
  j10 t1 a firstOf2 0 0) := by rfl
theorem fAW_settle_ok (t : SM) (a : Int32) (h : fAW_settle t a = some r) : Body l 5 q_24 P_24 r 0 [(0, .ref 22), (1, .int a)] [] t :=
  blk ft_24 (by omega) rfl rows_24 (KDok.cons (KOK.f <| KOK.i fun w1 => KOK.i fun w2 => KOK.i fun w3 => KOK.i fun w4 => KOK.e (f := fun t => fAW_settle_l10 (fun t u1 u2 u3 => fAW_settle_112 t u1 u2 u3) 1000000 t w1 w2 w3 w4) fun t h => fAW_settle_l10_ok (k112 := fun t u1 u2 u3 => fAW_settle_112 t u1 u2 u3) (fun t u1 u2 u3 h => fAW_settle_112_ok t u1 u2 u3 h) 1000000 t w1 w2 w3 w4 h) (KDok.nil)) ((congrFun (congrFun (congrFun (congrFun (congrFun (congrFun (congrFun (congrFun (fAW_settle_eq) F_164) F_23) F_25) F_167) F_26) (fun t u1 u2 u3 u4 => fAW_settle_l10 (fun t u1 u2 u3 => fAW_settle_112 t u1 u2 u3) 1000000 t u1 u2 u3 u4)) t) a).trans h)
theorem ok_24 (l : Launch) : Fok l 5 mtab 24 (F_24) := by
  intro as t r h
  unfold F_24 at h
  split at h
  · rename_i z0 a
    split at h
    · rename_i hz0
      obtain rfl := Nat.eq_of_beq_eq_true hz0
      exact ⟨q_24, rfl, mok_24, con_of (P := P_24) (by decide +kernel) rfl (Nat.le_of_ble_eq_true rfl) (fAW_settle_ok t a h)⟩
    · cases h
  · cases h
end
section
set_option maxRecDepth 100000
variable {l : Launch} {r : RR}
def FT_18 : FT := (2, F_2) :: (99, F_99) :: (1, F_1) :: (82, F_82) :: (83, F_83) :: (24, F_24) :: []
theorem ft_18 : FTok l 6 mtab FT_18 := FTok.cons (ok_2 l) (by omega) (FTok.cons (ok_99 l) (by omega) (FTok.cons (ok_1 l) (by omega) (FTok.cons (ok_82 l) (by omega) (FTok.cons (ok_83 l) (by omega) (FTok.cons (ok_24 l) (by omega) (FTok.nil))))))
theorem fAW_study_94_eq : (fun (G2 : List Value → SM → OR) (G99 : List Value → SM → OR) (G1 : List Value → SM → OR) (G82 : List Value → SM → OR) (G83 : List Value → SM → OR) (G24 : List Value → SM → OR) (j94 : SM → Int32 → OR) (t : SM) (v3 : Int32) => ex clN P_18 none bytJ (mkCal rks ((2, G2) :: (99, G99) :: (1, G1) :: (82, G82) :: (83, G83) :: (24, G24) :: [])) [94] (kDisp [(94, kF 0 22 <| kI 3 fun w3 => kE fun t => j94 t w3)]) 400 94 [(3, .int v3), (0, .ref 22)] [] t) = (fun (G2 : List Value → SM → OR) (G99 : List Value → SM → OR) (G1 : List Value → SM → OR) (G82 : List Value → SM → OR) (G83 : List Value → SM → OR) (G24 : List Value → SM → OR) (j94 : SM → Int32 → OR) (t : SM) (v3 : Int32) =>
  hGetI t 0 22 4 fun everyWorld1 =>
  if everyWorld1 < v3 then rV t
  else hRecv t 0 22 <| bV (G24 [.ref 22, .int v3] t) fun t2 =>
  j94 t2 (v3 + 1)) := by rfl
theorem fAW_study_94_ok {r94 : SM → Int32 → OR} (h_r94 : ∀ (t : SM) (v3 : Int32), r94 t v3 = some r → Body l 6 q_18 P_18 r 94 [(3, .int v3), (0, .ref 22)] [] t) (t : SM) (v3 : Int32) (h : fAW_study_94 r94 t v3 = some r) : Body l 6 q_18 P_18 r 94 [(3, .int v3), (0, .ref 22)] [] t :=
  blk ft_18 (by omega) rfl rows_18 (KDok.cons (KOK.f <| KOK.i fun w3 => KOK.e (f := fun t => r94 t w3) fun t h => h_r94 t w3 h) (KDok.nil)) ((congrFun (congrFun (congrFun (congrFun (congrFun (congrFun (congrFun (congrFun (congrFun (fAW_study_94_eq) F_2) F_99) F_1) F_82) F_83) F_24) (fun t u3 => r94 t u3)) t) v3).trans h)
theorem fAW_study_l94_ok : ∀ (n : Nat) (t : SM) (v3 : Int32), fAW_study_l94 n t v3 = some r → Body l 6 q_18 P_18 r 94 [(3, .int v3), (0, .ref 22)] [] t
  | 0, _, _, h => by cases h
  | n + 1, t, v3, h => fAW_study_94_ok (fAW_study_l94_ok n) t v3 h
theorem fAW_study_92_eq : (fun (G2 : List Value → SM → OR) (G99 : List Value → SM → OR) (G1 : List Value → SM → OR) (G82 : List Value → SM → OR) (G83 : List Value → SM → OR) (G24 : List Value → SM → OR) (j94 : SM → Int32 → OR) (t : SM) => ex clN P_18 none bytJ (mkCal rks ((2, G2) :: (99, G99) :: (1, G1) :: (82, G82) :: (83, G83) :: (24, G24) :: [])) [94] (kDisp [(94, kF 0 22 <| kI 3 fun w3 => kE fun t => j94 t w3)]) 400 92 [(0, .ref 22)] [] t) = (fun (G2 : List Value → SM → OR) (G99 : List Value → SM → OR) (G1 : List Value → SM → OR) (G82 : List Value → SM → OR) (G83 : List Value → SM → OR) (G24 : List Value → SM → OR) (j94 : SM → Int32 → OR) (t : SM) =>
  j94 t 1) := by rfl
theorem fAW_study_92_ok (t : SM) (h : fAW_study_92 t = some r) : Body l 6 q_18 P_18 r 92 [(0, .ref 22)] [] t :=
  blk ft_18 (by omega) rfl rows_18 (KDok.cons (KOK.f <| KOK.i fun w3 => KOK.e (f := fun t => fAW_study_l94 1000000 t w3) fun t h => fAW_study_l94_ok 1000000 t w3 h) (KDok.nil)) ((congrFun (congrFun (congrFun (congrFun (congrFun (congrFun (congrFun (congrFun (fAW_study_92_eq) F_2) F_99) F_1) F_82) F_83) F_24) (fun t u3 => fAW_study_l94 1000000 t u3)) t).trans h)
theorem fAW_study_63_eq : (fun (G2 : List Value → SM → OR) (G99 : List Value → SM → OR) (G1 : List Value → SM → OR) (G82 : List Value → SM → OR) (G83 : List Value → SM → OR) (G24 : List Value → SM → OR) (j63 : SM → Int32 → OR) (j92 : SM → OR) (t : SM) (v3 : Int32) => ex clN P_18 none bytJ (mkCal rks ((2, G2) :: (99, G99) :: (1, G1) :: (82, G82) :: (83, G83) :: (24, G24) :: [])) [63, 92] (kDisp [(63, kF 0 22 <| kI 3 fun w3 => kE fun t => j63 t w3), (92, kF 0 22 <| kE fun t => j92 t)]) 400 63 [(3, .int v3), (0, .ref 22)] [] t) = (fun (G2 : List Value → SM → OR) (G99 : List Value → SM → OR) (G1 : List Value → SM → OR) (G82 : List Value → SM → OR) (G83 : List Value → SM → OR) (G24 : List Value → SM → OR) (j63 : SM → Int32 → OR) (j92 : SM → OR) (t : SM) (v3 : Int32) =>
  hGetC t 0 22 2 25 <|
  hALen t 25 fun n1 =>
  if n1 ≤ v3 then j92 t
  else hGetC t 0 22 2 25 <|
  hGetC t 0 22 3 5 <|
  hRecv t 7 5 <| bI (G83 [.ref 5, .int v3] t) fun touching3 t2 =>
  hASt t2 25 v3 touching3 fun t4 =>
  j63 t4 (v3 + 1)) := by rfl
theorem fAW_study_63_ok {k92 : SM → OR} {r63 : SM → Int32 → OR} (h_k92 : ∀ (t : SM), k92 t = some r → Body l 6 q_18 P_18 r 92 [(0, .ref 22)] [] t) (h_r63 : ∀ (t : SM) (v3 : Int32), r63 t v3 = some r → Body l 6 q_18 P_18 r 63 [(3, .int v3), (0, .ref 22)] [] t) (t : SM) (v3 : Int32) (h : fAW_study_63 k92 r63 t v3 = some r) : Body l 6 q_18 P_18 r 63 [(3, .int v3), (0, .ref 22)] [] t :=
  blk ft_18 (by omega) rfl rows_18 (KDok.cons (KOK.f <| KOK.i fun w3 => KOK.e (f := fun t => r63 t w3) fun t h => h_r63 t w3 h) (KDok.cons (KOK.f <| KOK.e (f := fun t => k92 t) fun t h => h_k92 t h) (KDok.nil))) ((congrFun (congrFun (congrFun (congrFun (congrFun (congrFun (congrFun (congrFun (congrFun (congrFun (fAW_study_63_eq) F_2) F_99) F_1) F_82) F_83) F_24) (fun t u3 => r63 t u3)) (fun t => k92 t)) t) v3).trans h)
theorem fAW_study_l63_ok {k92 : SM → OR} (h_k92 : ∀ (t : SM), k92 t = some r → Body l 6 q_18 P_18 r 92 [(0, .ref 22)] [] t) : ∀ (n : Nat) (t : SM) (v3 : Int32), fAW_study_l63 k92 n t v3 = some r → Body l 6 q_18 P_18 r 63 [(3, .int v3), (0, .ref 22)] [] t
  | 0, _, _, h => by cases h
  | n + 1, t, v3, h => fAW_study_63_ok h_k92 (fAW_study_l63_ok h_k92 n) t v3 h
theorem fAW_study_61_eq : (fun (G2 : List Value → SM → OR) (G99 : List Value → SM → OR) (G1 : List Value → SM → OR) (G82 : List Value → SM → OR) (G83 : List Value → SM → OR) (G24 : List Value → SM → OR) (j63 : SM → Int32 → OR) (t : SM) => ex clN P_18 none bytJ (mkCal rks ((2, G2) :: (99, G99) :: (1, G1) :: (82, G82) :: (83, G83) :: (24, G24) :: [])) [63] (kDisp [(63, kF 0 22 <| kI 3 fun w3 => kE fun t => j63 t w3)]) 400 61 [(0, .ref 22)] [] t) = (fun (G2 : List Value → SM → OR) (G99 : List Value → SM → OR) (G1 : List Value → SM → OR) (G82 : List Value → SM → OR) (G83 : List Value → SM → OR) (G24 : List Value → SM → OR) (j63 : SM → Int32 → OR) (t : SM) =>
  j63 t 0) := by rfl
theorem fAW_study_61_ok (t : SM) (h : fAW_study_61 t = some r) : Body l 6 q_18 P_18 r 61 [(0, .ref 22)] [] t :=
  blk ft_18 (by omega) rfl rows_18 (KDok.cons (KOK.f <| KOK.i fun w3 => KOK.e (f := fun t => fAW_study_l63 (fun t => fAW_study_92 t) 1000000 t w3) fun t h => fAW_study_l63_ok (k92 := fun t => fAW_study_92 t) (fun t h => fAW_study_92_ok t h) 1000000 t w3 h) (KDok.nil)) ((congrFun (congrFun (congrFun (congrFun (congrFun (congrFun (congrFun (congrFun (fAW_study_61_eq) F_2) F_99) F_1) F_82) F_83) F_24) (fun t u3 => fAW_study_l63 (fun t => fAW_study_92 t) 1000000 t u3)) t).trans h)
theorem fAW_study_24_eq : (fun (G2 : List Value → SM → OR) (G99 : List Value → SM → OR) (G1 : List Value → SM → OR) (G82 : List Value → SM → OR) (G83 : List Value → SM → OR) (G24 : List Value → SM → OR) (j24 : SM → Int32 → OR) (j61 : SM → OR) (t : SM) (v3 : Int32) => ex clN P_18 none bytJ (mkCal rks ((2, G2) :: (99, G99) :: (1, G1) :: (82, G82) :: (83, G83) :: (24, G24) :: [])) [24, 61] (kDisp [(24, kF 0 22 <| kF 1 16 <| kI 3 fun w3 => kE fun t => j24 t w3), (61, kF 0 22 <| kE fun t => j61 t)]) 400 24 [(3, .int v3), (1, .ref 16), (0, .ref 22)] [] t) = (fun (G2 : List Value → SM → OR) (G99 : List Value → SM → OR) (G1 : List Value → SM → OR) (G82 : List Value → SM → OR) (G83 : List Value → SM → OR) (G24 : List Value → SM → OR) (j24 : SM → Int32 → OR) (j61 : SM → OR) (t : SM) (v3 : Int32) =>
  hGetC t 0 22 1 24 <|
  hALen t 24 fun n1 =>
  if n1 ≤ v3 then j61 t
  else hGetC t 0 22 1 24 <|
  hGetC t 0 22 3 5 <|
  hRecv t 9 16 <| bI (G99 [.ref 16, .int v3] t) fun townAt3 t2 =>
  bI (G1 [.int 0, .int townAt3] t2) fun max5 t4 =>
  hRecv t4 7 5 <| bI (G82 [.ref 5, .int max5] t4) fun openIn7 t6 =>
  hASt t6 24 v3 openIn7 fun t8 =>
  j24 t8 (v3 + 1)) := by rfl
theorem fAW_study_24_ok {k61 : SM → OR} {r24 : SM → Int32 → OR} (h_k61 : ∀ (t : SM), k61 t = some r → Body l 6 q_18 P_18 r 61 [(0, .ref 22)] [] t) (h_r24 : ∀ (t : SM) (v3 : Int32), r24 t v3 = some r → Body l 6 q_18 P_18 r 24 [(3, .int v3), (1, .ref 16), (0, .ref 22)] [] t) (t : SM) (v3 : Int32) (h : fAW_study_24 k61 r24 t v3 = some r) : Body l 6 q_18 P_18 r 24 [(3, .int v3), (1, .ref 16), (0, .ref 22)] [] t :=
  blk ft_18 (by omega) rfl rows_18 (KDok.cons (KOK.f <| KOK.f <| KOK.i fun w3 => KOK.e (f := fun t => r24 t w3) fun t h => h_r24 t w3 h) (KDok.cons (KOK.f <| KOK.e (f := fun t => k61 t) fun t h => h_k61 t h) (KDok.nil))) ((congrFun (congrFun (congrFun (congrFun (congrFun (congrFun (congrFun (congrFun (congrFun (congrFun (fAW_study_24_eq) F_2) F_99) F_1) F_82) F_83) F_24) (fun t u3 => r24 t u3)) (fun t => k61 t)) t) v3).trans h)
theorem fAW_study_l24_ok {k61 : SM → OR} (h_k61 : ∀ (t : SM), k61 t = some r → Body l 6 q_18 P_18 r 61 [(0, .ref 22)] [] t) : ∀ (n : Nat) (t : SM) (v3 : Int32), fAW_study_l24 k61 n t v3 = some r → Body l 6 q_18 P_18 r 24 [(3, .int v3), (1, .ref 16), (0, .ref 22)] [] t
  | 0, _, _, h => by cases h
  | n + 1, t, v3, h => fAW_study_24_ok h_k61 (fAW_study_l24_ok h_k61 n) t v3 h
theorem fAW_study_eq : (fun (G2 : List Value → SM → OR) (G99 : List Value → SM → OR) (G1 : List Value → SM → OR) (G82 : List Value → SM → OR) (G83 : List Value → SM → OR) (G24 : List Value → SM → OR) (j24 : SM → Int32 → OR) (t : SM) (b : Int32) => ex clN P_18 none bytJ (mkCal rks ((2, G2) :: (99, G99) :: (1, G1) :: (82, G82) :: (83, G83) :: (24, G24) :: [])) [24] (kDisp [(24, kF 0 22 <| kF 1 16 <| kI 3 fun w3 => kE fun t => j24 t w3)]) 400 0 [(0, .ref 22), (1, .ref 16), (2, .int b)] [] t) = (fun (G2 : List Value → SM → OR) (G99 : List Value → SM → OR) (G1 : List Value → SM → OR) (G82 : List Value → SM → OR) (G83 : List Value → SM → OR) (G24 : List Value → SM → OR) (j24 : SM → Int32 → OR) (t : SM) (b : Int32) =>
  hPutI t 0 22 5 b fun t1 =>
  hGetI t1 9 16 1 fun size2 =>
  bI (G2 [.int size2, .int 7] t1) fun min4 t3 =>
  hPutI t3 0 22 4 (((1 : Int32) <<< (min4 &&& 31)) - 1) fun t5 =>
  j24 t5 0) := by rfl
theorem fAW_study_ok (t : SM) (b : Int32) (h : fAW_study t b = some r) : Body l 6 q_18 P_18 r 0 [(0, .ref 22), (1, .ref 16), (2, .int b)] [] t :=
  blk ft_18 (by omega) rfl rows_18 (KDok.cons (KOK.f <| KOK.f <| KOK.i fun w3 => KOK.e (f := fun t => fAW_study_l24 (fun t => fAW_study_61 t) 1000000 t w3) fun t h => fAW_study_l24_ok (k61 := fun t => fAW_study_61 t) (fun t h => fAW_study_61_ok t h) 1000000 t w3 h) (KDok.nil)) ((congrFun (congrFun (congrFun (congrFun (congrFun (congrFun (congrFun (congrFun (congrFun (fAW_study_eq) F_2) F_99) F_1) F_82) F_83) F_24) (fun t u3 => fAW_study_l24 (fun t => fAW_study_61 t) 1000000 t u3)) t) b).trans h)
theorem ok_18 (l : Launch) : Fok l 6 mtab 18 (F_18) := by
  intro as t r h
  unfold F_18 at h
  split at h
  · rename_i z0 z1 b
    split at h
    · rename_i hz0
      obtain rfl := Nat.eq_of_beq_eq_true hz0
      split at h
      · rename_i hz1
        obtain rfl := Nat.eq_of_beq_eq_true hz1
        exact ⟨q_18, rfl, mok_18, con_of (P := P_18) (by decide +kernel) rfl (Nat.le_of_ble_eq_true rfl) (fAW_study_ok t b h)⟩
      · cases h
    · cases h
  · cases h
end
section
set_option maxRecDepth 100000
variable {l : Launch} {r : RR}
def FT_19 : FT := (21, F_21) :: []
theorem ft_19 : FTok l 3 mtab FT_19 := FTok.cons (ok_21 l) (by omega) (FTok.nil)
theorem fAW_longestFrom_eq : (fun (G21 : List Value → SM → OR) (t : SM) (a : Int32) => ex clN P_19 none bytJ (mkCal rks ((21, G21) :: [])) [] (kDisp []) 400 0 [(0, .ref 22), (1, .int a)] [] t) = (fun (G21 : List Value → SM → OR) (t : SM) (a : Int32) =>
  hGetI t 0 22 4 fun everyWorld1 =>
  hRecv t 0 22 <| bI (G21 [.ref 22, .int a, .int everyWorld1] t) fun longestFor3 t2 =>
  if longestFor3 < 1000000 then rI longestFor3 t2
  else rI (-1) t2) := by rfl
theorem fAW_longestFrom_ok (t : SM) (a : Int32) (h : fAW_longestFrom t a = some r) : Body l 3 q_19 P_19 r 0 [(0, .ref 22), (1, .int a)] [] t :=
  blk ft_19 (by omega) rfl rows_19 (KDok.nil) ((congrFun (congrFun (congrFun (fAW_longestFrom_eq) F_21) t) a).trans h)
theorem ok_19 (l : Launch) : Fok l 3 mtab 19 (F_19) := by
  intro as t r h
  unfold F_19 at h
  split at h
  · rename_i z0 a
    split at h
    · rename_i hz0
      obtain rfl := Nat.eq_of_beq_eq_true hz0
      exact ⟨q_19, rfl, mok_19, con_of (P := P_19) (by decide +kernel) rfl (Nat.le_of_ble_eq_true rfl) (fAW_longestFrom_ok t a h)⟩
    · cases h
  · cases h
end
section
set_option maxRecDepth 100000
variable {l : Launch} {r : RR}
def FT_20 : FT := (23, F_23) :: (21, F_21) :: (22, F_22) :: (80, F_80) :: (78, F_78) :: []
theorem ft_20 : FTok l 4 mtab FT_20 := FTok.cons (ok_23 l) (by omega) (FTok.cons (ok_21 l) (by omega) (FTok.cons (ok_22 l) (by omega) (FTok.cons (ok_80 l) (by omega) (FTok.cons (ok_78 l) (by omega) (FTok.nil)))))
theorem fAW_firstStreet_47_eq : (fun (G23 : List Value → SM → OR) (G21 : List Value → SM → OR) (G22 : List Value → SM → OR) (G80 : List Value → SM → OR) (G78 : List Value → SM → OR) (j47 : SM → Int32 → Int32 → Int32 → Int32 → Int32 → OR) (t : SM) (v1 : Int32) (v3 : Int32) (v4 : Int32) (v5 : Int32) (v6 : Int32) => ex clN P_20 none bytJ (mkCal rks ((23, G23) :: (21, G21) :: (22, G22) :: (80, G80) :: (78, G78) :: [])) [47] (kDisp [(47, kF 0 22 <| kI 1 fun w1 => kI 3 fun w3 => kI 4 fun w4 => kI 5 fun w5 => kI 6 fun w6 => kE fun t => j47 t w1 w3 w4 w5 w6)]) 400 47 [(6, .int v6), (5, .int v5), (4, .int v4), (3, .int v3), (1, .int v1), (0, .ref 22)] [] t) = (fun (G23 : List Value → SM → OR) (G21 : List Value → SM → OR) (G22 : List Value → SM → OR) (G80 : List Value → SM → OR) (G78 : List Value → SM → OR) (j47 : SM → Int32 → Int32 → Int32 → Int32 → Int32 → OR) (t : SM) (v1 : Int32) (v3 : Int32) (v4 : Int32) (v5 : Int32) (v6 : Int32) =>
  hGetC t 0 22 3 5 <|
  hGetI t 7 5 1 fun size1 =>
  if size1 ≤ v6 then rI (-1) t
  else hGetC t 0 22 3 5 <|
  hRecv t 7 5 <| bQ (G80 [.ref 5, .int v6] t) (fun t2 => j47 t2 v1 v3 v4 v5 (v6 + 1)) fun q3 t2 =>
  if ((v5 >>> (v6 &&& 31)) &&& 1) = 1 then hGetI t2 6 q3 3 fun takes4 =>
  hRecv t2 6 q3 <| bI (G78 [.ref q3, .int v1] t2) fun otherEnd6 t5 =>
  hRecv t5 0 22 <| bI (G21 [.ref 22, .int otherEnd6, .int v3] t5) fun longestFor8 t7 =>
  if (takes4 + longestFor8) = v4 then rI v6 t7
  else j47 t7 v1 v3 v4 v5 (v6 + 1)
  else j47 t2 v1 v3 v4 v5 (v6 + 1)) := by rfl
theorem fAW_firstStreet_47_ok {r47 : SM → Int32 → Int32 → Int32 → Int32 → Int32 → OR} (h_r47 : ∀ (t : SM) (v1 : Int32) (v3 : Int32) (v4 : Int32) (v5 : Int32) (v6 : Int32), r47 t v1 v3 v4 v5 v6 = some r → Body l 4 q_20 P_20 r 47 [(6, .int v6), (5, .int v5), (4, .int v4), (3, .int v3), (1, .int v1), (0, .ref 22)] [] t) (t : SM) (v1 : Int32) (v3 : Int32) (v4 : Int32) (v5 : Int32) (v6 : Int32) (h : fAW_firstStreet_47 r47 t v1 v3 v4 v5 v6 = some r) : Body l 4 q_20 P_20 r 47 [(6, .int v6), (5, .int v5), (4, .int v4), (3, .int v3), (1, .int v1), (0, .ref 22)] [] t :=
  blk ft_20 (by omega) rfl rows_20 (KDok.cons (KOK.f <| KOK.i fun w1 => KOK.i fun w3 => KOK.i fun w4 => KOK.i fun w5 => KOK.i fun w6 => KOK.e (f := fun t => r47 t w1 w3 w4 w5 w6) fun t h => h_r47 t w1 w3 w4 w5 w6 h) (KDok.nil)) ((congrFun (congrFun (congrFun (congrFun (congrFun (congrFun (congrFun (congrFun (congrFun (congrFun (congrFun (congrFun (fAW_firstStreet_47_eq) F_23) F_21) F_22) F_80) F_78) (fun t u1 u3 u4 u5 u6 => r47 t u1 u3 u4 u5 u6)) t) v1) v3) v4) v5) v6).trans h)
theorem fAW_firstStreet_l47_ok : ∀ (n : Nat) (t : SM) (v1 : Int32) (v3 : Int32) (v4 : Int32) (v5 : Int32) (v6 : Int32), fAW_firstStreet_l47 n t v1 v3 v4 v5 v6 = some r → Body l 4 q_20 P_20 r 47 [(6, .int v6), (5, .int v5), (4, .int v4), (3, .int v3), (1, .int v1), (0, .ref 22)] [] t
  | 0, _, _, _, _, _, _, h => by cases h
  | n + 1, t, v1, v3, v4, v5, v6, h => fAW_firstStreet_47_ok (fAW_firstStreet_l47_ok n) t v1 v3 v4 v5 v6 h
theorem fAW_firstStreet_eq : (fun (G23 : List Value → SM → OR) (G21 : List Value → SM → OR) (G22 : List Value → SM → OR) (G80 : List Value → SM → OR) (G78 : List Value → SM → OR) (j47 : SM → Int32 → Int32 → Int32 → Int32 → Int32 → OR) (t : SM) (a : Int32) (b : Int32) => ex clN P_20 none bytJ (mkCal rks ((23, G23) :: (21, G21) :: (22, G22) :: (80, G80) :: (78, G78) :: [])) [47] (kDisp [(47, kF 0 22 <| kI 1 fun w1 => kI 3 fun w3 => kI 4 fun w4 => kI 5 fun w5 => kI 6 fun w6 => kE fun t => j47 t w1 w3 w4 w5 w6)]) 400 0 [(0, .ref 22), (1, .int a), (2, .int b)] [] t) = (fun (G23 : List Value → SM → OR) (G21 : List Value → SM → OR) (G22 : List Value → SM → OR) (G80 : List Value → SM → OR) (G78 : List Value → SM → OR) (j47 : SM → Int32 → Int32 → Int32 → Int32 → Int32 → OR) (t : SM) (a : Int32) (b : Int32) =>
  hGetI t 0 22 4 fun everyWorld1 =>
  hRecv t 0 22 <| bI (G23 [.ref 22, .int b, .int a, .int everyWorld1] t) fun lookingLike3 t2 =>
  hRecv t2 0 22 <| bI (G21 [.ref 22, .int a, .int lookingLike3] t2) fun longestFor5 t4 =>
  hGetI t4 0 22 5 fun goal6 =>
  if a = goal6 then rI (-1) t4
  else if longestFor5 < 1000000 then hRecv t4 0 22 <| bI (G22 [.ref 22, .int a, .int b] t4) fun openAt8 t7 =>
    j47 t7 a lookingLike3 longestFor5 openAt8 0
  else rI (-1) t4) := by rfl
theorem fAW_firstStreet_ok (t : SM) (a : Int32) (b : Int32) (h : fAW_firstStreet t a b = some r) : Body l 4 q_20 P_20 r 0 [(0, .ref 22), (1, .int a), (2, .int b)] [] t :=
  blk ft_20 (by omega) rfl rows_20 (KDok.cons (KOK.f <| KOK.i fun w1 => KOK.i fun w3 => KOK.i fun w4 => KOK.i fun w5 => KOK.i fun w6 => KOK.e (f := fun t => fAW_firstStreet_l47 1000000 t w1 w3 w4 w5 w6) fun t h => fAW_firstStreet_l47_ok 1000000 t w1 w3 w4 w5 w6 h) (KDok.nil)) ((congrFun (congrFun (congrFun (congrFun (congrFun (congrFun (congrFun (congrFun (congrFun (fAW_firstStreet_eq) F_23) F_21) F_22) F_80) F_78) (fun t u1 u3 u4 u5 u6 => fAW_firstStreet_l47 1000000 t u1 u3 u4 u5 u6)) t) a) b).trans h)
theorem ok_20 (l : Launch) : Fok l 4 mtab 20 (F_20) := by
  intro as t r h
  unfold F_20 at h
  split at h
  · rename_i z0 a b
    split at h
    · rename_i hz0
      obtain rfl := Nat.eq_of_beq_eq_true hz0
      exact ⟨q_20, rfl, mok_20, con_of (P := P_20) (by decide +kernel) rfl (Nat.le_of_ble_eq_true rfl) (fAW_firstStreet_ok t a b h)⟩
    · cases h
  · cases h
end
section
set_option maxRecDepth 100000
variable {l : Launch} {r : RR}
def FT_28 : FT := []
theorem ft_28 : FTok l 1 mtab FT_28 := FTok.nil
theorem fAt_init_eq : (fun (t : SM) => ex clN P_28 none bytJ (mkCal rks ([])) [] (kDisp []) 400 0 [(0, .ref 1)] [] t) = (fun (t : SM) =>
  hNewA t 32 8 fun q1 t2 =>
  hPutR t2 1 1 0 (some q1) fun t3 =>
  hNewA t3 20 512 fun q4 t5 =>
  hPutR t5 1 1 2 (some q4) fun t6 =>
  hNewA t6 20 8 fun q7 t8 =>
  hPutR t8 1 1 3 (some q7) fun t9 =>
  rV t9) := by rfl
theorem fAt_init_ok (t : SM) (h : fAt_init t = some r) : Body l 1 q_28 P_28 r 0 [(0, .ref 1)] [] t :=
  blk ft_28 (by omega) rfl rows_28 (KDok.nil) ((congrFun (fAt_init_eq) t).trans h)
theorem ok_28 (l : Launch) : Fok l 1 mtab 28 (F_28) := by
  intro as t r h
  unfold F_28 at h
  split at h
  · rename_i z0
    split at h
    · rename_i hz0
      obtain rfl := Nat.eq_of_beq_eq_true hz0
      exact ⟨q_28, rfl, mok_28, con_of (P := P_28) (by decide +kernel) rfl (Nat.le_of_ble_eq_true rfl) (fAt_init_ok t h)⟩
    · cases h
  · cases h
end
section
set_option maxRecDepth 100000
variable {l : Launch} {r : RR}
def FT_29 : FT := []
theorem ft_29 : FTok l 1 mtab FT_29 := FTok.nil
theorem fAt_chartAt_eq : (fun (t : SM) (a : Int32) => ex clN P_29 none bytJ (mkCal rks ([])) [] (kDisp []) 400 0 [(0, .ref 1), (1, .int a)] [] t) = (fun (t : SM) (a : Int32) =>
  if a < 0 then rN t
  else hGetI t 1 1 1 fun size1 =>
  if size1 ≤ a then rN t
  else hGetC t 1 1 0 2 <|
  hALen t 2 fun n2 =>
  if n2 ≤ a then rN t
  else hGetC t 1 1 0 2 <|
  hQLd t 2 2 a (rN t) fun q3 =>
  rR q3 t) := by rfl
theorem fAt_chartAt_ok (t : SM) (a : Int32) (h : fAt_chartAt t a = some r) : Body l 1 q_29 P_29 r 0 [(0, .ref 1), (1, .int a)] [] t :=
  blk ft_29 (by omega) rfl rows_29 (KDok.nil) ((congrFun (congrFun (fAt_chartAt_eq) t) a).trans h)
theorem ok_29 (l : Launch) : Fok l 1 mtab 29 (F_29) := by
  intro as t r h
  unfold F_29 at h
  split at h
  · rename_i z0 a
    split at h
    · rename_i hz0
      obtain rfl := Nat.eq_of_beq_eq_true hz0
      exact ⟨q_29, rfl, mok_29, con_of (P := P_29) (by decide +kernel) rfl (Nat.le_of_ble_eq_true rfl) (fAt_chartAt_ok t a h)⟩
    · cases h
  · cases h
end
section
set_option maxRecDepth 100000
variable {l : Launch} {r : RR}
def FT_40 : FT := []
theorem ft_40 : FTok l 1 mtab FT_40 := FTok.nil
theorem fCh_init_eq : (fun (t : SM) (o : Nat) (a : Int32) (b : Int32) (c : Int32) (d : Int32) (e : Int32) => ex clN P_40 none bytJ (mkCal rks ([])) [] (kDisp []) 400 0 [(0, .ref o), (1, .int a), (2, .int b), (3, .int c), (4, .int d), (5, .int e)] [] t) = (fun (t : SM) (o : Nat) (a : Int32) (b : Int32) (c : Int32) (d : Int32) (e : Int32) =>
  hPutI t 2 o 5 1 fun t1 =>
  hPutI t1 2 o 0 a fun t2 =>
  hPutI t2 2 o 1 b fun t3 =>
  hPutI t3 2 o 2 c fun t4 =>
  hPutI t4 2 o 3 d fun t5 =>
  hPutI t5 2 o 4 e fun t6 =>
  rV t6) := by rfl
theorem fCh_init_ok (t : SM) (o : Nat) (a : Int32) (b : Int32) (c : Int32) (d : Int32) (e : Int32) (h : fCh_init t o a b c d e = some r) : Body l 1 q_40 P_40 r 0 [(0, .ref o), (1, .int a), (2, .int b), (3, .int c), (4, .int d), (5, .int e)] [] t :=
  blk ft_40 (by omega) rfl rows_40 (KDok.nil) ((congrFun (congrFun (congrFun (congrFun (congrFun (congrFun (congrFun (fCh_init_eq) t) o) a) b) c) d) e).trans h)
theorem ok_40 (l : Launch) : Fok l 1 mtab 40 (F_40) := by
  intro as t r h
  unfold F_40 at h
  split at h
  · rename_i o a b c d e
    exact ⟨q_40, rfl, mok_40, con_of (P := P_40) (by decide +kernel) rfl (Nat.le_of_ble_eq_true rfl) (fCh_init_ok t o a b c d e h)⟩
  · cases h
end
section
set_option maxRecDepth 100000
variable {l : Launch} {r : RR}
def FT_41 : FT := []
theorem ft_41 : FTok l 1 mtab FT_41 := FTok.nil
theorem fCh_shown_eq : (fun (t : SM) (o : Nat) => ex clN P_41 none bytJ (mkCal rks ([])) [] (kDisp []) 400 0 [(0, .ref o)] [] t) = (fun (t : SM) (o : Nat) =>
  hGetI t 2 o 0 fun kind1 =>
  if kind1 = 3 then hGetI t 2 o 2 fun mask2 =>
  rI mask2 t
  else rI (-1) t) := by rfl
theorem fCh_shown_ok (t : SM) (o : Nat) (h : fCh_shown t o = some r) : Body l 1 q_41 P_41 r 0 [(0, .ref o)] [] t :=
  blk ft_41 (by omega) rfl rows_41 (KDok.nil) ((congrFun (congrFun (fCh_shown_eq) t) o).trans h)
theorem ok_41 (l : Launch) : Fok l 1 mtab 41 (F_41) := by
  intro as t r h
  unfold F_41 at h
  split at h
  · rename_i o
    exact ⟨q_41, rfl, mok_41, con_of (P := P_41) (by decide +kernel) rfl (Nat.le_of_ble_eq_true rfl) (fCh_shown_ok t o h)⟩
  · cases h
end
section
set_option maxRecDepth 100000
variable {l : Launch} {r : RR}
def FT_42 : FT := (41, F_41) :: []
theorem ft_42 : FTok l 2 mtab FT_42 := FTok.cons (ok_41 l) (by omega) (FTok.nil)
theorem fCh_slipsIn_eq : (fun (G41 : List Value → SM → OR) (t : SM) (o : Nat) (a : Int32) => ex clN P_42 none bytJ (mkCal rks ((41, G41) :: [])) [] (kDisp []) 400 0 [(0, .ref o), (1, .int a)] [] t) = (fun (G41 : List Value → SM → OR) (t : SM) (o : Nat) (a : Int32) =>
  hGetI t 2 o 1 fun says1 =>
  hRecv t 2 o <| bI (G41 [.ref o] t) fun shown3 t2 =>
  rI ((says1 ^^^ a) &&& shown3) t2) := by rfl
theorem fCh_slipsIn_ok (t : SM) (o : Nat) (a : Int32) (h : fCh_slipsIn t o a = some r) : Body l 2 q_42 P_42 r 0 [(0, .ref o), (1, .int a)] [] t :=
  blk ft_42 (by omega) rfl rows_42 (KDok.nil) ((congrFun (congrFun (congrFun (congrFun (fCh_slipsIn_eq) F_41) t) o) a).trans h)
theorem ok_42 (l : Launch) : Fok l 2 mtab 42 (F_42) := by
  intro as t r h
  unfold F_42 at h
  split at h
  · rename_i o a
    exact ⟨q_42, rfl, mok_42, con_of (P := P_42) (by decide +kernel) rfl (Nat.le_of_ble_eq_true rfl) (fCh_slipsIn_ok t o a h)⟩
  · cases h
end
section
set_option maxRecDepth 100000
variable {l : Launch} {r : RR}
def FT_45 : FT := []
theorem ft_45 : FTok l 1 mtab FT_45 := FTok.nil
theorem fCh_areNeighbours_eq : (fun (t : SM) (a : Int32) => ex clN P_45 none bytJ (mkCal rks ([])) [] (kDisp []) 400 0 [(0, .int a)] [] t) = (fun (t : SM) (a : Int32) =>
  if (a &&& (a <<< ((1 : Int32) &&& 31))) = 0 then rI 0 t
  else rI 1 t) := by rfl
theorem fCh_areNeighbours_ok (t : SM) (a : Int32) (h : fCh_areNeighbours t a = some r) : Body l 1 q_45 P_45 r 0 [(0, .int a)] [] t :=
  blk ft_45 (by omega) rfl rows_45 (KDok.nil) ((congrFun (congrFun (fCh_areNeighbours_eq) t) a).trans h)
theorem ok_45 (l : Launch) : Fok l 1 mtab 45 (F_45) := by
  intro as t r h
  unfold F_45 at h
  split at h
  · rename_i a
    exact ⟨q_45, rfl, mok_45, con_of (P := P_45) (by decide +kernel) rfl (Nat.le_of_ble_eq_true rfl) (fCh_areNeighbours_ok t a h)⟩
  · cases h
end
section
set_option maxRecDepth 100000
variable {l : Launch} {r : RR}
def FT_44 : FT := (42, F_42) :: (0, F_0) :: (45, F_45) :: []
theorem ft_44 : FTok l 3 mtab FT_44 := FTok.cons (ok_42 l) (by omega) (FTok.cons (ok_0 l) (by omega) (FTok.cons (ok_45 l) (by omega) (FTok.nil)))
theorem fCh_agreesWith_eq : (fun (G42 : List Value → SM → OR) (G0 : List Value → SM → OR) (G45 : List Value → SM → OR) (t : SM) (o : Nat) (a : Int32) (b : Int32) => ex clN P_44 none bytJ (mkCal rks ((42, G42) :: (0, G0) :: (45, G45) :: [])) [] (kDisp []) 400 0 [(0, .ref o), (1, .int a), (2, .int b)] [] t) = (fun (G42 : List Value → SM → OR) (G0 : List Value → SM → OR) (G45 : List Value → SM → OR) (t : SM) (o : Nat) (a : Int32) (b : Int32) =>
  hRecv t 2 o <| bI (G42 [.ref o, .int a] t) fun slipsIn2 t1 =>
  bI (G0 [.int slipsIn2] t1) fun bitCount4 t3 =>
  hGetI t3 2 o 0 fun kind5 =>
  if kind5 = 1 then hGetI t3 2 o 4 fun unlikeModel6 =>
    bI (G0 [.int unlikeModel6] t3) fun bitCount8 t7 =>
    if bitCount8 = 1 then hGetI t7 2 o 3 fun more9 =>
    if ((b >>> (more9 &&& 31)) &&& 1) = 1 then rI 1 t7
    else rI 0 t7
    else rI 0 t7
  else if kind5 = 2 then if 1 < bitCount4 then rI 0 t3
    else rI 1 t3
  else if kind5 = 3 then if 1 < bitCount4 then rI 0 t3
    else rI 1 t3
  else if kind5 = 4 then hGetI t3 2 o 3 fun more10 =>
    if (more10 + 1) < bitCount4 then rI 0 t3
    else rI 1 t3
  else if kind5 = 5 then if bitCount4 = 2 then bI (G45 [.int slipsIn2] t3) fun areNeighbours12 t11 =>
    if areNeighbours12 = 0 then rI 0 t11
    else bI (G0 [.int (slipsIn2 &&& a)] t11) fun bitCount14 t13 =>
    if bitCount14 = 1 then rI 1 t13
    else rI 0 t13
    else rI 0 t3
  else if bitCount4 = 1 then rI 1 t3
  else rI 0 t3) := by rfl
theorem fCh_agreesWith_ok (t : SM) (o : Nat) (a : Int32) (b : Int32) (h : fCh_agreesWith t o a b = some r) : Body l 3 q_44 P_44 r 0 [(0, .ref o), (1, .int a), (2, .int b)] [] t :=
  blk ft_44 (by omega) rfl rows_44 (KDok.nil) ((congrFun (congrFun (congrFun (congrFun (congrFun (congrFun (congrFun (fCh_agreesWith_eq) F_42) F_0) F_45) t) o) a) b).trans h)
theorem ok_44 (l : Launch) : Fok l 3 mtab 44 (F_44) := by
  intro as t r h
  unfold F_44 at h
  split at h
  · rename_i o a b
    exact ⟨q_44, rfl, mok_44, con_of (P := P_44) (by decide +kernel) rfl (Nat.le_of_ble_eq_true rfl) (fCh_agreesWith_ok t o a b h)⟩
  · cases h
end
section
set_option maxRecDepth 100000
variable {l : Launch} {r : RR}
def FT_30 : FT := (29, F_29) :: (40, F_40) :: (44, F_44) :: []
theorem ft_30 : FTok l 4 mtab FT_30 := FTok.cons (ok_29 l) (by omega) (FTok.cons (ok_40 l) (by omega) (FTok.cons (ok_44 l) (by omega) (FTok.nil)))
theorem fAt_add_139_eq : (fun (G29 : List Value → SM → OR) (G40 : List Value → SM → OR) (G44 : List Value → SM → OR) (t : SM) (v7 : Nat) => ex clN P_30 none bytJ (mkCal rks ((29, G29) :: (40, G40) :: (44, G44) :: [])) [] (kDisp []) 400 139 [(7, .ref v7), (0, .ref 1)] [] t) = (fun (G29 : List Value → SM → OR) (G40 : List Value → SM → OR) (G44 : List Value → SM → OR) (t : SM) (v7 : Nat) =>
  hGetC t 1 1 0 2 <|
  hGetI t 1 1 1 fun size1 =>
  hQSt t 2 2 size1 v7 fun t2 =>
  hGetI t2 1 1 1 fun size3 =>
  hPutI t2 1 1 1 (size3 + 1) fun t4 =>
  hGetI t4 1 1 1 fun size5 =>
  rI (size5 - 1) t4) := by rfl
theorem fAt_add_139_ok (t : SM) (v7 : Nat) (h : fAt_add_139 t v7 = some r) : Body l 4 q_30 P_30 r 139 [(7, .ref v7), (0, .ref 1)] [] t :=
  blk ft_30 (by omega) rfl rows_30 (KDok.nil) ((congrFun (congrFun (congrFun (congrFun (congrFun (fAt_add_139_eq) F_29) F_40) F_44) t) v7).trans h)
theorem fAt_add_80_eq : (fun (G29 : List Value → SM → OR) (G40 : List Value → SM → OR) (G44 : List Value → SM → OR) (j80 : SM → Nat → Int32 → Int32 → OR) (j139 : SM → Nat → OR) (t : SM) (v7 : Nat) (v8 : Int32) (v9 : Int32) => ex clN P_30 none bytJ (mkCal rks ((29, G29) :: (40, G40) :: (44, G44) :: [])) [80, 139] (kDisp [(80, kF 0 1 <| kR 7 fun w7 => kI 8 fun w8 => kI 9 fun w9 => kE fun t => j80 t w7 w8 w9), (139, kF 0 1 <| kR 7 fun w7 => kE fun t => j139 t w7)]) 400 80 [(9, .int v9), (8, .int v8), (7, .ref v7), (0, .ref 1)] [] t) = (fun (G29 : List Value → SM → OR) (G40 : List Value → SM → OR) (G44 : List Value → SM → OR) (j80 : SM → Nat → Int32 → Int32 → OR) (j139 : SM → Nat → OR) (t : SM) (v7 : Nat) (v8 : Int32) (v9 : Int32) =>
  hGetC t 1 1 2 3 <|
  hALen t 3 fun n1 =>
  if n1 ≤ v9 then j139 t v7
  else hGetC t 1 1 2 3 <|
  hALd t 3 v9 fun e2 =>
  hGetC t 1 1 2 3 <|
  hRecv t 2 v7 <| bI (G44 [.ref v7, .int v9, .int (e2 &&& (v8 ^^^ (-1)))] t) fun agreesWith4 t3 =>
  if agreesWith4 = 0 then hASt t3 3 v9 (e2 &&& (v8 ^^^ (-1))) fun t5 =>
    j80 t5 v7 v8 (v9 + 1)
  else hASt t3 3 v9 ((e2 &&& (v8 ^^^ (-1))) ||| v8) fun t6 =>
  j80 t6 v7 v8 (v9 + 1)) := by rfl
theorem fAt_add_80_ok {k139 : SM → Nat → OR} {r80 : SM → Nat → Int32 → Int32 → OR} (h_k139 : ∀ (t : SM) (v7 : Nat), k139 t v7 = some r → Body l 4 q_30 P_30 r 139 [(7, .ref v7), (0, .ref 1)] [] t) (h_r80 : ∀ (t : SM) (v7 : Nat) (v8 : Int32) (v9 : Int32), r80 t v7 v8 v9 = some r → Body l 4 q_30 P_30 r 80 [(9, .int v9), (8, .int v8), (7, .ref v7), (0, .ref 1)] [] t) (t : SM) (v7 : Nat) (v8 : Int32) (v9 : Int32) (h : fAt_add_80 k139 r80 t v7 v8 v9 = some r) : Body l 4 q_30 P_30 r 80 [(9, .int v9), (8, .int v8), (7, .ref v7), (0, .ref 1)] [] t :=
  blk ft_30 (by omega) rfl rows_30 (KDok.cons (KOK.f <| KOK.rf fun w7 => KOK.i fun w8 => KOK.i fun w9 => KOK.e (f := fun t => r80 t w7 w8 w9) fun t h => h_r80 t w7 w8 w9 h) (KDok.cons (KOK.f <| KOK.rf fun w7 => KOK.e (f := fun t => k139 t w7) fun t h => h_k139 t w7 h) (KDok.nil))) ((congrFun (congrFun (congrFun (congrFun (congrFun (congrFun (congrFun (congrFun (congrFun (fAt_add_80_eq) F_29) F_40) F_44) (fun t u7 u8 u9 => r80 t u7 u8 u9)) (fun t u7 => k139 t u7)) t) v7) v8) v9).trans h)
theorem fAt_add_l80_ok {k139 : SM → Nat → OR} (h_k139 : ∀ (t : SM) (v7 : Nat), k139 t v7 = some r → Body l 4 q_30 P_30 r 139 [(7, .ref v7), (0, .ref 1)] [] t) : ∀ (n : Nat) (t : SM) (v7 : Nat) (v8 : Int32) (v9 : Int32), fAt_add_l80 k139 n t v7 v8 v9 = some r → Body l 4 q_30 P_30 r 80 [(9, .int v9), (8, .int v8), (7, .ref v7), (0, .ref 1)] [] t
  | 0, _, _, _, _, h => by cases h
  | n + 1, t, v7, v8, v9, h => fAt_add_80_ok h_k139 (fAt_add_l80_ok h_k139 n) t v7 v8 v9 h
theorem fAt_add_50_eq : (fun (G29 : List Value → SM → OR) (G40 : List Value → SM → OR) (G44 : List Value → SM → OR) (j80 : SM → Nat → Int32 → Int32 → OR) (t : SM) (v1 : Int32) (v2 : Int32) (v3 : Int32) (v4 : Int32) => ex clN P_30 none bytJ (mkCal rks ((29, G29) :: (40, G40) :: (44, G44) :: [])) [80] (kDisp [(80, kF 0 1 <| kR 7 fun w7 => kI 8 fun w8 => kI 9 fun w9 => kE fun t => j80 t w7 w8 w9)]) 400 50 [(4, .int v4), (3, .int v3), (2, .int v2), (1, .int v1), (0, .ref 1)] [] t) = (fun (G29 : List Value → SM → OR) (G40 : List Value → SM → OR) (G44 : List Value → SM → OR) (j80 : SM → Nat → Int32 → Int32 → OR) (t : SM) (v1 : Int32) (v2 : Int32) (v3 : Int32) (v4 : Int32) =>
  hNew t 2 6 fun q1 t2 =>
  hRecv t2 2 q1 <| bV (G40 [.ref q1, .int v1, .int v2, .int v3, .int v4, .int 0] t2) fun t3 =>
  hGetI t3 1 1 1 fun size4 =>
  j80 t3 q1 ((1 : Int32) <<< (size4 &&& 31)) 0) := by rfl
theorem fAt_add_50_ok (t : SM) (v1 : Int32) (v2 : Int32) (v3 : Int32) (v4 : Int32) (h : fAt_add_50 t v1 v2 v3 v4 = some r) : Body l 4 q_30 P_30 r 50 [(4, .int v4), (3, .int v3), (2, .int v2), (1, .int v1), (0, .ref 1)] [] t :=
  blk ft_30 (by omega) rfl rows_30 (KDok.cons (KOK.f <| KOK.rf fun w7 => KOK.i fun w8 => KOK.i fun w9 => KOK.e (f := fun t => fAt_add_l80 (fun t u7 => fAt_add_139 t u7) 1000000 t w7 w8 w9) fun t h => fAt_add_l80_ok (k139 := fun t u7 => fAt_add_139 t u7) (fun t u7 h => fAt_add_139_ok t u7 h) 1000000 t w7 w8 w9 h) (KDok.nil)) ((congrFun (congrFun (congrFun (congrFun (congrFun (congrFun (congrFun (congrFun (congrFun (fAt_add_50_eq) F_29) F_40) F_44) (fun t u7 u8 u9 => fAt_add_l80 (fun t u7 => fAt_add_139 t u7) 1000000 t u7 u8 u9)) t) v1) v2) v3) v4).trans h)
theorem fAt_add_eq : (fun (G29 : List Value → SM → OR) (G40 : List Value → SM → OR) (G44 : List Value → SM → OR) (j50 : SM → Int32 → Int32 → Int32 → Int32 → OR) (j80 : SM → Nat → Int32 → Int32 → OR) (t : SM) (a : Int32) (b : Int32) (c : Int32) (d : Int32) => ex clN P_30 none bytJ (mkCal rks ((29, G29) :: (40, G40) :: (44, G44) :: [])) [50, 80] (kDisp [(50, kF 0 1 <| kI 1 fun w1 => kI 2 fun w2 => kI 3 fun w3 => kI 4 fun w4 => kE fun t => j50 t w1 w2 w3 w4), (80, kF 0 1 <| kR 7 fun w7 => kI 8 fun w8 => kI 9 fun w9 => kE fun t => j80 t w7 w8 w9)]) 400 0 [(0, .ref 1), (1, .int a), (2, .int b), (3, .int c), (4, .int d)] [] t) = (fun (G29 : List Value → SM → OR) (G40 : List Value → SM → OR) (G44 : List Value → SM → OR) (j50 : SM → Int32 → Int32 → Int32 → Int32 → OR) (j80 : SM → Nat → Int32 → Int32 → OR) (t : SM) (a : Int32) (b : Int32) (c : Int32) (d : Int32) =>
  hGetI t 1 1 1 fun size1 =>
  if size1 < 0 then rI (-4) t
  else hGetI t 1 1 1 fun size2 =>
  hGetC t 1 1 0 2 <|
  hALen t 2 fun n3 =>
  if size2 < n3 then hRecv t 1 1 <| bQ (G29 [.ref 1, .int d] t) (fun t4 => if a = 1 then j50 t4 a b c d
      else j50 t4 a b c d) fun q5 t4 =>
    if a = 1 then hGetI t4 2 q5 1 fun says6 =>
    hNew t4 2 6 fun q7 t8 =>
    hRecv t8 2 q7 <| bV (G40 [.ref q7, .int a, .int b, .int c, .int d, .int (says6 ^^^ b)] t8) fun t9 =>
    hGetI t9 1 1 1 fun size10 =>
    j80 t9 q7 ((1 : Int32) <<< (size10 &&& 31)) 0
    else j50 t4 a b c d
  else rI (-4) t) := by rfl
theorem fAt_add_ok (t : SM) (a : Int32) (b : Int32) (c : Int32) (d : Int32) (h : fAt_add t a b c d = some r) : Body l 4 q_30 P_30 r 0 [(0, .ref 1), (1, .int a), (2, .int b), (3, .int c), (4, .int d)] [] t :=
  blk ft_30 (by omega) rfl rows_30 (KDok.cons (KOK.f <| KOK.i fun w1 => KOK.i fun w2 => KOK.i fun w3 => KOK.i fun w4 => KOK.e (f := fun t => fAt_add_50 t w1 w2 w3 w4) fun t h => fAt_add_50_ok t w1 w2 w3 w4 h) (KDok.cons (KOK.f <| KOK.rf fun w7 => KOK.i fun w8 => KOK.i fun w9 => KOK.e (f := fun t => fAt_add_l80 (fun t u7 => fAt_add_139 t u7) 1000000 t w7 w8 w9) fun t h => fAt_add_l80_ok (k139 := fun t u7 => fAt_add_139 t u7) (fun t u7 h => fAt_add_139_ok t u7 h) 1000000 t w7 w8 w9 h) (KDok.nil))) ((congrFun (congrFun (congrFun (congrFun (congrFun (congrFun (congrFun (congrFun (congrFun (congrFun (fAt_add_eq) F_29) F_40) F_44) (fun t u1 u2 u3 u4 => fAt_add_50 t u1 u2 u3 u4)) (fun t u7 u8 u9 => fAt_add_l80 (fun t u7 => fAt_add_139 t u7) 1000000 t u7 u8 u9)) t) a) b) c) d).trans h)
theorem ok_30 (l : Launch) : Fok l 4 mtab 30 (F_30) := by
  intro as t r h
  unfold F_30 at h
  split at h
  · rename_i z0 a b c d
    split at h
    · rename_i hz0
      obtain rfl := Nat.eq_of_beq_eq_true hz0
      exact ⟨q_30, rfl, mok_30, con_of (P := P_30) (by decide +kernel) rfl (Nat.le_of_ble_eq_true rfl) (fAt_add_ok t a b c d h)⟩
    · cases h
  · cases h
end
section
set_option maxRecDepth 100000
variable {l : Launch} {r : RR}
def FT_31 : FT := (2, F_2) :: (1, F_1) :: []
theorem ft_31 : FTok l 2 mtab FT_31 := FTok.cons (ok_2 l) (by omega) (FTok.cons (ok_1 l) (by omega) (FTok.nil))
theorem fAt_shrinkTo_eq : (fun (G2 : List Value → SM → OR) (G1 : List Value → SM → OR) (t : SM) (a : Int32) => ex clN P_31 none bytJ (mkCal rks ((2, G2) :: (1, G1) :: [])) [] (kDisp []) 400 0 [(0, .ref 1), (1, .int a)] [] t) = (fun (G2 : List Value → SM → OR) (G1 : List Value → SM → OR) (t : SM) (a : Int32) =>
  hGetI t 1 1 1 fun size1 =>
  bI (G2 [.int size1, .int a] t) fun min3 t2 =>
  bI (G1 [.int 0, .int min3] t2) fun max5 t4 =>
  hPutI t4 1 1 1 max5 fun t6 =>
  rV t6) := by rfl
theorem fAt_shrinkTo_ok (t : SM) (a : Int32) (h : fAt_shrinkTo t a = some r) : Body l 2 q_31 P_31 r 0 [(0, .ref 1), (1, .int a)] [] t :=
  blk ft_31 (by omega) rfl rows_31 (KDok.nil) ((congrFun (congrFun (congrFun (congrFun (fAt_shrinkTo_eq) F_2) F_1) t) a).trans h)
theorem ok_31 (l : Launch) : Fok l 2 mtab 31 (F_31) := by
  intro as t r h
  unfold F_31 at h
  split at h
  · rename_i z0 a
    split at h
    · rename_i hz0
      obtain rfl := Nat.eq_of_beq_eq_true hz0
      exact ⟨q_31, rfl, mok_31, con_of (P := P_31) (by decide +kernel) rfl (Nat.le_of_ble_eq_true rfl) (fAt_shrinkTo_ok t a h)⟩
    · cases h
  · cases h
end
section
set_option maxRecDepth 100000
variable {l : Launch} {r : RR}
def FT_32 : FT := []
theorem ft_32 : FTok l 1 mtab FT_32 := FTok.nil
theorem fAt_everyMap_eq : (fun (t : SM) => ex clN P_32 none bytJ (mkCal rks ([])) [] (kDisp []) 400 0 [(0, .ref 1)] [] t) = (fun (t : SM) =>
  hGetI t 1 1 1 fun size1 =>
  rI (((1 : Int32) <<< (size1 &&& 31)) - 1) t) := by rfl
theorem fAt_everyMap_ok (t : SM) (h : fAt_everyMap t = some r) : Body l 1 q_32 P_32 r 0 [(0, .ref 1)] [] t :=
  blk ft_32 (by omega) rfl rows_32 (KDok.nil) ((congrFun (fAt_everyMap_eq) t).trans h)
theorem ok_32 (l : Launch) : Fok l 1 mtab 32 (F_32) := by
  intro as t r h
  unfold F_32 at h
  split at h
  · rename_i z0
    split at h
    · rename_i hz0
      obtain rfl := Nat.eq_of_beq_eq_true hz0
      exact ⟨q_32, rfl, mok_32, con_of (P := P_32) (by decide +kernel) rfl (Nat.le_of_ble_eq_true rfl) (fAt_everyMap_ok t h)⟩
    · cases h
  · cases h
end
section
set_option maxRecDepth 100000
variable {l : Launch} {r : RR}
def FT_43 : FT := []
theorem ft_43 : FTok l 1 mtab FT_43 := FTok.nil
theorem fCh_isOne_eq : (fun (t : SM) (o : Nat) (a : Int32) => ex clN P_43 none bytJ (mkCal rks ([])) [] (kDisp []) 400 0 [(0, .ref o), (1, .int a)] [] t) = (fun (t : SM) (o : Nat) (a : Int32) =>
  if a = 0 then rI 1 t
  else hGetI t 2 o 0 fun kind1 =>
  if a = kind1 then rI 1 t
  else if a = 2 then hGetI t 2 o 0 fun kind2 =>
  if kind2 = 3 then rI 1 t
  else rI 0 t
  else rI 0 t) := by rfl
theorem fCh_isOne_ok (t : SM) (o : Nat) (a : Int32) (h : fCh_isOne t o a = some r) : Body l 1 q_43 P_43 r 0 [(0, .ref o), (1, .int a)] [] t :=
  blk ft_43 (by omega) rfl rows_43 (KDok.nil) ((congrFun (congrFun (congrFun (fCh_isOne_eq) t) o) a).trans h)
theorem ok_43 (l : Launch) : Fok l 1 mtab 43 (F_43) := by
  intro as t r h
  unfold F_43 at h
  split at h
  · rename_i o a
    exact ⟨q_43, rfl, mok_43, con_of (P := P_43) (by decide +kernel) rfl (Nat.le_of_ble_eq_true rfl) (fCh_isOne_ok t o a h)⟩
  · cases h
end
section
set_option maxRecDepth 100000
variable {l : Launch} {r : RR}
def FT_33 : FT := (29, F_29) :: (43, F_43) :: []
theorem ft_33 : FTok l 2 mtab FT_33 := FTok.cons (ok_29 l) (by omega) (FTok.cons (ok_43 l) (by omega) (FTok.nil))
theorem fAt_everyPart_4_eq : (fun (G29 : List Value → SM → OR) (G43 : List Value → SM → OR) (j4 : SM → Int32 → Int32 → OR) (t : SM) (v1 : Int32) (v2 : Int32) => ex clN P_33 none bytJ (mkCal rks ((29, G29) :: (43, G43) :: [])) [4] (kDisp [(4, kF 0 1 <| kI 1 fun w1 => kI 2 fun w2 => kE fun t => j4 t w1 w2)]) 400 4 [(2, .int v2), (1, .int v1), (0, .ref 1)] [] t) = (fun (G29 : List Value → SM → OR) (G43 : List Value → SM → OR) (j4 : SM → Int32 → Int32 → OR) (t : SM) (v1 : Int32) (v2 : Int32) =>
  hGetI t 1 1 1 fun size1 =>
  if size1 ≤ v2 then rI v1 t
  else hRecv t 1 1 <| bQ (G29 [.ref 1, .int v2] t) (fun t2 => j4 t2 v1 (v2 + 1)) fun q3 t2 =>
  hRecv t2 2 q3 <| bI (G43 [.ref q3, .int 3] t2) fun isOne5 t4 =>
  if isOne5 = 0 then j4 t4 v1 (v2 + 1)
  else j4 t4 (v1 ||| ((1 : Int32) <<< (v2 &&& 31))) (v2 + 1)) := by rfl
theorem fAt_everyPart_4_ok {r4 : SM → Int32 → Int32 → OR} (h_r4 : ∀ (t : SM) (v1 : Int32) (v2 : Int32), r4 t v1 v2 = some r → Body l 2 q_33 P_33 r 4 [(2, .int v2), (1, .int v1), (0, .ref 1)] [] t) (t : SM) (v1 : Int32) (v2 : Int32) (h : fAt_everyPart_4 r4 t v1 v2 = some r) : Body l 2 q_33 P_33 r 4 [(2, .int v2), (1, .int v1), (0, .ref 1)] [] t :=
  blk ft_33 (by omega) rfl rows_33 (KDok.cons (KOK.f <| KOK.i fun w1 => KOK.i fun w2 => KOK.e (f := fun t => r4 t w1 w2) fun t h => h_r4 t w1 w2 h) (KDok.nil)) ((congrFun (congrFun (congrFun (congrFun (congrFun (congrFun (fAt_everyPart_4_eq) F_29) F_43) (fun t u1 u2 => r4 t u1 u2)) t) v1) v2).trans h)
theorem fAt_everyPart_l4_ok : ∀ (n : Nat) (t : SM) (v1 : Int32) (v2 : Int32), fAt_everyPart_l4 n t v1 v2 = some r → Body l 2 q_33 P_33 r 4 [(2, .int v2), (1, .int v1), (0, .ref 1)] [] t
  | 0, _, _, _, h => by cases h
  | n + 1, t, v1, v2, h => fAt_everyPart_4_ok (fAt_everyPart_l4_ok n) t v1 v2 h
theorem fAt_everyPart_eq : (fun (G29 : List Value → SM → OR) (G43 : List Value → SM → OR) (j4 : SM → Int32 → Int32 → OR) (t : SM) => ex clN P_33 none bytJ (mkCal rks ((29, G29) :: (43, G43) :: [])) [4] (kDisp [(4, kF 0 1 <| kI 1 fun w1 => kI 2 fun w2 => kE fun t => j4 t w1 w2)]) 400 0 [(0, .ref 1)] [] t) = (fun (G29 : List Value → SM → OR) (G43 : List Value → SM → OR) (j4 : SM → Int32 → Int32 → OR) (t : SM) =>
  j4 t 0 0) := by rfl
theorem fAt_everyPart_ok (t : SM) (h : fAt_everyPart t = some r) : Body l 2 q_33 P_33 r 0 [(0, .ref 1)] [] t :=
  blk ft_33 (by omega) rfl rows_33 (KDok.cons (KOK.f <| KOK.i fun w1 => KOK.i fun w2 => KOK.e (f := fun t => fAt_everyPart_l4 1000000 t w1 w2) fun t h => fAt_everyPart_l4_ok 1000000 t w1 w2 h) (KDok.nil)) ((congrFun (congrFun (congrFun (congrFun (fAt_everyPart_eq) F_29) F_43) (fun t u1 u2 => fAt_everyPart_l4 1000000 t u1 u2)) t).trans h)
theorem ok_33 (l : Launch) : Fok l 2 mtab 33 (F_33) := by
  intro as t r h
  unfold F_33 at h
  split at h
  · rename_i z0
    split at h
    · rename_i hz0
      obtain rfl := Nat.eq_of_beq_eq_true hz0
      exact ⟨q_33, rfl, mok_33, con_of (P := P_33) (by decide +kernel) rfl (Nat.le_of_ble_eq_true rfl) (fAt_everyPart_ok t h)⟩
    · cases h
  · cases h
end
section
set_option maxRecDepth 100000
variable {l : Launch} {r : RR}
def FT_34 : FT := (166, F_166) :: (32, F_32) :: []
theorem ft_34 : FTok l 2 mtab FT_34 := FTok.cons (ok_166 l) (by omega) (FTok.cons (ok_32 l) (by omega) (FTok.nil))
theorem fAt_agreeingWith_eq : (fun (G166 : List Value → SM → OR) (G32 : List Value → SM → OR) (t : SM) (a : Int32) => ex clN P_34 none bytJ (mkCal rks ((166, G166) :: (32, G32) :: [])) [] (kDisp []) 400 0 [(0, .ref 1), (1, .int a)] [] t) = (fun (G166 : List Value → SM → OR) (G32 : List Value → SM → OR) (t : SM) (a : Int32) =>
  hGetC t 1 1 2 3 <|
  bI (G166 [.ref 3, .int a] t) fun numberAt2 t1 =>
  hRecv t1 1 1 <| bI (G32 [.ref 1] t1) fun everyMap4 t3 =>
  rI (numberAt2 &&& everyMap4) t3) := by rfl
theorem fAt_agreeingWith_ok (t : SM) (a : Int32) (h : fAt_agreeingWith t a = some r) : Body l 2 q_34 P_34 r 0 [(0, .ref 1), (1, .int a)] [] t :=
  blk ft_34 (by omega) rfl rows_34 (KDok.nil) ((congrFun (congrFun (congrFun (congrFun (fAt_agreeingWith_eq) F_166) F_32) t) a).trans h)
theorem ok_34 (l : Launch) : Fok l 2 mtab 34 (F_34) := by
  intro as t r h
  unfold F_34 at h
  split at h
  · rename_i z0 a
    split at h
    · rename_i hz0
      obtain rfl := Nat.eq_of_beq_eq_true hz0
      exact ⟨q_34, rfl, mok_34, con_of (P := P_34) (by decide +kernel) rfl (Nat.le_of_ble_eq_true rfl) (fAt_agreeingWith_ok t a h)⟩
    · cases h
  · cases h
end
section
set_option maxRecDepth 100000
variable {l : Launch} {r : RR}
def FT_35 : FT := (29, F_29) :: []
theorem ft_35 : FTok l 2 mtab FT_35 := FTok.cons (ok_29 l) (by omega) (FTok.nil)
theorem fAt_costOf_4_eq : (fun (G29 : List Value → SM → OR) (j4 : SM → Int32 → Int32 → Int32 → OR) (t : SM) (v1 : Int32) (v2 : Int32) (v3 : Int32) => ex clN P_35 none bytJ (mkCal rks ((29, G29) :: [])) [4] (kDisp [(4, kF 0 1 <| kI 1 fun w1 => kI 2 fun w2 => kI 3 fun w3 => kE fun t => j4 t w1 w2 w3)]) 400 4 [(3, .int v3), (2, .int v2), (1, .int v1), (0, .ref 1)] [] t) = (fun (G29 : List Value → SM → OR) (j4 : SM → Int32 → Int32 → Int32 → OR) (t : SM) (v1 : Int32) (v2 : Int32) (v3 : Int32) =>
  hGetI t 1 1 1 fun size1 =>
  if size1 ≤ v3 then rI v2 t
  else hRecv t 1 1 <| bQ (G29 [.ref 1, .int v3] t) (fun t2 => j4 t2 v1 v2 (v3 + 1)) fun q3 t2 =>
  if ((v1 >>> (v3 &&& 31)) &&& 1) = 1 then hGetI t2 2 q3 5 fun cost4 =>
  j4 t2 v1 (v2 + cost4) (v3 + 1)
  else j4 t2 v1 v2 (v3 + 1)) := by rfl
theorem fAt_costOf_4_ok {r4 : SM → Int32 → Int32 → Int32 → OR} (h_r4 : ∀ (t : SM) (v1 : Int32) (v2 : Int32) (v3 : Int32), r4 t v1 v2 v3 = some r → Body l 2 q_35 P_35 r 4 [(3, .int v3), (2, .int v2), (1, .int v1), (0, .ref 1)] [] t) (t : SM) (v1 : Int32) (v2 : Int32) (v3 : Int32) (h : fAt_costOf_4 r4 t v1 v2 v3 = some r) : Body l 2 q_35 P_35 r 4 [(3, .int v3), (2, .int v2), (1, .int v1), (0, .ref 1)] [] t :=
  blk ft_35 (by omega) rfl rows_35 (KDok.cons (KOK.f <| KOK.i fun w1 => KOK.i fun w2 => KOK.i fun w3 => KOK.e (f := fun t => r4 t w1 w2 w3) fun t h => h_r4 t w1 w2 w3 h) (KDok.nil)) ((congrFun (congrFun (congrFun (congrFun (congrFun (congrFun (fAt_costOf_4_eq) F_29) (fun t u1 u2 u3 => r4 t u1 u2 u3)) t) v1) v2) v3).trans h)
theorem fAt_costOf_l4_ok : ∀ (n : Nat) (t : SM) (v1 : Int32) (v2 : Int32) (v3 : Int32), fAt_costOf_l4 n t v1 v2 v3 = some r → Body l 2 q_35 P_35 r 4 [(3, .int v3), (2, .int v2), (1, .int v1), (0, .ref 1)] [] t
  | 0, _, _, _, _, h => by cases h
  | n + 1, t, v1, v2, v3, h => fAt_costOf_4_ok (fAt_costOf_l4_ok n) t v1 v2 v3 h
theorem fAt_costOf_eq : (fun (G29 : List Value → SM → OR) (j4 : SM → Int32 → Int32 → Int32 → OR) (t : SM) (a : Int32) => ex clN P_35 none bytJ (mkCal rks ((29, G29) :: [])) [4] (kDisp [(4, kF 0 1 <| kI 1 fun w1 => kI 2 fun w2 => kI 3 fun w3 => kE fun t => j4 t w1 w2 w3)]) 400 0 [(0, .ref 1), (1, .int a)] [] t) = (fun (G29 : List Value → SM → OR) (j4 : SM → Int32 → Int32 → Int32 → OR) (t : SM) (a : Int32) =>
  j4 t a 0 0) := by rfl
theorem fAt_costOf_ok (t : SM) (a : Int32) (h : fAt_costOf t a = some r) : Body l 2 q_35 P_35 r 0 [(0, .ref 1), (1, .int a)] [] t :=
  blk ft_35 (by omega) rfl rows_35 (KDok.cons (KOK.f <| KOK.i fun w1 => KOK.i fun w2 => KOK.i fun w3 => KOK.e (f := fun t => fAt_costOf_l4 1000000 t w1 w2 w3) fun t h => fAt_costOf_l4_ok 1000000 t w1 w2 w3 h) (KDok.nil)) ((congrFun (congrFun (congrFun (congrFun (fAt_costOf_eq) F_29) (fun t u1 u2 u3 => fAt_costOf_l4 1000000 t u1 u2 u3)) t) a).trans h)
theorem ok_35 (l : Launch) : Fok l 2 mtab 35 (F_35) := by
  intro as t r h
  unfold F_35 at h
  split at h
  · rename_i z0 a
    split at h
    · rename_i hz0
      obtain rfl := Nat.eq_of_beq_eq_true hz0
      exact ⟨q_35, rfl, mok_35, con_of (P := P_35) (by decide +kernel) rfl (Nat.le_of_ble_eq_true rfl) (fAt_costOf_ok t a h)⟩
    · cases h
  · cases h
end
section
set_option maxRecDepth 100000
variable {l : Launch} {r : RR}
def FT_36 : FT := (29, F_29) :: (0, F_0) :: []
theorem ft_36 : FTok l 2 mtab FT_36 := FTok.cons (ok_29 l) (by omega) (FTok.cons (ok_0 l) (by omega) (FTok.nil))
theorem fAt_unlike_eq : (fun (G29 : List Value → SM → OR) (G0 : List Value → SM → OR) (t : SM) (a : Int32) (b : Int32) => ex clN P_36 none bytJ (mkCal rks ((29, G29) :: (0, G0) :: [])) [] (kDisp []) 400 0 [(0, .ref 1), (1, .int a), (2, .int b)] [] t) = (fun (G29 : List Value → SM → OR) (G0 : List Value → SM → OR) (t : SM) (a : Int32) (b : Int32) =>
  hRecv t 1 1 <| bQ (G29 [.ref 1, .int a] t) (fun t1 => hRecv t1 1 1 <| bQ (G29 [.ref 1, .int b] t1) (fun t3 => rI 0 t3) fun q4 t3 =>
    rI 0 t3) fun q2 t1 =>
  hRecv t1 1 1 <| bQ (G29 [.ref 1, .int b] t1) (fun t5 => rI 0 t5) fun q6 t5 =>
  hGetI t5 2 q2 1 fun says7 =>
  hGetI t5 2 q6 1 fun says8 =>
  bI (G0 [.int (says7 ^^^ says8)] t5) fun bitCount10 t9 =>
  rI bitCount10 t9) := by rfl
theorem fAt_unlike_ok (t : SM) (a : Int32) (b : Int32) (h : fAt_unlike t a b = some r) : Body l 2 q_36 P_36 r 0 [(0, .ref 1), (1, .int a), (2, .int b)] [] t :=
  blk ft_36 (by omega) rfl rows_36 (KDok.nil) ((congrFun (congrFun (congrFun (congrFun (congrFun (fAt_unlike_eq) F_29) F_0) t) a) b).trans h)
theorem ok_36 (l : Launch) : Fok l 2 mtab 36 (F_36) := by
  intro as t r h
  unfold F_36 at h
  split at h
  · rename_i z0 a b
    split at h
    · rename_i hz0
      obtain rfl := Nat.eq_of_beq_eq_true hz0
      exact ⟨q_36, rfl, mok_36, con_of (P := P_36) (by decide +kernel) rfl (Nat.le_of_ble_eq_true rfl) (fAt_unlike_ok t a b h)⟩
    · cases h
  · cases h
end
section
set_option maxRecDepth 100000
variable {l : Launch} {r : RR}
def FT_37 : FT := (166, F_166) :: []
theorem ft_37 : FTok l 2 mtab FT_37 := FTok.cons (ok_166 l) (by omega) (FTok.nil)
theorem fAt_originOf_eq : (fun (G166 : List Value → SM → OR) (t : SM) (a : Int32) => ex clN P_37 none bytJ (mkCal rks ((166, G166) :: [])) [] (kDisp []) 400 0 [(0, .ref 1), (1, .int a)] [] t) = (fun (G166 : List Value → SM → OR) (t : SM) (a : Int32) =>
  hGetC t 1 1 3 4 <|
  bI (G166 [.ref 4, .int a] t) fun numberAt2 t1 =>
  rI numberAt2 t1) := by rfl
theorem fAt_originOf_ok (t : SM) (a : Int32) (h : fAt_originOf t a = some r) : Body l 2 q_37 P_37 r 0 [(0, .ref 1), (1, .int a)] [] t :=
  blk ft_37 (by omega) rfl rows_37 (KDok.nil) ((congrFun (congrFun (congrFun (fAt_originOf_eq) F_166) t) a).trans h)
theorem ok_37 (l : Launch) : Fok l 2 mtab 37 (F_37) := by
  intro as t r h
  unfold F_37 at h
  split at h
  · rename_i z0 a
    split at h
    · rename_i hz0
      obtain rfl := Nat.eq_of_beq_eq_true hz0
      exact ⟨q_37, rfl, mok_37, con_of (P := P_37) (by decide +kernel) rfl (Nat.le_of_ble_eq_true rfl) (fAt_originOf_ok t a h)⟩
    · cases h
  · cases h
end
section
set_option maxRecDepth 100000
variable {l : Launch} {r : RR}
def FT_39 : FT := (36, F_36) :: (167, F_167) :: []
theorem ft_39 : FTok l 3 mtab FT_39 := FTok.cons (ok_36 l) (by omega) (FTok.cons (ok_167 l) (by omega) (FTok.nil))
theorem fAt_nearestLeft_89_eq : (fun (G36 : List Value → SM → OR) (G167 : List Value → SM → OR) (j8 : SM → Int32 → Int32 → Int32 → Int32 → OR) (t : SM) (v1 : Int32) (v2 : Int32) (v3 : Int32) (v4 : Int32) => ex clN P_39 none bytJ (mkCal rks ((36, G36) :: (167, G167) :: [])) [8] (kDisp [(8, kF 0 1 <| kI 1 fun w1 => kI 2 fun w2 => kI 3 fun w3 => kI 4 fun w4 => kE fun t => j8 t w1 w2 w3 w4)]) 400 89 [(4, .int v4), (3, .int v3), (2, .int v2), (1, .int v1), (0, .ref 1)] [] t) = (fun (G36 : List Value → SM → OR) (G167 : List Value → SM → OR) (j8 : SM → Int32 → Int32 → Int32 → Int32 → OR) (t : SM) (v1 : Int32) (v2 : Int32) (v3 : Int32) (v4 : Int32) =>
  j8 t v1 v2 v3 (v4 + 1)) := by rfl
theorem fAt_nearestLeft_89_ok {r8 : SM → Int32 → Int32 → Int32 → Int32 → OR} (h_r8 : ∀ (t : SM) (v1 : Int32) (v2 : Int32) (v3 : Int32) (v4 : Int32), r8 t v1 v2 v3 v4 = some r → Body l 3 q_39 P_39 r 8 [(4, .int v4), (3, .int v3), (2, .int v2), (1, .int v1), (0, .ref 1)] [] t) (t : SM) (v1 : Int32) (v2 : Int32) (v3 : Int32) (v4 : Int32) (h : fAt_nearestLeft_89 r8 t v1 v2 v3 v4 = some r) : Body l 3 q_39 P_39 r 89 [(4, .int v4), (3, .int v3), (2, .int v2), (1, .int v1), (0, .ref 1)] [] t :=
  blk ft_39 (by omega) rfl rows_39 (KDok.cons (KOK.f <| KOK.i fun w1 => KOK.i fun w2 => KOK.i fun w3 => KOK.i fun w4 => KOK.e (f := fun t => r8 t w1 w2 w3 w4) fun t h => h_r8 t w1 w2 w3 w4 h) (KDok.nil)) ((congrFun (congrFun (congrFun (congrFun (congrFun (congrFun (congrFun (congrFun (fAt_nearestLeft_89_eq) F_36) F_167) (fun t u1 u2 u3 u4 => r8 t u1 u2 u3 u4)) t) v1) v2) v3) v4).trans h)
theorem fAt_nearestLeft_20_eq : (fun (G36 : List Value → SM → OR) (G167 : List Value → SM → OR) (j20 : SM → Int32 → Int32 → Int32 → Int32 → Int32 → OR) (j89 : SM → Int32 → Int32 → Int32 → Int32 → OR) (t : SM) (v1 : Int32) (v2 : Int32) (v3 : Int32) (v4 : Int32) (v5 : Int32) => ex clN P_39 none bytJ (mkCal rks ((36, G36) :: (167, G167) :: [])) [20, 89] (kDisp [(20, kF 0 1 <| kI 1 fun w1 => kI 2 fun w2 => kI 3 fun w3 => kI 4 fun w4 => kI 5 fun w5 => kE fun t => j20 t w1 w2 w3 w4 w5), (89, kF 0 1 <| kI 1 fun w1 => kI 2 fun w2 => kI 3 fun w3 => kI 4 fun w4 => kE fun t => j89 t w1 w2 w3 w4)]) 400 20 [(5, .int v5), (4, .int v4), (3, .int v3), (2, .int v2), (1, .int v1), (0, .ref 1)] [] t) = (fun (G36 : List Value → SM → OR) (G167 : List Value → SM → OR) (j20 : SM → Int32 → Int32 → Int32 → Int32 → Int32 → OR) (j89 : SM → Int32 → Int32 → Int32 → Int32 → OR) (t : SM) (v1 : Int32) (v2 : Int32) (v3 : Int32) (v4 : Int32) (v5 : Int32) =>
  hGetI t 1 1 1 fun size1 =>
  if size1 ≤ v5 then j89 t v1 v2 v3 v4
  else if ((v1 >>> (v4 &&& 31)) &&& 1) = 0 then if ((v1 >>> (v5 &&& 31)) &&& 1) = 1 then hRecv t 1 1 <| bI (G36 [.ref 1, .int v4, .int v5] t) fun unlike3 t2 =>
  if v3 ≤ unlike3 then j20 t2 v1 v2 v3 v4 (v5 + 1)
  else hRecv t2 1 1 <| bI (G36 [.ref 1, .int v4, .int v5] t2) fun unlike5 t4 =>
  hGetC t4 1 1 3 4 <|
  bV (G167 [.ref 4, .int v4, .int v5] t4) fun t6 =>
  j20 t6 v1 v4 unlike5 v4 (v5 + 1)
  else j20 t v1 v2 v3 v4 (v5 + 1)
  else j89 t v1 v2 v3 v4) := by rfl
theorem fAt_nearestLeft_20_ok {k89 : SM → Int32 → Int32 → Int32 → Int32 → OR} {r20 : SM → Int32 → Int32 → Int32 → Int32 → Int32 → OR} (h_k89 : ∀ (t : SM) (v1 : Int32) (v2 : Int32) (v3 : Int32) (v4 : Int32), k89 t v1 v2 v3 v4 = some r → Body l 3 q_39 P_39 r 89 [(4, .int v4), (3, .int v3), (2, .int v2), (1, .int v1), (0, .ref 1)] [] t) (h_r20 : ∀ (t : SM) (v1 : Int32) (v2 : Int32) (v3 : Int32) (v4 : Int32) (v5 : Int32), r20 t v1 v2 v3 v4 v5 = some r → Body l 3 q_39 P_39 r 20 [(5, .int v5), (4, .int v4), (3, .int v3), (2, .int v2), (1, .int v1), (0, .ref 1)] [] t) (t : SM) (v1 : Int32) (v2 : Int32) (v3 : Int32) (v4 : Int32) (v5 : Int32) (h : fAt_nearestLeft_20 k89 r20 t v1 v2 v3 v4 v5 = some r) : Body l 3 q_39 P_39 r 20 [(5, .int v5), (4, .int v4), (3, .int v3), (2, .int v2), (1, .int v1), (0, .ref 1)] [] t :=
  blk ft_39 (by omega) rfl rows_39 (KDok.cons (KOK.f <| KOK.i fun w1 => KOK.i fun w2 => KOK.i fun w3 => KOK.i fun w4 => KOK.i fun w5 => KOK.e (f := fun t => r20 t w1 w2 w3 w4 w5) fun t h => h_r20 t w1 w2 w3 w4 w5 h) (KDok.cons (KOK.f <| KOK.i fun w1 => KOK.i fun w2 => KOK.i fun w3 => KOK.i fun w4 => KOK.e (f := fun t => k89 t w1 w2 w3 w4) fun t h => h_k89 t w1 w2 w3 w4 h) (KDok.nil))) ((congrFun (congrFun (congrFun (congrFun (congrFun (congrFun (congrFun (congrFun (congrFun (congrFun (fAt_nearestLeft_20_eq) F_36) F_167) (fun t u1 u2 u3 u4 u5 => r20 t u1 u2 u3 u4 u5)) (fun t u1 u2 u3 u4 => k89 t u1 u2 u3 u4)) t) v1) v2) v3) v4) v5).trans h)
theorem fAt_nearestLeft_l20_ok {k89 : SM → Int32 → Int32 → Int32 → Int32 → OR} (h_k89 : ∀ (t : SM) (v1 : Int32) (v2 : Int32) (v3 : Int32) (v4 : Int32), k89 t v1 v2 v3 v4 = some r → Body l 3 q_39 P_39 r 89 [(4, .int v4), (3, .int v3), (2, .int v2), (1, .int v1), (0, .ref 1)] [] t) : ∀ (n : Nat) (t : SM) (v1 : Int32) (v2 : Int32) (v3 : Int32) (v4 : Int32) (v5 : Int32), fAt_nearestLeft_l20 k89 n t v1 v2 v3 v4 v5 = some r → Body l 3 q_39 P_39 r 20 [(5, .int v5), (4, .int v4), (3, .int v3), (2, .int v2), (1, .int v1), (0, .ref 1)] [] t
  | 0, _, _, _, _, _, _, h => by cases h
  | n + 1, t, v1, v2, v3, v4, v5, h => fAt_nearestLeft_20_ok h_k89 (fAt_nearestLeft_l20_ok h_k89 n) t v1 v2 v3 v4 v5 h
theorem fAt_nearestLeft_8_eq : (fun (G36 : List Value → SM → OR) (G167 : List Value → SM → OR) (j20 : SM → Int32 → Int32 → Int32 → Int32 → Int32 → OR) (t : SM) (v1 : Int32) (v2 : Int32) (v3 : Int32) (v4 : Int32) => ex clN P_39 none bytJ (mkCal rks ((36, G36) :: (167, G167) :: [])) [20] (kDisp [(20, kF 0 1 <| kI 1 fun w1 => kI 2 fun w2 => kI 3 fun w3 => kI 4 fun w4 => kI 5 fun w5 => kE fun t => j20 t w1 w2 w3 w4 w5)]) 400 8 [(4, .int v4), (3, .int v3), (2, .int v2), (1, .int v1), (0, .ref 1)] [] t) = (fun (G36 : List Value → SM → OR) (G167 : List Value → SM → OR) (j20 : SM → Int32 → Int32 → Int32 → Int32 → Int32 → OR) (t : SM) (v1 : Int32) (v2 : Int32) (v3 : Int32) (v4 : Int32) =>
  hGetI t 1 1 1 fun size1 =>
  if size1 ≤ v4 then rI v2 t
  else j20 t v1 v2 v3 v4 0) := by rfl
theorem fAt_nearestLeft_8_ok {r8 : SM → Int32 → Int32 → Int32 → Int32 → OR} (h_r8 : ∀ (t : SM) (v1 : Int32) (v2 : Int32) (v3 : Int32) (v4 : Int32), r8 t v1 v2 v3 v4 = some r → Body l 3 q_39 P_39 r 8 [(4, .int v4), (3, .int v3), (2, .int v2), (1, .int v1), (0, .ref 1)] [] t) (t : SM) (v1 : Int32) (v2 : Int32) (v3 : Int32) (v4 : Int32) (h : fAt_nearestLeft_8 r8 t v1 v2 v3 v4 = some r) : Body l 3 q_39 P_39 r 8 [(4, .int v4), (3, .int v3), (2, .int v2), (1, .int v1), (0, .ref 1)] [] t :=
  blk ft_39 (by omega) rfl rows_39 (KDok.cons (KOK.f <| KOK.i fun w1 => KOK.i fun w2 => KOK.i fun w3 => KOK.i fun w4 => KOK.i fun w5 => KOK.e (f := fun t => fAt_nearestLeft_l20 (fun t u1 u2 u3 u4 => fAt_nearestLeft_89 r8 t u1 u2 u3 u4) 1000000 t w1 w2 w3 w4 w5) fun t h => fAt_nearestLeft_l20_ok (k89 := fun t u1 u2 u3 u4 => fAt_nearestLeft_89 r8 t u1 u2 u3 u4) (fun t u1 u2 u3 u4 h => fAt_nearestLeft_89_ok h_r8 t u1 u2 u3 u4 h) 1000000 t w1 w2 w3 w4 w5 h) (KDok.nil)) ((congrFun (congrFun (congrFun (congrFun (congrFun (congrFun (congrFun (congrFun (fAt_nearestLeft_8_eq) F_36) F_167) (fun t u1 u2 u3 u4 u5 => fAt_nearestLeft_l20 (fun t u1 u2 u3 u4 => fAt_nearestLeft_89 r8 t u1 u2 u3 u4) 1000000 t u1 u2 u3 u4 u5)) t) v1) v2) v3) v4).trans h)
theorem fAt_nearestLeft_l8_ok : ∀ (n : Nat) (t : SM) (v1 : Int32) (v2 : Int32) (v3 : Int32) (v4 : Int32), fAt_nearestLeft_l8 n t v1 v2 v3 v4 = some r → Body l 3 q_39 P_39 r 8 [(4, .int v4), (3, .int v3), (2, .int v2), (1, .int v1), (0, .ref 1)] [] t
  | 0, _, _, _, _, _, h => by cases h
  | n + 1, t, v1, v2, v3, v4, h => fAt_nearestLeft_8_ok (fAt_nearestLeft_l8_ok n) t v1 v2 v3 v4 h
theorem fAt_nearestLeft_eq : (fun (G36 : List Value → SM → OR) (G167 : List Value → SM → OR) (j8 : SM → Int32 → Int32 → Int32 → Int32 → OR) (t : SM) (a : Int32) => ex clN P_39 none bytJ (mkCal rks ((36, G36) :: (167, G167) :: [])) [8] (kDisp [(8, kF 0 1 <| kI 1 fun w1 => kI 2 fun w2 => kI 3 fun w3 => kI 4 fun w4 => kE fun t => j8 t w1 w2 w3 w4)]) 400 0 [(0, .ref 1), (1, .int a)] [] t) = (fun (G36 : List Value → SM → OR) (G167 : List Value → SM → OR) (j8 : SM → Int32 → Int32 → Int32 → Int32 → OR) (t : SM) (a : Int32) =>
  j8 t a 0 10 0) := by rfl
theorem fAt_nearestLeft_ok (t : SM) (a : Int32) (h : fAt_nearestLeft t a = some r) : Body l 3 q_39 P_39 r 0 [(0, .ref 1), (1, .int a)] [] t :=
  blk ft_39 (by omega) rfl rows_39 (KDok.cons (KOK.f <| KOK.i fun w1 => KOK.i fun w2 => KOK.i fun w3 => KOK.i fun w4 => KOK.e (f := fun t => fAt_nearestLeft_l8 1000000 t w1 w2 w3 w4) fun t h => fAt_nearestLeft_l8_ok 1000000 t w1 w2 w3 w4 h) (KDok.nil)) ((congrFun (congrFun (congrFun (congrFun (congrFun (fAt_nearestLeft_eq) F_36) F_167) (fun t u1 u2 u3 u4 => fAt_nearestLeft_l8 1000000 t u1 u2 u3 u4)) t) a).trans h)
theorem ok_39 (l : Launch) : Fok l 3 mtab 39 (F_39) := by
  intro as t r h
  unfold F_39 at h
  split at h
  · rename_i z0 a
    split at h
    · rename_i hz0
      obtain rfl := Nat.eq_of_beq_eq_true hz0
      exact ⟨q_39, rfl, mok_39, con_of (P := P_39) (by decide +kernel) rfl (Nat.le_of_ble_eq_true rfl) (fAt_nearestLeft_ok t a h)⟩
    · cases h
  · cases h
end
section
set_option maxRecDepth 100000
variable {l : Launch} {r : RR}
def FT_38 : FT := (3, F_3) :: (39, F_39) :: (37, F_37) :: (36, F_36) :: []
theorem ft_38 : FTok l 4 mtab FT_38 := FTok.cons (ok_3 l) (by omega) (FTok.cons (ok_39 l) (by omega) (FTok.cons (ok_37 l) (by omega) (FTok.cons (ok_36 l) (by omega) (FTok.nil))))
theorem fAt_drawFromOneAnother_14_eq : (fun (G3 : List Value → SM → OR) (G39 : List Value → SM → OR) (G37 : List Value → SM → OR) (G36 : List Value → SM → OR) (j14 : SM → Int32 → Int32 → Int32 → OR) (t : SM) (v1 : Int32) (v2 : Int32) (v3 : Int32) => ex clN P_38 none bytJ (mkCal rks ((3, G3) :: (39, G39) :: (37, G37) :: (36, G36) :: [])) [14] (kDisp [(14, kF 0 1 <| kI 1 fun w1 => kI 2 fun w2 => kI 3 fun w3 => kE fun t => j14 t w1 w2 w3)]) 400 14 [(3, .int v3), (2, .int v2), (1, .int v1), (0, .ref 1)] [] t) = (fun (G3 : List Value → SM → OR) (G39 : List Value → SM → OR) (G37 : List Value → SM → OR) (G36 : List Value → SM → OR) (j14 : SM → Int32 → Int32 → Int32 → OR) (t : SM) (v1 : Int32) (v2 : Int32) (v3 : Int32) =>
  hGetI t 1 1 1 fun size1 =>
  if size1 ≤ v3 then rI v1 t
  else hRecv t 1 1 <| bI (G39 [.ref 1, .int v2] t) fun nearestLeft3 t2 =>
  hRecv t2 1 1 <| bI (G37 [.ref 1, .int nearestLeft3] t2) fun originOf5 t4 =>
  hRecv t4 1 1 <| bI (G36 [.ref 1, .int nearestLeft3, .int originOf5] t4) fun unlike7 t6 =>
  j14 t6 (v1 + unlike7) (v2 ||| ((1 : Int32) <<< (nearestLeft3 &&& 31))) (v3 + 1)) := by rfl
theorem fAt_drawFromOneAnother_14_ok {r14 : SM → Int32 → Int32 → Int32 → OR} (h_r14 : ∀ (t : SM) (v1 : Int32) (v2 : Int32) (v3 : Int32), r14 t v1 v2 v3 = some r → Body l 4 q_38 P_38 r 14 [(3, .int v3), (2, .int v2), (1, .int v1), (0, .ref 1)] [] t) (t : SM) (v1 : Int32) (v2 : Int32) (v3 : Int32) (h : fAt_drawFromOneAnother_14 r14 t v1 v2 v3 = some r) : Body l 4 q_38 P_38 r 14 [(3, .int v3), (2, .int v2), (1, .int v1), (0, .ref 1)] [] t :=
  blk ft_38 (by omega) rfl rows_38 (KDok.cons (KOK.f <| KOK.i fun w1 => KOK.i fun w2 => KOK.i fun w3 => KOK.e (f := fun t => r14 t w1 w2 w3) fun t h => h_r14 t w1 w2 w3 h) (KDok.nil)) ((congrFun (congrFun (congrFun (congrFun (congrFun (congrFun (congrFun (congrFun (congrFun (fAt_drawFromOneAnother_14_eq) F_3) F_39) F_37) F_36) (fun t u1 u2 u3 => r14 t u1 u2 u3)) t) v1) v2) v3).trans h)
theorem fAt_drawFromOneAnother_l14_ok : ∀ (n : Nat) (t : SM) (v1 : Int32) (v2 : Int32) (v3 : Int32), fAt_drawFromOneAnother_l14 n t v1 v2 v3 = some r → Body l 4 q_38 P_38 r 14 [(3, .int v3), (2, .int v2), (1, .int v1), (0, .ref 1)] [] t
  | 0, _, _, _, _, h => by cases h
  | n + 1, t, v1, v2, v3, h => fAt_drawFromOneAnother_14_ok (fAt_drawFromOneAnother_l14_ok n) t v1 v2 v3 h
theorem fAt_drawFromOneAnother_eq : (fun (G3 : List Value → SM → OR) (G39 : List Value → SM → OR) (G37 : List Value → SM → OR) (G36 : List Value → SM → OR) (j14 : SM → Int32 → Int32 → Int32 → OR) (t : SM) => ex clN P_38 none bytJ (mkCal rks ((3, G3) :: (39, G39) :: (37, G37) :: (36, G36) :: [])) [14] (kDisp [(14, kF 0 1 <| kI 1 fun w1 => kI 2 fun w2 => kI 3 fun w3 => kE fun t => j14 t w1 w2 w3)]) 400 0 [(0, .ref 1)] [] t) = (fun (G3 : List Value → SM → OR) (G39 : List Value → SM → OR) (G37 : List Value → SM → OR) (G36 : List Value → SM → OR) (j14 : SM → Int32 → Int32 → Int32 → OR) (t : SM) =>
  hGetC t 1 1 3 4 <|
  bV (G3 [.ref 4, .int (-1)] t) fun t1 =>
  j14 t1 0 1 1) := by rfl
theorem fAt_drawFromOneAnother_ok (t : SM) (h : fAt_drawFromOneAnother t = some r) : Body l 4 q_38 P_38 r 0 [(0, .ref 1)] [] t :=
  blk ft_38 (by omega) rfl rows_38 (KDok.cons (KOK.f <| KOK.i fun w1 => KOK.i fun w2 => KOK.i fun w3 => KOK.e (f := fun t => fAt_drawFromOneAnother_l14 1000000 t w1 w2 w3) fun t h => fAt_drawFromOneAnother_l14_ok 1000000 t w1 w2 w3 h) (KDok.nil)) ((congrFun (congrFun (congrFun (congrFun (congrFun (congrFun (fAt_drawFromOneAnother_eq) F_3) F_39) F_37) F_36) (fun t u1 u2 u3 => fAt_drawFromOneAnother_l14 1000000 t u1 u2 u3)) t).trans h)
theorem ok_38 (l : Launch) : Fok l 4 mtab 38 (F_38) := by
  intro as t r h
  unfold F_38 at h
  split at h
  · rename_i z0
    split at h
    · rename_i hz0
      obtain rfl := Nat.eq_of_beq_eq_true hz0
      exact ⟨q_38, rfl, mok_38, con_of (P := P_38) (by decide +kernel) rfl (Nat.le_of_ble_eq_true rfl) (fAt_drawFromOneAnother_ok t h)⟩
    · cases h
  · cases h
end
section
set_option maxRecDepth 100000
variable {l : Launch} {r : RR}
def FT_46 : FT := []
theorem ft_46 : FTok l 1 mtab FT_46 := FTok.nil
theorem fIm_init_eq : (fun (t : SM) => ex clN P_46 none bytJ (mkCal rks ([])) [] (kDisp []) 400 0 [(0, .ref 13)] [] t) = (fun (t : SM) =>
  hNewA t 20 8 fun q1 t2 =>
  hPutR t2 3 13 5 (some q1) fun t3 =>
  rV t3) := by rfl
theorem fIm_init_ok (t : SM) (h : fIm_init t = some r) : Body l 1 q_46 P_46 r 0 [(0, .ref 13)] [] t :=
  blk ft_46 (by omega) rfl rows_46 (KDok.nil) ((congrFun (fIm_init_eq) t).trans h)
theorem ok_46 (l : Launch) : Fok l 1 mtab 46 (F_46) := by
  intro as t r h
  unfold F_46 at h
  split at h
  · rename_i z0
    split at h
    · rename_i hz0
      obtain rfl := Nat.eq_of_beq_eq_true hz0
      exact ⟨q_46, rfl, mok_46, con_of (P := P_46) (by decide +kernel) rfl (Nat.le_of_ble_eq_true rfl) (fIm_init_ok t h)⟩
    · cases h
  · cases h
end
section
set_option maxRecDepth 100000
variable {l : Launch} {r : RR}
def FT_47 : FT := []
theorem ft_47 : FTok l 1 mtab FT_47 := FTok.nil
theorem fRd_init_eq : (fun (t : SM) => ex clN P_47 none bytJ (mkCal rks ([])) [] (kDisp []) 400 0 [(0, .ref 10)] [] t) = (fun (t : SM) =>
  hNewA t 20 160 fun q1 t2 =>
  hPutR t2 4 10 0 (some q1) fun t3 =>
  hNewA t3 20 160 fun q4 t5 =>
  hPutR t5 4 10 7 (some q4) fun t6 =>
  rV t6) := by rfl
theorem fRd_init_ok (t : SM) (h : fRd_init t = some r) : Body l 1 q_47 P_47 r 0 [(0, .ref 10)] [] t :=
  blk ft_47 (by omega) rfl rows_47 (KDok.nil) ((congrFun (fRd_init_eq) t).trans h)
theorem ok_47 (l : Launch) : Fok l 1 mtab 47 (F_47) := by
  intro as t r h
  unfold F_47 at h
  split at h
  · rename_i z0
    split at h
    · rename_i hz0
      obtain rfl := Nat.eq_of_beq_eq_true hz0
      exact ⟨q_47, rfl, mok_47, con_of (P := P_47) (by decide +kernel) rfl (Nat.le_of_ble_eq_true rfl) (fRd_init_ok t h)⟩
    · cases h
  · cases h
end
section
set_option maxRecDepth 100000
variable {l : Launch} {r : RR}
def FT_48 : FT := []
theorem ft_48 : FTok l 1 mtab FT_48 := FTok.nil
theorem fRd_add_eq : (fun (t : SM) (a : Int32) => ex clN P_48 none bytJ (mkCal rks ([])) [] (kDisp []) 400 0 [(0, .ref 10), (1, .int a)] [] t) = (fun (t : SM) (a : Int32) =>
  hGetI t 4 10 1 fun size1 =>
  if size1 < 0 then rV t
  else hGetI t 4 10 1 fun size2 =>
  hGetC t 4 10 0 11 <|
  hALen t 11 fun n3 =>
  if n3 ≤ size2 then rV t
  else hGetC t 4 10 0 11 <|
  hGetI t 4 10 1 fun size4 =>
  hASt t 11 size4 a fun t5 =>
  hGetI t5 4 10 1 fun size6 =>
  hPutI t5 4 10 1 (size6 + 1) fun t7 =>
  rV t7) := by rfl
theorem fRd_add_ok (t : SM) (a : Int32) (h : fRd_add t a = some r) : Body l 1 q_48 P_48 r 0 [(0, .ref 10), (1, .int a)] [] t :=
  blk ft_48 (by omega) rfl rows_48 (KDok.nil) ((congrFun (congrFun (fRd_add_eq) t) a).trans h)
theorem ok_48 (l : Launch) : Fok l 1 mtab 48 (F_48) := by
  intro as t r h
  unfold F_48 at h
  split at h
  · rename_i z0 a
    split at h
    · rename_i hz0
      obtain rfl := Nat.eq_of_beq_eq_true hz0
      exact ⟨q_48, rfl, mok_48, con_of (P := P_48) (by decide +kernel) rfl (Nat.le_of_ble_eq_true rfl) (fRd_add_ok t a h)⟩
    · cases h
  · cases h
end
section
set_option maxRecDepth 100000
variable {l : Launch} {r : RR}
def FT_49 : FT := []
theorem ft_49 : FTok l 1 mtab FT_49 := FTok.nil
theorem fRd_clear_eq : (fun (t : SM) => ex clN P_49 none bytJ (mkCal rks ([])) [] (kDisp []) 400 0 [(0, .ref 10)] [] t) = (fun (t : SM) =>
  hPutI t 4 10 1 0 fun t1 =>
  rV t1) := by rfl
theorem fRd_clear_ok (t : SM) (h : fRd_clear t = some r) : Body l 1 q_49 P_49 r 0 [(0, .ref 10)] [] t :=
  blk ft_49 (by omega) rfl rows_49 (KDok.nil) ((congrFun (fRd_clear_eq) t).trans h)
theorem ok_49 (l : Launch) : Fok l 1 mtab 49 (F_49) := by
  intro as t r h
  unfold F_49 at h
  split at h
  · rename_i z0
    split at h
    · rename_i hz0
      obtain rfl := Nat.eq_of_beq_eq_true hz0
      exact ⟨q_49, rfl, mok_49, con_of (P := P_49) (by decide +kernel) rfl (Nat.le_of_ble_eq_true rfl) (fRd_clear_ok t h)⟩
    · cases h
  · cases h
end
section
set_option maxRecDepth 100000
variable {l : Launch} {r : RR}
def FT_62 : FT := []
theorem ft_62 : FTok l 1 mtab FT_62 := FTok.nil
theorem fRd_byteAt_eq : (fun (t : SM) (a : Int32) => ex clN P_62 none bytJ (mkCal rks ([])) [] (kDisp []) 400 0 [(0, .ref 10), (1, .int a)] [] t) = (fun (t : SM) (a : Int32) =>
  if a < 0 then rI 256 t
  else hGetI t 4 10 1 fun size1 =>
  if size1 ≤ a then rI 256 t
  else hGetC t 4 10 0 11 <|
  hALen t 11 fun n2 =>
  if n2 ≤ a then rI 256 t
  else hGetC t 4 10 0 11 <|
  hALd t 11 a fun e3 =>
  rI e3 t) := by rfl
theorem fRd_byteAt_ok (t : SM) (a : Int32) (h : fRd_byteAt t a = some r) : Body l 1 q_62 P_62 r 0 [(0, .ref 10), (1, .int a)] [] t :=
  blk ft_62 (by omega) rfl rows_62 (KDok.nil) ((congrFun (congrFun (fRd_byteAt_eq) t) a).trans h)
theorem ok_62 (l : Launch) : Fok l 1 mtab 62 (F_62) := by
  intro as t r h
  unfold F_62 at h
  split at h
  · rename_i z0 a
    split at h
    · rename_i hz0
      obtain rfl := Nat.eq_of_beq_eq_true hz0
      exact ⟨q_62, rfl, mok_62, con_of (P := P_62) (by decide +kernel) rfl (Nat.le_of_ble_eq_true rfl) (fRd_byteAt_ok t a h)⟩
    · cases h
  · cases h
end
section
set_option maxRecDepth 100000
variable {l : Launch} {r : RR}
def FT_63 : FT := []
theorem ft_63 : FTok l 1 mtab FT_63 := FTok.nil
theorem fRd_isLetter_eq : (fun (t : SM) (a : Int32) => ex clN P_63 none bytJ (mkCal rks ([])) [] (kDisp []) 400 0 [(0, .int a)] [] t) = (fun (t : SM) (a : Int32) =>
  if a < 97 then rI 0 t
  else if 122 < a then rI 0 t
  else rI 1 t) := by rfl
theorem fRd_isLetter_ok (t : SM) (a : Int32) (h : fRd_isLetter t a = some r) : Body l 1 q_63 P_63 r 0 [(0, .int a)] [] t :=
  blk ft_63 (by omega) rfl rows_63 (KDok.nil) ((congrFun (congrFun (fRd_isLetter_eq) t) a).trans h)
theorem ok_63 (l : Launch) : Fok l 1 mtab 63 (F_63) := by
  intro as t r h
  unfold F_63 at h
  split at h
  · rename_i a
    exact ⟨q_63, rfl, mok_63, con_of (P := P_63) (by decide +kernel) rfl (Nat.le_of_ble_eq_true rfl) (fRd_isLetter_ok t a h)⟩
  · cases h
end
section
set_option maxRecDepth 100000
variable {l : Launch} {r : RR}
def FT_67 : FT := []
theorem ft_67 : FTok l 1 mtab FT_67 := FTok.nil
theorem fRd_spelling_eq : (fun (t : SM) (a : Int32) => ex clN P_67 none bytJ (mkCal rks ([])) [] (kDisp []) 400 0 [(0, .int a)] [] t) = (fun (t : SM) (a : Int32) =>
  if a = 300 then rT 1 t
  else if a = 301 then rT 2 t
  else if a = 302 then rT 3 t
  else if a = 303 then rT 4 t
  else if a = 304 then rT 5 t
  else if a = 305 then rT 6 t
  else if a = 306 then rT 7 t
  else if a = 307 then rT 8 t
  else if a = 308 then rT 9 t
  else if a = 309 then rT 10 t
  else if a = 310 then rT 11 t
  else rT 12 t) := by rfl
theorem fRd_spelling_ok (t : SM) (a : Int32) (h : fRd_spelling t a = some r) : Body l 1 q_67 P_67 r 0 [(0, .int a)] [] t :=
  blk ft_67 (by omega) rfl rows_67 (KDok.nil) ((congrFun (congrFun (fRd_spelling_eq) t) a).trans h)
theorem ok_67 (l : Launch) : Fok l 1 mtab 67 (F_67) := by
  intro as t r h
  unfold F_67 at h
  split at h
  · rename_i a
    exact ⟨q_67, rfl, mok_67, con_of (P := P_67) (by decide +kernel) rfl (Nat.le_of_ble_eq_true rfl) (fRd_spelling_ok t a h)⟩
  · cases h
end
section
set_option maxRecDepth 100000
variable {l : Launch} {r : RR}
def FT_66 : FT := (5, F_5) :: (6, F_6) :: []
theorem ft_66 : FTok l 5 mtab FT_66 := FTok.cons (ok_5 l) (by omega) (FTok.cons (ok_6 l) (by omega) (FTok.nil))
theorem fRd_standsThere_20_eq : (fun (G5 : List Value → SM → OR) (G6 : List Value → SM → OR) (j20 : SM → UInt32 → Int32 → OR) (t : SM) (v1 : UInt32) (v2 : Int32) => ex clN P_66 none bytJ (mkCal rks ((5, G5) :: (6, G6) :: [])) [20] (kDisp [(20, kF 0 10 <| kT 1 fun w1 => kI 2 fun w2 => kE fun t => j20 t w1 w2)]) 400 20 [(2, .int v2), (1, .float v1), (0, .ref 10)] [] t) = (fun (G5 : List Value → SM → OR) (G6 : List Value → SM → OR) (j20 : SM → UInt32 → Int32 → OR) (t : SM) (v1 : UInt32) (v2 : Int32) =>
  hTc 0 1 v1 <| bI (G5 [.float v1] t) fun length2 t1 =>
  if length2 ≤ v2 then rI 1 t1
  else hGetI t1 4 10 5 fun tokenAt3 =>
  if (tokenAt3 + v2) < 0 then rI 0 t1
  else hGetC t1 4 10 0 11 <|
  hALen t1 11 fun n4 =>
  if n4 ≤ (tokenAt3 + v2) then rI 0 t1
  else hGetC t1 4 10 0 11 <|
  hALd t1 11 (tokenAt3 + v2) fun e5 =>
  hTc 1 1 v1 <| bI (G6 [.float v1, .int v2] t1) fun charAt7 t6 =>
  if e5 = charAt7 then j20 t6 v1 (v2 + 1)
  else rI 0 t6) := by rfl
theorem fRd_standsThere_20_ok {r20 : SM → UInt32 → Int32 → OR} (h_r20 : ∀ (t : SM) (v1 : UInt32) (v2 : Int32), r20 t v1 v2 = some r → Body l 5 q_66 P_66 r 20 [(2, .int v2), (1, .float v1), (0, .ref 10)] [] t) (t : SM) (v1 : UInt32) (v2 : Int32) (h : fRd_standsThere_20 r20 t v1 v2 = some r) : Body l 5 q_66 P_66 r 20 [(2, .int v2), (1, .float v1), (0, .ref 10)] [] t :=
  blk ft_66 (by omega) rfl rows_66 (KDok.cons (KOK.f <| KOK.tx fun w1 => KOK.i fun w2 => KOK.e (f := fun t => r20 t w1 w2) fun t h => h_r20 t w1 w2 h) (KDok.nil)) ((congrFun (congrFun (congrFun (congrFun (congrFun (congrFun (fRd_standsThere_20_eq) F_5) F_6) (fun t u1 u2 => r20 t u1 u2)) t) v1) v2).trans h)
theorem fRd_standsThere_l20_ok : ∀ (n : Nat) (t : SM) (v1 : UInt32) (v2 : Int32), fRd_standsThere_l20 n t v1 v2 = some r → Body l 5 q_66 P_66 r 20 [(2, .int v2), (1, .float v1), (0, .ref 10)] [] t
  | 0, _, _, _, h => by cases h
  | n + 1, t, v1, v2, h => fRd_standsThere_20_ok (fRd_standsThere_l20_ok n) t v1 v2 h
theorem fRd_standsThere_eq : (fun (G5 : List Value → SM → OR) (G6 : List Value → SM → OR) (j20 : SM → UInt32 → Int32 → OR) (t : SM) (a : UInt32) => ex clN P_66 none bytJ (mkCal rks ((5, G5) :: (6, G6) :: [])) [20] (kDisp [(20, kF 0 10 <| kT 1 fun w1 => kI 2 fun w2 => kE fun t => j20 t w1 w2)]) 400 0 [(0, .ref 10), (1, .float a)] [] t) = (fun (G5 : List Value → SM → OR) (G6 : List Value → SM → OR) (j20 : SM → UInt32 → Int32 → OR) (t : SM) (a : UInt32) =>
  hTc 0 0 a <| bI (G5 [.float a] t) fun length2 t1 =>
  hGetI t1 4 10 3 fun at3 =>
  hGetI t1 4 10 5 fun tokenAt4 =>
  if length2 = (at3 - tokenAt4) then j20 t1 a 0
  else rI 0 t1) := by rfl
theorem fRd_standsThere_ok (t : SM) (a : UInt32) (h : fRd_standsThere t a = some r) : Body l 5 q_66 P_66 r 0 [(0, .ref 10), (1, .float a)] [] t :=
  blk ft_66 (by omega) rfl rows_66 (KDok.cons (KOK.f <| KOK.tx fun w1 => KOK.i fun w2 => KOK.e (f := fun t => fRd_standsThere_l20 1000000 t w1 w2) fun t h => fRd_standsThere_l20_ok 1000000 t w1 w2 h) (KDok.nil)) ((congrFun (congrFun (congrFun (congrFun (congrFun (fRd_standsThere_eq) F_5) F_6) (fun t u1 u2 => fRd_standsThere_l20 1000000 t u1 u2)) t) a).trans h)
theorem ok_66 (l : Launch) : Fok l 5 mtab 66 (F_66) := by
  intro as t r h
  unfold F_66 at h
  split at h
  · rename_i z0 a
    split at h
    · rename_i hz0
      obtain rfl := Nat.eq_of_beq_eq_true hz0
      exact ⟨q_66, rfl, mok_66, con_of (P := P_66) (by decide +kernel) rfl (Nat.le_of_ble_eq_true rfl) (fRd_standsThere_ok t a h)⟩
    · cases h
  · cases h
end
section
set_option maxRecDepth 100000
variable {l : Launch} {r : RR}
def FT_53 : FT := []
theorem ft_53 : FTok l 1 mtab FT_53 := FTok.nil
theorem fRd_fail_eq : (fun (t : SM) => ex clN P_53 none bytJ (mkCal rks ([])) [] (kDisp []) 400 0 [(0, .ref 10)] [] t) = (fun (t : SM) =>
  hGetI t 4 10 2 fun fault1 =>
  if 0 ≤ fault1 then hPutI t 4 10 4 257 fun t2 =>
    rV t2
  else hGetI t 4 10 5 fun tokenAt3 =>
  hPutI t 4 10 2 tokenAt3 fun t4 =>
  hPutI t4 4 10 4 257 fun t5 =>
  rV t5) := by rfl
theorem fRd_fail_ok (t : SM) (h : fRd_fail t = some r) : Body l 1 q_53 P_53 r 0 [(0, .ref 10)] [] t :=
  blk ft_53 (by omega) rfl rows_53 (KDok.nil) ((congrFun (fRd_fail_eq) t).trans h)
theorem ok_53 (l : Launch) : Fok l 1 mtab 53 (F_53) := by
  intro as t r h
  unfold F_53 at h
  split at h
  · rename_i z0
    split at h
    · rename_i hz0
      obtain rfl := Nat.eq_of_beq_eq_true hz0
      exact ⟨q_53, rfl, mok_53, con_of (P := P_53) (by decide +kernel) rfl (Nat.le_of_ble_eq_true rfl) (fRd_fail_ok t h)⟩
    · cases h
  · cases h
end
section
set_option maxRecDepth 100000
variable {l : Launch} {r : RR}
def FT_65 : FT := (62, F_62) :: (63, F_63) :: (67, F_67) :: (66, F_66) :: (53, F_53) :: []
theorem ft_65 : FTok l 6 mtab FT_65 := FTok.cons (ok_62 l) (by omega) (FTok.cons (ok_63 l) (by omega) (FTok.cons (ok_67 l) (by omega) (FTok.cons (ok_66 l) (by omega) (FTok.cons (ok_53 l) (by omega) (FTok.nil)))))
theorem fRd_readWord_72_eq : (fun (G62 : List Value → SM → OR) (G63 : List Value → SM → OR) (G67 : List Value → SM → OR) (G66 : List Value → SM → OR) (G53 : List Value → SM → OR) (t : SM) => ex clN P_65 none bytJ (mkCal rks ((62, G62) :: (63, G63) :: (67, G67) :: (66, G66) :: (53, G53) :: [])) [] (kDisp []) 400 72 [(0, .ref 10)] [] t) = (fun (G62 : List Value → SM → OR) (G63 : List Value → SM → OR) (G67 : List Value → SM → OR) (G66 : List Value → SM → OR) (G53 : List Value → SM → OR) (t : SM) =>
  hRecv t 4 10 <| bV (G53 [.ref 10] t) fun t1 =>
  rV t1) := by rfl
theorem fRd_readWord_72_ok (t : SM) (h : fRd_readWord_72 t = some r) : Body l 6 q_65 P_65 r 72 [(0, .ref 10)] [] t :=
  blk ft_65 (by omega) rfl rows_65 (KDok.nil) ((congrFun (congrFun (congrFun (congrFun (congrFun (congrFun (fRd_readWord_72_eq) F_62) F_63) F_67) F_66) F_53) t).trans h)
theorem fRd_readWord_60_eq : (fun (G62 : List Value → SM → OR) (G63 : List Value → SM → OR) (G67 : List Value → SM → OR) (G66 : List Value → SM → OR) (G53 : List Value → SM → OR) (t : SM) (v1 : Int32) => ex clN P_65 none bytJ (mkCal rks ((62, G62) :: (63, G63) :: (67, G67) :: (66, G66) :: (53, G53) :: [])) [] (kDisp []) 400 60 [(1, .int v1), (0, .ref 10)] [] t) = (fun (G62 : List Value → SM → OR) (G63 : List Value → SM → OR) (G67 : List Value → SM → OR) (G66 : List Value → SM → OR) (G53 : List Value → SM → OR) (t : SM) (v1 : Int32) =>
  hPutI t 4 10 4 v1 fun t1 =>
  rV t1) := by rfl
theorem fRd_readWord_60_ok (t : SM) (v1 : Int32) (h : fRd_readWord_60 t v1 = some r) : Body l 6 q_65 P_65 r 60 [(1, .int v1), (0, .ref 10)] [] t :=
  blk ft_65 (by omega) rfl rows_65 (KDok.nil) ((congrFun (congrFun (congrFun (congrFun (congrFun (congrFun (congrFun (fRd_readWord_60_eq) F_62) F_63) F_67) F_66) F_53) t) v1).trans h)
theorem fRd_readWord_42_eq : (fun (G62 : List Value → SM → OR) (G63 : List Value → SM → OR) (G67 : List Value → SM → OR) (G66 : List Value → SM → OR) (G53 : List Value → SM → OR) (j42 : SM → Int32 → OR) (j60 : SM → Int32 → OR) (j72 : SM → OR) (t : SM) (v1 : Int32) => ex clN P_65 none bytJ (mkCal rks ((62, G62) :: (63, G63) :: (67, G67) :: (66, G66) :: (53, G53) :: [])) [42, 60, 72] (kDisp [(42, kF 0 10 <| kI 1 fun w1 => kE fun t => j42 t w1), (60, kF 0 10 <| kI 1 fun w1 => kE fun t => j60 t w1), (72, kF 0 10 <| kE fun t => j72 t)]) 400 42 [(1, .int v1), (0, .ref 10)] [] t) = (fun (G62 : List Value → SM → OR) (G63 : List Value → SM → OR) (G67 : List Value → SM → OR) (G66 : List Value → SM → OR) (G53 : List Value → SM → OR) (j42 : SM → Int32 → OR) (j60 : SM → Int32 → OR) (j72 : SM → OR) (t : SM) (v1 : Int32) =>
  if 311 < v1 then j72 t
  else bT (G67 [.int v1] t) fun w2 t1 =>
  hRecv t1 4 10 <| bI (G66 [.ref 10, .float w2] t1) fun standsThere4 t3 =>
  if standsThere4 = 0 then j42 t3 (v1 + 1)
  else j60 t3 v1) := by rfl
theorem fRd_readWord_42_ok {k60 : SM → Int32 → OR} {k72 : SM → OR} {r42 : SM → Int32 → OR} (h_k60 : ∀ (t : SM) (v1 : Int32), k60 t v1 = some r → Body l 6 q_65 P_65 r 60 [(1, .int v1), (0, .ref 10)] [] t) (h_k72 : ∀ (t : SM), k72 t = some r → Body l 6 q_65 P_65 r 72 [(0, .ref 10)] [] t) (h_r42 : ∀ (t : SM) (v1 : Int32), r42 t v1 = some r → Body l 6 q_65 P_65 r 42 [(1, .int v1), (0, .ref 10)] [] t) (t : SM) (v1 : Int32) (h : fRd_readWord_42 k60 k72 r42 t v1 = some r) : Body l 6 q_65 P_65 r 42 [(1, .int v1), (0, .ref 10)] [] t :=
  blk ft_65 (by omega) rfl rows_65 (KDok.cons (KOK.f <| KOK.i fun w1 => KOK.e (f := fun t => r42 t w1) fun t h => h_r42 t w1 h) (KDok.cons (KOK.f <| KOK.i fun w1 => KOK.e (f := fun t => k60 t w1) fun t h => h_k60 t w1 h) (KDok.cons (KOK.f <| KOK.e (f := fun t => k72 t) fun t h => h_k72 t h) (KDok.nil)))) ((congrFun (congrFun (congrFun (congrFun (congrFun (congrFun (congrFun (congrFun (congrFun (congrFun (fRd_readWord_42_eq) F_62) F_63) F_67) F_66) F_53) (fun t u1 => r42 t u1)) (fun t u1 => k60 t u1)) (fun t => k72 t)) t) v1).trans h)
theorem fRd_readWord_l42_ok {k60 : SM → Int32 → OR} {k72 : SM → OR} (h_k60 : ∀ (t : SM) (v1 : Int32), k60 t v1 = some r → Body l 6 q_65 P_65 r 60 [(1, .int v1), (0, .ref 10)] [] t) (h_k72 : ∀ (t : SM), k72 t = some r → Body l 6 q_65 P_65 r 72 [(0, .ref 10)] [] t) : ∀ (n : Nat) (t : SM) (v1 : Int32), fRd_readWord_l42 k60 k72 n t v1 = some r → Body l 6 q_65 P_65 r 42 [(1, .int v1), (0, .ref 10)] [] t
  | 0, _, _, h => by cases h
  | n + 1, t, v1, h => fRd_readWord_42_ok h_k60 h_k72 (fRd_readWord_l42_ok h_k60 h_k72 n) t v1 h
theorem fRd_readWord_38_eq : (fun (G62 : List Value → SM → OR) (G63 : List Value → SM → OR) (G67 : List Value → SM → OR) (G66 : List Value → SM → OR) (G53 : List Value → SM → OR) (j42 : SM → Int32 → OR) (t : SM) => ex clN P_65 none bytJ (mkCal rks ((62, G62) :: (63, G63) :: (67, G67) :: (66, G66) :: (53, G53) :: [])) [42] (kDisp [(42, kF 0 10 <| kI 1 fun w1 => kE fun t => j42 t w1)]) 400 38 [(0, .ref 10)] [] t) = (fun (G62 : List Value → SM → OR) (G63 : List Value → SM → OR) (G67 : List Value → SM → OR) (G66 : List Value → SM → OR) (G53 : List Value → SM → OR) (j42 : SM → Int32 → OR) (t : SM) =>
  j42 t 300) := by rfl
theorem fRd_readWord_38_ok (t : SM) (h : fRd_readWord_38 t = some r) : Body l 6 q_65 P_65 r 38 [(0, .ref 10)] [] t :=
  blk ft_65 (by omega) rfl rows_65 (KDok.cons (KOK.f <| KOK.i fun w1 => KOK.e (f := fun t => fRd_readWord_l42 (fun t u1 => fRd_readWord_60 t u1) (fun t => fRd_readWord_72 t) 1000000 t w1) fun t h => fRd_readWord_l42_ok (k60 := fun t u1 => fRd_readWord_60 t u1) (k72 := fun t => fRd_readWord_72 t) (fun t u1 h => fRd_readWord_60_ok t u1 h) (fun t h => fRd_readWord_72_ok t h) 1000000 t w1 h) (KDok.nil)) ((congrFun (congrFun (congrFun (congrFun (congrFun (congrFun (congrFun (fRd_readWord_38_eq) F_62) F_63) F_67) F_66) F_53) (fun t u1 => fRd_readWord_l42 (fun t u1 => fRd_readWord_60 t u1) (fun t => fRd_readWord_72 t) 1000000 t u1)) t).trans h)
theorem fRd_readWord_0_eq : (fun (G62 : List Value → SM → OR) (G63 : List Value → SM → OR) (G67 : List Value → SM → OR) (G66 : List Value → SM → OR) (G53 : List Value → SM → OR) (j0 : SM → OR) (j38 : SM → OR) (t : SM) => ex clN P_65 none bytJ (mkCal rks ((62, G62) :: (63, G63) :: (67, G67) :: (66, G66) :: (53, G53) :: [])) [0, 38] (kDisp [(0, kF 0 10 <| kE fun t => j0 t), (38, kF 0 10 <| kE fun t => j38 t)]) 400 0 [(0, .ref 10)] [] t) = (fun (G62 : List Value → SM → OR) (G63 : List Value → SM → OR) (G67 : List Value → SM → OR) (G66 : List Value → SM → OR) (G53 : List Value → SM → OR) (j0 : SM → OR) (j38 : SM → OR) (t : SM) =>
  hGetI t 4 10 3 fun at1 =>
  hGetI t 4 10 1 fun size2 =>
  if size2 ≤ at1 then j38 t
  else hGetI t 4 10 3 fun at3 =>
  hRecv t 4 10 <| bI (G62 [.ref 10, .int at3] t) fun byteAt5 t4 =>
  bI (G63 [.int byteAt5] t4) fun isLetter7 t6 =>
  if isLetter7 = 0 then j38 t6
  else hGetI t6 4 10 3 fun at8 =>
  hPutI t6 4 10 3 (at8 + 1) fun t9 =>
  j0 t9) := by rfl
theorem fRd_readWord_0_ok {k38 : SM → OR} {r0 : SM → OR} (h_k38 : ∀ (t : SM), k38 t = some r → Body l 6 q_65 P_65 r 38 [(0, .ref 10)] [] t) (h_r0 : ∀ (t : SM), r0 t = some r → Body l 6 q_65 P_65 r 0 [(0, .ref 10)] [] t) (t : SM) (h : fRd_readWord_0 k38 r0 t = some r) : Body l 6 q_65 P_65 r 0 [(0, .ref 10)] [] t :=
  blk ft_65 (by omega) rfl rows_65 (KDok.cons (KOK.f <| KOK.e (f := fun t => r0 t) fun t h => h_r0 t h) (KDok.cons (KOK.f <| KOK.e (f := fun t => k38 t) fun t h => h_k38 t h) (KDok.nil))) ((congrFun (congrFun (congrFun (congrFun (congrFun (congrFun (congrFun (congrFun (fRd_readWord_0_eq) F_62) F_63) F_67) F_66) F_53) (fun t => r0 t)) (fun t => k38 t)) t).trans h)
theorem fRd_readWord_l0_ok {k38 : SM → OR} (h_k38 : ∀ (t : SM), k38 t = some r → Body l 6 q_65 P_65 r 38 [(0, .ref 10)] [] t) : ∀ (n : Nat) (t : SM), fRd_readWord_l0 k38 n t = some r → Body l 6 q_65 P_65 r 0 [(0, .ref 10)] [] t
  | 0, _, h => by cases h
  | n + 1, t, h => fRd_readWord_0_ok h_k38 (fRd_readWord_l0_ok h_k38 n) t h
theorem fRd_readWord_ok (t : SM) (h : fRd_readWord t = some r) : Body l 6 q_65 P_65 r 0 [(0, .ref 10)] [] t :=
  Body.less (L0 := [(0, .ref 10)]) (fRd_readWord_l0_ok (k38 := fun t => fRd_readWord_38 t) (fun t h => fRd_readWord_38_ok t h) 1000000 t h) (by intro z hz; simp only [List.mem_cons, List.not_mem_nil, or_false] at hz; rcases hz with rfl <;> rfl)
theorem ok_65 (l : Launch) : Fok l 6 mtab 65 (F_65) := by
  intro as t r h
  unfold F_65 at h
  split at h
  · rename_i z0
    split at h
    · rename_i hz0
      obtain rfl := Nat.eq_of_beq_eq_true hz0
      exact ⟨q_65, rfl, mok_65, con_of (P := P_65) (by decide +kernel) rfl (Nat.le_of_ble_eq_true rfl) (fRd_readWord_ok t h)⟩
    · cases h
  · cases h
end
section
set_option maxRecDepth 100000
variable {l : Launch} {r : RR}
def FT_64 : FT := []
theorem ft_64 : FTok l 1 mtab FT_64 := FTok.nil
theorem fRd_isDigit_eq : (fun (t : SM) (a : Int32) => ex clN P_64 none bytJ (mkCal rks ([])) [] (kDisp []) 400 0 [(0, .int a)] [] t) = (fun (t : SM) (a : Int32) =>
  if a < 48 then rI 0 t
  else if 57 < a then rI 0 t
  else rI 1 t) := by rfl
theorem fRd_isDigit_ok (t : SM) (a : Int32) (h : fRd_isDigit t a = some r) : Body l 1 q_64 P_64 r 0 [(0, .int a)] [] t :=
  blk ft_64 (by omega) rfl rows_64 (KDok.nil) ((congrFun (congrFun (fRd_isDigit_eq) t) a).trans h)
theorem ok_64 (l : Launch) : Fok l 1 mtab 64 (F_64) := by
  intro as t r h
  unfold F_64 at h
  split at h
  · rename_i a
    exact ⟨q_64, rfl, mok_64, con_of (P := P_64) (by decide +kernel) rfl (Nat.le_of_ble_eq_true rfl) (fRd_isDigit_ok t a h)⟩
  · cases h
end
