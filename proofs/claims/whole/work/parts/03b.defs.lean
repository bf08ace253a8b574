/-! java/lang/Integer.bitCount(I)I -/
def fjI_bitCount (t : SM) (a : Int32) : OR :=
  rI ((((((((a - (((Int32.toUInt32 a >>> (Int32.toUInt32 1 &&& Int32.toUInt32 31)).toInt32) &&& 1431655765)) &&& 858993459) + (((Int32.toUInt32 (a - (((Int32.toUInt32 a >>> (Int32.toUInt32 1 &&& Int32.toUInt32 31)).toInt32) &&& 1431655765)) >>> (Int32.toUInt32 2 &&& Int32.toUInt32 31)).toInt32) &&& 858993459)) + ((Int32.toUInt32 (((a - (((Int32.toUInt32 a >>> (Int32.toUInt32 1 &&& Int32.toUInt32 31)).toInt32) &&& 1431655765)) &&& 858993459) + (((Int32.toUInt32 (a - (((Int32.toUInt32 a >>> (Int32.toUInt32 1 &&& Int32.toUInt32 31)).toInt32) &&& 1431655765)) >>> (Int32.toUInt32 2 &&& Int32.toUInt32 31)).toInt32) &&& 858993459)) >>> (Int32.toUInt32 4 &&& Int32.toUInt32 31)).toInt32)) &&& 252645135) + ((Int32.toUInt32 (((((a - (((Int32.toUInt32 a >>> (Int32.toUInt32 1 &&& Int32.toUInt32 31)).toInt32) &&& 1431655765)) &&& 858993459) + (((Int32.toUInt32 (a - (((Int32.toUInt32 a >>> (Int32.toUInt32 1 &&& Int32.toUInt32 31)).toInt32) &&& 1431655765)) >>> (Int32.toUInt32 2 &&& Int32.toUInt32 31)).toInt32) &&& 858993459)) + ((Int32.toUInt32 (((a - (((Int32.toUInt32 a >>> (Int32.toUInt32 1 &&& Int32.toUInt32 31)).toInt32) &&& 1431655765)) &&& 858993459) + (((Int32.toUInt32 (a - (((Int32.toUInt32 a >>> (Int32.toUInt32 1 &&& Int32.toUInt32 31)).toInt32) &&& 1431655765)) >>> (Int32.toUInt32 2 &&& Int32.toUInt32 31)).toInt32) &&& 858993459)) >>> (Int32.toUInt32 4 &&& Int32.toUInt32 31)).toInt32)) &&& 252645135) >>> (Int32.toUInt32 8 &&& Int32.toUInt32 31)).toInt32)) + ((Int32.toUInt32 ((((((a - (((Int32.toUInt32 a >>> (Int32.toUInt32 1 &&& Int32.toUInt32 31)).toInt32) &&& 1431655765)) &&& 858993459) + (((Int32.toUInt32 (a - (((Int32.toUInt32 a >>> (Int32.toUInt32 1 &&& Int32.toUInt32 31)).toInt32) &&& 1431655765)) >>> (Int32.toUInt32 2 &&& Int32.toUInt32 31)).toInt32) &&& 858993459)) + ((Int32.toUInt32 (((a - (((Int32.toUInt32 a >>> (Int32.toUInt32 1 &&& Int32.toUInt32 31)).toInt32) &&& 1431655765)) &&& 858993459) + (((Int32.toUInt32 (a - (((Int32.toUInt32 a >>> (Int32.toUInt32 1 &&& Int32.toUInt32 31)).toInt32) &&& 1431655765)) >>> (Int32.toUInt32 2 &&& Int32.toUInt32 31)).toInt32) &&& 858993459)) >>> (Int32.toUInt32 4 &&& Int32.toUInt32 31)).toInt32)) &&& 252645135) + ((Int32.toUInt32 (((((a - (((Int32.toUInt32 a >>> (Int32.toUInt32 1 &&& Int32.toUInt32 31)).toInt32) &&& 1431655765)) &&& 858993459) + (((Int32.toUInt32 (a - (((Int32.toUInt32 a >>> (Int32.toUInt32 1 &&& Int32.toUInt32 31)).toInt32) &&& 1431655765)) >>> (Int32.toUInt32 2 &&& Int32.toUInt32 31)).toInt32) &&& 858993459)) + ((Int32.toUInt32 (((a - (((Int32.toUInt32 a >>> (Int32.toUInt32 1 &&& Int32.toUInt32 31)).toInt32) &&& 1431655765)) &&& 858993459) + (((Int32.toUInt32 (a - (((Int32.toUInt32 a >>> (Int32.toUInt32 1 &&& Int32.toUInt32 31)).toInt32) &&& 1431655765)) >>> (Int32.toUInt32 2 &&& Int32.toUInt32 31)).toInt32) &&& 858993459)) >>> (Int32.toUInt32 4 &&& Int32.toUInt32 31)).toInt32)) &&& 252645135) >>> (Int32.toUInt32 8 &&& Int32.toUInt32 31)).toInt32)) >>> (Int32.toUInt32 16 &&& Int32.toUInt32 31)).toInt32)) &&& 63) t
def F_0 (as : List Value) (t : SM) : OR := match as with
  | [.int a] => fjI_bitCount t a
  | _ => none
/-! java/lang/Math.max(II)I -/
def fjM_max (t : SM) (a : Int32) (b : Int32) : OR := rI (if a < b then b else a) t
def F_1 (as : List Value) (t : SM) : OR := match as with
  | [.int a, .int b] => fjM_max t a b
  | _ => none
/-! java/lang/Math.min(II)I -/
def fjM_min (t : SM) (a : Int32) (b : Int32) : OR := rI (if b < a then b else a) t
def F_2 (as : List Value) (t : SM) : OR := match as with
  | [.int a, .int b] => fjM_min t a b
  | _ => none
/-! java/util/Arrays.fill([II)V -/
def fjA_fill_5 (r5 : SM → Nat → Int32 → Int32 → Int32 → OR) (t : SM) (v0 : Nat) (v1 : Int32) (v2 : Int32) (v3 : Int32) : OR :=
  if v3 ≤ v2 then rV t
  else hASt t v0 v2 v1 fun t1 =>
  r5 t1 v0 v1 (v2 + 1) v3
def fjA_fill_l5 : Nat → SM → Nat → Int32 → Int32 → Int32 → OR
  | 0, _, _, _, _, _ => none
  | n + 1, t, v0, v1, v2, v3 => fjA_fill_5 (fjA_fill_l5 n) t v0 v1 v2 v3
def fjA_fill (t : SM) (a : Nat) (b : Int32) : OR :=
  hALen t a fun n1 =>
  fjA_fill_l5 1000000 t a b 0 n1
def F_3 (as : List Value) (t : SM) : OR := match as with
  | [.ref a, .int b] => fjA_fill t a b
  | _ => none
/-! java/util/Arrays.copyOf([II)[I -/
def fjA_copyOf (t : SM) (a : Nat) (b : Int32) : OR :=
  hALen t a fun n1 =>
  if b = n1 then hClone t a fun q8 t9 =>
  hALen t9 q8 fun _ => if (mT t9 q8).1 = 20 then rR q8 t9 else none
  else hNewA t 20 b fun q2 t3 =>
    hALen t3 a fun n4 =>
    bI (fjM_min t3 n4 b) fun min6 t5 =>
    hCpy t5 a 0 q2 0 min6 fun t7 =>
    rR q2 t7
def F_4 (as : List Value) (t : SM) : OR := match as with
  | [.ref a, .int b] => fjA_copyOf t a b
  | _ => none
/-! java/lang/String.coder()B -/
def fjS_coder (t : SM) (o : UInt32) : OR :=
  hTx o (rI 0 t)
def F_9 (as : List Value) (t : SM) : OR := match as with
  | [.float o] => fjS_coder t o
  | _ => none
/-! java/lang/String.length()I -/
def fjS_length (t : SM) (o : UInt32) : OR :=
  hTx o (hTLen (o + 50) fun n1 =>
  hTc 0 1 o <| bI (fjS_coder t o) fun coder3 t2 =>
  rI (n1 >>> (coder3 &&& 31)) t2)
def F_5 (as : List Value) (t : SM) : OR := match as with
  | [.float o] => fjS_length t o
  | _ => none
/-! java/lang/String.isLatin1()Z -/
def fjS_isLatin1 (t : SM) (o : UInt32) : OR :=
  hTx o (rI 1 t)
def F_10 (as : List Value) (t : SM) : OR := match as with
  | [.float o] => fjS_isLatin1 t o
  | _ => none
/-! jdk/internal/util/Preconditions.checkIndex(IILjava/util/function/BiFunction;)I -/
def fjP_checkIndex (t : SM) (a : Int32) (b : Int32) (c : UInt32) : OR :=
  if a < 0 then none
  else if a < b then rI a t
  else none
def F_16 (as : List Value) (t : SM) : OR := match as with
  | [.int a, .int b, .float c] => fjP_checkIndex t a b c
  | _ => none
/-! java/lang/String.checkIndex(II)V -/
def fjS_checkIndex (t : SM) (a : Int32) (b : Int32) : OR :=
  bI (fjP_checkIndex t a b 201) fun checkIndex2 t1 =>
  rV t1
def F_11 (as : List Value) (t : SM) : OR := match as with
  | [.int a, .int b] => fjS_checkIndex t a b
  | _ => none
/-! java/lang/StringLatin1.charAt([BI)C -/
def fjL_charAt (t : SM) (a : UInt32) (b : Int32) : OR :=
  hTLen a fun n1 =>
  bV (fjS_checkIndex t b n1) fun t2 =>
  hTLd a b fun e3 =>
  hC16 (UInt32.toInt32 (Int32.toUInt32 (e3 &&& 255) % 65536)) (rI (UInt32.toInt32 (Int32.toUInt32 (e3 &&& 255) % 65536)) t2)
def F_12 (as : List Value) (t : SM) : OR := match as with
  | [.float a, .int b] => fjL_charAt t a b
  | _ => none
/-! java/lang/String.charAt(I)C -/
def fjS_charAt (t : SM) (o : UInt32) (a : Int32) : OR :=
  hTc 0 0 o <| bI (fjS_isLatin1 t o) fun isLatin2 t1 =>
  if isLatin2 = 0 then hTx o (none)
  else hTx o (bI (fjL_charAt t1 (o + 50) a) fun charAt4 t3 =>
  hC16 charAt4 (rI charAt4 t3))
def F_6 (as : List Value) (t : SM) : OR := match as with
  | [.float o, .int a] => fjS_charAt t o a
  | _ => none
/-! java/lang/StringLatin1.canEncode(I)Z -/
def fjL_canEncode (t : SM) (a : Int32) : OR :=
  if a < 0 then rI 0 t
  else if 255 < a then rI 0 t
  else rI 1 t
def F_13 (as : List Value) (t : SM) : OR := match as with
  | [.int a] => fjL_canEncode t a
  | _ => none
/-! java/lang/StringLatin1.indexOfChar([BIII)I -/
def fjL_indexOfChar_7 (r7 : SM → UInt32 → Int32 → Int32 → Int32 → OR) (t : SM) (v0 : UInt32) (v3 : Int32) (v4 : Int32) (v5 : Int32) : OR :=
  if v3 ≤ v5 then rI (-1) t
  else hTLd v0 v5 fun e1 =>
  if e1 = v4 then rI v5 t
  else r7 t v0 v3 v4 (v5 + 1)
def fjL_indexOfChar_l7 : Nat → SM → UInt32 → Int32 → Int32 → Int32 → OR
  | 0, _, _, _, _, _ => none
  | n + 1, t, v0, v3, v4, v5 => fjL_indexOfChar_7 (fjL_indexOfChar_l7 n) t v0 v3 v4 v5
def fjL_indexOfChar (t : SM) (a : UInt32) (b : Int32) (c : Int32) (d : Int32) : OR :=
  fjL_indexOfChar_l7 1000000 t a d (Int8.toInt32 (Int32.toInt8 b)) c
def F_15 (as : List Value) (t : SM) : OR := match as with
  | [.float a, .int b, .int c, .int d] => fjL_indexOfChar t a b c d
  | _ => none
/-! java/lang/StringLatin1.indexOf([BIII)I -/
def fjL_indexOf (t : SM) (a : UInt32) (b : Int32) (c : Int32) (d : Int32) : OR :=
  bI (fjL_canEncode t b) fun canEncode2 t1 =>
  if canEncode2 = 0 then rI (-1) t1
  else bI (fjM_max t1 c 0) fun max4 t3 =>
    hTLen a fun n5 =>
    bI (fjM_min t3 d n5) fun min7 t6 =>
    if max4 < min7 then bI (fjL_indexOfChar t6 a b max4 min7) fun indexOfChar9 t8 =>
      rI indexOfChar9 t8
    else rI (-1) t6
def F_14 (as : List Value) (t : SM) : OR := match as with
  | [.float a, .int b, .int c, .int d] => fjL_indexOf t a b c d
  | _ => none
/-! java/lang/String.indexOf(II)I -/
def fjS_indexOf2 (t : SM) (o : UInt32) (a : Int32) (b : Int32) : OR :=
  hTc 0 0 o <| bI (fjS_isLatin1 t o) fun isLatin2 t1 =>
  if isLatin2 = 0 then hTx o (hTc 0 3 o <| bI (fjS_length t1 o) fun length4 t3 =>
    none)
  else hTx o (hTc 0 3 o <| bI (fjS_length t1 o) fun length6 t5 =>
  bI (fjL_indexOf t5 (o + 50) a b length6) fun indexOf8 t7 =>
  rI indexOf8 t7)
def F_8 (as : List Value) (t : SM) : OR := match as with
  | [.float o, .int a, .int b] => fjS_indexOf2 t o a b
  | _ => none
/-! java/lang/String.indexOf(I)I -/
def fjS_indexOf (t : SM) (o : UInt32) (a : Int32) : OR :=
  hTc 2 0 o <| bI (fjS_indexOf2 t o a 0) fun indexOf2 t1 =>
  rI indexOf2 t1
def F_7 (as : List Value) (t : SM) : OR := match as with
  | [.float o, .int a] => fjS_indexOf t o a
  | _ => none
/-! EveryMapWrong$AtWorst.<init>(LEveryMapWrong$Streets;)V -/
def fAW_init (t : SM) (a : Nat) : OR :=
  hNewA t 20 768 fun q1 t2 =>
  hPutR t2 0 22 0 (some q1) fun t3 =>
  hNewA t3 20 7 fun q4 t5 =>
  hPutR t5 0 22 1 (some q4) fun t6 =>
  hNewA t6 20 6 fun q7 t8 =>
  hPutR t8 0 22 2 (some q7) fun t9 =>
  hPutR t9 0 22 3 (some a) fun t10 =>
  rV t10
def F_17 (as : List Value) (t : SM) : OR := match as with
  | [.ref z0, .ref a] => (match Nat.beq z0 22 with | true => fAW_init t a | false => none)
  | _ => none
/-! EveryMapWrong$Worlds.townAt(I)I -/
def fWd_townAt (t : SM) (a : Int32) : OR :=
  if a < 0 then rI (-1) t
  else hGetI t 9 16 1 fun size1 =>
  if size1 ≤ a then rI (-1) t
  else hGetC t 9 16 0 17 <|
  hALen t 17 fun n2 =>
  if n2 ≤ a then rI (-1) t
  else hGetC t 9 16 0 17 <|
  hALd t 17 a fun e3 =>
  rI e3 t
def F_99 (as : List Value) (t : SM) : OR := match as with
  | [.ref z0, .int a] => (match Nat.beq z0 16 with | true => fWd_townAt t a | false => none)
  | _ => none
/-! EveryMapWrong$Streets.streetAt(I)LEveryMapWrong$Street; -/
def fSs_streetAt (t : SM) (a : Int32) : OR :=
  if a < 0 then rN t
  else hGetI t 7 5 1 fun size1 =>
  if size1 ≤ a then rN t
  else hGetC t 7 5 0 6 <|
  hALen t 6 fun n2 =>
  if n2 ≤ a then rN t
  else hGetC t 7 5 0 6 <|
  hQLd t 6 6 a (rN t) fun q3 =>
  rR q3 t
def F_80 (as : List Value) (t : SM) : OR := match as with
  | [.ref z0, .int a] => (match Nat.beq z0 5 with | true => fSs_streetAt t a | false => none)
  | _ => none
/-! EveryMapWrong.hasChoice(II)Z -/
def fx_hasChoice (t : SM) (a : Int32) (b : Int32) : OR :=
  if ((a >>> (b &&& 31)) &&& 1) = 1 then rI 1 t
  else rI 0 t
def F_163 (as : List Value) (t : SM) : OR := match as with
  | [.int a, .int b] => fx_hasChoice t a b
  | _ => none
/-! EveryMapWrong$Street.isOpenIn(I)Z -/
def fSt_isOpenIn (t : SM) (o : Nat) (a : Int32) : OR :=
  hGetI t 6 o 2 fun choice1 =>
  if choice1 = (-1) then rI 1 t
  else hGetI t 6 o 2 fun choice2 =>
  bI (fx_hasChoice t a choice2) fun hasChoice4 t3 =>
  if hasChoice4 = 0 then rI 0 t3
  else rI 1 t3
def F_76 (as : List Value) (t : SM) : OR := match as with
  | [.ref o, .int a] => fSt_isOpenIn t o a
  | _ => none
/-! EveryMapWrong$Streets.openIn(I)I -/
def fSs_openIn_4 (r4 : SM → Int32 → Int32 → Int32 → OR) (t : SM) (v1 : Int32) (v2 : Int32) (v3 : Int32) : OR :=
  hGetI t 7 5 1 fun size1 =>
  if size1 ≤ v3 then rI v2 t
  else hRecv t 7 5 <| bQ (fSs_streetAt t v3) (fun t2 => r4 t2 v1 v2 (v3 + 1)) fun q3 t2 =>
  hRecv t2 6 q3 <| bI (fSt_isOpenIn t2 q3 v1) fun isOpenIn5 t4 =>
  if isOpenIn5 = 0 then r4 t4 v1 v2 (v3 + 1)
  else r4 t4 v1 (v2 ||| ((1 : Int32) <<< (v3 &&& 31))) (v3 + 1)
def fSs_openIn_l4 : Nat → SM → Int32 → Int32 → Int32 → OR
  | 0, _, _, _, _ => none
  | n + 1, t, v1, v2, v3 => fSs_openIn_4 (fSs_openIn_l4 n) t v1 v2 v3
def fSs_openIn (t : SM) (a : Int32) : OR :=
  fSs_openIn_l4 1000000 t a 0 0
def F_82 (as : List Value) (t : SM) : OR := match as with
  | [.ref z0, .int a] => (match Nat.beq z0 5 with | true => fSs_openIn t a | false => none)
  | _ => none
/-! EveryMapWrong$Street.touches(I)Z -/
def fSt_touches (t : SM) (o : Nat) (a : Int32) : OR :=
  hGetI t 6 o 0 fun u1 =>
  if a = u1 then rI 1 t
  else hGetI t 6 o 1 fun vv2 =>
  if a = vv2 then rI 1 t
  else rI 0 t
def F_77 (as : List Value) (t : SM) : OR := match as with
  | [.ref o, .int a] => fSt_touches t o a
  | _ => none
/-! EveryMapWrong$Streets.touching(I)I -/
def fSs_touching_4 (r4 : SM → Int32 → Int32 → Int32 → OR) (t : SM) (v1 : Int32) (v2 : Int32) (v3 : Int32) : OR :=
  hGetI t 7 5 1 fun size1 =>
  if size1 ≤ v3 then rI v2 t
  else hRecv t 7 5 <| bQ (fSs_streetAt t v3) (fun t2 => r4 t2 v1 v2 (v3 + 1)) fun q3 t2 =>
  hRecv t2 6 q3 <| bI (fSt_touches t2 q3 v1) fun touches5 t4 =>
  if touches5 = 0 then r4 t4 v1 v2 (v3 + 1)
  else r4 t4 v1 (v2 ||| ((1 : Int32) <<< (v3 &&& 31))) (v3 + 1)
def fSs_touching_l4 : Nat → SM → Int32 → Int32 → Int32 → OR
  | 0, _, _, _, _ => none
  | n + 1, t, v1, v2, v3 => fSs_touching_4 (fSs_touching_l4 n) t v1 v2 v3
def fSs_touching (t : SM) (a : Int32) : OR :=
  fSs_touching_l4 1000000 t a 0 0
def F_83 (as : List Value) (t : SM) : OR := match as with
  | [.ref z0, .int a] => (match Nat.beq z0 5 with | true => fSs_touching t a | false => none)
  | _ => none
/-! EveryMapWrong.firstOf(I)I -/
def fx_firstOf_2 (r2 : SM → Int32 → Int32 → OR) (t : SM) (v0 : Int32) (v1 : Int32) : OR :=
  if 31 ≤ v1 then rI (-1) t
  else if ((v0 >>> (v1 &&& 31)) &&& 1) = 1 then rI v1 t
  else r2 t v0 (v1 + 1)
def fx_firstOf_l2 : Nat → SM → Int32 → Int32 → OR
  | 0, _, _, _ => none
  | n + 1, t, v0, v1 => fx_firstOf_2 (fx_firstOf_l2 n) t v0 v1
def fx_firstOf (t : SM) (a : Int32) : OR :=
  fx_firstOf_l2 1000000 t a 0
def F_164 (as : List Value) (t : SM) : OR := match as with
  | [.int a] => fx_firstOf t a
  | _ => none
/-! EveryMapWrong.numberAt([II)I -/
def fx_numberAt (t : SM) (a : Nat) (b : Int32) : OR :=
  if b < 0 then rI 0 t
  else hALen t a fun n1 =>
  if n1 ≤ b then rI 0 t
  else hALd t a b fun e2 =>
  rI e2 t
def F_166 (as : List Value) (t : SM) : OR := match as with
  | [.ref a, .int b] => fx_numberAt t a b
  | _ => none
/-! EveryMapWrong$AtWorst.openAt(II)I -/
def fAW_openAt (t : SM) (a : Int32) (b : Int32) : OR :=
  hGetC t 0 22 1 24 <|
  bI (fx_numberAt t 24 b) fun numberAt2 t1 =>
  hGetC t1 0 22 2 25 <|
  bI (fx_numberAt t1 25 a) fun numberAt4 t3 =>
  rI (numberAt2 &&& numberAt4) t3
def F_22 (as : List Value) (t : SM) : OR := match as with
  | [.ref z0, .int a, .int b] => (match Nat.beq z0 22 with | true => fAW_openAt t a b | false => none)
  | _ => none
/-! EveryMapWrong$AtWorst.lookingLike(III)I -/
def fAW_lookingLike_6 (r6 : SM → Int32 → Int32 → Int32 → Int32 → Int32 → OR) (t : SM) (v1 : Int32) (v2 : Int32) (v3 : Int32) (v4 : Int32) (v5 : Int32) : OR :=
  if 7 ≤ v5 then rI v4 t
  else if ((v3 >>> (v5 &&& 31)) &&& 1) = 1 then hRecv t 0 22 <| bI (fAW_openAt t v2 v5) fun openAt2 t1 =>
  hRecv t1 0 22 <| bI (fAW_openAt t1 v2 v1) fun openAt4 t3 =>
  if openAt2 = openAt4 then r6 t3 v1 v2 v3 (v4 ||| ((1 : Int32) <<< (v5 &&& 31))) (v5 + 1)
  else r6 t3 v1 v2 v3 v4 (v5 + 1)
  else r6 t v1 v2 v3 v4 (v5 + 1)
def fAW_lookingLike_l6 : Nat → SM → Int32 → Int32 → Int32 → Int32 → Int32 → OR
  | 0, _, _, _, _, _, _ => none
  | n + 1, t, v1, v2, v3, v4, v5 => fAW_lookingLike_6 (fAW_lookingLike_l6 n) t v1 v2 v3 v4 v5
def fAW_lookingLike (t : SM) (a : Int32) (b : Int32) (c : Int32) : OR :=
  fAW_lookingLike_l6 1000000 t a b c 0 0
def F_23 (as : List Value) (t : SM) : OR := match as with
  | [.ref z0, .int a, .int b, .int c] => (match Nat.beq z0 22 with | true => fAW_lookingLike t a b c | false => none)
  | _ => none
/-! EveryMapWrong$AtWorst.longestFor(II)I -/
def fAW_longestFor (t : SM) (a : Int32) (b : Int32) : OR :=
  hGetC t 0 22 0 23 <|
  bI (fx_numberAt t 23 ((a * 128) + b)) fun numberAt2 t1 =>
  rI numberAt2 t1
def F_21 (as : List Value) (t : SM) : OR := match as with
  | [.ref z0, .int a, .int b] => (match Nat.beq z0 22 with | true => fAW_longestFor t a b | false => none)
  | _ => none
/-! EveryMapWrong$AtWorst.worstOfParts(II)I -/
def fAW_worstOfParts_5 (r5 : SM → Int32 → Int32 → Int32 → Int32 → OR) (t : SM) (v1 : Int32) (v2 : Int32) (v3 : Int32) (v4 : Int32) : OR :=
  if 7 ≤ v4 then rI v3 t
  else if ((v2 >>> (v4 &&& 31)) &&& 1) = 1 then hRecv t 0 22 <| bI (fAW_lookingLike t v4 v1 v2) fun lookingLike2 t1 =>
  hRecv t1 0 22 <| bI (fAW_longestFor t1 v1 lookingLike2) fun longestFor4 t3 =>
  bI (fjM_max t3 v3 longestFor4) fun max6 t5 =>
  r5 t5 v1 v2 max6 (v4 + 1)
  else r5 t v1 v2 v3 (v4 + 1)
def fAW_worstOfParts_l5 : Nat → SM → Int32 → Int32 → Int32 → Int32 → OR
  | 0, _, _, _, _, _ => none
  | n + 1, t, v1, v2, v3, v4 => fAW_worstOfParts_5 (fAW_worstOfParts_l5 n) t v1 v2 v3 v4
def fAW_worstOfParts (t : SM) (a : Int32) (b : Int32) : OR :=
  fAW_worstOfParts_l5 1000000 t a b 0 0
def F_25 (as : List Value) (t : SM) : OR := match as with
  | [.ref z0, .int a, .int b] => (match Nat.beq z0 22 with | true => fAW_worstOfParts t a b | false => none)
  | _ => none
/-! EveryMapWrong.setNumber([III)V -/
def fx_setNumber (t : SM) (a : Nat) (b : Int32) (c : Int32) : OR :=
  if b < 0 then rV t
  else hALen t a fun n1 =>
  if n1 ≤ b then rV t
  else hASt t a b c fun t2 =>
  rV t2
def F_167 (as : List Value) (t : SM) : OR := match as with
  | [.ref a, .int b, .int c] => fx_setNumber t a b c
  | _ => none
/-! EveryMapWrong$Street.otherEnd(I)I -/
def fSt_otherEnd (t : SM) (o : Nat) (a : Int32) : OR :=
  hGetI t 6 o 0 fun u1 =>
  if a = u1 then hGetI t 6 o 1 fun vv3 =>
  rI vv3 t
  else hGetI t 6 o 0 fun u2 =>
    rI u2 t
def F_78 (as : List Value) (t : SM) : OR := match as with
  | [.ref o, .int a] => fSt_otherEnd t o a
  | _ => none
/-! EveryMapWrong$AtWorst.shorten(LEveryMapWrong$Street;II)Z -/
def fAW_shorten (t : SM) (a : Nat) (b : Int32) (c : Int32) : OR :=
  hGetI t 6 a 3 fun takes1 =>
  hRecv t 6 a <| bI (fSt_otherEnd t a b) fun otherEnd3 t2 =>
  hRecv t2 0 22 <| bI (fAW_longestFor t2 otherEnd3 c) fun longestFor5 t4 =>
  hRecv t4 0 22 <| bI (fAW_longestFor t4 b c) fun longestFor7 t6 =>
  if (takes1 + longestFor5) < longestFor7 then hGetC t6 0 22 0 23 <|
    bV (fx_setNumber t6 23 ((b * 128) + c) (takes1 + longestFor5)) fun t8 =>
    rI 1 t8
  else rI 0 t6
def F_27 (as : List Value) (t : SM) : OR := match as with
  | [.ref z0, .ref a, .int b, .int c] => (match Nat.beq z0 22 with | true => fAW_shorten t a b c | false => none)
  | _ => none
/-! EveryMapWrong$AtWorst.shortenAll(III)Z -/
def fAW_shortenAll_6 (r6 : SM → Int32 → Int32 → Int32 → Int32 → Int32 → OR) (t : SM) (v1 : Int32) (v2 : Int32) (v3 : Int32) (v4 : Int32) (v5 : Int32) : OR :=
  hGetC t 0 22 3 5 <|
  hGetI t 7 5 1 fun size1 =>
  if size1 ≤ v5 then hZ v4 (rI v4 t)
  else hGetC t 0 22 3 5 <|
  hRecv t 7 5 <| bQ (fSs_streetAt t v5) (fun t2 => r6 t2 v1 v2 v3 v4 (v5 + 1)) fun q3 t2 =>
  hGetC t2 0 22 1 24 <|
  bI (fx_numberAt t2 24 v2) fun numberAt5 t4 =>
  if ((numberAt5 >>> (v5 &&& 31)) &&& 1) = 1 then hGetI t4 6 q3 0 fun u6 =>
  if ((v3 >>> (u6 &&& 31)) &&& 1) = 0 then hGetI t4 6 q3 0 fun u11 =>
  hRecv t4 0 22 <| bI (fAW_shorten t4 q3 u11 v1) fun shorten13 t12 =>
  if shorten13 = 0 then hGetI t12 6 q3 1 fun vv14 =>
    if ((v3 >>> (vv14 &&& 31)) &&& 1) = 0 then hGetI t12 6 q3 1 fun vv15 =>
    hRecv t12 0 22 <| bI (fAW_shorten t12 q3 vv15 v1) fun shorten17 t16 =>
    if shorten17 = 0 then r6 t16 v1 v2 v3 ((v4 ||| 0) ||| 0) (v5 + 1)
    else r6 t16 v1 v2 v3 ((v4 ||| 0) ||| 1) (v5 + 1)
    else r6 t12 v1 v2 v3 ((v4 ||| 0) ||| 0) (v5 + 1)
  else hGetI t12 6 q3 1 fun vv18 =>
  if ((v3 >>> (vv18 &&& 31)) &&& 1) = 0 then hGetI t12 6 q3 1 fun vv19 =>
  hRecv t12 0 22 <| bI (fAW_shorten t12 q3 vv19 v1) fun shorten21 t20 =>
  if shorten21 = 0 then r6 t20 v1 v2 v3 ((v4 ||| 1) ||| 0) (v5 + 1)
  else r6 t20 v1 v2 v3 ((v4 ||| 1) ||| 1) (v5 + 1)
  else r6 t12 v1 v2 v3 ((v4 ||| 1) ||| 0) (v5 + 1)
  else hGetI t4 6 q3 1 fun vv7 =>
    if ((v3 >>> (vv7 &&& 31)) &&& 1) = 0 then hGetI t4 6 q3 1 fun vv8 =>
    hRecv t4 0 22 <| bI (fAW_shorten t4 q3 vv8 v1) fun shorten10 t9 =>
    if shorten10 = 0 then r6 t9 v1 v2 v3 ((v4 ||| 0) ||| 0) (v5 + 1)
    else r6 t9 v1 v2 v3 ((v4 ||| 0) ||| 1) (v5 + 1)
    else r6 t4 v1 v2 v3 ((v4 ||| 0) ||| 0) (v5 + 1)
  else r6 t4 v1 v2 v3 v4 (v5 + 1)
def fAW_shortenAll_l6 : Nat → SM → Int32 → Int32 → Int32 → Int32 → Int32 → OR
  | 0, _, _, _, _, _, _ => none
  | n + 1, t, v1, v2, v3, v4, v5 => fAW_shortenAll_6 (fAW_shortenAll_l6 n) t v1 v2 v3 v4 v5
def fAW_shortenAll (t : SM) (a : Int32) (b : Int32) (c : Int32) : OR :=
  fAW_shortenAll_l6 1000000 t a b c 0 0
def F_26 (as : List Value) (t : SM) : OR := match as with
  | [.ref z0, .int a, .int b, .int c] => (match Nat.beq z0 22 with | true => fAW_shortenAll t a b c | false => none)
  | _ => none
/-! EveryMapWrong$AtWorst.settle(I)V -/
def fAW_settle_118 (r118 : SM → Int32 → Int32 → Int32 → Int32 → Int32 → OR) (t : SM) (v1 : Int32) (v2 : Int32) (v3 : Int32) (v4 : Int32) (v5 : Int32) : OR :=
  if 6 ≤ v5 then rV t
  else if v4 = 0 then rV t
  else hRecv t 0 22 <| bI (fAW_shortenAll t v1 v2 v3) fun shortenAll2 t1 =>
  r118 t1 v1 v2 v3 shortenAll2 (v5 + 1)
def fAW_settle_l118 : Nat → SM → Int32 → Int32 → Int32 → Int32 → Int32 → OR
  | 0, _, _, _, _, _, _ => none
  | n + 1, t, v1, v2, v3, v4, v5 => fAW_settle_118 (fAW_settle_l118 n) t v1 v2 v3 v4 v5
def fAW_settle_112 (t : SM) (v1 : Int32) (v2 : Int32) (v3 : Int32) : OR :=
  fAW_settle_l118 1000000 t v1 v2 v3 1 0
def fAW_settle_10 (k112 : SM → Int32 → Int32 → Int32 → OR) (r10 : SM → Int32 → Int32 → Int32 → Int32 → OR) (t : SM) (v1 : Int32) (v2 : Int32) (v3 : Int32) (v4 : Int32) : OR :=
  if 6 ≤ v4 then k112 t v1 v2 v3
  else hRecv t 0 22 <| bI (fAW_lookingLike t v2 v4 v1) fun lookingLike2 t1 =>
  if lookingLike2 = v1 then hGetI t1 0 22 5 fun goal3 =>
    if v4 = goal3 then hGetC t1 0 22 0 23 <|
    bV (fx_setNumber t1 23 ((v4 * 128) + v1) 0) fun t6 =>
    hGetI t6 0 22 5 fun goal7 =>
    if v4 = goal7 then r10 t6 v1 v2 (v3 ||| ((1 : Int32) <<< (v4 &&& 31))) (v4 + 1)
    else r10 t6 v1 v2 v3 (v4 + 1)
    else hGetC t1 0 22 0 23 <|
      bV (fx_setNumber t1 23 ((v4 * 128) + v1) 1000000) fun t4 =>
      hGetI t4 0 22 5 fun goal5 =>
      if v4 = goal5 then r10 t4 v1 v2 (v3 ||| ((1 : Int32) <<< (v4 &&& 31))) (v4 + 1)
      else r10 t4 v1 v2 v3 (v4 + 1)
  else hGetI t1 0 22 5 fun goal8 =>
  if v4 = goal8 then hGetC t1 0 22 0 23 <|
  bV (fx_setNumber t1 23 ((v4 * 128) + v1) 0) fun t13 =>
  hGetI t13 0 22 5 fun goal14 =>
  if v4 = goal14 then r10 t13 v1 v2 (v3 ||| ((1 : Int32) <<< (v4 &&& 31))) (v4 + 1)
  else r10 t13 v1 v2 (v3 ||| ((1 : Int32) <<< (v4 &&& 31))) (v4 + 1)
  else hRecv t1 0 22 <| bI (fAW_worstOfParts t1 v4 v1) fun worstOfParts10 t9 =>
    hGetC t9 0 22 0 23 <|
    bV (fx_setNumber t9 23 ((v4 * 128) + v1) worstOfParts10) fun t11 =>
    hGetI t11 0 22 5 fun goal12 =>
    if v4 = goal12 then r10 t11 v1 v2 (v3 ||| ((1 : Int32) <<< (v4 &&& 31))) (v4 + 1)
    else r10 t11 v1 v2 (v3 ||| ((1 : Int32) <<< (v4 &&& 31))) (v4 + 1)
def fAW_settle_l10 (k112 : SM → Int32 → Int32 → Int32 → OR) : Nat → SM → Int32 → Int32 → Int32 → Int32 → OR
  | 0, _, _, _, _, _ => none
  | n + 1, t, v1, v2, v3, v4 => fAW_settle_10 k112 (fAW_settle_l10 k112 n) t v1 v2 v3 v4
def fAW_settle (t : SM) (a : Int32) : OR :=
  bI (fx_firstOf t a) fun firstOf2 t1 =>
  fAW_settle_l10 (fun t u1 u2 u3 => fAW_settle_112 t u1 u2 u3) 1000000 t1 a firstOf2 0 0
def F_24 (as : List Value) (t : SM) : OR := match as with
  | [.ref z0, .int a] => (match Nat.beq z0 22 with | true => fAW_settle t a | false => none)
  | _ => none
/-! EveryMapWrong$AtWorst.study(LEveryMapWrong$Worlds;I)V -/
def fAW_study_94 (r94 : SM → Int32 → OR) (t : SM) (v3 : Int32) : OR :=
  hGetI t 0 22 4 fun everyWorld1 =>
  if everyWorld1 < v3 then rV t
  else hRecv t 0 22 <| bV (fAW_settle t v3) fun t2 =>
  r94 t2 (v3 + 1)
def fAW_study_l94 : Nat → SM → Int32 → OR
  | 0, _, _ => none
  | n + 1, t, v3 => fAW_study_94 (fAW_study_l94 n) t v3
def fAW_study_92 (t : SM) : OR :=
  fAW_study_l94 1000000 t 1
def fAW_study_63 (k92 : SM → OR) (r63 : SM → Int32 → OR) (t : SM) (v3 : Int32) : OR :=
  hGetC t 0 22 2 25 <|
  hALen t 25 fun n1 =>
  if n1 ≤ v3 then k92 t
  else hGetC t 0 22 2 25 <|
  hGetC t 0 22 3 5 <|
  hRecv t 7 5 <| bI (fSs_touching t v3) fun touching3 t2 =>
  hASt t2 25 v3 touching3 fun t4 =>
  r63 t4 (v3 + 1)
def fAW_study_l63 (k92 : SM → OR) : Nat → SM → Int32 → OR
  | 0, _, _ => none
  | n + 1, t, v3 => fAW_study_63 k92 (fAW_study_l63 k92 n) t v3
def fAW_study_61 (t : SM) : OR :=
  fAW_study_l63 (fun t => fAW_study_92 t) 1000000 t 0
def fAW_study_24 (k61 : SM → OR) (r24 : SM → Int32 → OR) (t : SM) (v3 : Int32) : OR :=
  hGetC t 0 22 1 24 <|
  hALen t 24 fun n1 =>
  if n1 ≤ v3 then k61 t
  else hGetC t 0 22 1 24 <|
  hGetC t 0 22 3 5 <|
  hRecv t 9 16 <| bI (fWd_townAt t v3) fun townAt3 t2 =>
  bI (fjM_max t2 0 townAt3) fun max5 t4 =>
  hRecv t4 7 5 <| bI (fSs_openIn t4 max5) fun openIn7 t6 =>
  hASt t6 24 v3 openIn7 fun t8 =>
  r24 t8 (v3 + 1)
def fAW_study_l24 (k61 : SM → OR) : Nat → SM → Int32 → OR
  | 0, _, _ => none
  | n + 1, t, v3 => fAW_study_24 k61 (fAW_study_l24 k61 n) t v3
def fAW_study (t : SM) (b : Int32) : OR :=
  hPutI t 0 22 5 b fun t1 =>
  hGetI t1 9 16 1 fun size2 =>
  bI (fjM_min t1 size2 7) fun min4 t3 =>
  hPutI t3 0 22 4 (((1 : Int32) <<< (min4 &&& 31)) - 1) fun t5 =>
  fAW_study_l24 (fun t => fAW_study_61 t) 1000000 t5 0
def F_18 (as : List Value) (t : SM) : OR := match as with
  | [.ref z0, .ref z1, .int b] => (match Nat.beq z0 22 with | true => (match Nat.beq z1 16 with | true => fAW_study t b | false => none) | false => none)
  | _ => none
/-! EveryMapWrong$AtWorst.longestFrom(I)I -/
def fAW_longestFrom (t : SM) (a : Int32) : OR :=
  hGetI t 0 22 4 fun everyWorld1 =>
  hRecv t 0 22 <| bI (fAW_longestFor t a everyWorld1) fun longestFor3 t2 =>
  if longestFor3 < 1000000 then rI longestFor3 t2
  else rI (-1) t2
def F_19 (as : List Value) (t : SM) : OR := match as with
  | [.ref z0, .int a] => (match Nat.beq z0 22 with | true => fAW_longestFrom t a | false => none)
  | _ => none
/-! EveryMapWrong$AtWorst.firstStreet(II)I -/
def fAW_firstStreet_47 (r47 : SM → Int32 → Int32 → Int32 → Int32 → Int32 → OR) (t : SM) (v1 : Int32) (v3 : Int32) (v4 : Int32) (v5 : Int32) (v6 : Int32) : OR :=
  hGetC t 0 22 3 5 <|
  hGetI t 7 5 1 fun size1 =>
  if size1 ≤ v6 then rI (-1) t
  else hGetC t 0 22 3 5 <|
  hRecv t 7 5 <| bQ (fSs_streetAt t v6) (fun t2 => r47 t2 v1 v3 v4 v5 (v6 + 1)) fun q3 t2 =>
  if ((v5 >>> (v6 &&& 31)) &&& 1) = 1 then hGetI t2 6 q3 3 fun takes4 =>
  hRecv t2 6 q3 <| bI (fSt_otherEnd t2 q3 v1) fun otherEnd6 t5 =>
  hRecv t5 0 22 <| bI (fAW_longestFor t5 otherEnd6 v3) fun longestFor8 t7 =>
  if (takes4 + longestFor8) = v4 then rI v6 t7
  else r47 t7 v1 v3 v4 v5 (v6 + 1)
  else r47 t2 v1 v3 v4 v5 (v6 + 1)
def fAW_firstStreet_l47 : Nat → SM → Int32 → Int32 → Int32 → Int32 → Int32 → OR
  | 0, _, _, _, _, _, _ => none
  | n + 1, t, v1, v3, v4, v5, v6 => fAW_firstStreet_47 (fAW_firstStreet_l47 n) t v1 v3 v4 v5 v6
def fAW_firstStreet (t : SM) (a : Int32) (b : Int32) : OR :=
  hGetI t 0 22 4 fun everyWorld1 =>
  hRecv t 0 22 <| bI (fAW_lookingLike t b a everyWorld1) fun lookingLike3 t2 =>
  hRecv t2 0 22 <| bI (fAW_longestFor t2 a lookingLike3) fun longestFor5 t4 =>
  hGetI t4 0 22 5 fun goal6 =>
  if a = goal6 then rI (-1) t4
  else if longestFor5 < 1000000 then hRecv t4 0 22 <| bI (fAW_openAt t4 a b) fun openAt8 t7 =>
    fAW_firstStreet_l47 1000000 t7 a lookingLike3 longestFor5 openAt8 0
  else rI (-1) t4
def F_20 (as : List Value) (t : SM) : OR := match as with
  | [.ref z0, .int a, .int b] => (match Nat.beq z0 22 with | true => fAW_firstStreet t a b | false => none)
  | _ => none
/-! EveryMapWrong$Atlas.<init>()V -/
def fAt_init (t : SM) : OR :=
  hNewA t 32 8 fun q1 t2 =>
  hPutR t2 1 1 0 (some q1) fun t3 =>
  hNewA t3 20 512 fun q4 t5 =>
  hPutR t5 1 1 2 (some q4) fun t6 =>
  hNewA t6 20 8 fun q7 t8 =>
  hPutR t8 1 1 3 (some q7) fun t9 =>
  rV t9
def F_28 (as : List Value) (t : SM) : OR := match as with
  | [.ref z0] => (match Nat.beq z0 1 with | true => fAt_init t | false => none)
  | _ => none
/-! EveryMapWrong$Atlas.chartAt(I)LEveryMapWrong$Chart; -/
def fAt_chartAt (t : SM) (a : Int32) : OR :=
  if a < 0 then rN t
  else hGetI t 1 1 1 fun size1 =>
  if size1 ≤ a then rN t
  else hGetC t 1 1 0 2 <|
  hALen t 2 fun n2 =>
  if n2 ≤ a then rN t
  else hGetC t 1 1 0 2 <|
  hQLd t 2 2 a (rN t) fun q3 =>
  rR q3 t
def F_29 (as : List Value) (t : SM) : OR := match as with
  | [.ref z0, .int a] => (match Nat.beq z0 1 with | true => fAt_chartAt t a | false => none)
  | _ => none
/-! EveryMapWrong$Chart.<init>(IIIII)V -/
def fCh_init (t : SM) (o : Nat) (a : Int32) (b : Int32) (c : Int32) (d : Int32) (e : Int32) : OR :=
  hPutI t 2 o 5 1 fun t1 =>
  hPutI t1 2 o 0 a fun t2 =>
  hPutI t2 2 o 1 b fun t3 =>
  hPutI t3 2 o 2 c fun t4 =>
  hPutI t4 2 o 3 d fun t5 =>
  hPutI t5 2 o 4 e fun t6 =>
  rV t6
def F_40 (as : List Value) (t : SM) : OR := match as with
  | [.ref o, .int a, .int b, .int c, .int d, .int e] => fCh_init t o a b c d e
  | _ => none
/-! EveryMapWrong$Chart.shown()I -/
def fCh_shown (t : SM) (o : Nat) : OR :=
  hGetI t 2 o 0 fun kind1 =>
  if kind1 = 3 then hGetI t 2 o 2 fun mask2 =>
  rI mask2 t
  else rI (-1) t
def F_41 (as : List Value) (t : SM) : OR := match as with
  | [.ref o] => fCh_shown t o
  | _ => none
/-! EveryMapWrong$Chart.slipsIn(I)I -/
def fCh_slipsIn (t : SM) (o : Nat) (a : Int32) : OR :=
  hGetI t 2 o 1 fun says1 =>
  hRecv t 2 o <| bI (fCh_shown t o) fun shown3 t2 =>
  rI ((says1 ^^^ a) &&& shown3) t2
def F_42 (as : List Value) (t : SM) : OR := match as with
  | [.ref o, .int a] => fCh_slipsIn t o a
  | _ => none
/-! EveryMapWrong$Chart.areNeighbours(I)Z -/
def fCh_areNeighbours (t : SM) (a : Int32) : OR :=
  if (a &&& (a <<< ((1 : Int32) &&& 31))) = 0 then rI 0 t
  else rI 1 t
def F_45 (as : List Value) (t : SM) : OR := match as with
  | [.int a] => fCh_areNeighbours t a
  | _ => none
/-! EveryMapWrong$Chart.agreesWith(II)Z -/
def fCh_agreesWith (t : SM) (o : Nat) (a : Int32) (b : Int32) : OR :=
  hRecv t 2 o <| bI (fCh_slipsIn t o a) fun slipsIn2 t1 =>
  bI (fjI_bitCount t1 slipsIn2) fun bitCount4 t3 =>
  hGetI t3 2 o 0 fun kind5 =>
  if kind5 = 1 then hGetI t3 2 o 4 fun unlikeModel6 =>
    bI (fjI_bitCount t3 unlikeModel6) fun bitCount8 t7 =>
    if bitCount8 = 1 then hGetI t7 2 o 3 fun more9 =>
    if ((b >>> (more9 &&& 31)) &&& 1) = 1 then rI 1 t7
    else rI 0 t7
    else rI 0 t7
  else if kind5 = 2 then if 1 < bitCount4 then rI 0 t3
    else rI 1 t3
  else if kind5 = 3 then if 1 < bitCount4 then rI 0 t3
    else rI 1 t3
  else if kind5 = 4 then hGetI t3 2 o 3 fun more10 =>
    if (more10 + 1) < bitCount4 then rI 0 t3
    else rI 1 t3
  else if kind5 = 5 then if bitCount4 = 2 then bI (fCh_areNeighbours t3 slipsIn2) fun areNeighbours12 t11 =>
    if areNeighbours12 = 0 then rI 0 t11
    else bI (fjI_bitCount t11 (slipsIn2 &&& a)) fun bitCount14 t13 =>
    if bitCount14 = 1 then rI 1 t13
    else rI 0 t13
    else rI 0 t3
  else if bitCount4 = 1 then rI 1 t3
  else rI 0 t3
def F_44 (as : List Value) (t : SM) : OR := match as with
  | [.ref o, .int a, .int b] => fCh_agreesWith t o a b
  | _ => none
/-! EveryMapWrong$Atlas.add(IIII)I -/
def fAt_add_139 (t : SM) (v7 : Nat) : OR :=
  hGetC t 1 1 0 2 <|
  hGetI t 1 1 1 fun size1 =>
  hQSt t 2 2 size1 v7 fun t2 =>
  hGetI t2 1 1 1 fun size3 =>
  hPutI t2 1 1 1 (size3 + 1) fun t4 =>
  hGetI t4 1 1 1 fun size5 =>
  rI (size5 - 1) t4
def fAt_add_80 (k139 : SM → Nat → OR) (r80 : SM → Nat → Int32 → Int32 → OR) (t : SM) (v7 : Nat) (v8 : Int32) (v9 : Int32) : OR :=
  hGetC t 1 1 2 3 <|
  hALen t 3 fun n1 =>
  if n1 ≤ v9 then k139 t v7
  else hGetC t 1 1 2 3 <|
  hALd t 3 v9 fun e2 =>
  hGetC t 1 1 2 3 <|
  hRecv t 2 v7 <| bI (fCh_agreesWith t v7 v9 (e2 &&& (v8 ^^^ (-1)))) fun agreesWith4 t3 =>
  if agreesWith4 = 0 then hASt t3 3 v9 (e2 &&& (v8 ^^^ (-1))) fun t5 =>
    r80 t5 v7 v8 (v9 + 1)
  else hASt t3 3 v9 ((e2 &&& (v8 ^^^ (-1))) ||| v8) fun t6 =>
  r80 t6 v7 v8 (v9 + 1)
def fAt_add_l80 (k139 : SM → Nat → OR) : Nat → SM → Nat → Int32 → Int32 → OR
  | 0, _, _, _, _ => none
  | n + 1, t, v7, v8, v9 => fAt_add_80 k139 (fAt_add_l80 k139 n) t v7 v8 v9
def fAt_add_50 (t : SM) (v1 : Int32) (v2 : Int32) (v3 : Int32) (v4 : Int32) : OR :=
  hNew t 2 6 fun q1 t2 =>
  hRecv t2 2 q1 <| bV (fCh_init t2 q1 v1 v2 v3 v4 0) fun t3 =>
  hGetI t3 1 1 1 fun size4 =>
  fAt_add_l80 (fun t u7 => fAt_add_139 t u7) 1000000 t3 q1 ((1 : Int32) <<< (size4 &&& 31)) 0
def fAt_add (t : SM) (a : Int32) (b : Int32) (c : Int32) (d : Int32) : OR :=
  hGetI t 1 1 1 fun size1 =>
  if size1 < 0 then rI (-4) t
  else hGetI t 1 1 1 fun size2 =>
  hGetC t 1 1 0 2 <|
  hALen t 2 fun n3 =>
  if size2 < n3 then hRecv t 1 1 <| bQ (fAt_chartAt t d) (fun t4 => if a = 1 then fAt_add_50 t4 a b c d
      else fAt_add_50 t4 a b c d) fun q5 t4 =>
    if a = 1 then hGetI t4 2 q5 1 fun says6 =>
    hNew t4 2 6 fun q7 t8 =>
    hRecv t8 2 q7 <| bV (fCh_init t8 q7 a b c d (says6 ^^^ b)) fun t9 =>
    hGetI t9 1 1 1 fun size10 =>
    fAt_add_l80 (fun t u7 => fAt_add_139 t u7) 1000000 t9 q7 ((1 : Int32) <<< (size10 &&& 31)) 0
    else fAt_add_50 t4 a b c d
  else rI (-4) t
def F_30 (as : List Value) (t : SM) : OR := match as with
  | [.ref z0, .int a, .int b, .int c, .int d] => (match Nat.beq z0 1 with | true => fAt_add t a b c d | false => none)
  | _ => none
/-! EveryMapWrong$Atlas.shrinkTo(I)V -/
def fAt_shrinkTo (t : SM) (a : Int32) : OR :=
  hGetI t 1 1 1 fun size1 =>
  bI (fjM_min t size1 a) fun min3 t2 =>
  bI (fjM_max t2 0 min3) fun max5 t4 =>
  hPutI t4 1 1 1 max5 fun t6 =>
  rV t6
def F_31 (as : List Value) (t : SM) : OR := match as with
  | [.ref z0, .int a] => (match Nat.beq z0 1 with | true => fAt_shrinkTo t a | false => none)
  | _ => none
/-! EveryMapWrong$Atlas.everyMap()I -/
def fAt_everyMap (t : SM) : OR :=
  hGetI t 1 1 1 fun size1 =>
  rI (((1 : Int32) <<< (size1 &&& 31)) - 1) t
def F_32 (as : List Value) (t : SM) : OR := match as with
  | [.ref z0] => (match Nat.beq z0 1 with | true => fAt_everyMap t | false => none)
  | _ => none
/-! EveryMapWrong$Chart.isOne(I)Z -/
def fCh_isOne (t : SM) (o : Nat) (a : Int32) : OR :=
  if a = 0 then rI 1 t
  else hGetI t 2 o 0 fun kind1 =>
  if a = kind1 then rI 1 t
  else if a = 2 then hGetI t 2 o 0 fun kind2 =>
  if kind2 = 3 then rI 1 t
  else rI 0 t
  else rI 0 t
def F_43 (as : List Value) (t : SM) : OR := match as with
  | [.ref o, .int a] => fCh_isOne t o a
  | _ => none
/-! EveryMapWrong$Atlas.everyPart()I -/
def fAt_everyPart_4 (r4 : SM → Int32 → Int32 → OR) (t : SM) (v1 : Int32) (v2 : Int32) : OR :=
  hGetI t 1 1 1 fun size1 =>
  if size1 ≤ v2 then rI v1 t
  else hRecv t 1 1 <| bQ (fAt_chartAt t v2) (fun t2 => r4 t2 v1 (v2 + 1)) fun q3 t2 =>
  hRecv t2 2 q3 <| bI (fCh_isOne t2 q3 3) fun isOne5 t4 =>
  if isOne5 = 0 then r4 t4 v1 (v2 + 1)
  else r4 t4 (v1 ||| ((1 : Int32) <<< (v2 &&& 31))) (v2 + 1)
def fAt_everyPart_l4 : Nat → SM → Int32 → Int32 → OR
  | 0, _, _, _ => none
  | n + 1, t, v1, v2 => fAt_everyPart_4 (fAt_everyPart_l4 n) t v1 v2
def fAt_everyPart (t : SM) : OR :=
  fAt_everyPart_l4 1000000 t 0 0
def F_33 (as : List Value) (t : SM) : OR := match as with
  | [.ref z0] => (match Nat.beq z0 1 with | true => fAt_everyPart t | false => none)
  | _ => none
/-! EveryMapWrong$Atlas.agreeingWith(I)I -/
def fAt_agreeingWith (t : SM) (a : Int32) : OR :=
  hGetC t 1 1 2 3 <|
  bI (fx_numberAt t 3 a) fun numberAt2 t1 =>
  hRecv t1 1 1 <| bI (fAt_everyMap t1) fun everyMap4 t3 =>
  rI (numberAt2 &&& everyMap4) t3
def F_34 (as : List Value) (t : SM) : OR := match as with
  | [.ref z0, .int a] => (match Nat.beq z0 1 with | true => fAt_agreeingWith t a | false => none)
  | _ => none
/-! EveryMapWrong$Atlas.costOf(I)I -/
def fAt_costOf_4 (r4 : SM → Int32 → Int32 → Int32 → OR) (t : SM) (v1 : Int32) (v2 : Int32) (v3 : Int32) : OR :=
  hGetI t 1 1 1 fun size1 =>
  if size1 ≤ v3 then rI v2 t
  else hRecv t 1 1 <| bQ (fAt_chartAt t v3) (fun t2 => r4 t2 v1 v2 (v3 + 1)) fun q3 t2 =>
  if ((v1 >>> (v3 &&& 31)) &&& 1) = 1 then hGetI t2 2 q3 5 fun cost4 =>
  r4 t2 v1 (v2 + cost4) (v3 + 1)
  else r4 t2 v1 v2 (v3 + 1)
def fAt_costOf_l4 : Nat → SM → Int32 → Int32 → Int32 → OR
  | 0, _, _, _, _ => none
  | n + 1, t, v1, v2, v3 => fAt_costOf_4 (fAt_costOf_l4 n) t v1 v2 v3
def fAt_costOf (t : SM) (a : Int32) : OR :=
  fAt_costOf_l4 1000000 t a 0 0
def F_35 (as : List Value) (t : SM) : OR := match as with
  | [.ref z0, .int a] => (match Nat.beq z0 1 with | true => fAt_costOf t a | false => none)
  | _ => none
/-! EveryMapWrong$Atlas.unlike(II)I -/
def fAt_unlike (t : SM) (a : Int32) (b : Int32) : OR :=
  hRecv t 1 1 <| bQ (fAt_chartAt t a) (fun t1 => hRecv t1 1 1 <| bQ (fAt_chartAt t1 b) (fun t3 => rI 0 t3) fun q4 t3 =>
    rI 0 t3) fun q2 t1 =>
  hRecv t1 1 1 <| bQ (fAt_chartAt t1 b) (fun t5 => rI 0 t5) fun q6 t5 =>
  hGetI t5 2 q2 1 fun says7 =>
  hGetI t5 2 q6 1 fun says8 =>
  bI (fjI_bitCount t5 (says7 ^^^ says8)) fun bitCount10 t9 =>
  rI bitCount10 t9
def F_36 (as : List Value) (t : SM) : OR := match as with
  | [.ref z0, .int a, .int b] => (match Nat.beq z0 1 with | true => fAt_unlike t a b | false => none)
  | _ => none
/-! EveryMapWrong$Atlas.originOf(I)I -/
def fAt_originOf (t : SM) (a : Int32) : OR :=
  hGetC t 1 1 3 4 <|
  bI (fx_numberAt t 4 a) fun numberAt2 t1 =>
  rI numberAt2 t1
def F_37 (as : List Value) (t : SM) : OR := match as with
  | [.ref z0, .int a] => (match Nat.beq z0 1 with | true => fAt_originOf t a | false => none)
  | _ => none
/-! EveryMapWrong$Atlas.nearestLeft(I)I -/
def fAt_nearestLeft_89 (r8 : SM → Int32 → Int32 → Int32 → Int32 → OR) (t : SM) (v1 : Int32) (v2 : Int32) (v3 : Int32) (v4 : Int32) : OR :=
  r8 t v1 v2 v3 (v4 + 1)
def fAt_nearestLeft_20 (k89 : SM → Int32 → Int32 → Int32 → Int32 → OR) (r20 : SM → Int32 → Int32 → Int32 → Int32 → Int32 → OR) (t : SM) (v1 : Int32) (v2 : Int32) (v3 : Int32) (v4 : Int32) (v5 : Int32) : OR :=
  hGetI t 1 1 1 fun size1 =>
  if size1 ≤ v5 then k89 t v1 v2 v3 v4
  else if ((v1 >>> (v4 &&& 31)) &&& 1) = 0 then if ((v1 >>> (v5 &&& 31)) &&& 1) = 1 then hRecv t 1 1 <| bI (fAt_unlike t v4 v5) fun unlike3 t2 =>
  if v3 ≤ unlike3 then r20 t2 v1 v2 v3 v4 (v5 + 1)
  else hRecv t2 1 1 <| bI (fAt_unlike t2 v4 v5) fun unlike5 t4 =>
  hGetC t4 1 1 3 4 <|
  bV (fx_setNumber t4 4 v4 v5) fun t6 =>
  r20 t6 v1 v4 unlike5 v4 (v5 + 1)
  else r20 t v1 v2 v3 v4 (v5 + 1)
  else k89 t v1 v2 v3 v4
def fAt_nearestLeft_l20 (k89 : SM → Int32 → Int32 → Int32 → Int32 → OR) : Nat → SM → Int32 → Int32 → Int32 → Int32 → Int32 → OR
  | 0, _, _, _, _, _, _ => none
  | n + 1, t, v1, v2, v3, v4, v5 => fAt_nearestLeft_20 k89 (fAt_nearestLeft_l20 k89 n) t v1 v2 v3 v4 v5
def fAt_nearestLeft_8 (r8 : SM → Int32 → Int32 → Int32 → Int32 → OR) (t : SM) (v1 : Int32) (v2 : Int32) (v3 : Int32) (v4 : Int32) : OR :=
  hGetI t 1 1 1 fun size1 =>
  if size1 ≤ v4 then rI v2 t
  else fAt_nearestLeft_l20 (fun t u1 u2 u3 u4 => fAt_nearestLeft_89 r8 t u1 u2 u3 u4) 1000000 t v1 v2 v3 v4 0
def fAt_nearestLeft_l8 : Nat → SM → Int32 → Int32 → Int32 → Int32 → OR
  | 0, _, _, _, _, _ => none
  | n + 1, t, v1, v2, v3, v4 => fAt_nearestLeft_8 (fAt_nearestLeft_l8 n) t v1 v2 v3 v4
def fAt_nearestLeft (t : SM) (a : Int32) : OR :=
  fAt_nearestLeft_l8 1000000 t a 0 10 0
def F_39 (as : List Value) (t : SM) : OR := match as with
  | [.ref z0, .int a] => (match Nat.beq z0 1 with | true => fAt_nearestLeft t a | false => none)
  | _ => none
/-! EveryMapWrong$Atlas.drawFromOneAnother()I -/
def fAt_drawFromOneAnother_14 (r14 : SM → Int32 → Int32 → Int32 → OR) (t : SM) (v1 : Int32) (v2 : Int32) (v3 : Int32) : OR :=
  hGetI t 1 1 1 fun size1 =>
  if size1 ≤ v3 then rI v1 t
  else hRecv t 1 1 <| bI (fAt_nearestLeft t v2) fun nearestLeft3 t2 =>
  hRecv t2 1 1 <| bI (fAt_originOf t2 nearestLeft3) fun originOf5 t4 =>
  hRecv t4 1 1 <| bI (fAt_unlike t4 nearestLeft3 originOf5) fun unlike7 t6 =>
  r14 t6 (v1 + unlike7) (v2 ||| ((1 : Int32) <<< (nearestLeft3 &&& 31))) (v3 + 1)
def fAt_drawFromOneAnother_l14 : Nat → SM → Int32 → Int32 → Int32 → OR
  | 0, _, _, _, _ => none
  | n + 1, t, v1, v2, v3 => fAt_drawFromOneAnother_14 (fAt_drawFromOneAnother_l14 n) t v1 v2 v3
def fAt_drawFromOneAnother (t : SM) : OR :=
  hGetC t 1 1 3 4 <|
  bV (fjA_fill t 4 (-1)) fun t1 =>
  fAt_drawFromOneAnother_l14 1000000 t1 0 1 1
def F_38 (as : List Value) (t : SM) : OR := match as with
  | [.ref z0] => (match Nat.beq z0 1 with | true => fAt_drawFromOneAnother t | false => none)
  | _ => none
/-! EveryMapWrong$Image.<init>()V -/
def fIm_init (t : SM) : OR :=
  hNewA t 20 8 fun q1 t2 =>
  hPutR t2 3 13 5 (some q1) fun t3 =>
  rV t3
def F_46 (as : List Value) (t : SM) : OR := match as with
  | [.ref z0] => (match Nat.beq z0 13 with | true => fIm_init t | false => none)
  | _ => none
/-! EveryMapWrong$Reader.<init>()V -/
def fRd_init (t : SM) : OR :=
  hNewA t 20 160 fun q1 t2 =>
  hPutR t2 4 10 0 (some q1) fun t3 =>
  hNewA t3 20 160 fun q4 t5 =>
  hPutR t5 4 10 7 (some q4) fun t6 =>
  rV t6
def F_47 (as : List Value) (t : SM) : OR := match as with
  | [.ref z0] => (match Nat.beq z0 10 with | true => fRd_init t | false => none)
  | _ => none
/-! EveryMapWrong$Reader.add(I)V -/
def fRd_add (t : SM) (a : Int32) : OR :=
  hGetI t 4 10 1 fun size1 =>
  if size1 < 0 then rV t
  else hGetI t 4 10 1 fun size2 =>
  hGetC t 4 10 0 11 <|
  hALen t 11 fun n3 =>
  if n3 ≤ size2 then rV t
  else hGetC t 4 10 0 11 <|
  hGetI t 4 10 1 fun size4 =>
  hASt t 11 size4 a fun t5 =>
  hGetI t5 4 10 1 fun size6 =>
  hPutI t5 4 10 1 (size6 + 1) fun t7 =>
  rV t7
def F_48 (as : List Value) (t : SM) : OR := match as with
  | [.ref z0, .int a] => (match Nat.beq z0 10 with | true => fRd_add t a | false => none)
  | _ => none
/-! EveryMapWrong$Reader.clear()V -/
def fRd_clear (t : SM) : OR :=
  hPutI t 4 10 1 0 fun t1 =>
  rV t1
def F_49 (as : List Value) (t : SM) : OR := match as with
  | [.ref z0] => (match Nat.beq z0 10 with | true => fRd_clear t | false => none)
  | _ => none
/-! EveryMapWrong$Reader.byteAt(I)I -/
def fRd_byteAt (t : SM) (a : Int32) : OR :=
  if a < 0 then rI 256 t
  else hGetI t 4 10 1 fun size1 =>
  if size1 ≤ a then rI 256 t
  else hGetC t 4 10 0 11 <|
  hALen t 11 fun n2 =>
  if n2 ≤ a then rI 256 t
  else hGetC t 4 10 0 11 <|
  hALd t 11 a fun e3 =>
  rI e3 t
def F_62 (as : List Value) (t : SM) : OR := match as with
  | [.ref z0, .int a] => (match Nat.beq z0 10 with | true => fRd_byteAt t a | false => none)
  | _ => none
/-! EveryMapWrong$Reader.isLetter(I)Z -/
def fRd_isLetter (t : SM) (a : Int32) : OR :=
  if a < 97 then rI 0 t
  else if 122 < a then rI 0 t
  else rI 1 t
def F_63 (as : List Value) (t : SM) : OR := match as with
  | [.int a] => fRd_isLetter t a
  | _ => none
/-! EveryMapWrong$Reader.spelling(I)Ljava/lang/String; -/
def fRd_spelling (t : SM) (a : Int32) : OR :=
  if a = 300 then rT 1 t
  else if a = 301 then rT 2 t
  else if a = 302 then rT 3 t
  else if a = 303 then rT 4 t
  else if a = 304 then rT 5 t
  else if a = 305 then rT 6 t
  else if a = 306 then rT 7 t
  else if a = 307 then rT 8 t
  else if a = 308 then rT 9 t
  else if a = 309 then rT 10 t
  else if a = 310 then rT 11 t
  else rT 12 t
def F_67 (as : List Value) (t : SM) : OR := match as with
  | [.int a] => fRd_spelling t a
  | _ => none
/-! EveryMapWrong$Reader.standsThere(Ljava/lang/String;)Z -/
def fRd_standsThere_20 (r20 : SM → UInt32 → Int32 → OR) (t : SM) (v1 : UInt32) (v2 : Int32) : OR :=
  hTc 0 1 v1 <| bI (fjS_length t v1) fun length2 t1 =>
  if length2 ≤ v2 then rI 1 t1
  else hGetI t1 4 10 5 fun tokenAt3 =>
  if (tokenAt3 + v2) < 0 then rI 0 t1
  else hGetC t1 4 10 0 11 <|
  hALen t1 11 fun n4 =>
  if n4 ≤ (tokenAt3 + v2) then rI 0 t1
  else hGetC t1 4 10 0 11 <|
  hALd t1 11 (tokenAt3 + v2) fun e5 =>
  hTc 1 1 v1 <| bI (fjS_charAt t1 v1 v2) fun charAt7 t6 =>
  if e5 = charAt7 then r20 t6 v1 (v2 + 1)
  else rI 0 t6
def fRd_standsThere_l20 : Nat → SM → UInt32 → Int32 → OR
  | 0, _, _, _ => none
  | n + 1, t, v1, v2 => fRd_standsThere_20 (fRd_standsThere_l20 n) t v1 v2
def fRd_standsThere (t : SM) (a : UInt32) : OR :=
  hTc 0 0 a <| bI (fjS_length t a) fun length2 t1 =>
  hGetI t1 4 10 3 fun at3 =>
  hGetI t1 4 10 5 fun tokenAt4 =>
  if length2 = (at3 - tokenAt4) then fRd_standsThere_l20 1000000 t1 a 0
  else rI 0 t1
def F_66 (as : List Value) (t : SM) : OR := match as with
  | [.ref z0, .float a] => (match Nat.beq z0 10 with | true => fRd_standsThere t a | false => none)
  | _ => none
/-! EveryMapWrong$Reader.fail()V -/
def fRd_fail (t : SM) : OR :=
  hGetI t 4 10 2 fun fault1 =>
  if 0 ≤ fault1 then hPutI t 4 10 4 257 fun t2 =>
    rV t2
  else hGetI t 4 10 5 fun tokenAt3 =>
  hPutI t 4 10 2 tokenAt3 fun t4 =>
  hPutI t4 4 10 4 257 fun t5 =>
  rV t5
def F_53 (as : List Value) (t : SM) : OR := match as with
  | [.ref z0] => (match Nat.beq z0 10 with | true => fRd_fail t | false => none)
  | _ => none
/-! EveryMapWrong$Reader.readWord()V -/
def fRd_readWord_72 (t : SM) : OR :=
  hRecv t 4 10 <| bV (fRd_fail t) fun t1 =>
  rV t1
def fRd_readWord_60 (t : SM) (v1 : Int32) : OR :=
  hPutI t 4 10 4 v1 fun t1 =>
  rV t1
def fRd_readWord_42 (k60 : SM → Int32 → OR) (k72 : SM → OR) (r42 : SM → Int32 → OR) (t : SM) (v1 : Int32) : OR :=
  if 311 < v1 then k72 t
  else bT (fRd_spelling t v1) fun w2 t1 =>
  hRecv t1 4 10 <| bI (fRd_standsThere t1 w2) fun standsThere4 t3 =>
  if standsThere4 = 0 then r42 t3 (v1 + 1)
  else k60 t3 v1
def fRd_readWord_l42 (k60 : SM → Int32 → OR) (k72 : SM → OR) : Nat → SM → Int32 → OR
  | 0, _, _ => none
  | n + 1, t, v1 => fRd_readWord_42 k60 k72 (fRd_readWord_l42 k60 k72 n) t v1
def fRd_readWord_38 (t : SM) : OR :=
  fRd_readWord_l42 (fun t u1 => fRd_readWord_60 t u1) (fun t => fRd_readWord_72 t) 1000000 t 300
def fRd_readWord_0 (k38 : SM → OR) (r0 : SM → OR) (t : SM) : OR :=
  hGetI t 4 10 3 fun at1 =>
  hGetI t 4 10 1 fun size2 =>
  if size2 ≤ at1 then k38 t
  else hGetI t 4 10 3 fun at3 =>
  hRecv t 4 10 <| bI (fRd_byteAt t at3) fun byteAt5 t4 =>
  bI (fRd_isLetter t4 byteAt5) fun isLetter7 t6 =>
  if isLetter7 = 0 then k38 t6
  else hGetI t6 4 10 3 fun at8 =>
  hPutI t6 4 10 3 (at8 + 1) fun t9 =>
  r0 t9
def fRd_readWord_l0 (k38 : SM → OR) : Nat → SM → OR
  | 0, _ => none
  | n + 1, t => fRd_readWord_0 k38 (fRd_readWord_l0 k38 n) t
def fRd_readWord (t : SM) : OR :=
  fRd_readWord_l0 (fun t => fRd_readWord_38 t) 1000000 t
def F_65 (as : List Value) (t : SM) : OR := match as with
  | [.ref z0] => (match Nat.beq z0 10 with | true => fRd_readWord t | false => none)
  | _ => none
/-! EveryMapWrong$Reader.isDigit(I)Z -/
def fRd_isDigit (t : SM) (a : Int32) : OR :=
  if a < 48 then rI 0 t
  else if 57 < a then rI 0 t
  else rI 1 t
def F_64 (as : List Value) (t : SM) : OR := match as with
  | [.int a] => fRd_isDigit t a
  | _ => none
/-! EveryMapWrong$Reader.readNumber()V -/
def fRd_readNumber_66 (t : SM) : OR :=
  hPutI t 4 10 4 258 fun t1 =>
  hGetI t1 4 10 3 fun at2 =>
  hGetI t1 4 10 5 fun tokenAt3 =>
  if (at2 - tokenAt3) ≤ 4 then rV t1
  else hRecv t1 4 10 <| bV (fRd_fail t1) fun t4 =>
  rV t4
def fRd_readNumber_5 (k66 : SM → OR) (r5 : SM → OR) (t : SM) : OR :=
  hGetI t 4 10 3 fun at1 =>
  hGetI t 4 10 1 fun size2 =>
  if size2 ≤ at1 then k66 t
  else hGetI t 4 10 3 fun at3 =>
  hRecv t 4 10 <| bI (fRd_byteAt t at3) fun byteAt5 t4 =>
  bI (fRd_isDigit t4 byteAt5) fun isDigit7 t6 =>
  if isDigit7 = 0 then k66 t6
  else hGetI t6 4 10 6 fun number8 =>
  hGetI t6 4 10 3 fun at9 =>
  hRecv t6 4 10 <| bI (fRd_byteAt t6 at9) fun byteAt11 t10 =>
  hPutI t10 4 10 6 (((number8 * 10) + byteAt11) - 48) fun t12 =>
  hGetI t12 4 10 3 fun at13 =>
  hPutI t12 4 10 3 (at13 + 1) fun t14 =>
  r5 t14
def fRd_readNumber_l5 (k66 : SM → OR) : Nat → SM → OR
  | 0, _ => none
  | n + 1, t => fRd_readNumber_5 k66 (fRd_readNumber_l5 k66 n) t
def fRd_readNumber (t : SM) : OR :=
  hPutI t 4 10 6 0 fun t1 =>
  fRd_readNumber_l5 (fun t => fRd_readNumber_66 t) 1000000 t1
def F_68 (as : List Value) (t : SM) : OR := match as with
  | [.ref z0] => (match Nat.beq z0 10 with | true => fRd_readNumber t | false => none)
  | _ => none
/-! EveryMapWrong$Reader.readSign(I)V -/
def fRd_readSign (t : SM) (a : Int32) : OR :=
  hTc 1 0 13 <| bI (fjS_indexOf t 13 (UInt32.toInt32 (Int32.toUInt32 a % 65536))) fun indexOf2 t1 =>
  if 0 ≤ indexOf2 then hPutI t1 4 10 4 a fun t3 =>
    hGetI t3 4 10 3 fun at4 =>
    hPutI t3 4 10 3 (at4 + 1) fun t5 =>
    rV t5
  else hRecv t1 4 10 <| bV (fRd_fail t1) fun t6 =>
  rV t6
def F_69 (as : List Value) (t : SM) : OR := match as with
  | [.ref z0, .int a] => (match Nat.beq z0 10 with | true => fRd_readSign t a | false => none)
  | _ => none
/-! EveryMapWrong$Reader.advance()V -/
def fRd_advance_50 (t : SM) : OR :=
  hGetI t 4 10 3 fun at1 =>
  hPutI t 4 10 5 at1 fun t2 =>
  hGetI t2 4 10 3 fun at3 =>
  hRecv t2 4 10 <| bI (fRd_byteAt t2 at3) fun byteAt5 t4 =>
  if byteAt5 = 256 then hPutI t4 4 10 4 256 fun t13 =>
  rV t13
  else bI (fRd_isLetter t4 byteAt5) fun isLetter7 t6 =>
    if isLetter7 = 0 then bI (fRd_isDigit t6 byteAt5) fun isDigit9 t8 =>
      if isDigit9 = 0 then hRecv t8 4 10 <| bV (fRd_readSign t8 byteAt5) fun t10 =>
        rV t10
      else hRecv t8 4 10 <| bV (fRd_readNumber t8) fun t11 =>
      rV t11
    else hRecv t6 4 10 <| bV (fRd_readWord t6) fun t12 =>
    rV t12
def fRd_advance_0 (k50 : SM → OR) (r0 : SM → OR) (t : SM) : OR :=
  hGetI t 4 10 3 fun at1 =>
  hGetI t 4 10 1 fun size2 =>
  if size2 ≤ at1 then k50 t
  else hGetI t 4 10 3 fun at3 =>
  hRecv t 4 10 <| bI (fRd_byteAt t at3) fun byteAt5 t4 =>
  if byteAt5 = 32 then hGetI t4 4 10 3 fun at6 =>
    hPutI t4 4 10 3 (at6 + 1) fun t7 =>
    r0 t7
  else hGetI t4 4 10 3 fun at8 =>
  hRecv t4 4 10 <| bI (fRd_byteAt t4 at8) fun byteAt10 t9 =>
  if byteAt10 = 10 then hGetI t9 4 10 3 fun at11 =>
  hPutI t9 4 10 3 (at11 + 1) fun t12 =>
  r0 t12
  else k50 t9
def fRd_advance_l0 (k50 : SM → OR) : Nat → SM → OR
  | 0, _ => none
  | n + 1, t => fRd_advance_0 k50 (fRd_advance_l0 k50 n) t
def fRd_advance (t : SM) : OR :=
  fRd_advance_l0 (fun t => fRd_advance_50 t) 1000000 t
def F_61 (as : List Value) (t : SM) : OR := match as with
  | [.ref z0] => (match Nat.beq z0 10 with | true => fRd_advance t | false => none)
  | _ => none
/-! EveryMapWrong$Reader.accept(I)V -/
def fRd_accept (t : SM) (a : Int32) : OR :=
  hGetI t 4 10 4 fun token1 =>
  if token1 = a then hRecv t 4 10 <| bV (fRd_advance t) fun t3 =>
  rV t3
  else hRecv t 4 10 <| bV (fRd_fail t) fun t2 =>
    rV t2
def F_52 (as : List Value) (t : SM) : OR := match as with
  | [.ref z0, .int a] => (match Nat.beq z0 10 with | true => fRd_accept t a | false => none)
  | _ => none
/-! EveryMapWrong$Reader.emit(I)V -/
def fRd_emit (t : SM) (a : Int32) : OR :=
  hGetI t 4 10 8 fun codeSize1 =>
  if codeSize1 < 0 then rV t
  else hGetI t 4 10 8 fun codeSize2 =>
  hGetC t 4 10 7 12 <|
  hALen t 12 fun n3 =>
  if n3 ≤ codeSize2 then rV t
  else hGetC t 4 10 7 12 <|
  hGetI t 4 10 8 fun codeSize4 =>
  hASt t 12 codeSize4 a fun t5 =>
  hGetI t5 4 10 8 fun codeSize6 =>
  hPutI t5 4 10 8 (codeSize6 + 1) fun t7 =>
  rV t7
def F_54 (as : List Value) (t : SM) : OR := match as with
  | [.ref z0, .int a] => (match Nat.beq z0 10 with | true => fRd_emit t a | false => none)
  | _ => none
/-! EveryMapWrong$Reader.single(I)V -/
def fRd_single_100 (R : FT) (t : SM) (v1 : Int32) : OR :=
  hGetI t 4 10 4 fun token1 =>
  if token1 = 40 then if 5 ≤ v1 then hRecv t 4 10 <| bV (fRd_fail t) fun t3 =>
    rV t3
  else hRecv t 4 10 <| bV (fRd_advance t) fun t4 =>
  hRecv t4 4 10 <| bV (atF 55 [.ref 10, .int (v1 + 1)] t4 R) fun t5 =>
  hRecv t5 4 10 <| bV (fRd_accept t5 41) fun t6 =>
  rV t6
  else hRecv t 4 10 <| bV (fRd_fail t) fun t2 =>
    rV t2
def fRd_single_67 (R : FT) (t : SM) (v1 : Int32) : OR :=
  hGetI t 4 10 4 fun token1 =>
  if token1 = 45 then if 5 ≤ v1 then fRd_single_100 R t v1
  else hRecv t 4 10 <| bV (fRd_advance t) fun t2 =>
  hRecv t2 4 10 <| bV (atF 60 [.ref 10, .int (v1 + 1)] t2 R) fun t3 =>
  hRecv t3 4 10 <| bV (fRd_emit t3 (-1)) fun t4 =>
  rV t4
  else fRd_single_100 R t v1
def fRd_single (R : FT) (t : SM) (a : Int32) : OR :=
  hGetI t 4 10 4 fun token1 =>
  if token1 = 258 then hGetI t 4 10 6 fun number7 =>
  hRecv t 4 10 <| bV (fRd_emit t number7) fun t8 =>
  hRecv t8 4 10 <| bV (fRd_advance t8) fun t9 =>
  rV t9
  else hGetI t 4 10 4 fun token2 =>
    if token2 < 306 then fRd_single_67 R t a
    else hGetI t 4 10 4 fun token3 =>
    if 311 < token3 then fRd_single_67 R t a
    else hGetI t 4 10 4 fun token4 =>
    hRecv t 4 10 <| bV (fRd_emit t ((-20) - (token4 - 306))) fun t5 =>
    hRecv t5 4 10 <| bV (fRd_advance t5) fun t6 =>
    rV t6
def F_60 (R : FT) (as : List Value) (t : SM) : OR := match as with
  | [.ref z0, .int a] => (match Nat.beq z0 10 with | true => fRd_single R t a | false => none)
  | _ => none
/-! EveryMapWrong$Reader.product(I)V -/
def fRd_product_7 (R : FT) (r7 : SM → Int32 → Int32 → OR) (t : SM) (v1 : Int32) (v2 : Int32) : OR :=
  if 160 ≤ v2 then rV t
  else hGetI t 4 10 4 fun token1 =>
  if token1 = 42 then hRecv t 4 10 <| bV (fRd_advance t) fun t2 =>
  hRecv t2 4 10 <| bV (atF 60 [.ref 10, .int v1] t2 R) fun t3 =>
  hRecv t3 4 10 <| bV (fRd_emit t3 (-3)) fun t4 =>
  r7 t4 v1 (v2 + 1)
  else rV t
def fRd_product_l7 (R : FT) : Nat → SM → Int32 → Int32 → OR
  | 0, _, _, _ => none
  | n + 1, t, v1, v2 => fRd_product_7 R (fRd_product_l7 R n) t v1 v2
def fRd_product (R : FT) (t : SM) (a : Int32) : OR :=
  hRecv t 4 10 <| bV (atF 60 [.ref 10, .int a] t R) fun t1 =>
  fRd_product_l7 R 1000000 t1 a 0
def F_59 (R : FT) (as : List Value) (t : SM) : OR := match as with
  | [.ref z0, .int a] => (match Nat.beq z0 10 with | true => fRd_product R t a | false => none)
  | _ => none
/-! EveryMapWrong$Reader.sum(I)V -/
def fRd_sum_32 (R : FT) (r7 : SM → Int32 → Int32 → OR) (t : SM) (v1 : Int32) (v2 : Int32) : OR :=
  hGetI t 4 10 4 fun token1 =>
  if token1 = 43 then hRecv t 4 10 <| bV (fRd_advance t) fun t5 =>
  hRecv t5 4 10 <| bV (atF 59 [.ref 10, .int v1] t5 R) fun t6 =>
  hRecv t6 4 10 <| bV (fRd_emit t6 (-4)) fun t7 =>
  r7 t7 v1 (v2 + 1)
  else hRecv t 4 10 <| bV (fRd_advance t) fun t2 =>
    hRecv t2 4 10 <| bV (atF 59 [.ref 10, .int v1] t2 R) fun t3 =>
    hRecv t3 4 10 <| bV (fRd_emit t3 (-5)) fun t4 =>
    r7 t4 v1 (v2 + 1)
def fRd_sum_7 (R : FT) (r7 : SM → Int32 → Int32 → OR) (t : SM) (v1 : Int32) (v2 : Int32) : OR :=
  if 160 ≤ v2 then rV t
  else hGetI t 4 10 4 fun token1 =>
  if token1 = 43 then fRd_sum_32 R r7 t v1 v2
  else hGetI t 4 10 4 fun token2 =>
  if token2 = 45 then fRd_sum_32 R r7 t v1 v2
  else rV t
def fRd_sum_l7 (R : FT) : Nat → SM → Int32 → Int32 → OR
  | 0, _, _, _ => none
  | n + 1, t, v1, v2 => fRd_sum_7 R (fRd_sum_l7 R n) t v1 v2
def fRd_sum (R : FT) (t : SM) (a : Int32) : OR :=
  hRecv t 4 10 <| bV (atF 59 [.ref 10, .int a] t R) fun t1 =>
  fRd_sum_l7 R 1000000 t1 a 0
def F_58 (R : FT) (as : List Value) (t : SM) : OR := match as with
  | [.ref z0, .int a] => (match Nat.beq z0 10 with | true => fRd_sum R t a | false => none)
  | _ => none
/-! EveryMapWrong$Reader.negation(I)V -/
def fRd_negation_56 (R : FT) (t : SM) (v1 : Int32) : OR :=
  hGetI t 4 10 4 fun token1 =>
  if token1 = 60 then hRecv t 4 10 <| bV (fRd_advance t) fun t5 =>
  hRecv t5 4 10 <| bV (atF 58 [.ref 10, .int v1] t5 R) fun t6 =>
  hRecv t6 4 10 <| bV (fRd_emit t6 (-6)) fun t7 =>
  rV t7
  else hRecv t 4 10 <| bV (fRd_advance t) fun t2 =>
    hRecv t2 4 10 <| bV (atF 58 [.ref 10, .int v1] t2 R) fun t3 =>
    hRecv t3 4 10 <| bV (fRd_emit t3 (-7)) fun t4 =>
    rV t4
def fRd_negation_33 (R : FT) (t : SM) (v1 : Int32) : OR :=
  hRecv t 4 10 <| bV (atF 58 [.ref 10, .int v1] t R) fun t1 =>
  hGetI t1 4 10 4 fun token2 =>
  if token2 = 60 then fRd_negation_56 R t1 v1
  else hGetI t1 4 10 4 fun token3 =>
  if token3 = 61 then fRd_negation_56 R t1 v1
  else rV t1
def fRd_negation (R : FT) (t : SM) (a : Int32) : OR :=
  hGetI t 4 10 4 fun token1 =>
  if token1 = 305 then if 5 ≤ a then fRd_negation_33 R t a
  else hRecv t 4 10 <| bV (fRd_advance t) fun t2 =>
  hRecv t2 4 10 <| bV (atF 57 [.ref 10, .int (a + 1)] t2 R) fun t3 =>
  hRecv t3 4 10 <| bV (fRd_emit t3 (-2)) fun t4 =>
  rV t4
  else fRd_negation_33 R t a
def F_57 (R : FT) (as : List Value) (t : SM) : OR := match as with
  | [.ref z0, .int a] => (match Nat.beq z0 10 with | true => fRd_negation R t a | false => none)
  | _ => none
/-! EveryMapWrong$Reader.both(I)V -/
def fRd_both_7 (R : FT) (r7 : SM → Int32 → Int32 → OR) (t : SM) (v1 : Int32) (v2 : Int32) : OR :=
  if 160 ≤ v2 then rV t
  else hGetI t 4 10 4 fun token1 =>
  if token1 = 304 then hRecv t 4 10 <| bV (fRd_advance t) fun t2 =>
  hRecv t2 4 10 <| bV (atF 57 [.ref 10, .int v1] t2 R) fun t3 =>
  hRecv t3 4 10 <| bV (fRd_emit t3 (-8)) fun t4 =>
  r7 t4 v1 (v2 + 1)
  else rV t
def fRd_both_l7 (R : FT) : Nat → SM → Int32 → Int32 → OR
  | 0, _, _, _ => none
  | n + 1, t, v1, v2 => fRd_both_7 R (fRd_both_l7 R n) t v1 v2
def fRd_both (R : FT) (t : SM) (a : Int32) : OR :=
  hRecv t 4 10 <| bV (atF 57 [.ref 10, .int a] t R) fun t1 =>
  fRd_both_l7 R 1000000 t1 a 0
def F_56 (R : FT) (as : List Value) (t : SM) : OR := match as with
  | [.ref z0, .int a] => (match Nat.beq z0 10 with | true => fRd_both R t a | false => none)
  | _ => none
/-! EveryMapWrong$Reader.either(I)V -/
def fRd_either_7 (R : FT) (r7 : SM → Int32 → Int32 → OR) (t : SM) (v1 : Int32) (v2 : Int32) : OR :=
  if 160 ≤ v2 then rV t
  else hGetI t 4 10 4 fun token1 =>
  if token1 = 303 then hRecv t 4 10 <| bV (fRd_advance t) fun t2 =>
  hRecv t2 4 10 <| bV (atF 56 [.ref 10, .int v1] t2 R) fun t3 =>
  hRecv t3 4 10 <| bV (fRd_emit t3 (-9)) fun t4 =>
  r7 t4 v1 (v2 + 1)
  else rV t
def fRd_either_l7 (R : FT) : Nat → SM → Int32 → Int32 → OR
  | 0, _, _, _ => none
  | n + 1, t, v1, v2 => fRd_either_7 R (fRd_either_l7 R n) t v1 v2
def fRd_either (R : FT) (t : SM) (a : Int32) : OR :=
  hRecv t 4 10 <| bV (atF 56 [.ref 10, .int a] t R) fun t1 =>
  fRd_either_l7 R 1000000 t1 a 0
def F_55 (R : FT) (as : List Value) (t : SM) : OR := match as with
  | [.ref z0, .int a] => (match Nat.beq z0 10 with | true => fRd_either R t a | false => none)
  | _ => none
section
def FR : Nat → FT
  | 0 => []
  | n + 1 => [(55, F_55 (FR n)), (56, F_56 (FR n)), (57, F_57 (FR n)), (58, F_58 (FR n)), (59, F_59 (FR n)), (60, F_60 (FR n))]
end
/-! EveryMapWrong$Reader.clause(I)[I -/
def fRd_clause (t : SM) (a : Int32) : OR :=
  hPutI t 4 10 8 0 fun t1 =>
  hRecv t1 4 10 <| bV (fRd_accept t1 a) fun t2 =>
  hRecv t2 4 10 <| bV (atF 55 [.ref 10, .int 0] t2 (FR 45)) fun t3 =>
  hRecv t3 4 10 <| bV (fRd_accept t3 59) fun t4 =>
  hGetC t4 4 10 7 12 <|
  hGetI t4 4 10 8 fun codeSize5 =>
  bI (fjM_min t4 codeSize5 160) fun min7 t6 =>
  bI (fjM_max t6 0 min7) fun max9 t8 =>
  bQ (fjA_copyOf t8 12 max9) (fun t10 => rN t10) fun q11 t10 =>
  rR q11 t10
def F_51 (as : List Value) (t : SM) : OR := match as with
  | [.ref z0, .int a] => (match Nat.beq z0 10 with | true => fRd_clause t a | false => none)
  | _ => none
/-! EveryMapWrong$Text.push(I)V -/
def fTx_push (t : SM) (o : Nat) (a : Int32) : OR :=
  hGetI t 8 o 4 fun height1 =>
  if height1 < 0 then rV t
  else hGetI t 8 o 4 fun height2 =>
  hGetR t 8 o 3 (none) fun stack3 =>
  hALen t stack3 fun n4 =>
  if n4 ≤ height2 then rV t
  else hGetR t 8 o 3 (hGetI t 8 o 4 fun height6 =>
    none) fun stack5 =>
  hGetI t 8 o 4 fun height8 =>
  hASt t stack5 height8 a fun t9 =>
  hGetI t9 8 o 4 fun height10 =>
  hPutI t9 8 o 4 (height10 + 1) fun t11 =>
  rV t11
def F_95 (as : List Value) (t : SM) : OR := match as with
  | [.ref o, .int a] => fTx_push t o a
  | _ => none
/-! EveryMapWrong$Text.pop()I -/
def fTx_pop (t : SM) (o : Nat) : OR :=
  hGetI t 8 o 4 fun height1 =>
  if height1 < 1 then rI 0 t
  else hGetI t 8 o 4 fun height2 =>
  hGetR t 8 o 3 (none) fun stack3 =>
  hALen t stack3 fun n4 =>
  if height2 ≤ n4 then hGetI t 8 o 4 fun height5 =>
    hPutI t 8 o 4 (height5 - 1) fun t6 =>
    hGetR t6 8 o 3 (hGetI t6 8 o 4 fun height8 =>
      none) fun stack7 =>
    hGetI t6 8 o 4 fun height10 =>
    hALd t6 stack7 height10 fun e11 =>
    rI e11 t6
  else rI 0 t
def F_96 (as : List Value) (t : SM) : OR := match as with
  | [.ref o] => fTx_pop t o
  | _ => none
/-! EveryMapWrong$Text.joined(III)I -/
def fTx_joined (t : SM) (a : Int32) (b : Int32) (c : Int32) : OR :=
  if a = (-8) then if b = 0 then rI 0 t
    else if c = 0 then rI 0 t
    else rI 1 t
  else if a = (-7) then if b = c then rI 1 t
    else rI 0 t
  else if a = (-6) then if c ≤ b then rI 0 t
    else rI 1 t
  else if a = (-5) then rI (b - c) t
  else if a = (-4) then rI (b + c) t
  else if a = (-3) then rI (b * c) t
  else if b = 0 then if c = 0 then rI 0 t
  else rI 1 t
  else rI 1 t
def F_94 (as : List Value) (t : SM) : OR := match as with
  | [.int a, .int b, .int c] => fTx_joined t a b c
  | _ => none
/-! EveryMapWrong$Text.valueOf([IIII)I -/
def fTx_valueOf_152 (t : SM) (v0 : Nat) : OR :=
  hRecv t 8 v0 <| bI (fTx_pop t v0) fun pop2 t1 =>
  rI pop2 t1
def fTx_valueOf_8 (k152 : SM → Nat → OR) (r8 : SM → Nat → Nat → Int32 → Int32 → Int32 → Int32 → OR) (t : SM) (v0 : Nat) (v1 : Nat) (v2 : Int32) (v3 : Int32) (v4 : Int32) (v5 : Int32) : OR :=
  hALen t v1 fun n1 =>
  if n1 ≤ v5 then k152 t v0
  else hALd t v1 v5 fun e2 =>
  if e2 < 0 then if (-20) < e2 then if e2 = (-1) then hRecv t 8 v0 <| bI (fTx_pop t v0) fun pop15 t14 =>
      hRecv t14 8 v0 <| bV (fTx_push t14 v0 (-pop15)) fun t16 =>
      r8 t16 v0 v1 v2 v3 v4 (v5 + 1)
      else if e2 = (-2) then hRecv t 8 v0 <| bI (fTx_pop t v0) fun pop11 t10 =>
        if pop11 = 0 then hRecv t10 8 v0 <| bV (fTx_push t10 v0 1) fun t13 =>
        r8 t13 v0 v1 v2 v3 v4 (v5 + 1)
        else hRecv t10 8 v0 <| bV (fTx_push t10 v0 0) fun t12 =>
          r8 t12 v0 v1 v2 v3 v4 (v5 + 1)
        else hRecv t 8 v0 <| bI (fTx_pop t v0) fun pop4 t3 =>
          hRecv t3 8 v0 <| bI (fTx_pop t3 v0) fun pop6 t5 =>
          bI (fTx_joined t5 e2 pop6 pop4) fun joined8 t7 =>
          hRecv t7 8 v0 <| bV (fTx_push t7 v0 joined8) fun t9 =>
          r8 t9 v0 v1 v2 v3 v4 (v5 + 1)
    else if e2 = (-24) then hRecv t 8 v0 <| bV (fTx_push t v0 v3) fun t19 =>
    r8 t19 v0 v1 v2 v3 v4 (v5 + 1)
    else if e2 = (-25) then hRecv t 8 v0 <| bV (fTx_push t v0 v4) fun t18 =>
      r8 t18 v0 v1 v2 v3 v4 (v5 + 1)
      else hRecv t 8 v0 <| bV (fTx_push t v0 ((v2 >>> (((-20) - e2) &&& 31)) &&& 1)) fun t17 =>
        r8 t17 v0 v1 v2 v3 v4 (v5 + 1)
  else hRecv t 8 v0 <| bV (fTx_push t v0 e2) fun t20 =>
  r8 t20 v0 v1 v2 v3 v4 (v5 + 1)
def fTx_valueOf_l8 (k152 : SM → Nat → OR) : Nat → SM → Nat → Nat → Int32 → Int32 → Int32 → Int32 → OR
  | 0, _, _, _, _, _, _, _ => none
  | n + 1, t, v0, v1, v2, v3, v4, v5 => fTx_valueOf_8 k152 (fTx_valueOf_l8 k152 n) t v0 v1 v2 v3 v4 v5
def fTx_valueOf (t : SM) (o : Nat) (a : Nat) (b : Int32) (c : Int32) (d : Int32) : OR :=
  hPutI t 8 o 4 0 fun t1 =>
  fTx_valueOf_l8 (fun t u0 => fTx_valueOf_152 t u0) 1000000 t1 o a b c d 0
def F_93 (as : List Value) (t : SM) : OR := match as with
  | [.ref o, .ref a, .int b, .int c, .int d] => fTx_valueOf t o a b c d
  | _ => none
/-! EveryMapWrong$Text.<init>([I[I[I)V -/
def fTx_init_72 (t : SM) (v0 : Nat) (v4 : Int32) : OR :=
  hPutI t 8 v0 5 v4 fun t1 =>
  rV t1
def fTx_init_34 (k72 : SM → Nat → Int32 → OR) (r34 : SM → Nat → Nat → Int32 → Int32 → OR) (t : SM) (v0 : Nat) (v1 : Nat) (v4 : Int32) (v5 : Int32) : OR :=
  if 16 ≤ v5 then k72 t v0 v4
  else hRecv t 8 v0 <| bI (fTx_valueOf t v0 v1 v5 0 0) fun valueOf2 t1 =>
  if valueOf2 = 0 then r34 t1 v0 v1 (v4 ||| 0) (v5 + 1)
  else r34 t1 v0 v1 (v4 ||| ((1 : Int32) <<< (v5 &&& 31))) (v5 + 1)
def fTx_init_l34 (k72 : SM → Nat → Int32 → OR) : Nat → SM → Nat → Nat → Int32 → Int32 → OR
  | 0, _, _, _, _, _ => none
  | n + 1, t, v0, v1, v4, v5 => fTx_init_34 k72 (fTx_init_l34 k72 n) t v0 v1 v4 v5
def fTx_init (t : SM) (o : Nat) (a : Nat) (b : Nat) (c : Nat) : OR :=
  hNewA t 20 160 fun q1 t2 =>
  hPutR t2 8 o 3 (some q1) fun t3 =>
  hPutR t3 8 o 0 (some a) fun t4 =>
  hPutR t4 8 o 1 (some b) fun t5 =>
  hPutR t5 8 o 2 (some c) fun t6 =>
  fTx_init_l34 (fun t u0 u4 => fTx_init_72 t u0 u4) 1000000 t6 o a 0 0
def F_89 (as : List Value) (t : SM) : OR := match as with
  | [.ref o, .ref a, .ref b, .ref c] => fTx_init t o a b c
  | _ => none
/-! EveryMapWrong$Reader.readText()LEveryMapWrong$Text; -/
def fRd_readText (t : SM) : OR :=
  hPutI t 4 10 3 0 fun t1 =>
  hPutI t1 4 10 2 (-1) fun t2 =>
  hRecv t2 4 10 <| bV (fRd_advance t2) fun t3 =>
  hRecv t3 4 10 <| bQ (fRd_clause t3 300) (fun t4 => hRecv t4 4 10 <| bQ (fRd_clause t4 301) (fun t6 => hRecv t6 4 10 <| bQ (fRd_clause t6 302) (fun t8 => hGetI t8 4 10 4 fun token10 =>
        if token10 = 256 then hGetI t8 4 10 2 fun fault11 =>
          if fault11 < 0 then hNew t8 8 6 fun q12 t13 =>
            hRecv t13 8 q12 <| bV (F_89 [.ref q12, .null, .null, .null] t13) fun t14 =>
            rR q12 t14
          else rN t8
        else hRecv t8 4 10 <| bV (fRd_fail t8) fun t15 =>
        hGetI t15 4 10 2 fun fault16 =>
        if fault16 < 0 then hNew t15 8 6 fun q17 t18 =>
          hRecv t18 8 q17 <| bV (F_89 [.ref q17, .null, .null, .null] t18) fun t19 =>
          rR q17 t19
        else rN t15) fun q9 t8 =>
      hGetI t8 4 10 4 fun token20 =>
      if token20 = 256 then hGetI t8 4 10 2 fun fault21 =>
        if fault21 < 0 then hNew t8 8 6 fun q22 t23 =>
          hRecv t23 8 q22 <| bV (F_89 [.ref q22, .null, .null, .ref q9] t23) fun t24 =>
          rR q22 t24
        else rN t8
      else hRecv t8 4 10 <| bV (fRd_fail t8) fun t25 =>
      hGetI t25 4 10 2 fun fault26 =>
      if fault26 < 0 then hNew t25 8 6 fun q27 t28 =>
        hRecv t28 8 q27 <| bV (F_89 [.ref q27, .null, .null, .ref q9] t28) fun t29 =>
        rR q27 t29
      else rN t25) fun q7 t6 =>
    hRecv t6 4 10 <| bQ (fRd_clause t6 302) (fun t30 => hGetI t30 4 10 4 fun token32 =>
      if token32 = 256 then hGetI t30 4 10 2 fun fault33 =>
        if fault33 < 0 then hNew t30 8 6 fun q34 t35 =>
          hRecv t35 8 q34 <| bV (F_89 [.ref q34, .null, .ref q7, .null] t35) fun t36 =>
          rR q34 t36
        else rN t30
      else hRecv t30 4 10 <| bV (fRd_fail t30) fun t37 =>
      hGetI t37 4 10 2 fun fault38 =>
      if fault38 < 0 then hNew t37 8 6 fun q39 t40 =>
        hRecv t40 8 q39 <| bV (F_89 [.ref q39, .null, .ref q7, .null] t40) fun t41 =>
        rR q39 t41
      else rN t37) fun q31 t30 =>
    hGetI t30 4 10 4 fun token42 =>
    if token42 = 256 then hGetI t30 4 10 2 fun fault43 =>
      if fault43 < 0 then hNew t30 8 6 fun q44 t45 =>
        hRecv t45 8 q44 <| bV (F_89 [.ref q44, .null, .ref q7, .ref q31] t45) fun t46 =>
        rR q44 t46
      else rN t30
    else hRecv t30 4 10 <| bV (fRd_fail t30) fun t47 =>
    hGetI t47 4 10 2 fun fault48 =>
    if fault48 < 0 then hNew t47 8 6 fun q49 t50 =>
      hRecv t50 8 q49 <| bV (F_89 [.ref q49, .null, .ref q7, .ref q31] t50) fun t51 =>
      rR q49 t51
    else rN t47) fun q5 t4 =>
  hRecv t4 4 10 <| bQ (fRd_clause t4 301) (fun t52 => hRecv t52 4 10 <| bQ (fRd_clause t52 302) (fun t54 => hGetI t54 4 10 4 fun token56 =>
      if token56 = 256 then hGetI t54 4 10 2 fun fault57 =>
        if fault57 < 0 then hNew t54 8 6 fun q58 t59 =>
          hRecv t59 8 q58 <| bV (F_89 [.ref q58, .ref q5, .null, .null] t59) fun t60 =>
          rR q58 t60
        else rN t54
      else hRecv t54 4 10 <| bV (fRd_fail t54) fun t61 =>
      hGetI t61 4 10 2 fun fault62 =>
      if fault62 < 0 then hNew t61 8 6 fun q63 t64 =>
        hRecv t64 8 q63 <| bV (F_89 [.ref q63, .ref q5, .null, .null] t64) fun t65 =>
        rR q63 t65
      else rN t61) fun q55 t54 =>
    hGetI t54 4 10 4 fun token66 =>
    if token66 = 256 then hGetI t54 4 10 2 fun fault67 =>
      if fault67 < 0 then hNew t54 8 6 fun q68 t69 =>
        hRecv t69 8 q68 <| bV (F_89 [.ref q68, .ref q5, .null, .ref q55] t69) fun t70 =>
        rR q68 t70
      else rN t54
    else hRecv t54 4 10 <| bV (fRd_fail t54) fun t71 =>
    hGetI t71 4 10 2 fun fault72 =>
    if fault72 < 0 then hNew t71 8 6 fun q73 t74 =>
      hRecv t74 8 q73 <| bV (F_89 [.ref q73, .ref q5, .null, .ref q55] t74) fun t75 =>
      rR q73 t75
    else rN t71) fun q53 t52 =>
  hRecv t52 4 10 <| bQ (fRd_clause t52 302) (fun t76 => hGetI t76 4 10 4 fun token78 =>
    if token78 = 256 then hGetI t76 4 10 2 fun fault79 =>
      if fault79 < 0 then hNew t76 8 6 fun q80 t81 =>
        hRecv t81 8 q80 <| bV (F_89 [.ref q80, .ref q5, .ref q53, .null] t81) fun t82 =>
        rR q80 t82
      else rN t76
    else hRecv t76 4 10 <| bV (fRd_fail t76) fun t83 =>
    hGetI t83 4 10 2 fun fault84 =>
    if fault84 < 0 then hNew t83 8 6 fun q85 t86 =>
      hRecv t86 8 q85 <| bV (F_89 [.ref q85, .ref q5, .ref q53, .null] t86) fun t87 =>
      rR q85 t87
    else rN t83) fun q77 t76 =>
  hGetI t76 4 10 4 fun token88 =>
  if token88 = 256 then hGetI t76 4 10 2 fun fault89 =>
    if fault89 < 0 then hNew t76 8 6 fun q90 t91 =>
      hRecv t91 8 q90 <| bV (fTx_init t91 q90 q5 q53 q77) fun t92 =>
      rR q90 t92
    else rN t76
  else hRecv t76 4 10 <| bV (fRd_fail t76) fun t93 =>
  hGetI t93 4 10 2 fun fault94 =>
  if fault94 < 0 then hNew t93 8 6 fun q95 t96 =>
    hRecv t96 8 q95 <| bV (fTx_init t96 q95 q5 q53 q77) fun t97 =>
    rR q95 t97
  else rN t93
def F_50 (as : List Value) (t : SM) : OR := match as with
  | [.ref z0] => (match Nat.beq z0 10 with | true => fRd_readText t | false => none)
  | _ => none
/-! EveryMapWrong$Sheet.<init>()V -/
def fSh_init (t : SM) (o : Nat) : OR :=
  hPutI t 5 o 0 (-1) fun t1 =>
  hNewA t1 20 40 fun q2 t3 =>
  hPutR t3 5 o 2 (some q2) fun t4 =>
  rV t4
def F_70 (as : List Value) (t : SM) : OR := match as with
  | [.ref o] => fSh_init t o
  | _ => none
/-! EveryMapWrong$Sheet.become(II)V -/
def fSh_become (t : SM) (o : Nat) (a : Int32) (b : Int32) : OR :=
  hPutI t 5 o 0 a fun t1 =>
  hPutI t1 5 o 1 b fun t2 =>
  hGetR t2 5 o 2 (bV (F_3 [.null, .int 0] t2) fun t4 =>
    rV t4) fun numbers3 =>
  bV (fjA_fill t2 numbers3 0) fun t5 =>
  rV t5
def F_71 (as : List Value) (t : SM) : OR := match as with
  | [.ref o, .int a, .int b] => fSh_become t o a b
  | _ => none
/-! EveryMapWrong$Sheet.spans(II)Z -/
def fSh_spans (t : SM) (o : Nat) (a : Int32) (b : Int32) : OR :=
  if a < 0 then rI 0 t
  else hGetI t 5 o 1 fun size1 =>
  if (size1 - b) < a then rI 0 t
  else rI 1 t
def F_72 (as : List Value) (t : SM) : OR := match as with
  | [.ref o, .int a, .int b] => fSh_spans t o a b
  | _ => none
/-! EveryMapWrong$Sheet.write(II)V -/
def fSh_write (t : SM) (o : Nat) (a : Int32) (b : Int32) : OR :=
  hGetR t 5 o 2 (hGetI t 5 o 0 fun sort2 =>
    if sort2 = 0 then bV (F_167 [.null, .int a, .int (Int8.toInt32 (Int32.toInt8 b))] t) fun t6 =>
    rV t6
    else hGetI t 5 o 0 fun sort3 =>
      if sort3 = 1 then bV (F_167 [.null, .int a, .int (Int16.toInt32 (Int32.toInt16 b))] t) fun t5 =>
      rV t5
      else bV (F_167 [.null, .int a, .int b] t) fun t4 =>
        rV t4) fun numbers1 =>
  hGetI t 5 o 0 fun sort7 =>
  if sort7 = 0 then bV (fx_setNumber t numbers1 a (Int8.toInt32 (Int32.toInt8 b))) fun t11 =>
  rV t11
  else hGetI t 5 o 0 fun sort8 =>
    if sort8 = 1 then bV (fx_setNumber t numbers1 a (Int16.toInt32 (Int32.toInt16 b))) fun t10 =>
    rV t10
    else bV (fx_setNumber t numbers1 a b) fun t9 =>
      rV t9
def F_73 (as : List Value) (t : SM) : OR := match as with
  | [.ref o, .int a, .int b] => fSh_write t o a b
  | _ => none
/-! EveryMapWrong$Sheet.numberAtPlace(I)I -/
def fSh_numberAtPlace (t : SM) (o : Nat) (a : Int32) : OR :=
  hGetR t 5 o 2 (bI (F_166 [.null, .int a] t) fun numberAt3 t2 =>
    rI numberAt3 t2) fun numbers1 =>
  bI (fx_numberAt t numbers1 a) fun numberAt5 t4 =>
  rI numberAt5 t4
def F_74 (as : List Value) (t : SM) : OR := match as with
  | [.ref o, .int a] => fSh_numberAtPlace t o a
  | _ => none
/-! EveryMapWrong$Street.<init>(IIII)V -/
def fSt_init (t : SM) (o : Nat) (a : Int32) (b : Int32) (c : Int32) (d : Int32) : OR :=
  hPutI t 6 o 0 a fun t1 =>
  hPutI t1 6 o 1 b fun t2 =>
  hPutI t2 6 o 2 c fun t3 =>
  hPutI t3 6 o 3 d fun t4 =>
  rV t4
def F_75 (as : List Value) (t : SM) : OR := match as with
  | [.ref o, .int a, .int b, .int c, .int d] => fSt_init t o a b c d
  | _ => none
/-! EveryMapWrong$Streets.<init>()V -/
def fSs_init (t : SM) : OR :=
  hNewA t 36 12 fun q1 t2 =>
  hPutR t2 7 5 0 (some q1) fun t3 =>
  hNewA t3 20 6 fun q4 t5 =>
  hPutR t5 7 5 2 (some q4) fun t6 =>
  rV t6
def F_79 (as : List Value) (t : SM) : OR := match as with
  | [.ref z0] => (match Nat.beq z0 5 with | true => fSs_init t | false => none)
  | _ => none
/-! EveryMapWrong$Streets.add(IIII)I -/
def fSs_add (t : SM) (a : Int32) (b : Int32) (c : Int32) (d : Int32) : OR :=
  hGetI t 7 5 1 fun size1 =>
  if size1 < 0 then rI (-4) t
  else hGetI t 7 5 1 fun size2 =>
  hGetC t 7 5 0 6 <|
  hALen t 6 fun n3 =>
  if size2 < n3 then hGetC t 7 5 0 6 <|
    hGetI t 7 5 1 fun size4 =>
    hNew t 6 4 fun q5 t6 =>
    hRecv t6 6 q5 <| bV (fSt_init t6 q5 a b c d) fun t7 =>
    hQSt t7 6 6 size4 q5 fun t8 =>
    hGetI t8 7 5 1 fun size9 =>
    hPutI t8 7 5 1 (size9 + 1) fun t10 =>
    hGetI t10 7 5 1 fun size11 =>
    rI (size11 - 1) t10
  else rI (-4) t
def F_81 (as : List Value) (t : SM) : OR := match as with
  | [.ref z0, .int a, .int b, .int c, .int d] => (match Nat.beq z0 5 with | true => fSs_add t a b c d | false => none)
  | _ => none
/-! EveryMapWrong.goalOf(I)I -/
def fx_goalOf (t : SM) (a : Int32) : OR :=
  rI (a - a / 10 * 10) t
def F_161 (as : List Value) (t : SM) : OR := match as with
  | [.int a] => fx_goalOf t a
  | _ => none
/-! EveryMapWrong$Streets.shorten(III)Z -/
def fSs_shorten (t : SM) (a : Int32) (b : Int32) (c : Int32) : OR :=
  hGetC t 7 5 2 7 <|
  bI (fx_numberAt t 7 b) fun numberAt2 t1 =>
  hGetC t1 7 5 2 7 <|
  bI (fx_numberAt t1 7 a) fun numberAt4 t3 =>
  if (numberAt2 + c) < numberAt4 then hGetC t3 7 5 2 7 <|
    bV (fx_setNumber t3 7 a (numberAt2 + c)) fun t5 =>
    rI 1 t5
  else rI 0 t3
def F_86 (as : List Value) (t : SM) : OR := match as with
  | [.ref z0, .int a, .int b, .int c] => (match Nat.beq z0 5 with | true => fSs_shorten t a b c | false => none)
  | _ => none
/-! EveryMapWrong$Streets.measure(II)V -/
def fSs_measure_121 (r23 : SM → Int32 → Int32 → Int32 → OR) (t : SM) (v2 : Int32) (v3 : Int32) (v4 : Int32) : OR :=
  r23 t v2 v3 (v4 + 1)
def fSs_measure_39 (k121 : SM → Int32 → Int32 → Int32 → OR) (r39 : SM → Int32 → Int32 → Int32 → Int32 → OR) (t : SM) (v2 : Int32) (v3 : Int32) (v4 : Int32) (v5 : Int32) : OR :=
  hGetI t 7 5 1 fun size1 =>
  if size1 ≤ v5 then k121 t v2 v3 v4
  else hRecv t 7 5 <| bQ (fSs_streetAt t v5) (fun t2 => r39 t2 v2 v3 v4 (v5 + 1)) fun q3 t2 =>
  if ((v2 >>> (v5 &&& 31)) &&& 1) = 1 then hGetI t2 6 q3 0 fun u4 =>
  hGetI t2 6 q3 1 fun vv5 =>
  hGetI t2 6 q3 3 fun takes6 =>
  hRecv t2 7 5 <| bI (fSs_shorten t2 u4 vv5 takes6) fun shorten8 t7 =>
  hGetI t7 6 q3 1 fun vv9 =>
  hGetI t7 6 q3 0 fun u10 =>
  hGetI t7 6 q3 3 fun takes11 =>
  hRecv t7 7 5 <| bI (fSs_shorten t7 vv9 u10 takes11) fun shorten13 t12 =>
  r39 t12 v2 ((v3 ||| shorten8) ||| shorten13) v4 (v5 + 1)
  else r39 t2 v2 v3 v4 (v5 + 1)
def fSs_measure_l39 (k121 : SM → Int32 → Int32 → Int32 → OR) : Nat → SM → Int32 → Int32 → Int32 → Int32 → OR
  | 0, _, _, _, _, _ => none
  | n + 1, t, v2, v3, v4, v5 => fSs_measure_39 k121 (fSs_measure_l39 k121 n) t v2 v3 v4 v5
def fSs_measure_23 (r23 : SM → Int32 → Int32 → Int32 → OR) (t : SM) (v2 : Int32) (v3 : Int32) (v4 : Int32) : OR :=
  if 6 ≤ v4 then rV t
  else if v3 = 0 then rV t
  else fSs_measure_l39 (fun t u2 u3 u4 => fSs_measure_121 r23 t u2 u3 u4) 1000000 t v2 0 v4 0
def fSs_measure_l23 : Nat → SM → Int32 → Int32 → Int32 → OR
  | 0, _, _, _, _ => none
  | n + 1, t, v2, v3, v4 => fSs_measure_23 (fSs_measure_l23 n) t v2 v3 v4
def fSs_measure (t : SM) (a : Int32) (b : Int32) : OR :=
  hGetC t 7 5 2 7 <|
  bV (fjA_fill t 7 1000000) fun t1 =>
  hGetC t1 7 5 2 7 <|
  bV (fx_setNumber t1 7 a 0) fun t2 =>
  fSs_measure_l23 1000000 t2 b 1 0
def F_85 (as : List Value) (t : SM) : OR := match as with
  | [.ref z0, .int a, .int b] => (match Nat.beq z0 5 with | true => fSs_measure t a b | false => none)
  | _ => none
/-! EveryMapWrong.startOf(I)I -/
def fx_startOf (t : SM) (a : Int32) : OR :=
  rI (a / 10) t
def F_160 (as : List Value) (t : SM) : OR := match as with
  | [.int a] => fx_startOf t a
  | _ => none
/-! EveryMapWrong$Streets.shortest(II)I -/
def fSs_shortest (t : SM) (a : Int32) (b : Int32) : OR :=
  bI (fx_goalOf t a) fun goalOf2 t1 =>
  hRecv t1 7 5 <| bV (fSs_measure t1 goalOf2 b) fun t3 =>
  hGetC t3 7 5 2 7 <|
  bI (fx_startOf t3 a) fun startOf5 t4 =>
  bI (fx_numberAt t4 7 startOf5) fun numberAt7 t6 =>
  if numberAt7 < 1000000 then rI numberAt7 t6
  else rI (-1) t6
def F_84 (as : List Value) (t : SM) : OR := match as with
  | [.ref z0, .int a, .int b] => (match Nat.beq z0 5 with | true => fSs_shortest t a b | false => none)
  | _ => none
/-! EveryMapWrong$Streets.firstOfShortest(II)I -/
def fSs_firstOfShortest_2 (r2 : SM → Int32 → Int32 → Int32 → OR) (t : SM) (v1 : Int32) (v2 : Int32) (v3 : Int32) : OR :=
  hGetI t 7 5 1 fun size1 =>
  if size1 ≤ v3 then rI (-1) t
  else hRecv t 7 5 <| bQ (fSs_streetAt t v3) (fun t2 => r2 t2 v1 v2 (v3 + 1)) fun q3 t2 =>
  if ((v2 >>> (v3 &&& 31)) &&& 1) = 1 then hRecv t2 6 q3 <| bI (fSt_touches t2 q3 v1) fun touches5 t4 =>
  if touches5 = 0 then r2 t4 v1 v2 (v3 + 1)
  else hGetI t4 6 q3 3 fun takes6 =>
  hGetC t4 7 5 2 7 <|
  hRecv t4 6 q3 <| bI (fSt_otherEnd t4 q3 v1) fun otherEnd8 t7 =>
  bI (fx_numberAt t7 7 otherEnd8) fun numberAt10 t9 =>
  hGetC t9 7 5 2 7 <|
  bI (fx_numberAt t9 7 v1) fun numberAt12 t11 =>
  if (takes6 + numberAt10) = numberAt12 then rI v3 t11
  else r2 t11 v1 v2 (v3 + 1)
  else r2 t2 v1 v2 (v3 + 1)
def fSs_firstOfShortest_l2 : Nat → SM → Int32 → Int32 → Int32 → OR
  | 0, _, _, _, _ => none
  | n + 1, t, v1, v2, v3 => fSs_firstOfShortest_2 (fSs_firstOfShortest_l2 n) t v1 v2 v3
def fSs_firstOfShortest (t : SM) (a : Int32) (b : Int32) : OR :=
  fSs_firstOfShortest_l2 1000000 t a b 0
def F_87 (as : List Value) (t : SM) : OR := match as with
  | [.ref z0, .int a, .int b] => (match Nat.beq z0 5 with | true => fSs_firstOfShortest t a b | false => none)
  | _ => none
/-! EveryMapWrong$Streets.walk(III)I -/
def fSs_walk_128 (t : SM) (v4 : Int32) (v5 : Int32) (v7 : Int32) : OR :=
  if v5 = v4 then rI v7 t
  else rI (-1) t
def fSs_walk_33 (k128 : SM → Int32 → Int32 → Int32 → OR) (r33 : SM → Int32 → Int32 → Int32 → Int32 → Int32 → Int32 → OR) (t : SM) (v3 : Int32) (v4 : Int32) (v5 : Int32) (v6 : Int32) (v7 : Int32) (v8 : Int32) : OR :=
  if 78 ≤ v8 then k128 t v4 v5 v7
  else if v5 = v4 then k128 t v4 v5 v7
  else hRecv t 7 5 <| bI (fSs_firstOfShortest t v5 v6) fun firstOfShortest2 t1 =>
  hRecv t1 7 5 <| bQ (fSs_streetAt t1 firstOfShortest2) (fun t3 => rI (-1) t3) fun q4 t3 =>
  hRecv t3 6 q4 <| bI (fSt_isOpenIn t3 q4 v3) fun isOpenIn6 t5 =>
  if isOpenIn6 = 0 then hRecv t5 7 5 <| bV (fSs_measure t5 v4 (v6 &&& (((1 : Int32) <<< (firstOfShortest2 &&& 31)) ^^^ (-1)))) fun t7 =>
    r33 t7 v3 v4 v5 (v6 &&& (((1 : Int32) <<< (firstOfShortest2 &&& 31)) ^^^ (-1))) v7 (v8 + 1)
  else hGetI t5 6 q4 3 fun takes8 =>
  hRecv t5 6 q4 <| bI (fSt_otherEnd t5 q4 v5) fun otherEnd10 t9 =>
  r33 t9 v3 v4 otherEnd10 v6 (v7 + takes8) (v8 + 1)
def fSs_walk_l33 (k128 : SM → Int32 → Int32 → Int32 → OR) : Nat → SM → Int32 → Int32 → Int32 → Int32 → Int32 → Int32 → OR
  | 0, _, _, _, _, _, _, _ => none
  | n + 1, t, v3, v4, v5, v6, v7, v8 => fSs_walk_33 k128 (fSs_walk_l33 k128 n) t v3 v4 v5 v6 v7 v8
def fSs_walk (t : SM) (a : Int32) (b : Int32) (c : Int32) : OR :=
  bI (fx_goalOf t a) fun goalOf2 t1 =>
  bI (fx_startOf t1 a) fun startOf4 t3 =>
  hRecv t3 7 5 <| bI (fSs_openIn t3 b) fun openIn6 t5 =>
  hRecv t5 7 5 <| bV (fSs_measure t5 goalOf2 openIn6) fun t7 =>
  fSs_walk_l33 (fun t u4 u5 u7 => fSs_walk_128 t u4 u5 u7) 1000000 t7 c goalOf2 startOf4 openIn6 0 0
def F_88 (as : List Value) (t : SM) : OR := match as with
  | [.ref z0, .int a, .int b, .int c] => (match Nat.beq z0 5 with | true => fSs_walk t a b c | false => none)
  | _ => none
/-! EveryMapWrong$Text.allows(I)Z -/
def fTx_allows (t : SM) (o : Nat) (a : Int32) : OR :=
  hGetI t 8 o 5 fun allowed1 =>
  if ((allowed1 >>> ((a &&& 15) &&& 31)) &&& 1) = 1 then rI 1 t
  else rI 0 t
def F_90 (as : List Value) (t : SM) : OR := match as with
  | [.ref o, .int a] => fTx_allows t o a
  | _ => none
/-! EveryMapWrong$Text.harmOf(II)I -/
def fTx_harmOf (t : SM) (o : Nat) (a : Int32) (b : Int32) : OR :=
  hGetR t 8 o 1 (hRecv t 8 o <| bI (F_93 [.ref o, .null, .int a, .int b, .int 0] t) fun valueOf3 t2 =>
    rI valueOf3 t2) fun harmCode1 =>
  hRecv t 8 o <| bI (fTx_valueOf t o harmCode1 a b 0) fun valueOf5 t4 =>
  rI valueOf5 t4
def F_91 (as : List Value) (t : SM) : OR := match as with
  | [.ref o, .int a, .int b] => fTx_harmOf t o a b
  | _ => none
/-! EveryMapWrong$Text.priceOf(II)I -/
def fTx_priceOf (t : SM) (o : Nat) (a : Int32) (b : Int32) : OR :=
  hGetR t 8 o 2 (hRecv t 8 o <| bI (F_93 [.ref o, .null, .int a, .int 0, .int b] t) fun valueOf3 t2 =>
    rI valueOf3 t2) fun priceCode1 =>
  hRecv t 8 o <| bI (fTx_valueOf t o priceCode1 a 0 b) fun valueOf5 t4 =>
  rI valueOf5 t4
def F_92 (as : List Value) (t : SM) : OR := match as with
  | [.ref o, .int a, .int b] => fTx_priceOf t o a b
  | _ => none
/-! EveryMapWrong$Worlds.<init>()V -/
def fWd_init (t : SM) : OR :=
  hNewA t 20 512 fun q1 t2 =>
  hPutR t2 9 16 0 (some q1) fun t3 =>
  hNewA t3 20 128 fun q4 t5 =>
  hPutR t5 9 16 2 (some q4) fun t6 =>
  rV t6
def F_97 (as : List Value) (t : SM) : OR := match as with
  | [.ref z0] => (match Nat.beq z0 16 with | true => fWd_init t | false => none)
  | _ => none
/-! EveryMapWrong$Worlds.add(I)V -/
def fWd_add (t : SM) (a : Int32) : OR :=
  hGetI t 9 16 1 fun size1 =>
  if size1 < 0 then rV t
  else hGetI t 9 16 1 fun size2 =>
  hGetC t 9 16 0 17 <|
  hALen t 17 fun n3 =>
  if n3 ≤ size2 then rV t
  else hGetC t 9 16 0 17 <|
  hGetI t 9 16 1 fun size4 =>
  hASt t 17 size4 a fun t5 =>
  hGetI t5 9 16 1 fun size6 =>
  hPutI t5 9 16 1 (size6 + 1) fun t7 =>
  rV t7
def F_98 (as : List Value) (t : SM) : OR := match as with
  | [.ref z0, .int a] => (match Nat.beq z0 16 with | true => fWd_add t a | false => none)
  | _ => none
/-! EveryMapWrong$Worlds.placeOf(I)I -/
def fWd_placeOf_2 (r2 : SM → Int32 → Int32 → OR) (t : SM) (v1 : Int32) (v2 : Int32) : OR :=
  hGetI t 9 16 1 fun size1 =>
  if size1 ≤ v2 then rI (-1) t
  else hRecv t 9 16 <| bI (fWd_townAt t v2) fun townAt3 t2 =>
  if townAt3 = v1 then rI v2 t2
  else r2 t2 v1 (v2 + 1)
def fWd_placeOf_l2 : Nat → SM → Int32 → Int32 → OR
  | 0, _, _, _ => none
  | n + 1, t, v1, v2 => fWd_placeOf_2 (fWd_placeOf_l2 n) t v1 v2
def fWd_placeOf (t : SM) (a : Int32) : OR :=
  fWd_placeOf_l2 1000000 t a 0
def F_100 (as : List Value) (t : SM) : OR := match as with
  | [.ref z0, .int a] => (match Nat.beq z0 16 with | true => fWd_placeOf t a | false => none)
  | _ => none
/-! EveryMapWrong$Worlds.soInAll()I -/
def fWd_soInAll_6 (r6 : SM → Int32 → Int32 → OR) (t : SM) (v1 : Int32) (v2 : Int32) : OR :=
  hGetI t 9 16 1 fun size1 =>
  if size1 ≤ v2 then rI v1 t
  else hRecv t 9 16 <| bI (fWd_townAt t v2) fun townAt3 t2 =>
  r6 t2 (v1 &&& townAt3) (v2 + 1)
def fWd_soInAll_l6 : Nat → SM → Int32 → Int32 → OR
  | 0, _, _, _ => none
  | n + 1, t, v1, v2 => fWd_soInAll_6 (fWd_soInAll_l6 n) t v1 v2
def fWd_soInAll (t : SM) : OR :=
  fWd_soInAll_l6 1000000 t 511 0
def F_101 (as : List Value) (t : SM) : OR := match as with
  | [.ref z0] => (match Nat.beq z0 16 with | true => fWd_soInAll t | false => none)
  | _ => none
/-! EveryMapWrong$Worlds.soInSome()I -/
def fWd_soInSome_4 (r4 : SM → Int32 → Int32 → OR) (t : SM) (v1 : Int32) (v2 : Int32) : OR :=
  hGetI t 9 16 1 fun size1 =>
  if size1 ≤ v2 then rI v1 t
  else hRecv t 9 16 <| bI (fWd_townAt t v2) fun townAt3 t2 =>
  r4 t2 (v1 ||| townAt3) (v2 + 1)
def fWd_soInSome_l4 : Nat → SM → Int32 → Int32 → OR
  | 0, _, _, _ => none
  | n + 1, t, v1, v2 => fWd_soInSome_4 (fWd_soInSome_l4 n) t v1 v2
def fWd_soInSome (t : SM) : OR :=
  fWd_soInSome_l4 1000000 t 0 0
def F_102 (as : List Value) (t : SM) : OR := match as with
  | [.ref z0] => (match Nat.beq z0 16 with | true => fWd_soInSome t | false => none)
  | _ => none
/-! EveryMapWrong$Worlds.howManyHave(I)I -/
def fWd_howManyHave_4 (r4 : SM → Int32 → Int32 → Int32 → OR) (t : SM) (v1 : Int32) (v2 : Int32) (v3 : Int32) : OR :=
  hGetI t 9 16 1 fun size1 =>
  if size1 ≤ v3 then rI v2 t
  else hRecv t 9 16 <| bI (fWd_townAt t v3) fun townAt3 t2 =>
  r4 t2 v1 (v2 + ((townAt3 >>> (v1 &&& 31)) &&& 1)) (v3 + 1)
def fWd_howManyHave_l4 : Nat → SM → Int32 → Int32 → Int32 → OR
  | 0, _, _, _, _ => none
  | n + 1, t, v1, v2, v3 => fWd_howManyHave_4 (fWd_howManyHave_l4 n) t v1 v2 v3
def fWd_howManyHave (t : SM) (a : Int32) : OR :=
  fWd_howManyHave_l4 1000000 t a 0 0
def F_103 (as : List Value) (t : SM) : OR := match as with
  | [.ref z0, .int a] => (match Nat.beq z0 16 with | true => fWd_howManyHave t a | false => none)
  | _ => none
/-! EveryMapWrong$Worlds.whichHave(I)I -/
def fWd_whichHave_4 (r4 : SM → Int32 → Int32 → Int32 → OR) (t : SM) (v1 : Int32) (v2 : Int32) (v3 : Int32) : OR :=
  hGetI t 9 16 1 fun size1 =>
  if size1 ≤ v3 then rI v2 t
  else if 7 ≤ v3 then rI v2 t
  else hRecv t 9 16 <| bI (fWd_townAt t v3) fun townAt3 t2 =>
  r4 t2 v1 (v2 ||| (((townAt3 >>> (v1 &&& 31)) &&& 1) <<< (v3 &&& 31))) (v3 + 1)
def fWd_whichHave_l4 : Nat → SM → Int32 → Int32 → Int32 → OR
  | 0, _, _, _, _ => none
  | n + 1, t, v1, v2, v3 => fWd_whichHave_4 (fWd_whichHave_l4 n) t v1 v2 v3
def fWd_whichHave (t : SM) (a : Int32) : OR :=
  fWd_whichHave_l4 1000000 t a 0 0
def F_106 (as : List Value) (t : SM) : OR := match as with
  | [.ref z0, .int a] => (match Nat.beq z0 16 with | true => fWd_whichHave t a | false => none)
  | _ => none
/-! EveryMapWrong$Worlds.looksFor(II)I -/
def fWd_looksFor_16 (r16 : SM → Int32 → Int32 → Int32 → Int32 → OR) (t : SM) (v1 : Int32) (v2 : Int32) (v3 : Int32) (v4 : Int32) : OR :=
  if v2 ≤ v4 then rI v3 t
  else hRecv t 9 16 <| bI (fWd_whichHave t v4) fun whichHave2 t1 =>
  if (v1 &&& whichHave2) = 0 then r16 t1 v1 v2 v3 (v4 + 1)
  else if (v1 &&& whichHave2) = v1 then r16 t1 v1 v2 v3 (v4 + 1)
  else hGetC t1 9 16 2 18 <|
  bI (fx_numberAt t1 18 (v1 &&& whichHave2)) fun numberAt4 t3 =>
  hGetC t3 9 16 2 18 <|
  bI (fx_numberAt t3 18 (v1 &&& ((v1 &&& whichHave2) ^^^ (-1)))) fun numberAt6 t5 =>
  bI (fjM_max t5 numberAt4 numberAt6) fun max8 t7 =>
  bI (fjM_min t7 v3 (1 + max8)) fun min10 t9 =>
  r16 t9 v1 v2 min10 (v4 + 1)
def fWd_looksFor_l16 : Nat → SM → Int32 → Int32 → Int32 → Int32 → OR
  | 0, _, _, _, _, _ => none
  | n + 1, t, v1, v2, v3, v4 => fWd_looksFor_16 (fWd_looksFor_l16 n) t v1 v2 v3 v4
def fWd_looksFor (t : SM) (a : Int32) (b : Int32) : OR :=
  bI (fjI_bitCount t a) fun bitCount2 t1 =>
  if 1 < bitCount2 then fWd_looksFor_l16 1000000 t1 a b 9 0
  else rI 0 t1
def F_105 (as : List Value) (t : SM) : OR := match as with
  | [.ref z0, .int a, .int b] => (match Nat.beq z0 16 with | true => fWd_looksFor t a b | false => none)
  | _ => none
/-! EveryMapWrong$Worlds.looksAtWorst(I)I -/
def fWd_looksAtWorst_41 (t : SM) (v2 : Int32) : OR :=
  hGetC t 9 16 2 18 <|
  bI (fx_numberAt t 18 v2) fun numberAt2 t1 =>
  rI numberAt2 t1
def fWd_looksAtWorst_16 (k41 : SM → Int32 → OR) (r16 : SM → Int32 → Int32 → Int32 → OR) (t : SM) (v1 : Int32) (v2 : Int32) (v3 : Int32) : OR :=
  if v2 < v3 then k41 t v2
  else hGetC t 9 16 2 18 <|
  hRecv t 9 16 <| bI (fWd_looksFor t v3 v1) fun looksFor2 t1 =>
  bV (fx_setNumber t1 18 v3 looksFor2) fun t3 =>
  r16 t3 v1 v2 (v3 + 1)
def fWd_looksAtWorst_l16 (k41 : SM → Int32 → OR) : Nat → SM → Int32 → Int32 → Int32 → OR
  | 0, _, _, _, _ => none
  | n + 1, t, v1, v2, v3 => fWd_looksAtWorst_16 k41 (fWd_looksAtWorst_l16 k41 n) t v1 v2 v3
def fWd_looksAtWorst (t : SM) (a : Int32) : OR :=
  hGetI t 9 16 1 fun size1 =>
  bI (fjM_min t size1 7) fun min3 t2 =>
  fWd_looksAtWorst_l16 (fun t u2 => fWd_looksAtWorst_41 t u2) 1000000 t2 a (((1 : Int32) <<< (min3 &&& 31)) - 1) 1
def F_104 (as : List Value) (t : SM) : OR := match as with
  | [.ref z0, .int a] => (match Nat.beq z0 16 with | true => fWd_looksAtWorst t a | false => none)
  | _ => none
/-! EveryMapWrong.<init>()V -/
def fx_init_189 (r189 : SM → Int32 → OR) (t : SM) (v1 : Int32) : OR :=
  if 4 ≤ v1 then rV t
  else hGetC t 10 0 12 15 <|
  hNew t 5 3 fun q1 t2 =>
  hRecv t2 5 q1 <| bV (fSh_init t2 q1) fun t3 =>
  hQSt t3 5 15 v1 q1 fun t4 =>
  r189 t4 (v1 + 1)
def fx_init_l189 : Nat → SM → Int32 → OR
  | 0, _, _ => none
  | n + 1, t, v1 => fx_init_189 (fx_init_l189 n) t v1
def fx_init_162 (t : SM) : OR :=
  hGetC t 10 0 7 9 <|
  hGetC t 10 0 10 10 <|
  hRecv t 4 10 <| bQ (fRd_readText t) (fun t1 => none) fun q2 t1 =>
  hQSt t1 8 9 0 q2 fun t4 =>
  hGetC t4 10 0 10 10 <|
  hRecv t4 4 10 <| bV (fRd_clear t4) fun t5 =>
  hPutI t5 10 0 8 1 fun t6 =>
  fx_init_l189 1000000 t6 0
def fx_init_134 (k162 : SM → OR) (r134 : SM → Int32 → OR) (t : SM) (v1 : Int32) : OR :=
  hTc 0 1 0 <| bI (fjS_length t 0) fun length2 t1 =>
  if length2 ≤ v1 then k162 t1
  else hGetC t1 10 0 10 10 <|
  hTc 1 1 0 <| bI (fjS_charAt t1 0 v1) fun charAt4 t3 =>
  hRecv t3 4 10 <| bV (fRd_add t3 charAt4) fun t5 =>
  r134 t5 (v1 + 1)
def fx_init_l134 (k162 : SM → OR) : Nat → SM → Int32 → OR
  | 0, _, _ => none
  | n + 1, t, v1 => fx_init_134 k162 (fx_init_l134 k162 n) t v1
def fx_init (t : SM) : OR :=
  hPutI t 10 0 0 6 fun t1 =>
  hNew t1 1 4 fun q2 t3 =>
  hRecv t3 1 q2 <| bV (F_28 [.ref q2] t3) fun t4 =>
  hPutR t4 10 0 3 (some q2) fun t5 =>
  hNew t5 7 3 fun q6 t7 =>
  hRecv t7 7 q6 <| bV (F_79 [.ref q6] t7) fun t8 =>
  hPutR t8 10 0 4 (some q6) fun t9 =>
  hNewA t9 20 6 fun q10 t11 =>
  hPutR t11 10 0 5 (some q10) fun t12 =>
  hNewA t12 38 6 fun q13 t14 =>
  hPutR t14 10 0 7 (some q13) fun t15 =>
  hNew t15 4 9 fun q16 t17 =>
  hRecv t17 4 q16 <| bV (F_47 [.ref q16] t17) fun t18 =>
  hPutR t18 10 0 10 (some q16) fun t19 =>
  hNew t19 3 6 fun q20 t21 =>
  hRecv t21 3 q20 <| bV (F_46 [.ref q20] t21) fun t22 =>
  hPutR t22 10 0 11 (some q20) fun t23 =>
  hNewA t23 35 4 fun q24 t25 =>
  hPutR t25 10 0 12 (some q24) fun t26 =>
  hNew t26 9 3 fun q27 t28 =>
  hRecv t28 9 q27 <| bV (F_97 [.ref q27] t28) fun t29 =>
  hPutR t29 10 0 13 (some q27) fun t30 =>
  hNewA t30 20 256 fun q31 t32 =>
  hPutR t32 10 0 14 (some q31) fun t33 =>
  hNewA t33 20 256 fun q34 t35 =>
  hPutR t35 10 0 15 (some q34) fun t36 =>
  hNewA t36 21 256 fun q37 t38 =>
  hPutR t38 10 0 16 (some q37) fun t39 =>
  hNew t39 0 6 fun q40 t41 =>
  hGetC t41 10 0 4 5 <|
  hRecv t41 0 q40 <| bV (F_17 [.ref q40, .ref 5] t41) fun t42 =>
  hPutR t42 10 0 17 (some q40) fun t43 =>
  fx_init_l134 (fun t => fx_init_162 t) 1000000 t43 0
def F_107 (as : List Value) (t : SM) : OR := match as with
  | [.ref z0] => (match Nat.beq z0 0 with | true => fx_init t | false => none)
  | _ => none
/-! EveryMapWrong.town(I)I -/
def fx_town (t : SM) (a : Int32) : OR :=
  if a < 1 then rI (-2) t
  else if a ≤ 9 then hGetC t 10 0 3 1 <|
    hGetI t 1 1 1 fun size1 =>
    if 0 < size1 then rI (-3) t
    else hGetC t 10 0 4 5 <|
    hGetI t 7 5 1 fun size2 =>
    if size2 ≤ 0 then hGetI t 10 0 0 fun choices3 =>
      hPutI t 10 0 0 a fun t4 =>
      hPutI t4 10 0 1 0 fun t5 =>
      hPutI t5 10 0 2 0 fun t6 =>
      hGetC t6 10 0 11 13 <|
      hPutI t6 3 13 0 0 fun t7 =>
      rI choices3 t7
    else rI (-3) t
  else rI (-2) t
def F_108 (as : List Value) (t : SM) : OR := match as with
  | [.ref z0, .int a] => (match Nat.beq z0 0 with | true => fx_town t a | false => none)
  | _ => none
/-! EveryMapWrong.count(I)I -/
def fx_count (t : SM) (a : Int32) : OR :=
  if a = 0 then hGetI t 10 0 0 fun choices1 =>
    rI choices1 t
  else if a = 1 then hGetC t 10 0 3 1 <|
    hGetI t 1 1 1 fun size2 =>
    rI size2 t
  else if a = 2 then hGetC t 10 0 4 5 <|
    hGetI t 7 5 1 fun size3 =>
    rI size3 t
  else if a = 3 then hGetI t 10 0 6 fun goerCount4 =>
    rI goerCount4 t
  else if a = 4 then hGetI t 10 0 8 fun textCount5 =>
    rI textCount5 t
  else if a = 5 then hGetI t 10 0 9 fun law6 =>
    rI law6 t
  else if a = 6 then hGetC t 10 0 10 10 <|
    hGetI t 4 10 1 fun size7 =>
    rI size7 t
  else if a = 7 then hGetI t 10 0 1 fun seen8 =>
    rI seen8 t
  else if a = 8 then hGetI t 10 0 2 fun seenSo9 =>
    rI seenSo9 t
  else rI (-2) t
def F_109 (as : List Value) (t : SM) : OR := match as with
  | [.ref z0, .int a] => (match Nat.beq z0 0 with | true => fx_count t a | false => none)
  | _ => none
/-! EveryMapWrong.feed(JI)I -/
def fx_feed_67 (t : SM) : OR :=
  hGetC t 10 0 10 10 <|
  hGetI t 4 10 1 fun size1 =>
  rI size1 t
def fx_feed_37 (k67 : SM → OR) (r37 : SM → Int64 → Int32 → OR) (t : SM) (v1 : Int64) (v4 : Int32) : OR :=
  if v4 < 0 then k67 t
  else hGetC t 10 0 10 10 <|
  hRecv t 4 10 <| bV (fRd_add t ((Int64.toInt32 (v1 >>> (Int32.toInt64 (8 * v4) &&& 63))) &&& 255)) fun t1 =>
  r37 t1 v1 (v4 + (-1))
def fx_feed_l37 (k67 : SM → OR) : Nat → SM → Int64 → Int32 → OR
  | 0, _, _, _ => none
  | n + 1, t, v1, v4 => fx_feed_37 k67 (fx_feed_l37 k67 n) t v1 v4
def fx_feed (t : SM) (a : Int64) (b : Int32) : OR :=
  if b < 1 then rI (-2) t
  else if b ≤ 8 then hGetC t 10 0 10 10 <|
    hGetI t 4 10 1 fun size1 =>
    if (size1 + b) ≤ 160 then fx_feed_l37 (fun t => fx_feed_67 t) 1000000 t a (b - 1)
    else rI (-4) t
  else rI (-2) t
def F_110 (as : List Value) (t : SM) : OR := match as with
  | [.ref z0, .long a, .int b] => (match Nat.beq z0 0 with | true => fx_feed t a b | false => none)
  | _ => none
/-! EveryMapWrong.text()I -/
def fx_text (t : SM) : OR :=
  hGetI t 10 0 8 fun textCount1 =>
  if textCount1 < 6 then hGetC t 10 0 10 10 <|
    hRecv t 4 10 <| bQ (fRd_readText t) (fun t2 => hGetC t2 10 0 10 10 <|
      hRecv t2 4 10 <| bV (fRd_clear t2) fun t4 =>
      hGetC t4 10 0 10 10 <|
      hGetI t4 4 10 2 fun fault5 =>
      rI ((-100) - fault5) t4) fun q3 t2 =>
    hGetC t2 10 0 10 10 <|
    hRecv t2 4 10 <| bV (fRd_clear t2) fun t6 =>
    hGetC t6 10 0 7 9 <|
    hGetI t6 10 0 8 fun textCount7 =>
    hQSt t6 8 9 textCount7 q3 fun t8 =>
    hGetI t8 10 0 8 fun textCount9 =>
    hPutI t8 10 0 8 (textCount9 + 1) fun t10 =>
    hGetI t10 10 0 8 fun textCount11 =>
    rI (textCount11 - 1) t10
  else rI (-4) t
def F_111 (as : List Value) (t : SM) : OR := match as with
  | [.ref z0] => (match Nat.beq z0 0 with | true => fx_text t | false => none)
  | _ => none
/-! EveryMapWrong.force(I)I -/
def fx_force (t : SM) (a : Int32) : OR :=
  if a < 0 then rI (-2) t
  else hGetI t 10 0 8 fun textCount1 =>
  if a < textCount1 then hGetI t 10 0 9 fun law2 =>
    hPutI t 10 0 9 a fun t3 =>
    rI law2 t3
  else rI (-2) t
def F_112 (as : List Value) (t : SM) : OR := match as with
  | [.ref z0, .int a] => (match Nat.beq z0 0 with | true => fx_force t a | false => none)
  | _ => none
/-! EveryMapWrong.isTown(I)Z -/
def fx_isTown (t : SM) (a : Int32) : OR :=
  if a < 0 then rI 0 t
  else hGetI t 10 0 0 fun choices1 =>
  if ((1 : Int32) <<< (choices1 &&& 31)) ≤ a then rI 0 t
  else rI 1 t
def F_155 (as : List Value) (t : SM) : OR := match as with
  | [.ref z0, .int a] => (match Nat.beq z0 0 with | true => fx_isTown t a | false => none)
  | _ => none
/-! EveryMapWrong.lawText()LEveryMapWrong$Text; -/
def fx_lawText (t : SM) : OR :=
  hGetI t 10 0 9 fun law1 =>
  if law1 < 0 then rN t
  else hGetI t 10 0 9 fun law2 =>
  hGetC t 10 0 7 9 <|
  hALen t 9 fun n3 =>
  if n3 ≤ law2 then rN t
  else hGetC t 10 0 7 9 <|
  hGetI t 10 0 9 fun law4 =>
  hQLd t 8 9 law4 (rN t) fun q5 =>
  rR q5 t
def F_169 (as : List Value) (t : SM) : OR := match as with
  | [.ref z0] => (match Nat.beq z0 0 with | true => fx_lawText t | false => none)
  | _ => none
/-! EveryMapWrong.lawAllows(I)Z -/
def fx_lawAllows (t : SM) (a : Int32) : OR :=
  hRecv t 10 0 <| bQ (fx_lawText t) (fun t1 => rI 0 t1) fun q2 t1 =>
  hRecv t1 8 q2 <| bI (fTx_allows t1 q2 a) fun allows4 t3 =>
  if allows4 = 0 then rI 0 t3
  else rI 1 t3
def F_170 (as : List Value) (t : SM) : OR := match as with
  | [.ref z0, .int a] => (match Nat.beq z0 0 with | true => fx_lawAllows t a | false => none)
  | _ => none
/-! EveryMapWrong.may(I)I -/
def fx_may (t : SM) (a : Int32) : OR :=
  hRecv t 10 0 <| bI (fx_isTown t a) fun isTown2 t1 =>
  if isTown2 = 0 then rI (-2) t1
  else hRecv t1 10 0 <| bI (fx_lawAllows t1 a) fun lawAllows4 t3 =>
    if lawAllows4 = 0 then rI 0 t3
    else rI 1 t3
def F_113 (as : List Value) (t : SM) : OR := match as with
  | [.ref z0, .int a] => (match Nat.beq z0 0 with | true => fx_may t a | false => none)
  | _ => none
/-! EveryMapWrong.map(IIII)I -/
def fx_map (t : SM) (a : Int32) (b : Int32) (c : Int32) (d : Int32) : OR :=
  if a < 0 then rI (-2) t
  else if 5 < a then rI (-2) t
  else hRecv t 10 0 <| bI (fx_isTown t b) fun isTown2 t1 =>
  if isTown2 = 0 then rI (-2) t1
  else hRecv t1 10 0 <| bI (fx_isTown t1 c) fun isTown4 t3 =>
  if isTown4 = 0 then rI (-2) t3
  else if d < 0 then rI (-2) t3
    else if 9 < d then rI (-2) t3
    else if a = 1 then hGetC t3 10 0 3 1 <|
    hGetI t3 1 1 1 fun size7 =>
    if d < size7 then hGetC t3 10 0 3 1 <|
      hRecv t3 1 1 <| bI (fAt_add t3 a b c d) fun add9 t8 =>
      rI add9 t8
    else rI (-2) t3
    else hGetC t3 10 0 3 1 <|
      hRecv t3 1 1 <| bI (fAt_add t3 a b c d) fun add6 t5 =>
      rI add6 t5
def F_114 (as : List Value) (t : SM) : OR := match as with
  | [.ref z0, .int a, .int b, .int c, .int d] => (match Nat.beq z0 0 with | true => fx_map t a b c d | false => none)
  | _ => none
/-! EveryMapWrong.drop()I -/
def fx_drop (t : SM) : OR :=
  hGetC t 10 0 3 1 <|
  hGetI t 1 1 1 fun size1 =>
  if size1 = 0 then rI (-3) t
  else hGetC t 10 0 3 1 <|
    hGetC t 10 0 3 1 <|
    hGetI t 1 1 1 fun size2 =>
    hRecv t 1 1 <| bV (fAt_shrinkTo t (size2 - 1)) fun t3 =>
    hGetC t3 10 0 11 13 <|
    hGetI t3 3 13 4 fun mapCount4 =>
    hGetC t3 10 0 3 1 <|
    hGetI t3 1 1 1 fun size5 =>
    if mapCount4 ≤ size5 then hGetC t3 10 0 3 1 <|
      hGetI t3 1 1 1 fun size6 =>
      rI size6 t3
    else hGetC t3 10 0 11 13 <|
    hPutI t3 3 13 0 0 fun t7 =>
    hGetC t7 10 0 3 1 <|
    hGetI t7 1 1 1 fun size8 =>
    rI size8 t7
def F_115 (as : List Value) (t : SM) : OR := match as with
  | [.ref z0] => (match Nat.beq z0 0 with | true => fx_drop t | false => none)
  | _ => none
/-! EveryMapWrong.price(II)I -/
def fx_price (t : SM) (a : Int32) (b : Int32) : OR :=
  hGetC t 10 0 3 1 <|
  hRecv t 1 1 <| bQ (fAt_chartAt t a) (fun t1 => rI (-1) t1) fun q2 t1 =>
  if b < 0 then rI (-2) t1
  else if b ≤ 99 then hGetI t1 2 q2 5 fun cost3 =>
    hPutI t1 2 q2 5 b fun t4 =>
    rI cost3 t4
  else rI (-2) t1
def F_116 (as : List Value) (t : SM) : OR := match as with
  | [.ref z0, .int a, .int b] => (match Nat.beq z0 0 with | true => fx_price t a b | false => none)
  | _ => none
/-! EveryMapWrong.told(II)I -/
def fx_told (t : SM) (a : Int32) (b : Int32) : OR :=
  hGetC t 10 0 3 1 <|
  hRecv t 1 1 <| bQ (fAt_chartAt t a) (fun t1 => rI (-5) t1) fun q2 t1 =>
  if b = 0 then hGetI t1 2 q2 0 fun kind3 =>
    rI kind3 t1
  else if b = 1 then hGetI t1 2 q2 1 fun says4 =>
    rI says4 t1
  else if b = 2 then hGetI t1 2 q2 2 fun mask5 =>
    rI mask5 t1
  else if b = 3 then hGetI t1 2 q2 3 fun more6 =>
    rI more6 t1
  else if b = 4 then hGetI t1 2 q2 5 fun cost7 =>
    rI cost7 t1
  else rI (-7) t1
def F_117 (as : List Value) (t : SM) : OR := match as with
  | [.ref z0, .int a, .int b] => (match Nat.beq z0 0 with | true => fx_told t a b | false => none)
  | _ => none
/-! EveryMapWrong.isZeroOrOne(I)Z -/
def fx_isZeroOrOne (t : SM) (a : Int32) : OR :=
  if a = 0 then rI 1 t
  else if a = 1 then rI 1 t
  else rI 0 t
def F_162 (as : List Value) (t : SM) : OR := match as with
  | [.int a] => fx_isZeroOrOne t a
  | _ => none
/-! EveryMapWrong.slips(III)I -/
def fx_slips (t : SM) (a : Int32) (b : Int32) (c : Int32) : OR :=
  hGetC t 10 0 3 1 <|
  hRecv t 1 1 <| bQ (fAt_chartAt t a) (fun t1 => rI (-5) t1) fun q2 t1 =>
  hRecv t1 10 0 <| bI (fx_isTown t1 b) fun isTown4 t3 =>
  if isTown4 = 0 then rI (-7) t3
  else bI (fx_isZeroOrOne t3 c) fun isZeroOrOne6 t5 =>
  if isZeroOrOne6 = 0 then rI (-7) t5
  else if c = 0 then hRecv t5 2 q2 <| bI (fCh_slipsIn t5 q2 b) fun slipsIn10 t9 =>
    rI slipsIn10 t9
    else hGetC t5 10 0 3 1 <|
      hRecv t5 1 1 <| bI (fAt_agreeingWith t5 b) fun agreeingWith8 t7 =>
      rI ((agreeingWith8 >>> (a &&& 31)) &&& 1) t7
def F_118 (as : List Value) (t : SM) : OR := match as with
  | [.ref z0, .int a, .int b, .int c] => (match Nat.beq z0 0 with | true => fx_slips t a b c | false => none)
  | _ => none
/-! EveryMapWrong.isChoice(I)Z -/
def fx_isChoice (t : SM) (a : Int32) : OR :=
  if a < 0 then rI 0 t
  else hGetI t 10 0 0 fun choices1 =>
  if choices1 ≤ a then rI 0 t
  else rI 1 t
def F_156 (as : List Value) (t : SM) : OR := match as with
  | [.ref z0, .int a] => (match Nat.beq z0 0 with | true => fx_isChoice t a | false => none)
  | _ => none
/-! EveryMapWrong.look(II)I -/
def fx_look (t : SM) (a : Int32) (b : Int32) : OR :=
  hRecv t 10 0 <| bI (fx_isChoice t a) fun isChoice2 t1 =>
  if isChoice2 = 0 then rI (-5) t1
  else if b < (-1) then rI (-7) t1
    else if b ≤ 1 then hGetI t1 10 0 1 fun seen3 =>
      bI (fx_hasChoice t1 seen3 a) fun hasChoice5 t4 =>
      if hasChoice5 = 0 then if 0 ≤ b then hGetI t4 10 0 1 fun seen6 =>
          hPutI t4 10 0 1 (seen6 ||| ((1 : Int32) <<< (a &&& 31))) fun t7 =>
          if b = 1 then hGetI t7 10 0 2 fun seenSo10 =>
          hPutI t7 10 0 2 (seenSo10 ||| ((1 : Int32) <<< (a &&& 31))) fun t11 =>
          rI (-1) t11
          else hGetI t7 10 0 2 fun seenSo8 =>
            hPutI t7 10 0 2 (seenSo8 &&& (((1 : Int32) <<< (a &&& 31)) ^^^ (-1))) fun t9 =>
            rI (-1) t9
        else hGetI t4 10 0 1 fun seen12 =>
        hPutI t4 10 0 1 (seen12 &&& (((1 : Int32) <<< (a &&& 31)) ^^^ (-1))) fun t13 =>
        if b = 1 then hGetI t13 10 0 2 fun seenSo16 =>
        hPutI t13 10 0 2 (seenSo16 ||| ((1 : Int32) <<< (a &&& 31))) fun t17 =>
        rI (-1) t17
        else hGetI t13 10 0 2 fun seenSo14 =>
          hPutI t13 10 0 2 (seenSo14 &&& (((1 : Int32) <<< (a &&& 31)) ^^^ (-1))) fun t15 =>
          rI (-1) t15
      else hGetI t4 10 0 2 fun seenSo18 =>
      if 0 ≤ b then hGetI t4 10 0 1 fun seen19 =>
        hPutI t4 10 0 1 (seen19 ||| ((1 : Int32) <<< (a &&& 31))) fun t20 =>
        if b = 1 then hGetI t20 10 0 2 fun seenSo23 =>
        hPutI t20 10 0 2 (seenSo23 ||| ((1 : Int32) <<< (a &&& 31))) fun t24 =>
        rI ((seenSo18 >>> (a &&& 31)) &&& 1) t24
        else hGetI t20 10 0 2 fun seenSo21 =>
          hPutI t20 10 0 2 (seenSo21 &&& (((1 : Int32) <<< (a &&& 31)) ^^^ (-1))) fun t22 =>
          rI ((seenSo18 >>> (a &&& 31)) &&& 1) t22
      else hGetI t4 10 0 1 fun seen25 =>
      hPutI t4 10 0 1 (seen25 &&& (((1 : Int32) <<< (a &&& 31)) ^^^ (-1))) fun t26 =>
      if b = 1 then hGetI t26 10 0 2 fun seenSo29 =>
      hPutI t26 10 0 2 (seenSo29 ||| ((1 : Int32) <<< (a &&& 31))) fun t30 =>
      rI ((seenSo18 >>> (a &&& 31)) &&& 1) t30
      else hGetI t26 10 0 2 fun seenSo27 =>
        hPutI t26 10 0 2 (seenSo27 &&& (((1 : Int32) <<< (a &&& 31)) ^^^ (-1))) fun t28 =>
        rI ((seenSo18 >>> (a &&& 31)) &&& 1) t28
    else rI (-7) t1
def F_119 (as : List Value) (t : SM) : OR := match as with
  | [.ref z0, .int a, .int b] => (match Nat.beq z0 0 with | true => fx_look t a b | false => none)
  | _ => none
/-! EveryMapWrong.everyChoice()I -/
def fx_everyChoice (t : SM) : OR :=
  hGetI t 10 0 0 fun choices1 =>
  rI (((1 : Int32) <<< (choices1 &&& 31)) - 1) t
def F_157 (as : List Value) (t : SM) : OR := match as with
  | [.ref z0] => (match Nat.beq z0 0 with | true => fx_everyChoice t | false => none)
  | _ => none
/-! EveryMapWrong.mayBeRight(I)Z -/
def fx_mayBeRight (t : SM) (a : Int32) : OR :=
  hGetI t 10 0 1 fun seen1 =>
  hGetI t 10 0 2 fun seenSo2 =>
  if (a &&& seen1) = seenSo2 then hRecv t 10 0 <| bI (fx_lawAllows t a) fun lawAllows4 t3 =>
  if lawAllows4 = 0 then rI 0 t3
  else rI 1 t3
  else rI 0 t
def F_171 (as : List Value) (t : SM) : OR := match as with
  | [.ref z0, .int a] => (match Nat.beq z0 0 with | true => fx_mayBeRight t a | false => none)
  | _ => none
/-! EveryMapWrong.findWorlds(I)I -/
def fx_findWorlds_54 (t : SM) : OR :=
  hGetC t 10 0 13 16 <|
  hGetI t 9 16 1 fun size1 =>
  rI size1 t
def fx_findWorlds_10 (k54 : SM → OR) (r10 : SM → Int32 → Int32 → OR) (t : SM) (v1 : Int32) (v2 : Int32) : OR :=
  hRecv t 10 0 <| bI (fx_everyChoice t) fun everyChoice2 t1 =>
  if everyChoice2 < v2 then k54 t1
  else hGetC t1 10 0 3 1 <|
  hRecv t1 1 1 <| bI (fAt_agreeingWith t1 v2) fun agreeingWith4 t3 =>
  if (agreeingWith4 &&& v1) = v1 then hRecv t3 10 0 <| bI (fx_mayBeRight t3 v2) fun mayBeRight6 t5 =>
  if mayBeRight6 = 0 then r10 t5 v1 (v2 + 1)
  else hGetC t5 10 0 13 16 <|
  hRecv t5 9 16 <| bV (fWd_add t5 v2) fun t7 =>
  r10 t7 v1 (v2 + 1)
  else r10 t3 v1 (v2 + 1)
def fx_findWorlds_l10 (k54 : SM → OR) : Nat → SM → Int32 → Int32 → OR
  | 0, _, _, _ => none
  | n + 1, t, v1, v2 => fx_findWorlds_10 k54 (fx_findWorlds_l10 k54 n) t v1 v2
def fx_findWorlds (t : SM) (a : Int32) : OR :=
  hGetC t 10 0 13 16 <|
  hPutI t 9 16 1 0 fun t1 =>
  fx_findWorlds_l10 (fun t => fx_findWorlds_54 t) 1000000 t1 a 0
def F_172 (as : List Value) (t : SM) : OR := match as with
  | [.ref z0, .int a] => (match Nat.beq z0 0 with | true => fx_findWorlds t a | false => none)
  | _ => none
/-! EveryMapWrong.worlds(I)I -/
def fx_worlds (t : SM) (a : Int32) : OR :=
  if a < 0 then rI (-2) t
  else hGetC t 10 0 3 1 <|
  hRecv t 1 1 <| bI (fAt_everyMap t) fun everyMap2 t1 =>
  if a ≤ everyMap2 then hRecv t1 10 0 <| bI (fx_findWorlds t1 a) fun findWorlds4 t3 =>
    rI findWorlds4 t3
  else rI (-2) t1
def F_120 (as : List Value) (t : SM) : OR := match as with
  | [.ref z0, .int a] => (match Nat.beq z0 0 with | true => fx_worlds t a | false => none)
  | _ => none
/-! EveryMapWrong.world(I)I -/
def fx_world (t : SM) (a : Int32) : OR :=
  hGetC t 10 0 3 1 <|
  hRecv t 1 1 <| bI (fAt_everyMap t) fun everyMap2 t1 =>
  hRecv t1 10 0 <| bI (fx_findWorlds t1 everyMap2) fun findWorlds4 t3 =>
  hGetC t3 10 0 13 16 <|
  hRecv t3 9 16 <| bI (fWd_townAt t3 a) fun townAt6 t5 =>
  rI townAt6 t5
def F_121 (as : List Value) (t : SM) : OR := match as with
  | [.ref z0, .int a] => (match Nat.beq z0 0 with | true => fx_world t a | false => none)
  | _ => none
/-! EveryMapWrong.sure(I)I -/
def fx_sure (t : SM) (a : Int32) : OR :=
  if a < 0 then rI (-2) t
  else if a ≤ 2 then hGetC t 10 0 3 1 <|
    hRecv t 1 1 <| bI (fAt_everyMap t) fun everyMap2 t1 =>
    hRecv t1 10 0 <| bI (fx_findWorlds t1 everyMap2) fun findWorlds4 t3 =>
    if findWorlds4 = 0 then rI (-3) t3
    else if a = 0 then hGetC t3 10 0 13 16 <|
        hRecv t3 9 16 <| bI (fWd_soInAll t3) fun soInAll6 t5 =>
        rI soInAll6 t5
      else if a = 1 then hRecv t3 10 0 <| bI (fx_everyChoice t3) fun everyChoice8 t7 =>
        hGetC t7 10 0 13 16 <|
        hRecv t7 9 16 <| bI (fWd_soInSome t7) fun soInSome10 t9 =>
        rI (everyChoice8 &&& (soInSome10 ^^^ (-1))) t9
      else hGetC t3 10 0 13 16 <|
      hRecv t3 9 16 <| bI (fWd_soInSome t3) fun soInSome12 t11 =>
      hGetC t11 10 0 13 16 <|
      hRecv t11 9 16 <| bI (fWd_soInAll t11) fun soInAll14 t13 =>
      rI (soInSome12 &&& (soInAll14 ^^^ (-1))) t13
  else rI (-2) t
def F_122 (as : List Value) (t : SM) : OR := match as with
  | [.ref z0, .int a] => (match Nat.beq z0 0 with | true => fx_sure t a | false => none)
  | _ => none
/-! EveryMapWrong.addTo([III)V -/
def fx_addTo (t : SM) (a : Nat) (b : Int32) (c : Int32) : OR :=
  bI (fx_numberAt t a b) fun numberAt2 t1 =>
  bV (fx_setNumber t1 a b (numberAt2 + c)) fun t3 =>
  rV t3
def F_175 (as : List Value) (t : SM) : OR := match as with
  | [.ref a, .int b, .int c] => fx_addTo t a b c
  | _ => none
/-! EveryMapWrong.tally([II)V -/
def fx_tally_121 (r67 : SM → Nat → Int32 → Int32 → OR) (t : SM) (v1 : Nat) (v3 : Int32) (v4 : Int32) : OR :=
  r67 t v1 v3 (v4 + 1)
def fx_tally_82 (k121 : SM → Nat → Int32 → Int32 → OR) (r82 : SM → Nat → Int32 → Int32 → Int32 → OR) (t : SM) (v1 : Nat) (v3 : Int32) (v4 : Int32) (v5 : Int32) : OR :=
  if v3 < v5 then k121 t v1 v3 v4
  else if ((v5 >>> (v4 &&& 31)) &&& 1) = 0 then bI (fx_numberAt t v1 (v5 ||| ((1 : Int32) <<< (v4 &&& 31)))) fun numberAt2 t1 =>
  bV (fx_addTo t1 v1 v5 numberAt2) fun t3 =>
  r82 t3 v1 v3 v4 (v5 + 1)
  else r82 t v1 v3 v4 (v5 + 1)
def fx_tally_l82 (k121 : SM → Nat → Int32 → Int32 → OR) : Nat → SM → Nat → Int32 → Int32 → Int32 → OR
  | 0, _, _, _, _, _ => none
  | n + 1, t, v1, v3, v4, v5 => fx_tally_82 k121 (fx_tally_l82 k121 n) t v1 v3 v4 v5
def fx_tally_67 (r67 : SM → Nat → Int32 → Int32 → OR) (t : SM) (v1 : Nat) (v3 : Int32) (v4 : Int32) : OR :=
  hGetC t 10 0 3 1 <|
  hGetI t 1 1 1 fun size1 =>
  if size1 ≤ v4 then rV t
  else fx_tally_l82 (fun t u1 u3 u4 => fx_tally_121 r67 t u1 u3 u4) 1000000 t v1 v3 v4 0
def fx_tally_l67 : Nat → SM → Nat → Int32 → Int32 → OR
  | 0, _, _, _, _ => none
  | n + 1, t, v1, v3, v4 => fx_tally_67 (fx_tally_l67 n) t v1 v3 v4
def fx_tally_64 (t : SM) (v1 : Nat) (v3 : Int32) : OR :=
  fx_tally_l67 1000000 t v1 v3 0
def fx_tally_16 (k64 : SM → Nat → Int32 → OR) (r16 : SM → Nat → Int32 → Int32 → Int32 → OR) (t : SM) (v1 : Nat) (v2 : Int32) (v3 : Int32) (v4 : Int32) : OR :=
  hRecv t 10 0 <| bI (fx_everyChoice t) fun everyChoice2 t1 =>
  if everyChoice2 < v4 then k64 t1 v1 v3
  else if (v4 &&& v2) = v2 then hRecv t1 10 0 <| bI (fx_mayBeRight t1 v4) fun mayBeRight4 t3 =>
  if mayBeRight4 = 0 then r16 t3 v1 v2 v3 (v4 + 1)
  else hGetC t3 10 0 3 1 <|
  hRecv t3 1 1 <| bI (fAt_agreeingWith t3 v4) fun agreeingWith6 t5 =>
  bV (fx_addTo t5 v1 (agreeingWith6 &&& v3) 1) fun t7 =>
  r16 t7 v1 v2 v3 (v4 + 1)
  else r16 t1 v1 v2 v3 (v4 + 1)
def fx_tally_l16 (k64 : SM → Nat → Int32 → OR) : Nat → SM → Nat → Int32 → Int32 → Int32 → OR
  | 0, _, _, _, _, _ => none
  | n + 1, t, v1, v2, v3, v4 => fx_tally_16 k64 (fx_tally_l16 k64 n) t v1 v2 v3 v4
def fx_tally (t : SM) (a : Nat) (b : Int32) : OR :=
  bV (fjA_fill t a 0) fun t1 =>
  hGetC t1 10 0 3 1 <|
  hRecv t1 1 1 <| bI (fAt_everyMap t1) fun everyMap3 t2 =>
  fx_tally_l16 (fun t u1 u3 => fx_tally_64 t u1 u3) 1000000 t2 a b everyMap3 0
def F_174 (as : List Value) (t : SM) : OR := match as with
  | [.ref z0, .ref a, .int b] => (match Nat.beq z0 0 with | true => fx_tally t a b | false => none)
  | _ => none
/-! EveryMapWrong.fewestWanted()I -/
def fx_fewestWanted_4 (r4 : SM → Int32 → Int32 → OR) (t : SM) (v1 : Int32) (v2 : Int32) : OR :=
  hGetC t 10 0 3 1 <|
  hRecv t 1 1 <| bI (fAt_everyMap t) fun everyMap2 t1 =>
  if everyMap2 < v2 then rI v1 t1
  else hGetC t1 10 0 16 21 <|
  hALen t1 21 fun n3 =>
  if n3 ≤ v2 then rI v1 t1
  else hGetC t1 10 0 16 21 <|
  hBLd t1 21 v2 fun e4 =>
  if e4 = 0 then r4 t1 v1 (v2 + 1)
  else if v1 < 0 then r4 t1 v2 (v2 + 1)
  else bI (fjI_bitCount t1 v2) fun bitCount6 t5 =>
  bI (fjI_bitCount t5 v1) fun bitCount8 t7 =>
  if bitCount8 ≤ bitCount6 then r4 t7 v1 (v2 + 1)
  else r4 t7 v2 (v2 + 1)
def fx_fewestWanted_l4 : Nat → SM → Int32 → Int32 → OR
  | 0, _, _, _ => none
  | n + 1, t, v1, v2 => fx_fewestWanted_4 (fx_fewestWanted_l4 n) t v1 v2
def fx_fewestWanted (t : SM) : OR :=
  fx_fewestWanted_l4 1000000 t (-1) 0
def F_176 (as : List Value) (t : SM) : OR := match as with
  | [.ref z0] => (match Nat.beq z0 0 with | true => fx_fewestWanted t | false => none)
  | _ => none
/-! EveryMapWrong.none()I -/
def fx_none_44 (t : SM) : OR :=
  hRecv t 10 0 <| bI (fx_fewestWanted t) fun fewestWanted2 t1 =>
  rI fewestWanted2 t1
def fx_none_11 (k44 : SM → OR) (r11 : SM → Int32 → OR) (t : SM) (v1 : Int32) : OR :=
  if 256 ≤ v1 then k44 t
  else hGetC t 10 0 16 21 <|
  hGetC t 10 0 14 19 <|
  hALd t 19 v1 fun e1 =>
  if e1 = 0 then hBSt t 21 v1 1 fun t3 =>
  r11 t3 (v1 + 1)
  else hBSt t 21 v1 0 fun t2 =>
    r11 t2 (v1 + 1)
def fx_none_l11 (k44 : SM → OR) : Nat → SM → Int32 → OR
  | 0, _, _ => none
  | n + 1, t, v1 => fx_none_11 k44 (fx_none_l11 k44 n) t v1
def fx_none (t : SM) : OR :=
  hGetC t 10 0 14 19 <|
  hRecv t 10 0 <| bV (fx_tally t 19 0) fun t1 =>
  fx_none_l11 (fun t => fx_none_44 t) 1000000 t1 0
def F_123 (as : List Value) (t : SM) : OR := match as with
  | [.ref z0] => (match Nat.beq z0 0 with | true => fx_none t | false => none)
  | _ => none
/-! EveryMapWrong.judge(I)I -/
def fx_judge (t : SM) (a : Int32) : OR :=
  hRecv t 10 0 <| bI (fx_isTown t a) fun isTown2 t1 =>
  if isTown2 = 0 then rI (-2) t1
  else hRecv t1 10 0 <| bI (fx_mayBeRight t1 a) fun mayBeRight4 t3 =>
    if mayBeRight4 = 0 then rI 99 t3
    else hGetC t3 10 0 3 1 <|
      hRecv t3 1 1 <| bI (fAt_everyMap t3) fun everyMap6 t5 =>
      hGetC t5 10 0 3 1 <|
      hRecv t5 1 1 <| bI (fAt_agreeingWith t5 a) fun agreeingWith8 t7 =>
      bI (fx_firstOf t7 (everyMap6 &&& (agreeingWith8 ^^^ (-1)))) fun firstOf10 t9 =>
      rI firstOf10 t9
def F_124 (as : List Value) (t : SM) : OR := match as with
  | [.ref z0, .int a] => (match Nat.beq z0 0 with | true => fx_judge t a | false => none)
  | _ => none
/-! EveryMapWrong.isPlace(I)Z -/
def fx_isPlace (t : SM) (a : Int32) : OR :=
  if a < 0 then rI 0 t
  else if 6 ≤ a then rI 0 t
  else rI 1 t
def F_158 (as : List Value) (t : SM) : OR := match as with
  | [.int a] => fx_isPlace t a
  | _ => none
/-! EveryMapWrong.street(IIII)I -/
def fx_street_35 (t : SM) (v1 : Int32) (v2 : Int32) (v3 : Int32) (v4 : Int32) : OR :=
  if v4 < 1 then rI (-2) t
  else if v4 ≤ 99 then hGetC t 10 0 4 5 <|
    hRecv t 7 5 <| bI (fSs_add t v1 v2 v3 v4) fun add2 t1 =>
    rI add2 t1
  else rI (-2) t
def fx_street (t : SM) (a : Int32) (b : Int32) (c : Int32) (d : Int32) : OR :=
  bI (fx_isPlace t a) fun isPlace2 t1 =>
  if isPlace2 = 0 then rI (-2) t1
  else bI (fx_isPlace t1 b) fun isPlace4 t3 =>
  if isPlace4 = 0 then rI (-2) t3
  else if a = b then rI (-2) t3
  else if c = (-1) then fx_street_35 t3 a b c d
    else hRecv t3 10 0 <| bI (fx_isChoice t3 c) fun isChoice6 t5 =>
    if isChoice6 = 0 then rI (-2) t5
    else fx_street_35 t5 a b c d
def F_125 (as : List Value) (t : SM) : OR := match as with
  | [.ref z0, .int a, .int b, .int c, .int d] => (match Nat.beq z0 0 with | true => fx_street t a b c d | false => none)
  | _ => none
/-! EveryMapWrong.isTwo(I)Z -/
def fx_isTwo (t : SM) (a : Int32) : OR :=
  if a < 0 then rI 0 t
  else bI (fx_startOf t a) fun startOf2 t1 =>
  bI (fx_isPlace t1 startOf2) fun isPlace4 t3 =>
  if isPlace4 = 0 then rI 0 t3
  else bI (fx_goalOf t3 a) fun goalOf6 t5 =>
  bI (fx_isPlace t5 goalOf6) fun isPlace8 t7 =>
  if isPlace8 = 0 then rI 0 t7
  else rI 1 t7
def F_159 (as : List Value) (t : SM) : OR := match as with
  | [.int a] => fx_isTwo t a
  | _ => none
/-! EveryMapWrong.way(II)I -/
def fx_way (t : SM) (a : Int32) (b : Int32) : OR :=
  bI (fx_isTwo t a) fun isTwo2 t1 =>
  if isTwo2 = 0 then rI (-5) t1
  else hRecv t1 10 0 <| bI (fx_isTown t1 b) fun isTown4 t3 =>
    if isTown4 = 0 then rI (-7) t3
    else hGetC t3 10 0 4 5 <|
      hGetC t3 10 0 4 5 <|
      hRecv t3 7 5 <| bI (fSs_openIn t3 b) fun openIn6 t5 =>
      hRecv t5 7 5 <| bI (fSs_shortest t5 a openIn6) fun shortest8 t7 =>
      rI shortest8 t7
def F_126 (as : List Value) (t : SM) : OR := match as with
  | [.ref z0, .int a, .int b] => (match Nat.beq z0 0 with | true => fx_way t a b | false => none)
  | _ => none
/-! EveryMapWrong.safe(I)I -/
def fx_safe (t : SM) (a : Int32) : OR :=
  bI (fx_isTwo t a) fun isTwo2 t1 =>
  if isTwo2 = 0 then rI (-5) t1
  else hGetC t1 10 0 3 1 <|
    hRecv t1 1 1 <| bI (fAt_everyMap t1) fun everyMap4 t3 =>
    hRecv t3 10 0 <| bI (fx_findWorlds t3 everyMap4) fun findWorlds6 t5 =>
    if findWorlds6 = 0 then rI (-3) t5
    else hGetC t5 10 0 4 5 <|
      hGetC t5 10 0 4 5 <|
      hGetC t5 10 0 13 16 <|
      hRecv t5 9 16 <| bI (fWd_soInAll t5) fun soInAll8 t7 =>
      hRecv t7 7 5 <| bI (fSs_openIn t7 soInAll8) fun openIn10 t9 =>
      hRecv t9 7 5 <| bI (fSs_shortest t9 a openIn10) fun shortest12 t11 =>
      rI shortest12 t11
def F_127 (as : List Value) (t : SM) : OR := match as with
  | [.ref z0, .int a] => (match Nat.beq z0 0 with | true => fx_safe t a | false => none)
  | _ => none
/-! EveryMapWrong.findFewWorlds()Z -/
def fx_findFewWorlds (t : SM) : OR :=
  hGetC t 10 0 3 1 <|
  hRecv t 1 1 <| bI (fAt_everyMap t) fun everyMap2 t1 =>
  hRecv t1 10 0 <| bI (fx_findWorlds t1 everyMap2) fun findWorlds4 t3 =>
  if findWorlds4 < 1 then rI 0 t3
  else if 7 < findWorlds4 then rI 0 t3
  else rI 1 t3
def F_173 (as : List Value) (t : SM) : OR := match as with
  | [.ref z0] => (match Nat.beq z0 0 with | true => fx_findFewWorlds t | false => none)
  | _ => none
/-! EveryMapWrong.soon(I)I -/
def fx_soon (t : SM) (a : Int32) : OR :=
  bI (fx_isTwo t a) fun isTwo2 t1 =>
  if isTwo2 = 0 then rI (-5) t1
  else hRecv t1 10 0 <| bI (fx_findFewWorlds t1) fun findFewWorlds4 t3 =>
    if findFewWorlds4 = 0 then rI (-3) t3
    else hGetC t3 10 0 17 22 <|
      hGetC t3 10 0 13 16 <|
      bI (fx_goalOf t3 a) fun goalOf6 t5 =>
      hRecv t5 0 22 <| bV (fAW_study t5 goalOf6) fun t7 =>
      hGetC t7 10 0 17 22 <|
      bI (fx_startOf t7 a) fun startOf9 t8 =>
      hRecv t8 0 22 <| bI (fAW_longestFrom t8 startOf9) fun longestFrom11 t10 =>
      rI longestFrom11 t10
def F_128 (as : List Value) (t : SM) : OR := match as with
  | [.ref z0, .int a] => (match Nat.beq z0 0 with | true => fx_soon t a | false => none)
  | _ => none
/-! EveryMapWrong.step(II)I -/
def fx_step (t : SM) (a : Int32) (b : Int32) : OR :=
  bI (fx_isTwo t a) fun isTwo2 t1 =>
  if isTwo2 = 0 then rI (-5) t1
  else hRecv t1 10 0 <| bI (fx_isTown t1 b) fun isTown4 t3 =>
    if isTown4 = 0 then rI (-7) t3
    else hRecv t3 10 0 <| bI (fx_findFewWorlds t3) fun findFewWorlds6 t5 =>
      if findFewWorlds6 = 0 then rI (-3) t5
      else hGetC t5 10 0 13 16 <|
      hRecv t5 9 16 <| bI (fWd_placeOf t5 b) fun placeOf8 t7 =>
      if 0 ≤ placeOf8 then hGetC t7 10 0 17 22 <|
        hGetC t7 10 0 13 16 <|
        bI (fx_goalOf t7 a) fun goalOf10 t9 =>
        hRecv t9 0 22 <| bV (fAW_study t9 goalOf10) fun t11 =>
        hGetC t11 10 0 17 22 <|
        bI (fx_startOf t11 a) fun startOf13 t12 =>
        hGetC t12 10 0 13 16 <|
        hRecv t12 9 16 <| bI (fWd_placeOf t12 b) fun placeOf15 t14 =>
        hRecv t14 0 22 <| bI (fAW_firstStreet t14 startOf13 placeOf15) fun firstStreet17 t16 =>
        rI firstStreet17 t16
      else rI (-3) t7
def F_129 (as : List Value) (t : SM) : OR := match as with
  | [.ref z0, .int a, .int b] => (match Nat.beq z0 0 with | true => fx_step t a b | false => none)
  | _ => none
/-! EveryMapWrong.trip(III)I -/
def fx_trip (t : SM) (a : Int32) (b : Int32) (c : Int32) : OR :=
  hGetC t 10 0 3 1 <|
  hRecv t 1 1 <| bQ (fAt_chartAt t a) (fun t1 => rI (-5) t1) fun q2 t1 =>
  bI (fx_isTwo t1 b) fun isTwo4 t3 =>
  if isTwo4 = 0 then rI (-5) t3
  else hRecv t3 10 0 <| bI (fx_isTown t3 c) fun isTown6 t5 =>
    if isTown6 = 0 then rI (-7) t5
    else hGetC t5 10 0 4 5 <|
      hGetI t5 2 q2 1 fun says7 =>
      hRecv t5 7 5 <| bI (fSs_walk t5 b says7 c) fun walk9 t8 =>
      rI walk9 t8
def F_130 (as : List Value) (t : SM) : OR := match as with
  | [.ref z0, .int a, .int b, .int c] => (match Nat.beq z0 0 with | true => fx_trip t a b c | false => none)
  | _ => none
/-! EveryMapWrong.goer(I)I -/
def fx_goer (t : SM) (a : Int32) : OR :=
  bI (fx_isTwo t a) fun isTwo2 t1 =>
  if isTwo2 = 0 then rI (-2) t1
  else hGetI t1 10 0 6 fun goerCount3 =>
    if goerCount3 < 6 then hGetC t1 10 0 5 8 <|
      hGetI t1 10 0 6 fun goerCount4 =>
      hASt t1 8 goerCount4 a fun t5 =>
      hGetI t5 10 0 6 fun goerCount6 =>
      hPutI t5 10 0 6 (goerCount6 + 1) fun t7 =>
      hGetI t7 10 0 6 fun goerCount8 =>
      rI (goerCount8 - 1) t7
    else rI (-4) t1
def F_131 (as : List Value) (t : SM) : OR := match as with
  | [.ref z0, .int a] => (match Nat.beq z0 0 with | true => fx_goer t a | false => none)
  | _ => none
/-! EveryMapWrong.bounded(I)I -/
def fx_bounded (t : SM) (a : Int32) : OR :=
  bI (fjM_min t 999 a) fun min2 t1 =>
  bI (fjM_max t1 0 min2) fun max4 t3 =>
  rI max4 t3
def F_165 (as : List Value) (t : SM) : OR := match as with
  | [.int a] => fx_bounded t a
  | _ => none
/-! EveryMapWrong.harmForOne(III)I -/
def fx_harmForOne (t : SM) (a : Int32) (b : Int32) (c : Int32) : OR :=
  hGetC t 10 0 5 8 <|
  bI (fx_numberAt t 8 a) fun numberAt2 t1 =>
  hRecv t1 10 0 <| bQ (fx_lawText t1) (fun t3 => hGetC t3 10 0 4 5 <|
    hGetC t3 10 0 4 5 <|
    hRecv t3 7 5 <| bI (fSs_openIn t3 b) fun openIn6 t5 =>
    hRecv t5 7 5 <| bI (fSs_shortest t5 numberAt2 openIn6) fun shortest8 t7 =>
    if shortest8 < 0 then rI 0 t7
    else rI 0 t7) fun q4 t3 =>
  hGetC t3 10 0 4 5 <|
  hGetC t3 10 0 4 5 <|
  hRecv t3 7 5 <| bI (fSs_openIn t3 b) fun openIn10 t9 =>
  hRecv t9 7 5 <| bI (fSs_shortest t9 numberAt2 openIn10) fun shortest12 t11 =>
  if shortest12 < 0 then rI 0 t11
  else hGetC t11 10 0 4 5 <|
  hRecv t11 7 5 <| bI (fSs_walk t11 numberAt2 c b) fun walk14 t13 =>
  if 0 ≤ walk14 then hRecv t13 8 q4 <| bI (fTx_harmOf t13 q4 b (walk14 - shortest12)) fun harmOf16 t15 =>
    bI (fx_bounded t15 harmOf16) fun bounded18 t17 =>
    rI bounded18 t17
  else hRecv t13 8 q4 <| bI (fTx_harmOf t13 q4 b 99) fun harmOf20 t19 =>
  bI (fx_bounded t19 harmOf20) fun bounded22 t21 =>
  rI bounded22 t21
def F_180 (as : List Value) (t : SM) : OR := match as with
  | [.ref z0, .int a, .int b, .int c] => (match Nat.beq z0 0 with | true => fx_harmForOne t a b c | false => none)
  | _ => none
/-! EveryMapWrong.harmOfSlip(II)I -/
def fx_harmOfSlip_5 (r5 : SM → Int32 → Int32 → Int32 → Int32 → OR) (t : SM) (v1 : Int32) (v2 : Int32) (v3 : Int32) (v4 : Int32) : OR :=
  hGetI t 10 0 6 fun goerCount1 =>
  if goerCount1 ≤ v4 then rI v3 t
  else hRecv t 10 0 <| bI (fx_harmForOne t v4 v1 (v1 ^^^ ((1 : Int32) <<< (v2 &&& 31)))) fun harmForOne3 t2 =>
  r5 t2 v1 v2 (v3 + harmForOne3) (v4 + 1)
def fx_harmOfSlip_l5 : Nat → SM → Int32 → Int32 → Int32 → Int32 → OR
  | 0, _, _, _, _, _ => none
  | n + 1, t, v1, v2, v3, v4 => fx_harmOfSlip_5 (fx_harmOfSlip_l5 n) t v1 v2 v3 v4
def fx_harmOfSlip (t : SM) (a : Int32) (b : Int32) : OR :=
  fx_harmOfSlip_l5 1000000 t a b 0 0
def F_179 (as : List Value) (t : SM) : OR := match as with
  | [.ref z0, .int a, .int b] => (match Nat.beq z0 0 with | true => fx_harmOfSlip t a b | false => none)
  | _ => none
/-! EveryMapWrong.harm(II)I -/
def fx_harm (t : SM) (a : Int32) (b : Int32) : OR :=
  hRecv t 10 0 <| bI (fx_isTown t a) fun isTown2 t1 =>
  if isTown2 = 0 then rI (-2) t1
  else hRecv t1 10 0 <| bI (fx_isChoice t1 b) fun isChoice4 t3 =>
    if isChoice4 = 0 then rI (-5) t3
    else hRecv t3 10 0 <| bI (fx_harmOfSlip t3 a b) fun harmOfSlip6 t5 =>
      rI harmOfSlip6 t5
def F_132 (as : List Value) (t : SM) : OR := match as with
  | [.ref z0, .int a, .int b] => (match Nat.beq z0 0 with | true => fx_harm t a b | false => none)
  | _ => none
/-! EveryMapWrong.put(II)I -/
def fx_put_69 (t : SM) (v2 : Int32) (v3 : Int32) (v4 : Int32) : OR :=
  if v2 = 0 then rI v3 t
  else rI v4 t
def fx_put_31 (k69 : SM → Int32 → Int32 → Int32 → OR) (r31 : SM → Int32 → Int32 → Int32 → Int32 → Int32 → OR) (t : SM) (v1 : Int32) (v2 : Int32) (v3 : Int32) (v4 : Int32) (v5 : Int32) : OR :=
  hGetI t 10 0 0 fun choices1 =>
  if choices1 ≤ v5 then k69 t v2 v3 v4
  else hRecv t 10 0 <| bI (fx_harmOfSlip t v1 v5) fun harmOfSlip3 t2 =>
  if v4 ≤ harmOfSlip3 then r31 t2 v1 v2 v3 v4 (v5 + 1)
  else r31 t2 v1 v2 v5 harmOfSlip3 (v5 + 1)
def fx_put_l31 (k69 : SM → Int32 → Int32 → Int32 → OR) : Nat → SM → Int32 → Int32 → Int32 → Int32 → Int32 → OR
  | 0, _, _, _, _, _, _ => none
  | n + 1, t, v1, v2, v3, v4, v5 => fx_put_31 k69 (fx_put_l31 k69 n) t v1 v2 v3 v4 v5
def fx_put (t : SM) (a : Int32) (b : Int32) : OR :=
  hRecv t 10 0 <| bI (fx_isTown t a) fun isTown2 t1 =>
  if isTown2 = 0 then rI (-2) t1
  else bI (fx_isZeroOrOne t1 b) fun isZeroOrOne4 t3 =>
  if isZeroOrOne4 = 0 then rI (-2) t3
  else hRecv t3 10 0 <| bI (fx_harmOfSlip t3 a 0) fun harmOfSlip6 t5 =>
    fx_put_l31 (fun t u2 u3 u4 => fx_put_69 t u2 u3 u4) 1000000 t5 a b 0 harmOfSlip6 1
def F_133 (as : List Value) (t : SM) : OR := match as with
  | [.ref z0, .int a, .int b] => (match Nat.beq z0 0 with | true => fx_put t a b | false => none)
  | _ => none
/-! EveryMapWrong.trick(III)I -/
def fx_trick_94 (t : SM) (v3 : Int32) (v4 : Int32) (v5 : Int32) : OR :=
  if v3 = 0 then rI v4 t
  else rI v5 t
def fx_trick_50 (k94 : SM → Int32 → Int32 → Int32 → OR) (r50 : SM → Int32 → Int32 → Int32 → Int32 → Int32 → Int32 → OR) (t : SM) (v1 : Int32) (v2 : Int32) (v3 : Int32) (v4 : Int32) (v5 : Int32) (v6 : Int32) : OR :=
  hGetI t 10 0 0 fun choices1 =>
  if choices1 ≤ v6 then k94 t v3 v4 v5
  else hRecv t 10 0 <| bI (fx_harmForOne t v2 v1 (v1 ^^^ ((1 : Int32) <<< (v6 &&& 31)))) fun harmForOne3 t2 =>
  if harmForOne3 ≤ v5 then r50 t2 v1 v2 v3 v4 v5 (v6 + 1)
  else r50 t2 v1 v2 v3 v6 harmForOne3 (v6 + 1)
def fx_trick_l50 (k94 : SM → Int32 → Int32 → Int32 → OR) : Nat → SM → Int32 → Int32 → Int32 → Int32 → Int32 → Int32 → OR
  | 0, _, _, _, _, _, _, _ => none
  | n + 1, t, v1, v2, v3, v4, v5, v6 => fx_trick_50 k94 (fx_trick_l50 k94 n) t v1 v2 v3 v4 v5 v6
def fx_trick (t : SM) (a : Int32) (b : Int32) (c : Int32) : OR :=
  hRecv t 10 0 <| bI (fx_isTown t a) fun isTown2 t1 =>
  if isTown2 = 0 then rI (-2) t1
  else bI (fx_isZeroOrOne t1 c) fun isZeroOrOne4 t3 =>
  if isZeroOrOne4 = 0 then rI (-2) t3
  else if b < 0 then rI (-5) t3
    else hGetI t3 10 0 6 fun goerCount5 =>
    if b < goerCount5 then hRecv t3 10 0 <| bI (fx_harmForOne t3 b a (a ^^^ 1)) fun harmForOne7 t6 =>
      fx_trick_l50 (fun t u3 u4 u5 => fx_trick_94 t u3 u4 u5) 1000000 t6 a b c 0 harmForOne7 1
    else rI (-5) t3
def F_134 (as : List Value) (t : SM) : OR := match as with
  | [.ref z0, .int a, .int b, .int c] => (match Nat.beq z0 0 with | true => fx_trick t a b c | false => none)
  | _ => none
/-! EveryMapWrong.enough(I)I -/
def fx_enough_101 (t : SM) : OR :=
  hRecv t 10 0 <| bI (fx_fewestWanted t) fun fewestWanted2 t1 =>
  rI fewestWanted2 t1
def fx_enough_53 (k101 : SM → OR) (r53 : SM → Int32 → OR) (t : SM) (v2 : Int32) : OR :=
  if 256 ≤ v2 then k101 t
  else hGetC t 10 0 16 21 <|
  hGetC t 10 0 15 20 <|
  hALd t 20 v2 fun e1 =>
  if e1 = 0 then hBSt t 21 v2 1 fun t2 =>
    r53 t2 (v2 + 1)
  else hGetC t 10 0 15 20 <|
  hALd t 20 v2 fun e3 =>
  hGetC t 10 0 14 19 <|
  hALd t 19 v2 fun e4 =>
  if e3 = e4 then hBSt t 21 v2 1 fun t6 =>
  r53 t6 (v2 + 1)
  else hBSt t 21 v2 0 fun t5 =>
    r53 t5 (v2 + 1)
def fx_enough_l53 (k101 : SM → OR) : Nat → SM → Int32 → OR
  | 0, _, _ => none
  | n + 1, t, v2 => fx_enough_53 k101 (fx_enough_l53 k101 n) t v2
def fx_enough (t : SM) (a : Int32) : OR :=
  hRecv t 10 0 <| bI (fx_isChoice t a) fun isChoice2 t1 =>
  if isChoice2 = 0 then rI (-5) t1
  else hGetC t1 10 0 14 19 <|
    hRecv t1 10 0 <| bV (fx_tally t1 19 0) fun t3 =>
    hGetC t3 10 0 14 19 <|
    hGetC t3 10 0 3 1 <|
    hRecv t3 1 1 <| bI (fAt_everyMap t3) fun everyMap5 t4 =>
    bI (fx_numberAt t4 19 everyMap5) fun numberAt7 t6 =>
    if numberAt7 = 0 then rI (-3) t6
    else hGetC t6 10 0 15 20 <|
      hRecv t6 10 0 <| bV (fx_tally t6 20 ((1 : Int32) <<< (a &&& 31))) fun t8 =>
      fx_enough_l53 (fun t => fx_enough_101 t) 1000000 t8 0
def F_135 (as : List Value) (t : SM) : OR := match as with
  | [.ref z0, .int a] => (match Nat.beq z0 0 with | true => fx_enough t a | false => none)
  | _ => none
/-! EveryMapWrong.many()I -/
def fx_many_60 (t : SM) : OR :=
  hRecv t 10 0 <| bI (fx_fewestWanted t) fun fewestWanted2 t1 =>
  rI fewestWanted2 t1
def fx_many_26 (k60 : SM → OR) (r26 : SM → Int32 → Int32 → OR) (t : SM) (v1 : Int32) (v2 : Int32) : OR :=
  if 256 ≤ v2 then k60 t
  else hGetC t 10 0 16 21 <|
  hGetC t 10 0 14 19 <|
  hALd t 19 v2 fun e1 =>
  if e1 = v1 then hBSt t 21 v2 1 fun t3 =>
  r26 t3 v1 (v2 + 1)
  else hBSt t 21 v2 0 fun t2 =>
    r26 t2 v1 (v2 + 1)
def fx_many_l26 (k60 : SM → OR) : Nat → SM → Int32 → Int32 → OR
  | 0, _, _, _ => none
  | n + 1, t, v1, v2 => fx_many_26 k60 (fx_many_l26 k60 n) t v1 v2
def fx_many (t : SM) : OR :=
  hGetC t 10 0 14 19 <|
  hRecv t 10 0 <| bV (fx_tally t 19 0) fun t1 =>
  hGetC t1 10 0 14 19 <|
  hGetC t1 10 0 3 1 <|
  hRecv t1 1 1 <| bI (fAt_everyMap t1) fun everyMap3 t2 =>
  bI (fx_numberAt t2 19 everyMap3) fun numberAt5 t4 =>
  fx_many_l26 (fun t => fx_many_60 t) 1000000 t4 numberAt5 0
def F_136 (as : List Value) (t : SM) : OR := match as with
  | [.ref z0] => (match Nat.beq z0 0 with | true => fx_many t | false => none)
  | _ => none
/-! EveryMapWrong.next(I)I -/
def fx_next_89 (t : SM) (v1 : Int32) (v2 : Int32) (v3 : Int32) : OR :=
  if v1 = 0 then rI v3 t
  else rI v2 t
def fx_next_34 (k89 : SM → Int32 → Int32 → Int32 → OR) (r34 : SM → Int32 → Int32 → Int32 → Int32 → OR) (t : SM) (v1 : Int32) (v2 : Int32) (v3 : Int32) (v4 : Int32) : OR :=
  hGetI t 10 0 0 fun choices1 =>
  if choices1 ≤ v4 then k89 t v1 v2 v3
  else hGetC t 10 0 13 16 <|
  hRecv t 9 16 <| bI (fWd_howManyHave t v4) fun howManyHave3 t2 =>
  hGetC t2 10 0 13 16 <|
  hGetI t2 9 16 1 fun size4 =>
  bI (fjM_max t2 howManyHave3 (size4 - howManyHave3)) fun max6 t5 =>
  if v2 ≤ max6 then r34 t5 v1 v2 v3 (v4 + 1)
  else r34 t5 v1 max6 v4 (v4 + 1)
def fx_next_l34 (k89 : SM → Int32 → Int32 → Int32 → OR) : Nat → SM → Int32 → Int32 → Int32 → Int32 → OR
  | 0, _, _, _, _, _ => none
  | n + 1, t, v1, v2, v3, v4 => fx_next_34 k89 (fx_next_l34 k89 n) t v1 v2 v3 v4
def fx_next (t : SM) (a : Int32) : OR :=
  bI (fx_isZeroOrOne t a) fun isZeroOrOne2 t1 =>
  if isZeroOrOne2 = 0 then rI (-2) t1
  else hGetC t1 10 0 3 1 <|
    hRecv t1 1 1 <| bI (fAt_everyMap t1) fun everyMap4 t3 =>
    hRecv t3 10 0 <| bI (fx_findWorlds t3 everyMap4) fun findWorlds6 t5 =>
    if findWorlds6 = 0 then rI (-3) t5
    else fx_next_l34 (fun t u1 u2 u3 => fx_next_89 t u1 u2 u3) 1000000 t5 a findWorlds6 (-1) 0
def F_137 (as : List Value) (t : SM) : OR := match as with
  | [.ref z0, .int a] => (match Nat.beq z0 0 with | true => fx_next t a | false => none)
  | _ => none
/-! EveryMapWrong.looks()I -/
def fx_looks (t : SM) : OR :=
  hRecv t 10 0 <| bI (fx_findFewWorlds t) fun findFewWorlds2 t1 =>
  if findFewWorlds2 = 0 then rI (-3) t1
  else hGetC t1 10 0 13 16 <|
    hGetI t1 10 0 0 fun choices3 =>
    hRecv t1 9 16 <| bI (fWd_looksAtWorst t1 choices3) fun looksAtWorst5 t4 =>
    rI looksAtWorst5 t4
def F_138 (as : List Value) (t : SM) : OR := match as with
  | [.ref z0] => (match Nat.beq z0 0 with | true => fx_looks t | false => none)
  | _ => none
/-! EveryMapWrong.from(I)I -/
def fx_from_21 (r21 : SM → Int32 → Int32 → Int32 → OR) (t : SM) (v1 : Int32) (v3 : Int32) (v4 : Int32) : OR :=
  hGetC t 10 0 3 1 <|
  hGetI t 1 1 1 fun size1 =>
  if size1 ≤ v4 then rI v3 t
  else hGetC t 10 0 3 1 <|
  hRecv t 1 1 <| bI (fAt_unlike t v1 v4) fun unlike3 t2 =>
  if unlike3 = 1 then r21 t2 v1 (v3 ||| ((1 : Int32) <<< (v4 &&& 31))) (v4 + 1)
  else r21 t2 v1 v3 (v4 + 1)
def fx_from_l21 : Nat → SM → Int32 → Int32 → Int32 → OR
  | 0, _, _, _, _ => none
  | n + 1, t, v1, v3, v4 => fx_from_21 (fx_from_l21 n) t v1 v3 v4
def fx_from (t : SM) (a : Int32) : OR :=
  hGetC t 10 0 3 1 <|
  hRecv t 1 1 <| bQ (fAt_chartAt t a) (fun t1 => rI (-5) t1) fun q2 t1 =>
  fx_from_l21 1000000 t1 a 0 0
def F_139 (as : List Value) (t : SM) : OR := match as with
  | [.ref z0, .int a] => (match Nat.beq z0 0 with | true => fx_from t a | false => none)
  | _ => none
/-! EveryMapWrong.tree()I -/
def fx_tree (t : SM) : OR :=
  hGetC t 10 0 3 1 <|
  hRecv t 1 1 <| bI (fAt_drawFromOneAnother t) fun drawFromOneAnother2 t1 =>
  rI drawFromOneAnother2 t1
def F_140 (as : List Value) (t : SM) : OR := match as with
  | [.ref z0] => (match Nat.beq z0 0 with | true => fx_tree t | false => none)
  | _ => none
/-! EveryMapWrong.drawnFrom(I)I -/
def fx_drawnFrom (t : SM) (a : Int32) : OR :=
  hGetC t 10 0 3 1 <|
  hRecv t 1 1 <| bQ (fAt_chartAt t a) (fun t1 => rI (-5) t1) fun q2 t1 =>
  hGetC t1 10 0 3 1 <|
  hRecv t1 1 1 <| bI (fAt_drawFromOneAnother t1) fun drawFromOneAnother4 t3 =>
  hGetC t3 10 0 3 1 <|
  hRecv t3 1 1 <| bI (fAt_originOf t3 a) fun originOf6 t5 =>
  rI originOf6 t5
def F_141 (as : List Value) (t : SM) : OR := match as with
  | [.ref z0, .int a] => (match Nat.beq z0 0 with | true => fx_drawnFrom t a | false => none)
  | _ => none
/-! EveryMapWrong.over(III)I -/
def fx_over (t : SM) (a : Int32) (b : Int32) (c : Int32) : OR :=
  hGetC t 10 0 3 1 <|
  hRecv t 1 1 <| bQ (fAt_chartAt t a) (fun t1 => hGetC t1 10 0 3 1 <|
    hRecv t1 1 1 <| bQ (fAt_chartAt t1 b) (fun t3 => rI (-5) t3) fun q4 t3 =>
    rI (-5) t3) fun q2 t1 =>
  hGetC t1 10 0 3 1 <|
  hRecv t1 1 1 <| bQ (fAt_chartAt t1 b) (fun t5 => rI (-5) t5) fun q6 t5 =>
  bI (fx_isZeroOrOne t5 c) fun isZeroOrOne8 t7 =>
  if isZeroOrOne8 = 0 then rI (-7) t7
  else hGetI t7 2 q2 1 fun says9 =>
    hGetI t7 2 q6 1 fun says10 =>
    hRecv t7 2 q2 <| bI (fCh_shown t7 q2) fun shown12 t11 =>
    hRecv t11 2 q6 <| bI (fCh_shown t11 q6) fun shown14 t13 =>
    hRecv t13 10 0 <| bI (fx_everyChoice t13) fun everyChoice16 t15 =>
    if c = 0 then rI ((((says9 ^^^ says10) &&& shown12) &&& shown14) &&& everyChoice16) t15
    else bI (fjI_bitCount t15 ((((says9 ^^^ says10) &&& shown12) &&& shown14) &&& everyChoice16)) fun bitCount18 t17 =>
      rI bitCount18 t17
def F_142 (as : List Value) (t : SM) : OR := match as with
  | [.ref z0, .int a, .int b, .int c] => (match Nat.beq z0 0 with | true => fx_over t a b c | false => none)
  | _ => none
/-! EveryMapWrong.join()I -/
def fx_join (t : SM) : OR :=
  hGetC t 10 0 3 1 <|
  hRecv t 1 1 <| bI (fAt_everyPart t) fun everyPart2 t1 =>
  hRecv t1 10 0 <| bI (fx_findWorlds t1 everyPart2) fun findWorlds4 t3 =>
  rI findWorlds4 t3
def F_143 (as : List Value) (t : SM) : OR := match as with
  | [.ref z0] => (match Nat.beq z0 0 with | true => fx_join t | false => none)
  | _ => none
/-! EveryMapWrong.years(II)I -/
def fx_years_119 (t : SM) (v2 : Int32) (v4 : Int32) (v5 : Int32) : OR :=
  if v2 = 0 then rI v4 t
  else rI v5 t
def fx_years_58 (k119 : SM → Int32 → Int32 → Int32 → OR) (r58 : SM → Int32 → Nat → Int32 → Int32 → Int32 → OR) (t : SM) (v2 : Int32) (v3 : Nat) (v4 : Int32) (v5 : Int32) (v6 : Int32) : OR :=
  hGetC t 10 0 13 16 <|
  hGetI t 9 16 1 fun size1 =>
  if size1 ≤ v6 then k119 t v2 v4 v5
  else hGetI t 2 v3 1 fun says2 =>
  hGetC t 10 0 13 16 <|
  hRecv t 9 16 <| bI (fWd_townAt t v6) fun townAt4 t3 =>
  bI (fjI_bitCount t3 (says2 ^^^ townAt4)) fun bitCount6 t5 =>
  bI (fjM_max t5 0 (bitCount6 - 1)) fun max8 t7 =>
  bI (fjM_min t7 v4 max8) fun min10 t9 =>
  bI (fjM_max t9 v5 max8) fun max12 t11 =>
  r58 t11 v2 v3 min10 max12 (v6 + 1)
def fx_years_l58 (k119 : SM → Int32 → Int32 → Int32 → OR) : Nat → SM → Int32 → Nat → Int32 → Int32 → Int32 → OR
  | 0, _, _, _, _, _, _ => none
  | n + 1, t, v2, v3, v4, v5, v6 => fx_years_58 k119 (fx_years_l58 k119 n) t v2 v3 v4 v5 v6
def fx_years (t : SM) (a : Int32) (b : Int32) : OR :=
  hGetC t 10 0 3 1 <|
  hRecv t 1 1 <| bQ (fAt_chartAt t a) (fun t1 => rI (-5) t1) fun q2 t1 =>
  bI (fx_isZeroOrOne t1 b) fun isZeroOrOne4 t3 =>
  if isZeroOrOne4 = 0 then rI (-7) t3
  else hGetC t3 10 0 3 1 <|
    hRecv t3 1 1 <| bI (fAt_everyMap t3) fun everyMap6 t5 =>
    hRecv t5 10 0 <| bI (fx_findWorlds t5 (everyMap6 &&& (((1 : Int32) <<< (a &&& 31)) ^^^ (-1)))) fun findWorlds8 t7 =>
    if findWorlds8 = 0 then rI (-1) t7
    else fx_years_l58 (fun t u2 u4 u5 => fx_years_119 t u2 u4 u5) 1000000 t7 b q2 9 0 0
def F_144 (as : List Value) (t : SM) : OR := match as with
  | [.ref z0, .int a, .int b] => (match Nat.beq z0 0 with | true => fx_years t a b | false => none)
  | _ => none
/-! EveryMapWrong.isBetterBuy(II)Z -/
def fx_isBetterBuy (t : SM) (a : Int32) (b : Int32) : OR :=
  hGetC t 10 0 14 19 <|
  bI (fx_numberAt t 19 a) fun numberAt2 t1 =>
  hGetC t1 10 0 14 19 <|
  bI (fx_numberAt t1 19 b) fun numberAt4 t3 =>
  if numberAt2 < numberAt4 then rI 1 t3
  else if numberAt2 = numberAt4 then hGetC t3 10 0 3 1 <|
  hRecv t3 1 1 <| bI (fAt_costOf t3 a) fun costOf6 t5 =>
  hGetC t5 10 0 3 1 <|
  hRecv t5 1 1 <| bI (fAt_costOf t5 b) fun costOf8 t7 =>
  if costOf8 ≤ costOf6 then rI 0 t7
  else rI 1 t7
  else rI 0 t3
def F_177 (as : List Value) (t : SM) : OR := match as with
  | [.ref z0, .int a, .int b] => (match Nat.beq z0 0 with | true => fx_isBetterBuy t a b | false => none)
  | _ => none
/-! EveryMapWrong.buy(II)I -/
def fx_buy_79 (t : SM) (v2 : Int32) (v3 : Int32) : OR :=
  if v2 = 0 then rI v3 t
  else hGetC t 10 0 14 19 <|
    bI (fx_numberAt t 19 v3) fun numberAt2 t1 =>
    rI numberAt2 t1
def fx_buy_35 (k79 : SM → Int32 → Int32 → OR) (r35 : SM → Int32 → Int32 → Int32 → Int32 → OR) (t : SM) (v1 : Int32) (v2 : Int32) (v3 : Int32) (v4 : Int32) : OR :=
  hGetC t 10 0 3 1 <|
  hRecv t 1 1 <| bI (fAt_everyMap t) fun everyMap2 t1 =>
  if everyMap2 < v4 then k79 t1 v2 v3
  else hGetC t1 10 0 3 1 <|
  hRecv t1 1 1 <| bI (fAt_costOf t1 v4) fun costOf4 t3 =>
  if v1 < costOf4 then r35 t3 v1 v2 v3 (v4 + 1)
  else hRecv t3 10 0 <| bI (fx_isBetterBuy t3 v4 v3) fun isBetterBuy6 t5 =>
  if isBetterBuy6 = 0 then r35 t5 v1 v2 v3 (v4 + 1)
  else r35 t5 v1 v2 v4 (v4 + 1)
def fx_buy_l35 (k79 : SM → Int32 → Int32 → OR) : Nat → SM → Int32 → Int32 → Int32 → Int32 → OR
  | 0, _, _, _, _, _ => none
  | n + 1, t, v1, v2, v3, v4 => fx_buy_35 k79 (fx_buy_l35 k79 n) t v1 v2 v3 v4
def fx_buy (t : SM) (a : Int32) (b : Int32) : OR :=
  if a < 0 then rI (-2) t
  else if 9999 < a then rI (-2) t
  else bI (fx_isZeroOrOne t b) fun isZeroOrOne2 t1 =>
  if isZeroOrOne2 = 0 then rI (-2) t1
  else hGetC t1 10 0 14 19 <|
    hRecv t1 10 0 <| bV (fx_tally t1 19 0) fun t3 =>
    fx_buy_l35 (fun t u2 u3 => fx_buy_79 t u2 u3) 1000000 t3 a b 0 1
def F_145 (as : List Value) (t : SM) : OR := match as with
  | [.ref z0, .int a, .int b] => (match Nat.beq z0 0 with | true => fx_buy t a b | false => none)
  | _ => none
/-! EveryMapWrong.worth(I)I -/
def fx_worth (t : SM) (a : Int32) : OR :=
  hGetC t 10 0 3 1 <|
  hRecv t 1 1 <| bQ (fAt_chartAt t a) (fun t1 => hRecv t1 10 0 <| bQ (fx_lawText t1) (fun t3 => rI (-5) t3) fun q4 t3 =>
    rI (-5) t3) fun q2 t1 =>
  hRecv t1 10 0 <| bQ (fx_lawText t1) (fun t5 => rI (-5) t5) fun q6 t5 =>
  hGetC t5 10 0 3 1 <|
  hRecv t5 1 1 <| bI (fAt_everyMap t5) fun everyMap8 t7 =>
  hRecv t7 10 0 <| bI (fx_findWorlds t7 everyMap8) fun findWorlds10 t9 =>
  hGetC t9 10 0 3 1 <|
  hRecv t9 1 1 <| bI (fAt_everyMap t9) fun everyMap12 t11 =>
  hRecv t11 10 0 <| bI (fx_findWorlds t11 (everyMap12 &&& (((1 : Int32) <<< (a &&& 31)) ^^^ (-1)))) fun findWorlds14 t13 =>
  hGetI t13 2 q2 1 fun says15 =>
  hRecv t13 8 q6 <| bI (fTx_priceOf t13 q6 says15 (findWorlds14 - findWorlds10)) fun priceOf17 t16 =>
  bI (fx_bounded t16 priceOf17) fun bounded19 t18 =>
  rI bounded19 t18
def F_146 (as : List Value) (t : SM) : OR := match as with
  | [.ref z0, .int a] => (match Nat.beq z0 0 with | true => fx_worth t a | false => none)
  | _ => none
/-! EveryMapWrong.drawn(II)I -/
def fx_drawn (t : SM) (a : Int32) (b : Int32) : OR :=
  if a < 0 then rI (-2) t
  else if 99999 < a then rI (-2) t
  else if b < 0 then rI (-2) t
  else if b ≤ 2 then hGetC t 10 0 3 1 <|
    hRecv t 1 1 <| bI (fAt_everyMap t) fun everyMap2 t1 =>
    hRecv t1 10 0 <| bI (fx_findWorlds t1 everyMap2) fun findWorlds4 t3 =>
    if findWorlds4 = 0 then rI (-3) t3
    else hGetC t3 10 0 13 16 <|
      hGetC t3 10 0 13 16 <|
      hGetI t3 9 16 1 fun size5 =>
      if 1 ≤ size5 then hGetC t3 10 0 13 16 <|
        hGetI t3 9 16 1 fun size6 =>
        hNZL (Int32.toInt64 size6) (hRecv t3 9 16 <| bI (fWd_townAt t3 (Int64.toInt32 ((((Int32.toInt64 (a + 1)) * 48271) - ((Int32.toInt64 (a + 1)) * 48271) / 2147483647 * 2147483647) - (((Int32.toInt64 (a + 1)) * 48271) - ((Int32.toInt64 (a + 1)) * 48271) / 2147483647 * 2147483647) / (Int32.toInt64 size6) * (Int32.toInt64 size6)))) fun townAt8 t7 =>
        hGetI t7 10 0 0 fun choices9 =>
        if 1 ≤ choices9 then hGetI t7 10 0 0 fun choices10 =>
          hNZL (Int32.toInt64 choices10) (if b = 0 then rI townAt8 t7
          else if b = 1 then rI (townAt8 ^^^ ((1 : Int32) <<< ((Int64.toInt32 ((((((Int32.toInt64 (a + 1)) * 48271) - ((Int32.toInt64 (a + 1)) * 48271) / 2147483647 * 2147483647) * 48271) - ((((Int32.toInt64 (a + 1)) * 48271) - ((Int32.toInt64 (a + 1)) * 48271) / 2147483647 * 2147483647) * 48271) / 2147483647 * 2147483647) - (((((Int32.toInt64 (a + 1)) * 48271) - ((Int32.toInt64 (a + 1)) * 48271) / 2147483647 * 2147483647) * 48271) - ((((Int32.toInt64 (a + 1)) * 48271) - ((Int32.toInt64 (a + 1)) * 48271) / 2147483647 * 2147483647) * 48271) / 2147483647 * 2147483647) / (Int32.toInt64 choices10) * (Int32.toInt64 choices10))) &&& 31))) t7
          else rI (Int64.toInt32 ((((((Int32.toInt64 (a + 1)) * 48271) - ((Int32.toInt64 (a + 1)) * 48271) / 2147483647 * 2147483647) * 48271) - ((((Int32.toInt64 (a + 1)) * 48271) - ((Int32.toInt64 (a + 1)) * 48271) / 2147483647 * 2147483647) * 48271) / 2147483647 * 2147483647) - (((((Int32.toInt64 (a + 1)) * 48271) - ((Int32.toInt64 (a + 1)) * 48271) / 2147483647 * 2147483647) * 48271) - ((((Int32.toInt64 (a + 1)) * 48271) - ((Int32.toInt64 (a + 1)) * 48271) / 2147483647 * 2147483647) * 48271) / 2147483647 * 2147483647) / (Int32.toInt64 choices10) * (Int32.toInt64 choices10))) t7)
        else if b = 0 then rI townAt8 t7
        else if b = 1 then rI (townAt8 ^^^ ((1 : Int32) <<< ((0 : Int32) &&& 31))) t7
        else rI 0 t7)
      else hRecv t3 9 16 <| bI (fWd_townAt t3 0) fun townAt12 t11 =>
      hGetI t11 10 0 0 fun choices13 =>
      if 1 ≤ choices13 then hGetI t11 10 0 0 fun choices14 =>
        hNZL (Int32.toInt64 choices14) (if b = 0 then rI townAt12 t11
        else if b = 1 then rI (townAt12 ^^^ ((1 : Int32) <<< ((Int64.toInt32 ((((((Int32.toInt64 (a + 1)) * 48271) - ((Int32.toInt64 (a + 1)) * 48271) / 2147483647 * 2147483647) * 48271) - ((((Int32.toInt64 (a + 1)) * 48271) - ((Int32.toInt64 (a + 1)) * 48271) / 2147483647 * 2147483647) * 48271) / 2147483647 * 2147483647) - (((((Int32.toInt64 (a + 1)) * 48271) - ((Int32.toInt64 (a + 1)) * 48271) / 2147483647 * 2147483647) * 48271) - ((((Int32.toInt64 (a + 1)) * 48271) - ((Int32.toInt64 (a + 1)) * 48271) / 2147483647 * 2147483647) * 48271) / 2147483647 * 2147483647) / (Int32.toInt64 choices14) * (Int32.toInt64 choices14))) &&& 31))) t11
        else rI (Int64.toInt32 ((((((Int32.toInt64 (a + 1)) * 48271) - ((Int32.toInt64 (a + 1)) * 48271) / 2147483647 * 2147483647) * 48271) - ((((Int32.toInt64 (a + 1)) * 48271) - ((Int32.toInt64 (a + 1)) * 48271) / 2147483647 * 2147483647) * 48271) / 2147483647 * 2147483647) - (((((Int32.toInt64 (a + 1)) * 48271) - ((Int32.toInt64 (a + 1)) * 48271) / 2147483647 * 2147483647) * 48271) - ((((Int32.toInt64 (a + 1)) * 48271) - ((Int32.toInt64 (a + 1)) * 48271) / 2147483647 * 2147483647) * 48271) / 2147483647 * 2147483647) / (Int32.toInt64 choices14) * (Int32.toInt64 choices14))) t11)
      else if b = 0 then rI townAt12 t11
      else if b = 1 then rI (townAt12 ^^^ ((1 : Int32) <<< ((0 : Int32) &&& 31))) t11
      else rI 0 t11
  else rI (-2) t
def F_147 (as : List Value) (t : SM) : OR := match as with
  | [.ref z0, .int a, .int b] => (match Nat.beq z0 0 with | true => fx_drawn t a b | false => none)
  | _ => none
/-! EveryMapWrong.image()I -/
def fx_image_99 (t : SM) : OR :=
  hGetC t 10 0 3 1 <|
  hGetI t 1 1 1 fun size1 =>
  rI size1 t
def fx_image_57 (k99 : SM → OR) (r57 : SM → Int32 → OR) (t : SM) (v1 : Int32) : OR :=
  if 8 ≤ v1 then k99 t
  else hGetC t 10 0 3 1 <|
  hRecv t 1 1 <| bQ (fAt_chartAt t v1) (fun t1 => hGetC t1 10 0 11 13 <|
    hGetC t1 3 13 5 14 <|
    hASt t1 14 v1 0 fun t3 =>
    r57 t3 (v1 + 1)) fun q2 t1 =>
  hGetC t1 10 0 11 13 <|
  hGetC t1 3 13 5 14 <|
  hGetI t1 2 q2 5 fun cost4 =>
  hASt t1 14 v1 cost4 fun t5 =>
  r57 t5 (v1 + 1)
def fx_image_l57 (k99 : SM → OR) : Nat → SM → Int32 → OR
  | 0, _, _ => none
  | n + 1, t, v1 => fx_image_57 k99 (fx_image_l57 k99 n) t v1
def fx_image (t : SM) : OR :=
  hGetC t 10 0 11 13 <|
  hPutI t 3 13 0 1 fun t1 =>
  hGetC t1 10 0 11 13 <|
  hGetI t1 10 0 1 fun seen2 =>
  hPutI t1 3 13 1 seen2 fun t3 =>
  hGetC t3 10 0 11 13 <|
  hGetI t3 10 0 2 fun seenSo4 =>
  hPutI t3 3 13 2 seenSo4 fun t5 =>
  hGetC t5 10 0 11 13 <|
  hGetI t5 10 0 9 fun law6 =>
  hPutI t5 3 13 3 law6 fun t7 =>
  hGetC t7 10 0 11 13 <|
  hGetC t7 10 0 3 1 <|
  hGetI t7 1 1 1 fun size8 =>
  hPutI t7 3 13 4 size8 fun t9 =>
  fx_image_l57 (fun t => fx_image_99 t) 1000000 t9 0
def F_148 (as : List Value) (t : SM) : OR := match as with
  | [.ref z0] => (match Nat.beq z0 0 with | true => fx_image t | false => none)
  | _ => none
/-! EveryMapWrong.back()I -/
def fx_back_100 (t : SM) : OR :=
  hGetC t 10 0 3 1 <|
  hGetI t 1 1 1 fun size1 =>
  rI size1 t
def fx_back_62 (k100 : SM → OR) (r62 : SM → Int32 → OR) (t : SM) (v1 : Int32) : OR :=
  if 8 ≤ v1 then k100 t
  else hGetC t 10 0 3 1 <|
  hRecv t 1 1 <| bQ (fAt_chartAt t v1) (fun t1 => r62 t1 (v1 + 1)) fun q2 t1 =>
  hGetC t1 10 0 11 13 <|
  hGetC t1 3 13 5 14 <|
  hALd t1 14 v1 fun e3 =>
  hPutI t1 2 q2 5 e3 fun t4 =>
  r62 t4 (v1 + 1)
def fx_back_l62 (k100 : SM → OR) : Nat → SM → Int32 → OR
  | 0, _, _ => none
  | n + 1, t, v1 => fx_back_62 k100 (fx_back_l62 k100 n) t v1
def fx_back (t : SM) : OR :=
  hGetC t 10 0 11 13 <|
  hGetI t 3 13 0 fun isThere1 =>
  if isThere1 = 0 then rI (-3) t
  else hGetC t 10 0 11 13 <|
    hGetI t 3 13 1 fun seen2 =>
    hPutI t 10 0 1 seen2 fun t3 =>
    hGetC t3 10 0 11 13 <|
    hGetI t3 3 13 2 fun seenSo4 =>
    hPutI t3 10 0 2 seenSo4 fun t5 =>
    hGetC t5 10 0 11 13 <|
    hGetI t5 3 13 3 fun law6 =>
    hPutI t5 10 0 9 law6 fun t7 =>
    hGetC t7 10 0 3 1 <|
    hGetC t7 10 0 11 13 <|
    hGetI t7 3 13 4 fun mapCount8 =>
    hRecv t7 1 1 <| bV (fAt_shrinkTo t7 mapCount8) fun t9 =>
    fx_back_l62 (fun t => fx_back_100 t) 1000000 t9 0
def F_149 (as : List Value) (t : SM) : OR := match as with
  | [.ref z0] => (match Nat.beq z0 0 with | true => fx_back t | false => none)
  | _ => none
/-! EveryMapWrong.sheetAt(I)LEveryMapWrong$Sheet; -/
def fx_sheetAt (t : SM) (a : Int32) : OR :=
  if a < 0 then rN t
  else hGetC t 10 0 12 15 <|
  hALen t 15 fun n1 =>
  if n1 ≤ a then rN t
  else hGetC t 10 0 12 15 <|
  hQLd t 5 15 a (rN t) fun q2 =>
  rR q2 t
def F_168 (as : List Value) (t : SM) : OR := match as with
  | [.ref z0, .int a] => (match Nat.beq z0 0 with | true => fx_sheetAt t a | false => none)
  | _ => none
/-! EveryMapWrong.sheet(III)I -/
def fx_sheet (t : SM) (a : Int32) (b : Int32) (c : Int32) : OR :=
  hRecv t 10 0 <| bQ (fx_sheetAt t a) (fun t1 => rI (-2) t1) fun q2 t1 =>
  if b < (-1) then rI (-2) t1
  else if b ≤ 2 then if b = (-1) then hRecv t1 5 q2 <| bV (fSh_become t1 q2 b 0) fun t4 =>
    rI 1 t4
    else if c ≤ 40 then if 0 ≤ c then hRecv t1 5 q2 <| bV (fSh_become t1 q2 b c) fun t3 =>
          rI 1 t3
        else rI (-14) t1
      else rI (-2) t1
  else rI (-2) t1
def F_150 (as : List Value) (t : SM) : OR := match as with
  | [.ref z0, .int a, .int b, .int c] => (match Nat.beq z0 0 with | true => fx_sheet t a b c | false => none)
  | _ => none
/-! EveryMapWrong.cell(III)I -/
def fx_cell (t : SM) (a : Int32) (b : Int32) (c : Int32) : OR :=
  hRecv t 10 0 <| bQ (fx_sheetAt t a) (fun t1 => rI (-2) t1) fun q2 t1 =>
  hGetI t1 5 q2 0 fun sort3 =>
  if sort3 = (-1) then rI (-11) t1
  else hRecv t1 5 q2 <| bI (fSh_spans t1 q2 b 1) fun spans5 t4 =>
    if spans5 = 0 then rI (-12) t4
    else hRecv t4 5 q2 <| bV (fSh_write t4 q2 b c) fun t6 =>
      rI 1 t6
def F_151 (as : List Value) (t : SM) : OR := match as with
  | [.ref z0, .int a, .int b, .int c] => (match Nat.beq z0 0 with | true => fx_cell t a b c | false => none)
  | _ => none
/-! EveryMapWrong.copy(IIIII)I -/
def fx_copy (t : SM) (a : Int32) (b : Int32) (c : Int32) (d : Int32) (e : Int32) : OR :=
  hRecv t 10 0 <| bQ (fx_sheetAt t a) (fun t1 => hRecv t1 10 0 <| bQ (fx_sheetAt t1 c) (fun t3 => rI (-2) t3) fun q4 t3 =>
    rI (-2) t3) fun q2 t1 =>
  hRecv t1 10 0 <| bQ (fx_sheetAt t1 c) (fun t5 => rI (-2) t5) fun q6 t5 =>
  hGetI t5 5 q2 0 fun sort7 =>
  if sort7 = (-1) then rI (-11) t5
  else hGetI t5 5 q6 0 fun sort8 =>
  if sort8 = (-1) then rI (-11) t5
  else hGetI t5 5 q2 0 fun sort9 =>
    hGetI t5 5 q6 0 fun sort10 =>
    if sort9 = sort10 then if e < 0 then rI (-12) t5
      else hRecv t5 5 q2 <| bI (fSh_spans t5 q2 b e) fun spans12 t11 =>
      if spans12 = 0 then rI (-12) t11
      else hRecv t11 5 q6 <| bI (fSh_spans t11 q6 d e) fun spans14 t13 =>
      if spans14 = 0 then rI (-12) t13
      else hGetR t13 5 q2 2 (hGetR t13 5 q6 2 (none) fun numbers16 =>
          none) fun numbers15 =>
        hGetR t13 5 q6 2 (none) fun numbers19 =>
        hCpy t13 numbers15 b numbers19 d e fun t21 =>
        rI e t21
    else rI (-13) t5
def F_152 (as : List Value) (t : SM) : OR := match as with
  | [.ref z0, .int a, .int b, .int c, .int d, .int e] => (match Nat.beq z0 0 with | true => fx_copy t a b c d e | false => none)
  | _ => none
/-! EveryMapWrong.mapByFour(LEveryMapWrong$Sheet;I)I -/
def fx_mapByFour (t : SM) (a : Nat) (b : Int32) : OR :=
  hRecv t 5 a <| bI (fSh_numberAtPlace t a b) fun numberAtPlace2 t1 =>
  hRecv t1 5 a <| bI (fSh_numberAtPlace t1 a (b + 1)) fun numberAtPlace4 t3 =>
  hRecv t3 5 a <| bI (fSh_numberAtPlace t3 a (b + 2)) fun numberAtPlace6 t5 =>
  hRecv t5 5 a <| bI (fSh_numberAtPlace t5 a (b + 3)) fun numberAtPlace8 t7 =>
  hRecv t7 10 0 <| bI (fx_map t7 numberAtPlace2 numberAtPlace4 numberAtPlace6 numberAtPlace8) fun map10 t9 =>
  rI map10 t9
def F_178 (as : List Value) (t : SM) : OR := match as with
  | [.ref z0, .ref a, .int b] => (match Nat.beq z0 0 with | true => fx_mapByFour t a b | false => none)
  | _ => none
/-! EveryMapWrong.mapsBy(IIII)I -/
def fx_mapsBy_66 (r66 : SM → Int32 → Int32 → Nat → Int32 → Int32 → OR) (t : SM) (v3 : Int32) (v4 : Int32) (v5 : Nat) (v6 : Int32) (v7 : Int32) : OR :=
  if v4 ≤ v7 then rI v6 t
  else if v3 ≤ 40 then hRecv t 5 v5 <| bI (fSh_spans t v5 (v3 + (4 * v7)) 4) fun spans2 t1 =>
    if spans2 = 0 then rI (-12) t1
    else hRecv t1 10 0 <| bI (fx_mapByFour t1 v5 (v3 + (4 * v7))) fun mapByFour4 t3 =>
      if mapByFour4 < 0 then r66 t3 v3 v4 v5 v6 (v7 + 1)
      else r66 t3 v3 v4 v5 (v6 + 1) (v7 + 1)
  else hRecv t 5 v5 <| bI (fSh_spans t v5 v3 4) fun spans6 t5 =>
  if spans6 = 0 then rI (-12) t5
  else hRecv t5 10 0 <| bI (fx_mapByFour t5 v5 v3) fun mapByFour8 t7 =>
    if mapByFour8 < 0 then r66 t7 v3 v4 v5 v6 (v7 + 1)
    else r66 t7 v3 v4 v5 (v6 + 1) (v7 + 1)
def fx_mapsBy_l66 : Nat → SM → Int32 → Int32 → Nat → Int32 → Int32 → OR
  | 0, _, _, _, _, _, _ => none
  | n + 1, t, v3, v4, v5, v6, v7 => fx_mapsBy_66 (fx_mapsBy_l66 n) t v3 v4 v5 v6 v7
def fx_mapsBy (t : SM) (a : Int32) (b : Int32) (c : Int32) (d : Int32) : OR :=
  hRecv t 10 0 <| bQ (fx_sheetAt t a) (fun t1 => rI (-2) t1) fun q2 t1 =>
  if b < 0 then rI (-2) t1
  else if 2 < b then rI (-2) t1
  else if d < 0 then rI (-2) t1
  else if d ≤ 8 then hGetI t1 5 q2 0 fun sort3 =>
    if sort3 = (-1) then rI (-11) t1
    else hGetI t1 5 q2 0 fun sort4 =>
      if sort4 = b then fx_mapsBy_l66 1000000 t1 c d q2 0 0
      else rI (-13) t1
  else rI (-2) t1
def F_153 (as : List Value) (t : SM) : OR := match as with
  | [.ref z0, .int a, .int b, .int c, .int d] => (match Nat.beq z0 0 with | true => fx_mapsBy t a b c d | false => none)
  | _ => none
/-! EveryMapWrong.taken(II)I -/
def fx_taken (t : SM) (a : Int32) (b : Int32) : OR :=
  if b < 0 then rI (-2) t
  else if b ≤ 6 then if a < 0 then rI (-12) t
    else if a < 20 then if b ≤ 5 then if 12 ≤ a then hGetC t 10 0 3 1 <|
          hRecv t 1 1 <| bQ (fAt_chartAt t (a - 12)) (fun t1 => rI (-11) t1) fun q2 t1 =>
          hRecv t1 2 q2 <| bI (fCh_isOne t1 q2 b) fun isOne4 t3 =>
          if isOne4 = 0 then rI (-13) t3
          else rI (a - 12) t3
        else hGetC t 10 0 4 5 <|
        hRecv t 7 5 <| bQ (fSs_streetAt t a) (fun t5 => rI (-11) t5) fun q6 t5 =>
        rI (-13) t5
      else if 12 ≤ a then hGetC t 10 0 3 1 <|
        hRecv t 1 1 <| bQ (fAt_chartAt t (a - 12)) (fun t7 => rI (-11) t7) fun q8 t7 =>
        rI (-13) t7
      else hGetC t 10 0 4 5 <|
      hRecv t 7 5 <| bQ (fSs_streetAt t a) (fun t9 => rI (-11) t9) fun q10 t9 =>
      hGetI t9 6 q10 3 fun takes11 =>
      rI takes11 t9
    else rI (-12) t
  else rI (-2) t
def F_154 (as : List Value) (t : SM) : OR := match as with
  | [.ref z0, .int a, .int b] => (match Nat.beq z0 0 with | true => fx_taken t a b | false => none)
  | _ => none
/-! EveryMapWrongModel.in(III)Z -/
def fm_in (t : SM) (a : Int32) (b : Int32) (c : Int32) : OR :=
  if a < b then rI 0 t
  else if c < a then rI 0 t
  else rI 1 t
def F_182 (as : List Value) (t : SM) : OR := match as with
  | [.int a, .int b, .int c] => fm_in t a b c
  | _ => none
/-! EveryMapWrongModel.wordFrom(II)I -/
def fm_wordFrom_88 (r2 : SM → Int32 → Int32 → Int32 → OR) (t : SM) (v1 : Int32) (v2 : Int32) (v3 : Int32) (v4 : Int32) : OR :=
  if v4 = 0 then r2 t v1 v2 (v3 + 1)
  else rI v3 t
def fm_wordFrom_26 (k88 : SM → Int32 → Int32 → Int32 → Int32 → OR) (r26 : SM → Int32 → Int32 → Int32 → Int32 → Int32 → OR) (t : SM) (v1 : Int32) (v2 : Int32) (v3 : Int32) (v4 : Int32) (v5 : Int32) : OR :=
  if 8 ≤ v5 then k88 t v1 v2 v3 v4
  else if v4 = 0 then k88 t v1 v2 v3 v4
  else hGetC t 11 39 36 58 <|
  hALd t 58 ((8 * v3) + v5) fun e1 =>
  if v2 ≤ (v1 + v5) then if e1 = 32 then r26 t v1 v2 v3 1 (v5 + 1)
    else r26 t v1 v2 v3 0 (v5 + 1)
  else hGetC t 11 39 16 50 <|
  hALd t 50 (v1 + v5) fun e2 =>
  if e1 = e2 then r26 t v1 v2 v3 1 (v5 + 1)
  else r26 t v1 v2 v3 0 (v5 + 1)
def fm_wordFrom_l26 (k88 : SM → Int32 → Int32 → Int32 → Int32 → OR) : Nat → SM → Int32 → Int32 → Int32 → Int32 → Int32 → OR
  | 0, _, _, _, _, _, _ => none
  | n + 1, t, v1, v2, v3, v4, v5 => fm_wordFrom_26 k88 (fm_wordFrom_l26 k88 n) t v1 v2 v3 v4 v5
def fm_wordFrom_2 (r2 : SM → Int32 → Int32 → Int32 → OR) (t : SM) (v1 : Int32) (v2 : Int32) (v3 : Int32) : OR :=
  if 12 ≤ v3 then rI 12 t
  else if 8 < (v2 - v1) then fm_wordFrom_l26 (fun t u1 u2 u3 u4 => fm_wordFrom_88 r2 t u1 u2 u3 u4) 1000000 t v1 v2 v3 0 0
  else fm_wordFrom_l26 (fun t u1 u2 u3 u4 => fm_wordFrom_88 r2 t u1 u2 u3 u4) 1000000 t v1 v2 v3 1 0
def fm_wordFrom_l2 : Nat → SM → Int32 → Int32 → Int32 → OR
  | 0, _, _, _, _ => none
  | n + 1, t, v1, v2, v3 => fm_wordFrom_2 (fm_wordFrom_l2 n) t v1 v2 v3
def fm_wordFrom (t : SM) (a : Int32) (b : Int32) : OR :=
  fm_wordFrom_l2 1000000 t a b 0
def F_191 (as : List Value) (t : SM) : OR := match as with
  | [.ref z0, .int a, .int b] => (match Nat.beq z0 39 with | true => fm_wordFrom t a b | false => none)
  | _ => none
/-! EveryMapWrongModel.nextToken()V -/
def fm_nextToken_374 (t : SM) (v1 : Int32) : OR :=
  hPutI t 11 39 34 v1 fun t1 =>
  hGetI t1 11 39 32 fun at2 =>
  hPutI t1 11 39 32 (at2 + 1) fun t3 =>
  rV t3
def fm_nextToken_309 (t : SM) (v2 : Int32) : OR :=
  if v2 ≤ 4 then hPutI t 11 39 34 1 fun t1 =>
    rV t1
  else hPutI t 11 39 34 (-1) fun t2 =>
  rV t2
def fm_nextToken_230 (k309 : SM → Int32 → OR) (r230 : SM → Int32 → OR) (t : SM) (v2 : Int32) : OR :=
  hGetI t 11 39 32 fun at1 =>
  hGetI t 11 39 17 fun taped2 =>
  if taped2 ≤ at1 then k309 t v2
  else hGetC t 11 39 16 50 <|
  hGetI t 11 39 32 fun at3 =>
  hALd t 50 at3 fun e4 =>
  bI (fm_in t e4 48 57) fun in6 t5 =>
  if in6 = 0 then k309 t5 v2
  else if 4 ≤ v2 then hPutI t5 11 39 35 0 fun t7 =>
    hGetI t7 11 39 32 fun at8 =>
    hPutI t7 11 39 32 (at8 + 1) fun t9 =>
    r230 t9 (v2 + 1)
  else hGetI t5 11 39 35 fun value10 =>
  hGetC t5 11 39 16 50 <|
  hGetI t5 11 39 32 fun at11 =>
  hALd t5 50 at11 fun e12 =>
  hPutI t5 11 39 35 (((10 * value10) + e12) - 48) fun t13 =>
  hGetI t13 11 39 32 fun at14 =>
  hPutI t13 11 39 32 (at14 + 1) fun t15 =>
  r230 t15 (v2 + 1)
def fm_nextToken_l230 (k309 : SM → Int32 → OR) : Nat → SM → Int32 → OR
  | 0, _, _ => none
  | n + 1, t, v2 => fm_nextToken_230 k309 (fm_nextToken_l230 k309 n) t v2
def fm_nextToken_146 (t : SM) : OR :=
  hGetI t 11 39 33 fun begun1 =>
  hGetI t 11 39 32 fun at2 =>
  hRecv t 11 39 <| bI (fm_wordFrom t begun1 at2) fun wordFrom4 t3 =>
  if 3 ≤ wordFrom4 then if 9 ≤ wordFrom4 then if wordFrom4 = 12 then hPutI t3 11 39 34 (-1) fun t8 =>
      if 3 ≤ wordFrom4 then hPutI t8 11 39 35 (wordFrom4 - 3) fun t9 =>
        rV t9
      else hPutI t8 11 39 35 wordFrom4 fun t10 =>
      rV t10
      else hPutI t3 11 39 34 ((4 + wordFrom4) - 9) fun t5 =>
        if 3 ≤ wordFrom4 then hPutI t5 11 39 35 (wordFrom4 - 3) fun t6 =>
          rV t6
        else hPutI t5 11 39 35 wordFrom4 fun t7 =>
        rV t7
    else hPutI t3 11 39 34 2 fun t11 =>
    if 3 ≤ wordFrom4 then hPutI t11 11 39 35 (wordFrom4 - 3) fun t12 =>
      rV t12
    else hPutI t11 11 39 35 wordFrom4 fun t13 =>
    rV t13
  else hPutI t3 11 39 34 3 fun t14 =>
  if 3 ≤ wordFrom4 then hPutI t14 11 39 35 (wordFrom4 - 3) fun t15 =>
    rV t15
  else hPutI t14 11 39 35 wordFrom4 fun t16 =>
  rV t16
def fm_nextToken_103 (k146 : SM → OR) (r103 : SM → OR) (t : SM) : OR :=
  hGetI t 11 39 32 fun at1 =>
  hGetI t 11 39 17 fun taped2 =>
  if taped2 ≤ at1 then k146 t
  else hGetC t 11 39 16 50 <|
  hGetI t 11 39 32 fun at3 =>
  hALd t 50 at3 fun e4 =>
  bI (fm_in t e4 97 122) fun in6 t5 =>
  if in6 = 0 then k146 t5
  else hGetI t5 11 39 32 fun at7 =>
  hPutI t5 11 39 32 (at7 + 1) fun t8 =>
  r103 t8
def fm_nextToken_l103 (k146 : SM → OR) : Nat → SM → OR
  | 0, _ => none
  | n + 1, t => fm_nextToken_103 k146 (fm_nextToken_l103 k146 n) t
def fm_nextToken_52 (t : SM) : OR :=
  hGetI t 11 39 32 fun at1 =>
  hPutI t 11 39 33 at1 fun t2 =>
  hPutI t2 11 39 34 0 fun t3 =>
  hPutI t3 11 39 35 0 fun t4 =>
  hGetI t4 11 39 32 fun at5 =>
  hGetI t4 11 39 17 fun taped6 =>
  if at5 = taped6 then rV t4
  else hGetC t4 11 39 16 50 <|
    hGetI t4 11 39 32 fun at7 =>
    hALd t4 50 at7 fun e8 =>
    bI (fm_in t4 e8 97 122) fun in10 t9 =>
    if in10 = 0 then bI (fm_in t9 e8 48 57) fun in12 t11 =>
      if in12 = 0 then if e8 = 40 then fm_nextToken_374 t11 e8
        else if e8 = 41 then fm_nextToken_374 t11 e8
        else if e8 = 59 then fm_nextToken_374 t11 e8
        else if e8 = 43 then fm_nextToken_374 t11 e8
        else if e8 = 45 then fm_nextToken_374 t11 e8
        else if e8 = 42 then fm_nextToken_374 t11 e8
        else if e8 = 60 then fm_nextToken_374 t11 e8
        else if e8 = 61 then fm_nextToken_374 t11 e8
        else hPutI t11 11 39 34 (-1) fun t13 =>
          hGetI t13 11 39 32 fun at14 =>
          hPutI t13 11 39 32 (at14 + 1) fun t15 =>
          rV t15
      else fm_nextToken_l230 (fun t u2 => fm_nextToken_309 t u2) 1000000 t11 0
    else fm_nextToken_l103 (fun t => fm_nextToken_146 t) 1000000 t9
def fm_nextToken_0 (k52 : SM → OR) (r0 : SM → OR) (t : SM) : OR :=
  hGetI t 11 39 32 fun at1 =>
  hGetI t 11 39 17 fun taped2 =>
  if taped2 ≤ at1 then k52 t
  else hGetC t 11 39 16 50 <|
  hGetI t 11 39 32 fun at3 =>
  hALd t 50 at3 fun e4 =>
  if e4 = 32 then hGetI t 11 39 32 fun at5 =>
    hPutI t 11 39 32 (at5 + 1) fun t6 =>
    r0 t6
  else hGetC t 11 39 16 50 <|
  hGetI t 11 39 32 fun at7 =>
  hALd t 50 at7 fun e8 =>
  if e8 = 10 then hGetI t 11 39 32 fun at9 =>
  hPutI t 11 39 32 (at9 + 1) fun t10 =>
  r0 t10
  else k52 t
def fm_nextToken_l0 (k52 : SM → OR) : Nat → SM → OR
  | 0, _ => none
  | n + 1, t => fm_nextToken_0 k52 (fm_nextToken_l0 k52 n) t
def fm_nextToken (t : SM) : OR :=
  fm_nextToken_l0 (fun t => fm_nextToken_52 t) 1000000 t
def F_192 (as : List Value) (t : SM) : OR := match as with
  | [.ref z0] => (match Nat.beq z0 39 with | true => fm_nextToken t | false => none)
  | _ => none
/-! EveryMapWrongModel.puts(I)V -/
def fm_puts (t : SM) (a : Int32) : OR :=
  hGetC t 11 39 18 51 <|
  hGetI t 11 39 20 fun texts1 =>
  hGetI t 11 39 40 fun out2 =>
  hASt t 51 ((200 * texts1) + out2) a fun t3 =>
  hGetI t3 11 39 40 fun out4 =>
  hPutI t3 11 39 40 (out4 + 1) fun t5 =>
  rV t5
def F_194 (as : List Value) (t : SM) : OR := match as with
  | [.ref z0, .int a] => (match Nat.beq z0 39 with | true => fm_puts t a | false => none)
  | _ => none
/-! EveryMapWrongModel.rank(I)I -/
def fm_rank (t : SM) (a : Int32) : OR :=
  if a = 0 then rI 0 t
  else if a = 11 then rI 1 t
    else if a = 12 then rI 2 t
      else if a = 13 then rI 3 t
        else if 15 < a then if 17 < a then if a = 18 then rI 6 t
              else rI 7 t
            else rI 5 t
          else rI 4 t
def F_193 (as : List Value) (t : SM) : OR := match as with
  | [.int a] => fm_rank t a
  | _ => none
/-! EveryMapWrongModel.unwinds(I)V -/
def fm_unwinds_0 (r0 : SM → Int32 → OR) (t : SM) (v1 : Int32) : OR :=
  hGetI t 11 39 38 fun heldMany1 =>
  if heldMany1 ≤ 0 then rV t
  else hGetC t 11 39 37 59 <|
  hGetI t 11 39 38 fun heldMany2 =>
  hALd t 59 (heldMany2 - 1) fun e3 =>
  bI (fm_rank t e3) fun rank5 t4 =>
  if rank5 < v1 then rV t4
  else hGetI t4 11 39 38 fun heldMany6 =>
  hPutI t4 11 39 38 (heldMany6 - 1) fun t7 =>
  hGetC t7 11 39 37 59 <|
  hGetI t7 11 39 38 fun heldMany8 =>
  hALd t7 59 heldMany8 fun e9 =>
  hGetI t7 11 39 39 fun opens10 =>
  if e9 = 13 then hPutI t7 11 39 39 (opens10 - 1) fun t11 =>
    hRecv t11 11 39 <| bV (fm_puts t11 e9) fun t12 =>
    r0 t12 v1
  else if e9 = 19 then hPutI t7 11 39 39 (opens10 - 1) fun t15 =>
  hRecv t15 11 39 <| bV (fm_puts t15 e9) fun t16 =>
  r0 t16 v1
  else hPutI t7 11 39 39 (opens10 - 0) fun t13 =>
    hRecv t13 11 39 <| bV (fm_puts t13 e9) fun t14 =>
    r0 t14 v1
def fm_unwinds_l0 : Nat → SM → Int32 → OR
  | 0, _, _ => none
  | n + 1, t, v1 => fm_unwinds_0 (fm_unwinds_l0 n) t v1
def fm_unwinds (t : SM) (a : Int32) : OR :=
  fm_unwinds_l0 1000000 t a
def F_195 (as : List Value) (t : SM) : OR := match as with
  | [.ref z0, .int a] => (match Nat.beq z0 39 with | true => fm_unwinds t a | false => none)
  | _ => none
/-! EveryMapWrongModel.holds(I)V -/
def fm_holds (t : SM) (a : Int32) : OR :=
  hGetC t 11 39 37 59 <|
  hGetI t 11 39 38 fun heldMany1 =>
  hASt t 59 heldMany1 a fun t2 =>
  hGetI t2 11 39 38 fun heldMany3 =>
  hPutI t2 11 39 38 (heldMany3 + 1) fun t4 =>
  rV t4
def F_196 (as : List Value) (t : SM) : OR := match as with
  | [.ref z0, .int a] => (match Nat.beq z0 39 with | true => fm_holds t a | false => none)
  | _ => none
/-! EveryMapWrongModel.opensOne(I)Z -/
def fm_opensOne (t : SM) (a : Int32) : OR :=
  hGetI t 11 39 39 fun opens1 =>
  if opens1 = 5 then rI 0 t
  else hGetI t 11 39 39 fun opens2 =>
    hPutI t 11 39 39 (opens2 + 1) fun t3 =>
    hRecv t3 11 39 <| bV (fm_holds t3 a) fun t4 =>
    rI 1 t4
def F_197 (as : List Value) (t : SM) : OR := match as with
  | [.ref z0, .int a] => (match Nat.beq z0 39 with | true => fm_opensOne t a | false => none)
  | _ => none
/-! EveryMapWrongModel.signOf()I -/
def fm_signOf (t : SM) : OR :=
  hGetI t 11 39 34 fun token1 =>
  if token1 = 4 then rI 11 t
  else hGetI t 11 39 34 fun token2 =>
    if token2 = 5 then rI 12 t
    else hGetI t 11 39 34 fun token3 =>
      if token3 = 60 then rI 14 t
      else hGetI t 11 39 34 fun token4 =>
        if token4 = 61 then rI 15 t
        else hGetI t 11 39 34 fun token5 =>
          if token5 = 43 then rI 16 t
          else hGetI t 11 39 34 fun token6 =>
            if token6 = 45 then rI 17 t
            else hGetI t 11 39 34 fun token7 =>
              if token7 = 42 then rI 18 t
              else rI (-1) t
def F_199 (as : List Value) (t : SM) : OR := match as with
  | [.ref z0] => (match Nat.beq z0 39 with | true => fm_signOf t | false => none)
  | _ => none
/-! EveryMapWrongModel.between(I)Z -/
def fm_between (t : SM) (a : Int32) : OR :=
  bI (fm_rank t a) fun rank2 t1 =>
  if rank2 = 4 then hRecv t1 11 39 <| bV (fm_unwinds t1 5) fun t16 =>
  bI (fm_rank t16 a) fun rank18 t17 =>
  if rank18 = 4 then hGetI t17 11 39 38 fun heldMany20 =>
  if heldMany20 ≤ 0 then hRecv t17 11 39 <| bV (fm_holds t17 a) fun t21 =>
    rI 1 t21
  else hGetC t17 11 39 37 59 <|
  hGetI t17 11 39 38 fun heldMany22 =>
  hALd t17 59 (heldMany22 - 1) fun e23 =>
  bI (fm_rank t17 e23) fun rank25 t24 =>
  if rank25 = 4 then rI 0 t24
  else hRecv t24 11 39 <| bV (fm_holds t24 a) fun t26 =>
    rI 1 t26
  else hRecv t17 11 39 <| bV (fm_holds t17 a) fun t19 =>
    rI 1 t19
  else bI (fm_rank t1 a) fun rank4 t3 =>
    hRecv t3 11 39 <| bV (fm_unwinds t3 rank4) fun t5 =>
    bI (fm_rank t5 a) fun rank7 t6 =>
    if rank7 = 4 then hGetI t6 11 39 38 fun heldMany9 =>
    if heldMany9 ≤ 0 then hRecv t6 11 39 <| bV (fm_holds t6 a) fun t10 =>
      rI 1 t10
    else hGetC t6 11 39 37 59 <|
    hGetI t6 11 39 38 fun heldMany11 =>
    hALd t6 59 (heldMany11 - 1) fun e12 =>
    bI (fm_rank t6 e12) fun rank14 t13 =>
    if rank14 = 4 then rI 0 t13
    else hRecv t13 11 39 <| bV (fm_holds t13 a) fun t15 =>
      rI 1 t15
    else hRecv t6 11 39 <| bV (fm_holds t6 a) fun t8 =>
      rI 1 t8
def F_198 (as : List Value) (t : SM) : OR := match as with
  | [.ref z0, .int a] => (match Nat.beq z0 39 with | true => fm_between t a | false => none)
  | _ => none
/-! EveryMapWrongModel.eRead()Z -/
def fm_eRead_159 (t : SM) : OR :=
  hRecv t 11 39 <| bV (fm_unwinds t 1) fun t1 =>
  hGetI t1 11 39 38 fun heldMany2 =>
  if heldMany2 = 0 then rI 1 t1
  else rI 0 t1
def fm_eRead_99 (r14 : SM → Int32 → Int32 → OR) (t : SM) (v1 : Int32) : OR :=
  hGetI t 11 39 34 fun token1 =>
  if token1 = 45 then hRecv t 11 39 <| bI (fm_opensOne t 19) fun opensOne6 t5 =>
  if opensOne6 = 0 then rI 0 t5
  else r14 t5 v1 0
  else hGetI t 11 39 34 fun token2 =>
    if token2 = 40 then hRecv t 11 39 <| bI (fm_opensOne t 0) fun opensOne4 t3 =>
    if opensOne4 = 0 then rI 0 t3
    else r14 t3 v1 1
    else rI 0 t
def fm_eRead_38 (r14 : SM → Int32 → Int32 → OR) (t : SM) (v2 : Int32) : OR :=
  hGetI t 11 39 34 fun token1 =>
  if token1 = 1 then hGetI t 11 39 35 fun value5 =>
  hRecv t 11 39 <| bV (fm_puts t (100000 + value5)) fun t6 =>
  hRecv t6 11 39 <| bV (fm_unwinds t6 7) fun t7 =>
  r14 t7 0 v2
  else hGetI t 11 39 35 fun value2 =>
    hRecv t 11 39 <| bV (fm_puts t value2) fun t3 =>
    hRecv t3 11 39 <| bV (fm_unwinds t3 7) fun t4 =>
    r14 t4 0 v2
def fm_eRead_14 (k159 : SM → OR) (r14 : SM → Int32 → Int32 → OR) (t : SM) (v1 : Int32) (v2 : Int32) : OR :=
  hRecv t 11 39 <| bV (fm_nextToken t) fun t1 =>
  if v1 = 0 then hGetI t1 11 39 34 fun token2 =>
    if token2 = 59 then k159 t1
    else hGetI t1 11 39 34 fun token3 =>
      if token3 = 41 then hRecv t1 11 39 <| bV (fm_unwinds t1 1) fun t8 =>
      hGetI t8 11 39 38 fun heldMany9 =>
      if heldMany9 = 0 then rI 0 t8
      else hGetI t8 11 39 38 fun heldMany10 =>
        hPutI t8 11 39 38 (heldMany10 - 1) fun t11 =>
        hGetI t11 11 39 39 fun opens12 =>
        hPutI t11 11 39 39 (opens12 - 1) fun t13 =>
        hRecv t13 11 39 <| bV (fm_unwinds t13 7) fun t14 =>
        r14 t14 v1 v2
      else hRecv t1 11 39 <| bI (fm_signOf t1) fun signOf5 t4 =>
        if signOf5 = (-1) then rI 0 t4
        else hRecv t4 11 39 <| bI (fm_between t4 signOf5) fun between7 t6 =>
        if between7 = 0 then rI 0 t6
        else if 12 < signOf5 then r14 t6 1 0
          else r14 t6 1 1
  else hGetI t1 11 39 34 fun token15 =>
  if token15 = 1 then fm_eRead_38 r14 t1 v2
  else hGetI t1 11 39 34 fun token16 =>
  if token16 = 2 then fm_eRead_38 r14 t1 v2
  else hGetI t1 11 39 34 fun token17 =>
    if token17 = 6 then if v2 = 0 then fm_eRead_99 r14 t1 v1
    else hRecv t1 11 39 <| bI (fm_opensOne t1 13) fun opensOne19 t18 =>
    if opensOne19 = 0 then rI 0 t18
    else r14 t18 v1 v2
    else fm_eRead_99 r14 t1 v1
def fm_eRead_l14 (k159 : SM → OR) : Nat → SM → Int32 → Int32 → OR
  | 0, _, _, _ => none
  | n + 1, t, v1, v2 => fm_eRead_14 k159 (fm_eRead_l14 k159 n) t v1 v2
def fm_eRead (t : SM) : OR :=
  hPutI t 11 39 38 0 fun t1 =>
  hPutI t1 11 39 39 0 fun t2 =>
  fm_eRead_l14 (fun t => fm_eRead_159 t) 1000000 t2 1 1
def F_200 (as : List Value) (t : SM) : OR := match as with
  | [.ref z0] => (match Nat.beq z0 39 with | true => fm_eRead t | false => none)
  | _ => none
/-! EveryMapWrongModel.text()I -/
def fm_text_122 (t : SM) (v1 : Int32) : OR :=
  hGetC t 11 39 19 52 <|
  hGetI t 11 39 20 fun texts1 =>
  hGetI t 11 39 40 fun out2 =>
  hASt t 52 ((4 * texts1) + 3) out2 fun t3 =>
  hPutI t3 11 39 17 0 fun t4 =>
  if v1 = 0 then hGetI t4 11 39 33 fun begun8 =>
  rI ((-100) - begun8) t4
  else hGetI t4 11 39 20 fun texts5 =>
    hPutI t4 11 39 20 (texts5 + 1) fun t6 =>
    hGetI t6 11 39 20 fun texts7 =>
    rI (texts7 - 1) t6
def fm_text_101 (t : SM) (v1 : Int32) : OR :=
  if v1 = 0 then fm_text_122 t v1
  else hRecv t 11 39 <| bV (fm_nextToken t) fun t1 =>
  hGetI t1 11 39 34 fun token2 =>
  if token2 = 0 then fm_text_122 t1 1
  else fm_text_122 t1 0
def fm_text_59 (r26 : SM → Int32 → Int32 → OR) (t : SM) (v2 : Int32) : OR :=
  hGetC t 11 39 19 52 <|
  hGetI t 11 39 20 fun texts1 =>
  hGetI t 11 39 40 fun out2 =>
  hASt t 52 ((4 * texts1) + v2) out2 fun t3 =>
  r26 t3 0 (v2 + 1)
def fm_text_26 (k101 : SM → Int32 → OR) (r26 : SM → Int32 → Int32 → OR) (t : SM) (v1 : Int32) (v2 : Int32) : OR :=
  if 3 ≤ v2 then k101 t v1
  else if v1 = 0 then k101 t v1
  else hRecv t 11 39 <| bV (fm_nextToken t) fun t1 =>
  hGetI t1 11 39 34 fun token2 =>
  if token2 = 3 then hGetI t1 11 39 35 fun value3 =>
  if value3 = v2 then hGetC t1 11 39 19 52 <|
  hGetI t1 11 39 20 fun texts4 =>
  hGetI t1 11 39 40 fun out5 =>
  hASt t1 52 ((4 * texts4) + v2) out5 fun t6 =>
  hRecv t6 11 39 <| bI (fm_eRead t6) fun eRead8 t7 =>
  if eRead8 = 0 then r26 t7 0 (v2 + 1)
  else r26 t7 1 (v2 + 1)
  else fm_text_59 r26 t1 v2
  else fm_text_59 r26 t1 v2
def fm_text_l26 (k101 : SM → Int32 → OR) : Nat → SM → Int32 → Int32 → OR
  | 0, _, _, _ => none
  | n + 1, t, v1, v2 => fm_text_26 k101 (fm_text_l26 k101 n) t v1 v2
def fm_text (t : SM) : OR :=
  hGetI t 11 39 20 fun texts1 =>
  if texts1 = 6 then rI (-4) t
  else hPutI t 11 39 32 0 fun t2 =>
    hPutI t2 11 39 40 0 fun t3 =>
    fm_text_l26 (fun t u1 => fm_text_101 t u1) 1000000 t3 1 0
def F_201 (as : List Value) (t : SM) : OR := match as with
  | [.ref z0] => (match Nat.beq z0 39 with | true => fm_text t | false => none)
  | _ => none
/-! EveryMapWrongModel.<init>()V -/
def fm_init_1069 (t : SM) : OR :=
  hPutI t 11 39 17 37 fun t1 =>
  hRecv t1 11 39 <| bI (fm_text t1) fun text3 t2 =>
  rV t2
def fm_init_1045 (k1069 : SM → OR) (r1045 : SM → Int32 → OR) (t : SM) (v1 : Int32) : OR :=
  if 37 ≤ v1 then k1069 t
  else hGetC t 11 39 16 50 <|
  hGetC t 11 39 31 57 <|
  hALd t 57 v1 fun e1 =>
  hASt t 50 v1 e1 fun t2 =>
  r1045 t2 (v1 + 1)
def fm_init_l1045 (k1069 : SM → OR) : Nat → SM → Int32 → OR
  | 0, _, _ => none
  | n + 1, t, v1 => fm_init_1045 k1069 (fm_init_l1045 k1069 n) t v1
def fm_init (t : SM) : OR :=
  hPutI t 11 39 0 6 fun t1 =>
  hNewA t1 20 8 fun q2 t3 =>
  hPutR t3 11 39 4 (some q2) fun t4 =>
  hNewA t4 20 8 fun q5 t6 =>
  hPutR t6 11 39 5 (some q5) fun t7 =>
  hNewA t7 20 8 fun q8 t9 =>
  hPutR t9 11 39 6 (some q8) fun t10 =>
  hNewA t10 20 8 fun q11 t12 =>
  hPutR t12 11 39 7 (some q11) fun t13 =>
  hNewA t13 20 8 fun q14 t15 =>
  hPutR t15 11 39 8 (some q14) fun t16 =>
  hNewA t16 20 12 fun q17 t18 =>
  hPutR t18 11 39 10 (some q17) fun t19 =>
  hNewA t19 20 12 fun q20 t21 =>
  hPutR t21 11 39 11 (some q20) fun t22 =>
  hNewA t22 20 12 fun q23 t24 =>
  hPutR t24 11 39 12 (some q23) fun t25 =>
  hNewA t25 20 12 fun q26 t27 =>
  hPutR t27 11 39 13 (some q26) fun t28 =>
  hNewA t28 20 6 fun q29 t30 =>
  hPutR t30 11 39 15 (some q29) fun t31 =>
  hNewA t31 20 160 fun q32 t33 =>
  hPutR t33 11 39 16 (some q32) fun t34 =>
  hNewA t34 20 1200 fun q35 t36 =>
  hPutR t36 11 39 18 (some q35) fun t37 =>
  hNewA t37 20 24 fun q38 t39 =>
  hPutR t39 11 39 19 (some q38) fun t40 =>
  hNewA t40 20 8 fun q41 t42 =>
  hPutR t42 11 39 27 (some q41) fun t43 =>
  hNewA t43 20 4 fun q44 t45 =>
  hASt t45 q44 0 (-1) fun t46 =>
  hASt t46 q44 1 (-1) fun t47 =>
  hASt t47 q44 2 (-1) fun t48 =>
  hASt t48 q44 3 (-1) fun t49 =>
  hPutR t49 11 39 28 (some q44) fun t50 =>
  hNewA t50 20 4 fun q51 t52 =>
  hPutR t52 11 39 29 (some q51) fun t53 =>
  hNewA t53 20 160 fun q54 t55 =>
  hPutR t55 11 39 30 (some q54) fun t56 =>
  hNewA t56 20 37 fun q57 t58 =>
  hASt t58 q57 0 109 fun t59 =>
  hASt t59 q57 1 97 fun t60 =>
  hASt t60 q57 2 121 fun t61 =>
  hASt t61 q57 3 32 fun t62 =>
  hASt t62 q57 4 49 fun t63 =>
  hASt t63 q57 5 32 fun t64 =>
  hASt t64 q57 6 59 fun t65 =>
  hASt t65 q57 7 32 fun t66 =>
  hASt t66 q57 8 104 fun t67 =>
  hASt t67 q57 9 97 fun t68 =>
  hASt t68 q57 10 114 fun t69 =>
  hASt t69 q57 11 109 fun t70 =>
  hASt t70 q57 12 32 fun t71 =>
  hASt t71 q57 13 102 fun t72 =>
  hASt t72 q57 14 97 fun t73 =>
  hASt t73 q57 15 114 fun t74 =>
  hASt t74 q57 16 32 fun t75 =>
  hASt t75 q57 17 59 fun t76 =>
  hASt t76 q57 18 32 fun t77 =>
  hASt t77 q57 19 112 fun t78 =>
  hASt t78 q57 20 114 fun t79 =>
  hASt t79 q57 21 105 fun t80 =>
  hASt t80 q57 22 99 fun t81 =>
  hASt t81 q57 23 101 fun t82 =>
  hASt t82 q57 24 32 fun t83 =>
  hASt t83 q57 25 51 fun t84 =>
  hASt t84 q57 26 32 fun t85 =>
  hASt t85 q57 27 43 fun t86 =>
  hASt t86 q57 28 32 fun t87 =>
  hASt t87 q57 29 119 fun t88 =>
  hASt t88 q57 30 111 fun t89 =>
  hASt t89 q57 31 114 fun t90 =>
  hASt t90 q57 32 108 fun t91 =>
  hASt t91 q57 33 100 fun t92 =>
  hASt t92 q57 34 115 fun t93 =>
  hASt t93 q57 35 32 fun t94 =>
  hASt t94 q57 36 59 fun t95 =>
  hPutR t95 11 39 31 (some q57) fun t96 =>
  hNewA t96 20 96 fun q97 t98 =>
  hASt t98 q97 0 109 fun t99 =>
  hASt t99 q97 1 97 fun t100 =>
  hASt t100 q97 2 121 fun t101 =>
  hASt t101 q97 3 32 fun t102 =>
  hASt t102 q97 4 32 fun t103 =>
  hASt t103 q97 5 32 fun t104 =>
  hASt t104 q97 6 32 fun t105 =>
  hASt t105 q97 7 32 fun t106 =>
  hASt t106 q97 8 104 fun t107 =>
  hASt t107 q97 9 97 fun t108 =>
  hASt t108 q97 10 114 fun t109 =>
  hASt t109 q97 11 109 fun t110 =>
  hASt t110 q97 12 32 fun t111 =>
  hASt t111 q97 13 32 fun t112 =>
  hASt t112 q97 14 32 fun t113 =>
  hASt t113 q97 15 32 fun t114 =>
  hASt t114 q97 16 112 fun t115 =>
  hASt t115 q97 17 114 fun t116 =>
  hASt t116 q97 18 105 fun t117 =>
  hASt t117 q97 19 99 fun t118 =>
  hASt t118 q97 20 101 fun t119 =>
  hASt t119 q97 21 32 fun t120 =>
  hASt t120 q97 22 32 fun t121 =>
  hASt t121 q97 23 32 fun t122 =>
  hASt t122 q97 24 97 fun t123 =>
  hASt t123 q97 25 32 fun t124 =>
  hASt t124 q97 26 32 fun t125 =>
  hASt t125 q97 27 32 fun t126 =>
  hASt t126 q97 28 32 fun t127 =>
  hASt t127 q97 29 32 fun t128 =>
  hASt t128 q97 30 32 fun t129 =>
  hASt t129 q97 31 32 fun t130 =>
  hASt t130 q97 32 98 fun t131 =>
  hASt t131 q97 33 32 fun t132 =>
  hASt t132 q97 34 32 fun t133 =>
  hASt t133 q97 35 32 fun t134 =>
  hASt t134 q97 36 32 fun t135 =>
  hASt t135 q97 37 32 fun t136 =>
  hASt t136 q97 38 32 fun t137 =>
  hASt t137 q97 39 32 fun t138 =>
  hASt t138 q97 40 99 fun t139 =>
  hASt t139 q97 41 32 fun t140 =>
  hASt t140 q97 42 32 fun t141 =>
  hASt t141 q97 43 32 fun t142 =>
  hASt t142 q97 44 32 fun t143 =>
  hASt t143 q97 45 32 fun t144 =>
  hASt t144 q97 46 32 fun t145 =>
  hASt t145 q97 47 32 fun t146 =>
  hASt t146 q97 48 100 fun t147 =>
  hASt t147 q97 49 32 fun t148 =>
  hASt t148 q97 50 32 fun t149 =>
  hASt t149 q97 51 32 fun t150 =>
  hASt t150 q97 52 32 fun t151 =>
  hASt t151 q97 53 32 fun t152 =>
  hASt t152 q97 54 32 fun t153 =>
  hASt t153 q97 55 32 fun t154 =>
  hASt t154 q97 56 102 fun t155 =>
  hASt t155 q97 57 97 fun t156 =>
  hASt t156 q97 58 114 fun t157 =>
  hASt t157 q97 59 32 fun t158 =>
  hASt t158 q97 60 32 fun t159 =>
  hASt t159 q97 61 32 fun t160 =>
  hASt t160 q97 62 32 fun t161 =>
  hASt t161 q97 63 32 fun t162 =>
  hASt t162 q97 64 119 fun t163 =>
  hASt t163 q97 65 111 fun t164 =>
  hASt t164 q97 66 114 fun t165 =>
  hASt t165 q97 67 108 fun t166 =>
  hASt t166 q97 68 100 fun t167 =>
  hASt t167 q97 69 115 fun t168 =>
  hASt t168 q97 70 32 fun t169 =>
  hASt t169 q97 71 32 fun t170 =>
  hASt t170 q97 72 111 fun t171 =>
  hASt t171 q97 73 114 fun t172 =>
  hASt t172 q97 74 32 fun t173 =>
  hASt t173 q97 75 32 fun t174 =>
  hASt t174 q97 76 32 fun t175 =>
  hASt t175 q97 77 32 fun t176 =>
  hASt t176 q97 78 32 fun t177 =>
  hASt t177 q97 79 32 fun t178 =>
  hASt t178 q97 80 97 fun t179 =>
  hASt t179 q97 81 110 fun t180 =>
  hASt t180 q97 82 100 fun t181 =>
  hASt t181 q97 83 32 fun t182 =>
  hASt t182 q97 84 32 fun t183 =>
  hASt t183 q97 85 32 fun t184 =>
  hASt t184 q97 86 32 fun t185 =>
  hASt t185 q97 87 32 fun t186 =>
  hASt t186 q97 88 110 fun t187 =>
  hASt t187 q97 89 111 fun t188 =>
  hASt t188 q97 90 116 fun t189 =>
  hASt t189 q97 91 32 fun t190 =>
  hASt t190 q97 92 32 fun t191 =>
  hASt t191 q97 93 32 fun t192 =>
  hASt t192 q97 94 32 fun t193 =>
  hASt t193 q97 95 32 fun t194 =>
  hPutR t194 11 39 36 (some q97) fun t195 =>
  hNewA t195 20 200 fun q196 t197 =>
  hPutR t197 11 39 37 (some q196) fun t198 =>
  hNewA t198 20 200 fun q199 t200 =>
  hPutR t200 11 39 41 (some q199) fun t201 =>
  hNewA t201 20 6 fun q202 t203 =>
  hPutR t203 11 39 42 (some q202) fun t204 =>
  hNewA t204 20 512 fun q205 t206 =>
  hPutR t206 11 39 43 (some q205) fun t207 =>
  hNewA t207 20 512 fun q208 t209 =>
  hPutR t209 11 39 44 (some q208) fun t210 =>
  hNewA t210 20 6 fun q211 t212 =>
  hPutR t212 11 39 46 (some q211) fun t213 =>
  hNewA t213 20 768 fun q214 t215 =>
  hPutR t215 11 39 47 (some q214) fun t216 =>
  hNewA t216 20 128 fun q217 t218 =>
  hPutR t218 11 39 48 (some q217) fun t219 =>
  hNewA t219 20 8 fun q220 t221 =>
  hPutR t221 11 39 49 (some q220) fun t222 =>
  fm_init_l1045 (fun t => fm_init_1069 t) 1000000 t222 0
def F_181 (as : List Value) (t : SM) : OR := match as with
  | [.ref z0] => (match Nat.beq z0 39 with | true => fm_init t | false => none)
  | _ => none
/-! EveryMapWrongModel.isTown(I)Z -/
def fm_isTown (t : SM) (a : Int32) : OR :=
  hGetI t 11 39 0 fun choices1 =>
  bI (fm_in t a 0 (((1 : Int32) <<< (choices1 &&& 31)) - 1)) fun in3 t2 =>
  hZ in3 (rI in3 t2)
def F_183 (as : List Value) (t : SM) : OR := match as with
  | [.ref z0, .int a] => (match Nat.beq z0 39 with | true => fm_isTown t a | false => none)
  | _ => none
/-! EveryMapWrongModel.isMap(I)Z -/
def fm_isMap (t : SM) (a : Int32) : OR :=
  hGetI t 11 39 3 fun maps1 =>
  bI (fm_in t a 0 (maps1 - 1)) fun in3 t2 =>
  hZ in3 (rI in3 t2)
def F_184 (as : List Value) (t : SM) : OR := match as with
  | [.ref z0, .int a] => (match Nat.beq z0 39 with | true => fm_isMap t a | false => none)
  | _ => none
/-! EveryMapWrongModel.isChoice(I)Z -/
def fm_isChoice (t : SM) (a : Int32) : OR :=
  hGetI t 11 39 0 fun choices1 =>
  bI (fm_in t a 0 (choices1 - 1)) fun in3 t2 =>
  hZ in3 (rI in3 t2)
def F_185 (as : List Value) (t : SM) : OR := match as with
  | [.ref z0, .int a] => (match Nat.beq z0 39 with | true => fm_isChoice t a | false => none)
  | _ => none
/-! EveryMapWrongModel.areTwo(I)Z -/
def fm_areTwo (t : SM) (a : Int32) : OR :=
  bI (fm_in t a 0 55) fun in2 t1 =>
  if in2 = 0 then rI 0 t1
  else if 5 < (a - a / 10 * 10) then rI 0 t1
  else rI 1 t1
def F_186 (as : List Value) (t : SM) : OR := match as with
  | [.int a] => fm_areTwo t a
  | _ => none
/-! EveryMapWrongModel.ones(I)I -/
def fm_ones_4 (r4 : SM → Int32 → Int32 → Int32 → OR) (t : SM) (v0 : Int32) (v1 : Int32) (v2 : Int32) : OR :=
  if 9 ≤ v2 then rI v1 t
  else r4 t v0 (v1 + ((v0 >>> (v2 &&& 31)) &&& 1)) (v2 + 1)
def fm_ones_l4 : Nat → SM → Int32 → Int32 → Int32 → OR
  | 0, _, _, _, _ => none
  | n + 1, t, v0, v1, v2 => fm_ones_4 (fm_ones_l4 n) t v0 v1 v2
def fm_ones (t : SM) (a : Int32) : OR :=
  fm_ones_l4 1000000 t a 0 0
def F_187 (as : List Value) (t : SM) : OR := match as with
  | [.int a] => fm_ones t a
  | _ => none
/-! EveryMapWrongModel.town(I)I -/
def fm_town (t : SM) (a : Int32) : OR :=
  bI (fm_in t a 1 9) fun in2 t1 =>
  if in2 = 0 then rI (-2) t1
  else hGetI t1 11 39 3 fun maps3 =>
    if 0 < maps3 then rI (-3) t1
    else hGetI t1 11 39 9 fun streets4 =>
    if streets4 ≤ 0 then hGetI t1 11 39 0 fun choices5 =>
      hPutI t1 11 39 0 a fun t6 =>
      hPutI t6 11 39 1 0 fun t7 =>
      hPutI t7 11 39 2 0 fun t8 =>
      hPutI t8 11 39 22 0 fun t9 =>
      rI choices5 t9
    else rI (-3) t1
def F_188 (as : List Value) (t : SM) : OR := match as with
  | [.ref z0, .int a] => (match Nat.beq z0 39 with | true => fm_town t a | false => none)
  | _ => none
/-! EveryMapWrongModel.count(I)I -/
def fm_count (t : SM) (a : Int32) : OR :=
  if a = 0 then hGetI t 11 39 0 fun choices1 =>
    rI choices1 t
  else if a = 1 then hGetI t 11 39 3 fun maps2 =>
    rI maps2 t
  else if a = 2 then hGetI t 11 39 9 fun streets3 =>
    rI streets3 t
  else if a = 3 then hGetI t 11 39 14 fun goers4 =>
    rI goers4 t
  else if a = 4 then hGetI t 11 39 20 fun texts5 =>
    rI texts5 t
  else if a = 5 then hGetI t 11 39 21 fun rule6 =>
    rI rule6 t
  else if a = 6 then hGetI t 11 39 17 fun taped7 =>
    rI taped7 t
  else if a = 7 then hGetI t 11 39 1 fun seen8 =>
    rI seen8 t
  else if a = 8 then hGetI t 11 39 2 fun seenSo9 =>
    rI seenSo9 t
  else rI (-2) t
def F_189 (as : List Value) (t : SM) : OR := match as with
  | [.ref z0, .int a] => (match Nat.beq z0 39 with | true => fm_count t a | false => none)
  | _ => none
/-! EveryMapWrongModel.feed(JI)I -/
def fm_feed_75 (t : SM) : OR :=
  hGetI t 11 39 17 fun taped1 =>
  rI taped1 t
def fm_feed_33 (k75 : SM → OR) (r33 : SM → Int64 → Int32 → OR) (t : SM) (v1 : Int64) (v4 : Int32) : OR :=
  if v4 < 0 then k75 t
  else hGetC t 11 39 16 50 <|
  hGetI t 11 39 17 fun taped1 =>
  hASt t 50 taped1 (Int64.toInt32 ((v1 >>> (Int32.toInt64 (8 * v4) &&& 63)) &&& 255)) fun t2 =>
  hGetI t2 11 39 17 fun taped3 =>
  hPutI t2 11 39 17 (taped3 + 1) fun t4 =>
  r33 t4 v1 (v4 + (-1))
def fm_feed_l33 (k75 : SM → OR) : Nat → SM → Int64 → Int32 → OR
  | 0, _, _, _ => none
  | n + 1, t, v1, v4 => fm_feed_33 k75 (fm_feed_l33 k75 n) t v1 v4
def fm_feed (t : SM) (a : Int64) (b : Int32) : OR :=
  bI (fm_in t b 1 8) fun in2 t1 =>
  if in2 = 0 then rI (-2) t1
  else hGetI t1 11 39 17 fun taped3 =>
    if (taped3 + b) ≤ 160 then fm_feed_l33 (fun t => fm_feed_75 t) 1000000 t1 a (b - 1)
    else rI (-4) t1
def F_190 (as : List Value) (t : SM) : OR := match as with
  | [.ref z0, .long a, .int b] => (match Nat.beq z0 39 with | true => fm_feed t a b | false => none)
  | _ => none
/-! EveryMapWrongModel.two(III)I -/
def fm_two (t : SM) (a : Int32) (b : Int32) (c : Int32) : OR :=
  if a = 11 then if b = 0 then if c = 0 then rI 0 t
    else rI 1 t
    else rI 1 t
  else if a = 12 then if b = 0 then rI 0 t
    else if c = 0 then rI 0 t
    else rI 1 t
  else if a = 13 then rI (b * c) t
  else if a = 14 then if c ≤ b then rI 0 t
    else rI 1 t
  else if a = 15 then if b = c then rI 1 t
    else rI 0 t
  else if a = 16 then rI (b + c) t
  else if a = 17 then rI (b - c) t
  else rI (b * c) t
def F_202 (as : List Value) (t : SM) : OR := match as with
  | [.int a, .int b, .int c] => fm_two t a b c
  | _ => none
/-! EveryMapWrongModel.worthOf(I)I -/
def fm_worthOf_197 (t : SM) : OR :=
  hGetC t 11 39 41 60 <|
  hALd t 60 0 fun e1 =>
  rI e1 t
def fm_worthOf_66 (r16 : SM → Int32 → Int32 → Int32 → OR) (t : SM) (v1 : Int32) (v2 : Int32) (v3 : Int32) (v4 : Int32) : OR :=
  hGetC t 11 39 41 60 <|
  if 11 ≤ v4 then hASt t 60 v2 (v4 - 100000) fun t1 =>
    r16 t1 v1 (v2 + 1) (v3 + 1)
  else hGetC t 11 39 42 61 <|
  hALd t 61 v4 fun e2 =>
  hASt t 60 v2 e2 fun t3 =>
  r16 t3 v1 (v2 + 1) (v3 + 1)
def fm_worthOf_16 (k197 : SM → OR) (r16 : SM → Int32 → Int32 → Int32 → OR) (t : SM) (v1 : Int32) (v2 : Int32) (v3 : Int32) : OR :=
  hGetC t 11 39 19 52 <|
  hGetI t 11 39 21 fun rule1 =>
  hALd t 52 (((4 * rule1) + v1) + 1) fun e2 =>
  if e2 ≤ v3 then k197 t
  else hGetC t 11 39 18 51 <|
  hGetI t 11 39 21 fun rule3 =>
  hALd t 51 ((200 * rule3) + v3) fun e4 =>
  if 100000 ≤ e4 then fm_worthOf_66 r16 t v1 v2 v3 e4
  else if 11 ≤ e4 then if e4 = 13 then hGetC t 11 39 41 60 <|
    hGetC t 11 39 41 60 <|
    hALd t 60 (v2 - 1) fun e12 =>
    if e12 = 0 then hASt t 60 (v2 - 1) 1 fun t14 =>
    r16 t14 v1 v2 (v3 + 1)
    else hASt t 60 (v2 - 1) 0 fun t13 =>
      r16 t13 v1 v2 (v3 + 1)
    else if e4 = 19 then hGetC t 11 39 41 60 <|
      hGetC t 11 39 41 60 <|
      hALd t 60 (v2 - 1) fun e10 =>
      hASt t 60 (v2 - 1) (-e10) fun t11 =>
      r16 t11 v1 v2 (v3 + 1)
      else hGetC t 11 39 41 60 <|
        hGetC t 11 39 41 60 <|
        hALd t 60 ((v2 + (-1)) - 1) fun e5 =>
        hGetC t 11 39 41 60 <|
        hALd t 60 (v2 + (-1)) fun e6 =>
        bI (fm_two t e4 e5 e6) fun two8 t7 =>
        hASt t7 60 ((v2 + (-1)) - 1) two8 fun t9 =>
        r16 t9 v1 (v2 + (-1)) (v3 + 1)
  else fm_worthOf_66 r16 t v1 v2 v3 e4
def fm_worthOf_l16 (k197 : SM → OR) : Nat → SM → Int32 → Int32 → Int32 → OR
  | 0, _, _, _, _ => none
  | n + 1, t, v1, v2, v3 => fm_worthOf_16 k197 (fm_worthOf_l16 k197 n) t v1 v2 v3
def fm_worthOf (t : SM) (a : Int32) : OR :=
  hGetC t 11 39 19 52 <|
  hGetI t 11 39 21 fun rule1 =>
  hALd t 52 ((4 * rule1) + a) fun e2 =>
  fm_worthOf_l16 (fun t => fm_worthOf_197 t) 1000000 t a 0 e2
def F_203 (as : List Value) (t : SM) : OR := match as with
  | [.ref z0, .int a] => (match Nat.beq z0 39 with | true => fm_worthOf t a | false => none)
  | _ => none
/-! EveryMapWrongModel.asksOf(IIII)I -/
def fm_asksOf_41 (t : SM) (v1 : Int32) (v3 : Int32) (v4 : Int32) : OR :=
  hGetC t 11 39 42 61 <|
  hASt t 61 4 v3 fun t1 =>
  hGetC t1 11 39 42 61 <|
  hASt t1 61 5 v4 fun t2 =>
  hRecv t2 11 39 <| bI (fm_worthOf t2 v1) fun worthOf4 t3 =>
  if v1 = 0 then rI worthOf4 t3
  else if 0 ≤ worthOf4 then if worthOf4 ≤ 999 then rI worthOf4 t3
      else rI 999 t3
    else rI 0 t3
def fm_asksOf_3 (k41 : SM → Int32 → Int32 → Int32 → OR) (r3 : SM → Int32 → Int32 → Int32 → Int32 → Int32 → OR) (t : SM) (v1 : Int32) (v2 : Int32) (v3 : Int32) (v4 : Int32) (v5 : Int32) : OR :=
  if 4 ≤ v5 then k41 t v1 v3 v4
  else hGetC t 11 39 42 61 <|
  hGetI t 11 39 0 fun choices1 =>
  if choices1 ≤ v5 then hASt t 61 v5 0 fun t2 =>
    r3 t2 v1 v2 v3 v4 (v5 + 1)
  else hASt t 61 v5 ((v2 >>> (v5 &&& 31)) &&& 1) fun t3 =>
  r3 t3 v1 v2 v3 v4 (v5 + 1)
def fm_asksOf_l3 (k41 : SM → Int32 → Int32 → Int32 → OR) : Nat → SM → Int32 → Int32 → Int32 → Int32 → Int32 → OR
  | 0, _, _, _, _, _, _ => none
  | n + 1, t, v1, v2, v3, v4, v5 => fm_asksOf_3 k41 (fm_asksOf_l3 k41 n) t v1 v2 v3 v4 v5
def fm_asksOf (t : SM) (a : Int32) (b : Int32) (c : Int32) (d : Int32) : OR :=
  fm_asksOf_l3 (fun t u1 u3 u4 => fm_asksOf_41 t u1 u3 u4) 1000000 t a b c d 0
def F_204 (as : List Value) (t : SM) : OR := match as with
  | [.ref z0, .int a, .int b, .int c, .int d] => (match Nat.beq z0 39 with | true => fm_asksOf t a b c d | false => none)
  | _ => none
/-! EveryMapWrongModel.force(I)I -/
def fm_force (t : SM) (a : Int32) : OR :=
  hGetI t 11 39 20 fun texts1 =>
  bI (fm_in t a 0 (texts1 - 1)) fun in3 t2 =>
  if in3 = 0 then rI (-2) t2
  else hGetI t2 11 39 21 fun rule4 =>
    hPutI t2 11 39 21 a fun t5 =>
    rI rule4 t5
def F_205 (as : List Value) (t : SM) : OR := match as with
  | [.ref z0, .int a] => (match Nat.beq z0 39 with | true => fm_force t a | false => none)
  | _ => none
/-! EveryMapWrongModel.mayBe(I)Z -/
def fm_mayBe (t : SM) (a : Int32) : OR :=
  hRecv t 11 39 <| bI (fm_asksOf t 0 a 0 0) fun asksOf2 t1 =>
  if asksOf2 = 0 then rI 0 t1
  else rI 1 t1
def F_206 (as : List Value) (t : SM) : OR := match as with
  | [.ref z0, .int a] => (match Nat.beq z0 39 with | true => fm_mayBe t a | false => none)
  | _ => none
/-! EveryMapWrongModel.may(I)I -/
def fm_may (t : SM) (a : Int32) : OR :=
  hRecv t 11 39 <| bI (fm_isTown t a) fun isTown2 t1 =>
  if isTown2 = 0 then rI (-2) t1
  else hRecv t1 11 39 <| bI (fm_mayBe t1 a) fun mayBe4 t3 =>
  if mayBe4 = 0 then rI 0 t3
  else rI 1 t3
def F_207 (as : List Value) (t : SM) : OR := match as with
  | [.ref z0, .int a] => (match Nat.beq z0 39 with | true => fm_may t a | false => none)
  | _ => none
/-! EveryMapWrongModel.map(IIII)I -/
def fm_map_53 (t : SM) (v1 : Int32) (v2 : Int32) (v3 : Int32) (v4 : Int32) : OR :=
  hGetI t 11 39 3 fun maps1 =>
  if maps1 = 8 then rI (-4) t
  else hGetC t 11 39 4 40 <|
    hGetI t 11 39 3 fun maps2 =>
    hASt t 40 maps2 v1 fun t3 =>
    hGetC t3 11 39 5 41 <|
    hGetI t3 11 39 3 fun maps4 =>
    hASt t3 41 maps4 v2 fun t5 =>
    hGetC t5 11 39 6 42 <|
    hGetI t5 11 39 3 fun maps6 =>
    hASt t5 42 maps6 v3 fun t7 =>
    hGetC t7 11 39 7 43 <|
    hGetI t7 11 39 3 fun maps8 =>
    hASt t7 43 maps8 v4 fun t9 =>
    hGetC t9 11 39 8 44 <|
    hGetI t9 11 39 3 fun maps10 =>
    hASt t9 44 maps10 1 fun t11 =>
    hGetI t11 11 39 3 fun maps12 =>
    hPutI t11 11 39 3 (maps12 + 1) fun t13 =>
    hGetI t13 11 39 3 fun maps14 =>
    rI (maps14 - 1) t13
def fm_map (t : SM) (a : Int32) (b : Int32) (c : Int32) (d : Int32) : OR :=
  bI (fm_in t a 0 5) fun in2 t1 =>
  if in2 = 0 then rI (-2) t1
  else hRecv t1 11 39 <| bI (fm_isTown t1 b) fun isTown4 t3 =>
  if isTown4 = 0 then rI (-2) t3
  else hRecv t3 11 39 <| bI (fm_isTown t3 c) fun isTown6 t5 =>
  if isTown6 = 0 then rI (-2) t5
  else bI (fm_in t5 d 0 9) fun in8 t7 =>
  if in8 = 0 then rI (-2) t7
  else if a = 1 then hRecv t7 11 39 <| bI (fm_isMap t7 d) fun isMap10 t9 =>
  if isMap10 = 0 then rI (-2) t9
  else fm_map_53 t9 a b c d
  else fm_map_53 t7 a b c d
def F_208 (as : List Value) (t : SM) : OR := match as with
  | [.ref z0, .int a, .int b, .int c, .int d] => (match Nat.beq z0 39 with | true => fm_map t a b c d | false => none)
  | _ => none
/-! EveryMapWrongModel.drop()I -/
def fm_drop (t : SM) : OR :=
  hGetI t 11 39 3 fun maps1 =>
  if maps1 = 0 then rI (-3) t
  else hGetI t 11 39 3 fun maps2 =>
    hPutI t 11 39 3 (maps2 - 1) fun t3 =>
    hGetI t3 11 39 22 fun hasImage4 =>
    if hasImage4 = 0 then hPutI t3 11 39 22 0 fun t5 =>
      hGetI t5 11 39 3 fun maps6 =>
      rI maps6 t5
    else hGetI t3 11 39 25 fun imageMaps7 =>
    hGetI t3 11 39 3 fun maps8 =>
    if maps8 < imageMaps7 then hPutI t3 11 39 22 0 fun t9 =>
      hGetI t9 11 39 3 fun maps10 =>
      rI maps10 t9
    else hPutI t3 11 39 22 1 fun t11 =>
    hGetI t11 11 39 3 fun maps12 =>
    rI maps12 t11
def F_209 (as : List Value) (t : SM) : OR := match as with
  | [.ref z0] => (match Nat.beq z0 39 with | true => fm_drop t | false => none)
  | _ => none
/-! EveryMapWrongModel.price(II)I -/
def fm_price (t : SM) (a : Int32) (b : Int32) : OR :=
  hRecv t 11 39 <| bI (fm_isMap t a) fun isMap2 t1 =>
  if isMap2 = 0 then rI (-1) t1
  else bI (fm_in t1 b 0 99) fun in4 t3 =>
    if in4 = 0 then rI (-2) t3
    else hGetC t3 11 39 8 44 <|
      hALd t3 44 a fun e5 =>
      hGetC t3 11 39 8 44 <|
      hASt t3 44 a b fun t6 =>
      rI e5 t6
def F_210 (as : List Value) (t : SM) : OR := match as with
  | [.ref z0, .int a, .int b] => (match Nat.beq z0 39 with | true => fm_price t a b | false => none)
  | _ => none
/-! EveryMapWrongModel.told(II)I -/
def fm_told (t : SM) (a : Int32) (b : Int32) : OR :=
  hRecv t 11 39 <| bI (fm_isMap t a) fun isMap2 t1 =>
  if isMap2 = 0 then rI (-5) t1
  else if b = 0 then hGetC t1 11 39 4 40 <|
      hALd t1 40 a fun e3 =>
      rI e3 t1
    else if b = 1 then hGetC t1 11 39 5 41 <|
      hALd t1 41 a fun e4 =>
      rI e4 t1
    else if b = 2 then hGetC t1 11 39 6 42 <|
      hALd t1 42 a fun e5 =>
      rI e5 t1
    else if b = 3 then hGetC t1 11 39 7 43 <|
      hALd t1 43 a fun e6 =>
      rI e6 t1
    else if b = 4 then hGetC t1 11 39 8 44 <|
      hALd t1 44 a fun e7 =>
      rI e7 t1
    else rI (-7) t1
def F_211 (as : List Value) (t : SM) : OR := match as with
  | [.ref z0, .int a, .int b] => (match Nat.beq z0 39 with | true => fm_told t a b | false => none)
  | _ => none
/-! EveryMapWrongModel.slipsOf(II)I -/
def fm_slipsOf (t : SM) (a : Int32) (b : Int32) : OR :=
  hGetC t 11 39 5 41 <|
  hALd t 41 a fun e1 =>
  hGetC t 11 39 4 40 <|
  hALd t 40 a fun e2 =>
  if e2 = 3 then hGetC t 11 39 6 42 <|
  hALd t 42 a fun e3 =>
  rI ((e1 ^^^ b) &&& e3) t
  else rI (e1 ^^^ b) t
def F_212 (as : List Value) (t : SM) : OR := match as with
  | [.ref z0, .int a, .int b] => (match Nat.beq z0 39 with | true => fm_slipsOf t a b | false => none)
  | _ => none
/-! EveryMapWrongModel.agrees(II)Z -/
def fm_agrees_49 (t : SM) (v2 : Int32) (v3 : Int32) : OR :=
  hRecv t 11 39 <| bI (fm_slipsOf t v3 v2) fun slipsOf2 t1 =>
  bI (fm_ones t1 slipsOf2) fun ones4 t3 =>
  hGetC t3 11 39 4 40 <|
  hALd t3 40 v3 fun e5 =>
  if e5 = 2 then if 1 < ones4 then rI 0 t3
    else rI 1 t3
  else if e5 = 3 then if 1 < ones4 then rI 0 t3
    else rI 1 t3
  else if e5 = 4 then hGetC t3 11 39 7 43 <|
    hALd t3 43 v3 fun e6 =>
    if (e6 + 1) < ones4 then rI 0 t3
    else rI 1 t3
  else if e5 = 5 then if ones4 = 2 then if (slipsOf2 &&& (slipsOf2 <<< ((1 : Int32) &&& 31))) = 0 then rI 0 t3
    else bI (fm_ones t3 (slipsOf2 &&& v2)) fun ones8 t7 =>
    if ones8 = 1 then rI 1 t7
    else rI 0 t7
    else rI 0 t3
  else if ones4 = 1 then rI 1 t3
  else rI 0 t3
def fm_agrees_2 (k49 : SM → Int32 → Int32 → OR) (r2 : SM → Int32 → Int32 → OR) (t : SM) (v2 : Int32) (v3 : Int32) : OR :=
  hGetC t 11 39 4 40 <|
  hALd t 40 v3 fun e1 =>
  if e1 = 1 then hGetC t 11 39 5 41 <|
  hALd t 41 v3 fun e2 =>
  hGetC t 11 39 5 41 <|
  hGetC t 11 39 7 43 <|
  hALd t 43 v3 fun e3 =>
  hALd t 41 e3 fun e4 =>
  bI (fm_ones t (e2 ^^^ e4)) fun ones6 t5 =>
  if ones6 = 1 then hGetC t5 11 39 7 43 <|
    hALd t5 43 v3 fun e7 =>
    r2 t5 v2 e7
  else rI 0 t5
  else k49 t v2 v3
def fm_agrees_l2 (k49 : SM → Int32 → Int32 → OR) : Nat → SM → Int32 → Int32 → OR
  | 0, _, _, _ => none
  | n + 1, t, v2, v3 => fm_agrees_2 k49 (fm_agrees_l2 k49 n) t v2 v3
def fm_agrees (t : SM) (a : Int32) (b : Int32) : OR :=
  fm_agrees_l2 (fun t u2 u3 => fm_agrees_49 t u2 u3) 1000000 t b a
def F_213 (as : List Value) (t : SM) : OR := match as with
  | [.ref z0, .int a, .int b] => (match Nat.beq z0 39 with | true => fm_agrees t a b | false => none)
  | _ => none
/-! EveryMapWrongModel.slips(III)I -/
def fm_slips (t : SM) (a : Int32) (b : Int32) (c : Int32) : OR :=
  hRecv t 11 39 <| bI (fm_isMap t a) fun isMap2 t1 =>
  if isMap2 = 0 then rI (-5) t1
  else hRecv t1 11 39 <| bI (fm_isTown t1 b) fun isTown4 t3 =>
    if isTown4 = 0 then rI (-7) t3
    else bI (fm_in t3 c 0 1) fun in6 t5 =>
    if in6 = 0 then rI (-7) t5
    else if c = 0 then hRecv t5 11 39 <| bI (fm_slipsOf t5 a b) fun slipsOf10 t9 =>
      rI slipsOf10 t9
      else hRecv t5 11 39 <| bI (fm_agrees t5 a b) fun agrees8 t7 =>
        if agrees8 = 0 then rI 0 t7
        else rI 1 t7
def F_214 (as : List Value) (t : SM) : OR := match as with
  | [.ref z0, .int a, .int b, .int c] => (match Nat.beq z0 39 with | true => fm_slips t a b c | false => none)
  | _ => none
/-! EveryMapWrongModel.look(II)I -/
def fm_look (t : SM) (a : Int32) (b : Int32) : OR :=
  hRecv t 11 39 <| bI (fm_isChoice t a) fun isChoice2 t1 =>
  if isChoice2 = 0 then rI (-5) t1
  else bI (fm_in t1 b (-1) 1) fun in4 t3 =>
    if in4 = 0 then rI (-7) t3
    else hGetI t3 11 39 1 fun seen5 =>
      if ((seen5 >>> (a &&& 31)) &&& 1) = 0 then if 0 ≤ b then hGetI t3 11 39 1 fun seen19 =>
        hPutI t3 11 39 1 (seen19 ||| ((1 : Int32) <<< (a &&& 31))) fun t20 =>
        if b = 1 then hGetI t20 11 39 2 fun seenSo23 =>
        hPutI t20 11 39 2 (seenSo23 ||| ((1 : Int32) <<< (a &&& 31))) fun t24 =>
        rI (-1) t24
        else hGetI t20 11 39 2 fun seenSo21 =>
          hPutI t20 11 39 2 (seenSo21 &&& (((1 : Int32) <<< (a &&& 31)) ^^^ (-1))) fun t22 =>
          rI (-1) t22
      else hGetI t3 11 39 1 fun seen25 =>
      hPutI t3 11 39 1 (seen25 &&& (((1 : Int32) <<< (a &&& 31)) ^^^ (-1))) fun t26 =>
      if b = 1 then hGetI t26 11 39 2 fun seenSo29 =>
      hPutI t26 11 39 2 (seenSo29 ||| ((1 : Int32) <<< (a &&& 31))) fun t30 =>
      rI (-1) t30
      else hGetI t26 11 39 2 fun seenSo27 =>
        hPutI t26 11 39 2 (seenSo27 &&& (((1 : Int32) <<< (a &&& 31)) ^^^ (-1))) fun t28 =>
        rI (-1) t28
      else hGetI t3 11 39 2 fun seenSo6 =>
        if 0 ≤ b then hGetI t3 11 39 1 fun seen7 =>
          hPutI t3 11 39 1 (seen7 ||| ((1 : Int32) <<< (a &&& 31))) fun t8 =>
          if b = 1 then hGetI t8 11 39 2 fun seenSo11 =>
          hPutI t8 11 39 2 (seenSo11 ||| ((1 : Int32) <<< (a &&& 31))) fun t12 =>
          rI ((seenSo6 >>> (a &&& 31)) &&& 1) t12
          else hGetI t8 11 39 2 fun seenSo9 =>
            hPutI t8 11 39 2 (seenSo9 &&& (((1 : Int32) <<< (a &&& 31)) ^^^ (-1))) fun t10 =>
            rI ((seenSo6 >>> (a &&& 31)) &&& 1) t10
        else hGetI t3 11 39 1 fun seen13 =>
        hPutI t3 11 39 1 (seen13 &&& (((1 : Int32) <<< (a &&& 31)) ^^^ (-1))) fun t14 =>
        if b = 1 then hGetI t14 11 39 2 fun seenSo17 =>
        hPutI t14 11 39 2 (seenSo17 ||| ((1 : Int32) <<< (a &&& 31))) fun t18 =>
        rI ((seenSo6 >>> (a &&& 31)) &&& 1) t18
        else hGetI t14 11 39 2 fun seenSo15 =>
          hPutI t14 11 39 2 (seenSo15 &&& (((1 : Int32) <<< (a &&& 31)) ^^^ (-1))) fun t16 =>
          rI ((seenSo6 >>> (a &&& 31)) &&& 1) t16
def F_215 (as : List Value) (t : SM) : OR := match as with
  | [.ref z0, .int a, .int b] => (match Nat.beq z0 39 with | true => fm_look t a b | false => none)
  | _ => none
/-! EveryMapWrongModel.agree()V -/
def fm_agree_88 (r2 : SM → Int32 → OR) (t : SM) (v1 : Int32) : OR :=
  r2 t (v1 + 1)
def fm_agree_49 (k88 : SM → Int32 → OR) (r49 : SM → Int32 → Int32 → OR) (t : SM) (v1 : Int32) (v2 : Int32) : OR :=
  hGetI t 11 39 3 fun maps1 =>
  if maps1 ≤ v2 then k88 t v1
  else hGetC t 11 39 43 62 <|
  hALd t 62 v1 fun e2 =>
  hRecv t 11 39 <| bI (fm_agrees t v2 v1) fun agrees4 t3 =>
  if agrees4 = 0 then hASt t3 62 v1 (e2 ||| 0) fun t5 =>
    r49 t5 v1 (v2 + 1)
  else hASt t3 62 v1 (e2 ||| ((1 : Int32) <<< (v2 &&& 31))) fun t6 =>
  r49 t6 v1 (v2 + 1)
def fm_agree_l49 (k88 : SM → Int32 → OR) : Nat → SM → Int32 → Int32 → OR
  | 0, _, _, _ => none
  | n + 1, t, v1, v2 => fm_agree_49 k88 (fm_agree_l49 k88 n) t v1 v2
def fm_agree_2 (r2 : SM → Int32 → OR) (t : SM) (v1 : Int32) : OR :=
  hGetI t 11 39 0 fun choices1 =>
  if ((1 : Int32) <<< (choices1 &&& 31)) ≤ v1 then rV t
  else hGetC t 11 39 43 62 <|
  hASt t 62 v1 (-1) fun t2 =>
  hGetI t2 11 39 1 fun seen3 =>
  hGetI t2 11 39 2 fun seenSo4 =>
  if (v1 &&& seen3) = seenSo4 then hRecv t2 11 39 <| bI (fm_mayBe t2 v1) fun mayBe6 t5 =>
  if mayBe6 = 0 then fm_agree_88 r2 t5 v1
  else hGetC t5 11 39 43 62 <|
  hASt t5 62 v1 0 fun t7 =>
  fm_agree_l49 (fun t u1 => fm_agree_88 r2 t u1) 1000000 t7 v1 0
  else fm_agree_88 r2 t2 v1
def fm_agree_l2 : Nat → SM → Int32 → OR
  | 0, _, _ => none
  | n + 1, t, v1 => fm_agree_2 (fm_agree_l2 n) t v1
def fm_agree (t : SM) : OR :=
  fm_agree_l2 1000000 t 0
def F_216 (as : List Value) (t : SM) : OR := match as with
  | [.ref z0] => (match Nat.beq z0 39 with | true => fm_agree t | false => none)
  | _ => none
/-! EveryMapWrongModel.countBy(I)I -/
def fm_countBy_4 (r4 : SM → Int32 → Int32 → Int32 → OR) (t : SM) (v1 : Int32) (v2 : Int32) (v3 : Int32) : OR :=
  hGetI t 11 39 0 fun choices1 =>
  if ((1 : Int32) <<< (choices1 &&& 31)) ≤ v3 then rI v2 t
  else hGetC t 11 39 43 62 <|
  hALd t 62 v3 fun e2 =>
  if e2 < 0 then r4 t v1 (v2 + 0) (v3 + 1)
  else hGetC t 11 39 43 62 <|
  hALd t 62 v3 fun e3 =>
  if (e3 &&& v1) = v1 then r4 t v1 (v2 + 1) (v3 + 1)
  else r4 t v1 (v2 + 0) (v3 + 1)
def fm_countBy_l4 : Nat → SM → Int32 → Int32 → Int32 → OR
  | 0, _, _, _, _ => none
  | n + 1, t, v1, v2, v3 => fm_countBy_4 (fm_countBy_l4 n) t v1 v2 v3
def fm_countBy (t : SM) (a : Int32) : OR :=
  fm_countBy_l4 1000000 t a 0 0
def F_217 (as : List Value) (t : SM) : OR := match as with
  | [.ref z0, .int a] => (match Nat.beq z0 39 with | true => fm_countBy t a | false => none)
  | _ => none
/-! EveryMapWrongModel.allMaps()I -/
def fm_allMaps (t : SM) : OR :=
  hGetI t 11 39 3 fun maps1 =>
  rI (((1 : Int32) <<< (maps1 &&& 31)) - 1) t
def F_218 (as : List Value) (t : SM) : OR := match as with
  | [.ref z0] => (match Nat.beq z0 39 with | true => fm_allMaps t | false => none)
  | _ => none
/-! EveryMapWrongModel.findsWorlds()V -/
def fm_findsWorlds_11 (r11 : SM → Int32 → OR) (t : SM) (v1 : Int32) : OR :=
  hGetI t 11 39 0 fun choices1 =>
  if ((1 : Int32) <<< (choices1 &&& 31)) ≤ v1 then rV t
  else hGetC t 11 39 43 62 <|
  hALd t 62 v1 fun e2 =>
  hRecv t 11 39 <| bI (fm_allMaps t) fun allMaps4 t3 =>
  if e2 = allMaps4 then hGetC t3 11 39 44 63 <|
  hGetI t3 11 39 45 fun worldMany5 =>
  hASt t3 63 worldMany5 v1 fun t6 =>
  hGetI t6 11 39 45 fun worldMany7 =>
  hPutI t6 11 39 45 (worldMany7 + 1) fun t8 =>
  r11 t8 (v1 + 1)
  else r11 t3 (v1 + 1)
def fm_findsWorlds_l11 : Nat → SM → Int32 → OR
  | 0, _, _ => none
  | n + 1, t, v1 => fm_findsWorlds_11 (fm_findsWorlds_l11 n) t v1
def fm_findsWorlds (t : SM) : OR :=
  hRecv t 11 39 <| bV (fm_agree t) fun t1 =>
  hPutI t1 11 39 45 0 fun t2 =>
  fm_findsWorlds_l11 1000000 t2 0
def F_219 (as : List Value) (t : SM) : OR := match as with
  | [.ref z0] => (match Nat.beq z0 39 with | true => fm_findsWorlds t | false => none)
  | _ => none
/-! EveryMapWrongModel.worlds(I)I -/
def fm_worlds (t : SM) (a : Int32) : OR :=
  hRecv t 11 39 <| bI (fm_allMaps t) fun allMaps2 t1 =>
  bI (fm_in t1 a 0 allMaps2) fun in4 t3 =>
  if in4 = 0 then rI (-2) t3
  else hRecv t3 11 39 <| bV (fm_agree t3) fun t5 =>
    hRecv t5 11 39 <| bI (fm_countBy t5 a) fun countBy7 t6 =>
    rI countBy7 t6
def F_220 (as : List Value) (t : SM) : OR := match as with
  | [.ref z0, .int a] => (match Nat.beq z0 39 with | true => fm_worlds t a | false => none)
  | _ => none
/-! EveryMapWrongModel.world(I)I -/
def fm_world (t : SM) (a : Int32) : OR :=
  hRecv t 11 39 <| bV (fm_findsWorlds t) fun t1 =>
  hGetI t1 11 39 45 fun worldMany2 =>
  bI (fm_in t1 a 0 (worldMany2 - 1)) fun in4 t3 =>
  if in4 = 0 then rI (-1) t3
  else hGetC t3 11 39 44 63 <|
  hALd t3 63 a fun e5 =>
  rI e5 t3
def F_221 (as : List Value) (t : SM) : OR := match as with
  | [.ref z0, .int a] => (match Nat.beq z0 39 with | true => fm_world t a | false => none)
  | _ => none
/-! EveryMapWrongModel.allSo(I)I -/
def fm_allSo_11 (r11 : SM → Int32 → Int32 → Int32 → OR) (t : SM) (v1 : Int32) (v2 : Int32) (v3 : Int32) : OR :=
  hGetI t 11 39 0 fun choices1 =>
  if ((1 : Int32) <<< (choices1 &&& 31)) ≤ v3 then rI v2 t
  else hGetC t 11 39 43 62 <|
  hALd t 62 v3 fun e2 =>
  if e2 < 0 then r11 t v1 (v2 &&& v2) (v3 + 1)
  else hGetC t 11 39 43 62 <|
  hALd t 62 v3 fun e3 =>
  if (e3 &&& v1) = v1 then r11 t v1 (v2 &&& v3) (v3 + 1)
  else r11 t v1 (v2 &&& v2) (v3 + 1)
def fm_allSo_l11 : Nat → SM → Int32 → Int32 → Int32 → OR
  | 0, _, _, _, _ => none
  | n + 1, t, v1, v2, v3 => fm_allSo_11 (fm_allSo_l11 n) t v1 v2 v3
def fm_allSo (t : SM) (a : Int32) : OR :=
  hGetI t 11 39 0 fun choices1 =>
  fm_allSo_l11 1000000 t a (((1 : Int32) <<< (choices1 &&& 31)) - 1) 0
def F_222 (as : List Value) (t : SM) : OR := match as with
  | [.ref z0, .int a] => (match Nat.beq z0 39 with | true => fm_allSo t a | false => none)
  | _ => none
/-! EveryMapWrongModel.noneSo(I)I -/
def fm_noneSo_11 (r11 : SM → Int32 → Int32 → Int32 → OR) (t : SM) (v1 : Int32) (v2 : Int32) (v3 : Int32) : OR :=
  hGetI t 11 39 0 fun choices1 =>
  if ((1 : Int32) <<< (choices1 &&& 31)) ≤ v3 then rI v2 t
  else hGetC t 11 39 43 62 <|
  hALd t 62 v3 fun e2 =>
  if e2 < 0 then r11 t v1 (v2 &&& v2) (v3 + 1)
  else hGetC t 11 39 43 62 <|
  hALd t 62 v3 fun e3 =>
  if (e3 &&& v1) = v1 then r11 t v1 (v2 &&& (v3 ^^^ (-1))) (v3 + 1)
  else r11 t v1 (v2 &&& v2) (v3 + 1)
def fm_noneSo_l11 : Nat → SM → Int32 → Int32 → Int32 → OR
  | 0, _, _, _, _ => none
  | n + 1, t, v1, v2, v3 => fm_noneSo_11 (fm_noneSo_l11 n) t v1 v2 v3
def fm_noneSo (t : SM) (a : Int32) : OR :=
  hGetI t 11 39 0 fun choices1 =>
  fm_noneSo_l11 1000000 t a (((1 : Int32) <<< (choices1 &&& 31)) - 1) 0
def F_223 (as : List Value) (t : SM) : OR := match as with
  | [.ref z0, .int a] => (match Nat.beq z0 39 with | true => fm_noneSo t a | false => none)
  | _ => none
/-! EveryMapWrongModel.sure(I)I -/
def fm_sure (t : SM) (a : Int32) : OR :=
  bI (fm_in t a 0 2) fun in2 t1 =>
  if in2 = 0 then rI (-2) t1
  else hRecv t1 11 39 <| bV (fm_findsWorlds t1) fun t3 =>
    hGetI t3 11 39 45 fun worldMany4 =>
    if worldMany4 = 0 then rI (-3) t3
    else hRecv t3 11 39 <| bI (fm_allMaps t3) fun allMaps6 t5 =>
      hRecv t5 11 39 <| bI (fm_allSo t5 allMaps6) fun allSo8 t7 =>
      hRecv t7 11 39 <| bI (fm_allMaps t7) fun allMaps10 t9 =>
      hRecv t9 11 39 <| bI (fm_noneSo t9 allMaps10) fun noneSo12 t11 =>
      if a = 0 then rI allSo8 t11
      else if a = 1 then rI noneSo12 t11
        else hGetI t11 11 39 0 fun choices13 =>
          rI (((((1 : Int32) <<< (choices13 &&& 31)) - 1) &&& (allSo8 ^^^ (-1))) &&& (noneSo12 ^^^ (-1))) t11
def F_224 (as : List Value) (t : SM) : OR := match as with
  | [.ref z0, .int a] => (match Nat.beq z0 39 with | true => fm_sure t a | false => none)
  | _ => none
/-! EveryMapWrongModel.none()I -/
def fm_none_8 (r8 : SM → Int32 → Int32 → OR) (t : SM) (v1 : Int32) (v2 : Int32) : OR :=
  hRecv t 11 39 <| bI (fm_allMaps t) fun allMaps2 t1 =>
  if allMaps2 < v2 then rI v1 t1
  else if v1 = (-1) then hRecv t1 11 39 <| bI (fm_countBy t1 v2) fun countBy4 t3 =>
    if countBy4 = 0 then r8 t3 v2 (v2 + 1)
    else r8 t3 v1 (v2 + 1)
  else bI (fm_ones t1 v2) fun ones6 t5 =>
  bI (fm_ones t5 v1) fun ones8 t7 =>
  if ones8 ≤ ones6 then r8 t7 v1 (v2 + 1)
  else hRecv t7 11 39 <| bI (fm_countBy t7 v2) fun countBy10 t9 =>
  if countBy10 = 0 then r8 t9 v2 (v2 + 1)
  else r8 t9 v1 (v2 + 1)
def fm_none_l8 : Nat → SM → Int32 → Int32 → OR
  | 0, _, _, _ => none
  | n + 1, t, v1, v2 => fm_none_8 (fm_none_l8 n) t v1 v2
def fm_none (t : SM) : OR :=
  hRecv t 11 39 <| bV (fm_agree t) fun t1 =>
  fm_none_l8 1000000 t1 (-1) 0
def F_225 (as : List Value) (t : SM) : OR := match as with
  | [.ref z0] => (match Nat.beq z0 39 with | true => fm_none t | false => none)
  | _ => none
/-! EveryMapWrongModel.judge(I)I -/
def fm_judge_37 (r37 : SM → Int32 → Int32 → OR) (t : SM) (v1 : Int32) (v2 : Int32) : OR :=
  hGetI t 11 39 3 fun maps1 =>
  if maps1 ≤ v2 then rI (-1) t
  else hRecv t 11 39 <| bI (fm_agrees t v2 v1) fun agrees3 t2 =>
  if agrees3 = 0 then rI v2 t2
  else r37 t2 v1 (v2 + 1)
def fm_judge_l37 : Nat → SM → Int32 → Int32 → OR
  | 0, _, _, _ => none
  | n + 1, t, v1, v2 => fm_judge_37 (fm_judge_l37 n) t v1 v2
def fm_judge (t : SM) (a : Int32) : OR :=
  hRecv t 11 39 <| bI (fm_isTown t a) fun isTown2 t1 =>
  if isTown2 = 0 then rI (-2) t1
  else hGetI t1 11 39 1 fun seen3 =>
    hGetI t1 11 39 2 fun seenSo4 =>
    if (a &&& seen3) = seenSo4 then hRecv t1 11 39 <| bI (fm_mayBe t1 a) fun mayBe6 t5 =>
    if mayBe6 = 0 then rI 99 t5
    else fm_judge_l37 1000000 t5 a 0
    else rI 99 t1
def F_226 (as : List Value) (t : SM) : OR := match as with
  | [.ref z0, .int a] => (match Nat.beq z0 39 with | true => fm_judge t a | false => none)
  | _ => none
/-! EveryMapWrongModel.street(IIII)I -/
def fm_street (t : SM) (a : Int32) (b : Int32) (c : Int32) (d : Int32) : OR :=
  bI (fm_in t a 0 5) fun in2 t1 =>
  if in2 = 0 then rI (-2) t1
  else bI (fm_in t1 b 0 5) fun in4 t3 =>
  if in4 = 0 then rI (-2) t3
  else if a = b then rI (-2) t3
  else hGetI t3 11 39 0 fun choices5 =>
  bI (fm_in t3 c (-1) (choices5 - 1)) fun in7 t6 =>
  if in7 = 0 then rI (-2) t6
  else bI (fm_in t6 d 1 99) fun in9 t8 =>
  if in9 = 0 then rI (-2) t8
  else hGetI t8 11 39 9 fun streets10 =>
    if streets10 = 12 then rI (-4) t8
    else hGetC t8 11 39 10 45 <|
      hGetI t8 11 39 9 fun streets11 =>
      hASt t8 45 streets11 a fun t12 =>
      hGetC t12 11 39 11 46 <|
      hGetI t12 11 39 9 fun streets13 =>
      hASt t12 46 streets13 b fun t14 =>
      hGetC t14 11 39 12 47 <|
      hGetI t14 11 39 9 fun streets15 =>
      hASt t14 47 streets15 c fun t16 =>
      hGetC t16 11 39 13 48 <|
      hGetI t16 11 39 9 fun streets17 =>
      hASt t16 48 streets17 d fun t18 =>
      hGetI t18 11 39 9 fun streets19 =>
      hPutI t18 11 39 9 (streets19 + 1) fun t20 =>
      hGetI t20 11 39 9 fun streets21 =>
      rI (streets21 - 1) t20
def F_227 (as : List Value) (t : SM) : OR := match as with
  | [.ref z0, .int a, .int b, .int c, .int d] => (match Nat.beq z0 39 with | true => fm_street t a b c d | false => none)
  | _ => none
/-! EveryMapWrongModel.isOpen(II)Z -/
def fm_isOpen (t : SM) (a : Int32) (b : Int32) : OR :=
  hGetC t 11 39 12 47 <|
  hALd t 47 a fun e1 =>
  if e1 = (-1) then rI 1 t
  else hGetC t 11 39 12 47 <|
  hALd t 47 a fun e2 =>
  if ((b >>> (e2 &&& 31)) &&& 1) = 1 then rI 1 t
  else rI 0 t
def F_228 (as : List Value) (t : SM) : OR := match as with
  | [.ref z0, .int a, .int b] => (match Nat.beq z0 39 with | true => fm_isOpen t a b | false => none)
  | _ => none
/-! EveryMapWrongModel.beyond(II)I -/
def fm_beyond (t : SM) (a : Int32) (b : Int32) : OR :=
  hGetC t 11 39 10 45 <|
  hALd t 45 a fun e1 =>
  if e1 = b then hGetC t 11 39 11 46 <|
  hALd t 46 a fun e3 =>
  rI e3 t
  else hGetC t 11 39 10 45 <|
    hALd t 45 a fun e2 =>
    rI e2 t
def F_229 (as : List Value) (t : SM) : OR := match as with
  | [.ref z0, .int a, .int b] => (match Nat.beq z0 39 with | true => fm_beyond t a b | false => none)
  | _ => none
/-! EveryMapWrongModel.endsAt(II)Z -/
def fm_endsAt (t : SM) (a : Int32) (b : Int32) : OR :=
  hGetC t 11 39 10 45 <|
  hALd t 45 a fun e1 =>
  if e1 = b then rI 1 t
  else hGetC t 11 39 11 46 <|
  hALd t 46 a fun e2 =>
  if e2 = b then rI 1 t
  else rI 0 t
def F_230 (as : List Value) (t : SM) : OR := match as with
  | [.ref z0, .int a, .int b] => (match Nat.beq z0 39 with | true => fm_endsAt t a b | false => none)
  | _ => none
/-! EveryMapWrongModel.measures(III)V -/
def fm_measures_208 (r38 : SM → Int32 → Int32 → Int32 → OR) (t : SM) (v2 : Int32) (v3 : Int32) (v4 : Int32) : OR :=
  r38 t v2 v3 (v4 + 1)
def fm_measures_48 (k208 : SM → Int32 → Int32 → Int32 → OR) (r48 : SM → Int32 → Int32 → Int32 → Int32 → OR) (t : SM) (v2 : Int32) (v3 : Int32) (v4 : Int32) (v5 : Int32) : OR :=
  hGetI t 11 39 9 fun streets1 =>
  if streets1 ≤ v5 then k208 t v2 v3 v4
  else hRecv t 11 39 <| bI (fm_isOpen t v5 v2) fun isOpen3 t2 =>
  if isOpen3 = 0 then r48 t2 v2 v3 v4 (v5 + 1)
  else if ((v3 >>> (v5 &&& 31)) &&& 1) = 0 then hGetC t2 11 39 46 64 <|
  hGetC t2 11 39 10 45 <|
  hALd t2 45 v5 fun e4 =>
  hALd t2 64 e4 fun e5 =>
  hGetC t2 11 39 46 64 <|
  hGetC t2 11 39 11 46 <|
  hALd t2 46 v5 fun e6 =>
  hALd t2 64 e6 fun e7 =>
  hGetC t2 11 39 46 64 <|
  hGetC t2 11 39 10 45 <|
  hALd t2 45 v5 fun e8 =>
  hGetC t2 11 39 13 48 <|
  hALd t2 48 v5 fun e9 =>
  if e5 ≤ (e7 + e9) then hASt t2 64 e8 e5 fun t10 =>
    hGetC t10 11 39 46 64 <|
    hGetC t10 11 39 10 45 <|
    hALd t10 45 v5 fun e11 =>
    hALd t10 64 e11 fun e12 =>
    hGetC t10 11 39 46 64 <|
    hGetC t10 11 39 11 46 <|
    hALd t10 46 v5 fun e13 =>
    hGetC t10 11 39 13 48 <|
    hALd t10 48 v5 fun e14 =>
    if e7 ≤ (e12 + e14) then hASt t10 64 e13 e7 fun t15 =>
      r48 t15 v2 v3 v4 (v5 + 1)
    else hGetC t10 11 39 13 48 <|
    hALd t10 48 v5 fun e16 =>
    hASt t10 64 e13 (e12 + e16) fun t17 =>
    r48 t17 v2 v3 v4 (v5 + 1)
  else hGetC t2 11 39 13 48 <|
  hALd t2 48 v5 fun e18 =>
  hASt t2 64 e8 (e7 + e18) fun t19 =>
  hGetC t19 11 39 46 64 <|
  hGetC t19 11 39 10 45 <|
  hALd t19 45 v5 fun e20 =>
  hALd t19 64 e20 fun e21 =>
  hGetC t19 11 39 46 64 <|
  hGetC t19 11 39 11 46 <|
  hALd t19 46 v5 fun e22 =>
  hGetC t19 11 39 13 48 <|
  hALd t19 48 v5 fun e23 =>
  if e7 ≤ (e21 + e23) then hASt t19 64 e22 e7 fun t24 =>
    r48 t24 v2 v3 v4 (v5 + 1)
  else hGetC t19 11 39 13 48 <|
  hALd t19 48 v5 fun e25 =>
  hASt t19 64 e22 (e21 + e25) fun t26 =>
  r48 t26 v2 v3 v4 (v5 + 1)
  else r48 t2 v2 v3 v4 (v5 + 1)
def fm_measures_l48 (k208 : SM → Int32 → Int32 → Int32 → OR) : Nat → SM → Int32 → Int32 → Int32 → Int32 → OR
  | 0, _, _, _, _, _ => none
  | n + 1, t, v2, v3, v4, v5 => fm_measures_48 k208 (fm_measures_l48 k208 n) t v2 v3 v4 v5
def fm_measures_38 (r38 : SM → Int32 → Int32 → Int32 → OR) (t : SM) (v2 : Int32) (v3 : Int32) (v4 : Int32) : OR :=
  if 6 ≤ v4 then rV t
  else fm_measures_l48 (fun t u2 u3 u4 => fm_measures_208 r38 t u2 u3 u4) 1000000 t v2 v3 v4 0
def fm_measures_l38 : Nat → SM → Int32 → Int32 → Int32 → OR
  | 0, _, _, _, _ => none
  | n + 1, t, v2, v3, v4 => fm_measures_38 (fm_measures_l38 n) t v2 v3 v4
def fm_measures_35 (t : SM) (v2 : Int32) (v3 : Int32) : OR :=
  fm_measures_l38 1000000 t v2 v3 0
def fm_measures_3 (k35 : SM → Int32 → Int32 → OR) (r3 : SM → Int32 → Int32 → Int32 → Int32 → OR) (t : SM) (v1 : Int32) (v2 : Int32) (v3 : Int32) (v4 : Int32) : OR :=
  if 6 ≤ v4 then k35 t v2 v3
  else hGetC t 11 39 46 64 <|
  if v4 = v1 then hASt t 64 v4 0 fun t2 =>
  r3 t2 v1 v2 v3 (v4 + 1)
  else hASt t 64 v4 1000000 fun t1 =>
    r3 t1 v1 v2 v3 (v4 + 1)
def fm_measures_l3 (k35 : SM → Int32 → Int32 → OR) : Nat → SM → Int32 → Int32 → Int32 → Int32 → OR
  | 0, _, _, _, _, _ => none
  | n + 1, t, v1, v2, v3, v4 => fm_measures_3 k35 (fm_measures_l3 k35 n) t v1 v2 v3 v4
def fm_measures (t : SM) (a : Int32) (b : Int32) (c : Int32) : OR :=
  fm_measures_l3 (fun t u2 u3 => fm_measures_35 t u2 u3) 1000000 t a b c 0
def F_231 (as : List Value) (t : SM) : OR := match as with
  | [.ref z0, .int a, .int b, .int c] => (match Nat.beq z0 39 with | true => fm_measures t a b c | false => none)
  | _ => none
/-! EveryMapWrongModel.wayIn(II)I -/
def fm_wayIn (t : SM) (a : Int32) (b : Int32) : OR :=
  hRecv t 11 39 <| bV (fm_measures t (a - a / 10 * 10) b 0) fun t1 =>
  hGetC t1 11 39 46 64 <|
  hALd t1 64 (a / 10) fun e2 =>
  if e2 < 1000000 then hGetC t1 11 39 46 64 <|
    hALd t1 64 (a / 10) fun e3 =>
    rI e3 t1
  else rI (-1) t1
def F_232 (as : List Value) (t : SM) : OR := match as with
  | [.ref z0, .int a, .int b] => (match Nat.beq z0 39 with | true => fm_wayIn t a b | false => none)
  | _ => none
/-! EveryMapWrongModel.way(II)I -/
def fm_way (t : SM) (a : Int32) (b : Int32) : OR :=
  bI (fm_areTwo t a) fun areTwo2 t1 =>
  if areTwo2 = 0 then rI (-5) t1
  else hRecv t1 11 39 <| bI (fm_isTown t1 b) fun isTown4 t3 =>
    if isTown4 = 0 then rI (-7) t3
    else hRecv t3 11 39 <| bI (fm_wayIn t3 a b) fun wayIn6 t5 =>
    rI wayIn6 t5
def F_233 (as : List Value) (t : SM) : OR := match as with
  | [.ref z0, .int a, .int b] => (match Nat.beq z0 39 with | true => fm_way t a b | false => none)
  | _ => none
/-! EveryMapWrongModel.safe(I)I -/
def fm_safe (t : SM) (a : Int32) : OR :=
  bI (fm_areTwo t a) fun areTwo2 t1 =>
  if areTwo2 = 0 then rI (-5) t1
  else hRecv t1 11 39 <| bV (fm_findsWorlds t1) fun t3 =>
    hGetI t3 11 39 45 fun worldMany4 =>
    if worldMany4 = 0 then rI (-3) t3
    else hRecv t3 11 39 <| bI (fm_allMaps t3) fun allMaps6 t5 =>
      hRecv t5 11 39 <| bI (fm_allSo t5 allMaps6) fun allSo8 t7 =>
      hRecv t7 11 39 <| bI (fm_wayIn t7 a allSo8) fun wayIn10 t9 =>
      rI wayIn10 t9
def F_234 (as : List Value) (t : SM) : OR := match as with
  | [.ref z0, .int a] => (match Nat.beq z0 39 with | true => fm_safe t a | false => none)
  | _ => none
/-! EveryMapWrongModel.like(III)I -/
def fm_like_100 (r6 : SM → Int32 → Int32 → Int32 → Int32 → Int32 → OR) (t : SM) (v1 : Int32) (v2 : Int32) (v3 : Int32) (v4 : Int32) (v5 : Int32) (v6 : Int32) : OR :=
  if v6 = 0 then r6 t v1 v2 v3 (v4 ||| 0) (v5 + 1)
  else r6 t v1 v2 v3 (v4 ||| ((1 : Int32) <<< (v5 &&& 31))) (v5 + 1)
def fm_like_35 (k100 : SM → Int32 → Int32 → Int32 → Int32 → Int32 → Int32 → OR) (r35 : SM → Int32 → Int32 → Int32 → Int32 → Int32 → Int32 → Int32 → OR) (t : SM) (v1 : Int32) (v2 : Int32) (v3 : Int32) (v4 : Int32) (v5 : Int32) (v6 : Int32) (v7 : Int32) : OR :=
  hGetI t 11 39 9 fun streets1 =>
  if streets1 ≤ v7 then k100 t v1 v2 v3 v4 v5 v6
  else if v6 = 0 then k100 t v1 v2 v3 v4 v5 v6
  else hRecv t 11 39 <| bI (fm_endsAt t v7 v3) fun endsAt3 t2 =>
  if endsAt3 = 0 then r35 t2 v1 v2 v3 v4 v5 1 (v7 + 1)
  else hGetC t2 11 39 44 63 <|
  hALd t2 63 v5 fun e4 =>
  hRecv t2 11 39 <| bI (fm_isOpen t2 v7 e4) fun isOpen6 t5 =>
  hGetC t5 11 39 44 63 <|
  hALd t5 63 v2 fun e7 =>
  hRecv t5 11 39 <| bI (fm_isOpen t5 v7 e7) fun isOpen9 t8 =>
  if isOpen6 = isOpen9 then r35 t8 v1 v2 v3 v4 v5 1 (v7 + 1)
  else r35 t8 v1 v2 v3 v4 v5 0 (v7 + 1)
def fm_like_l35 (k100 : SM → Int32 → Int32 → Int32 → Int32 → Int32 → Int32 → OR) : Nat → SM → Int32 → Int32 → Int32 → Int32 → Int32 → Int32 → Int32 → OR
  | 0, _, _, _, _, _, _, _, _ => none
  | n + 1, t, v1, v2, v3, v4, v5, v6, v7 => fm_like_35 k100 (fm_like_l35 k100 n) t v1 v2 v3 v4 v5 v6 v7
def fm_like_6 (r6 : SM → Int32 → Int32 → Int32 → Int32 → Int32 → OR) (t : SM) (v1 : Int32) (v2 : Int32) (v3 : Int32) (v4 : Int32) (v5 : Int32) : OR :=
  hGetI t 11 39 45 fun worldMany1 =>
  if worldMany1 ≤ v5 then rI v4 t
  else if ((v1 >>> (v5 &&& 31)) &&& 1) = 1 then fm_like_l35 (fun t u1 u2 u3 u4 u5 u6 => fm_like_100 r6 t u1 u2 u3 u4 u5 u6) 1000000 t v1 v2 v3 v4 v5 1 0
  else fm_like_l35 (fun t u1 u2 u3 u4 u5 u6 => fm_like_100 r6 t u1 u2 u3 u4 u5 u6) 1000000 t v1 v2 v3 v4 v5 0 0
def fm_like_l6 : Nat → SM → Int32 → Int32 → Int32 → Int32 → Int32 → OR
  | 0, _, _, _, _, _, _ => none
  | n + 1, t, v1, v2, v3, v4, v5 => fm_like_6 (fm_like_l6 n) t v1 v2 v3 v4 v5
def fm_like (t : SM) (a : Int32) (b : Int32) (c : Int32) : OR :=
  fm_like_l6 1000000 t a b c 0 0
def F_235 (as : List Value) (t : SM) : OR := match as with
  | [.ref z0, .int a, .int b, .int c] => (match Nat.beq z0 39 with | true => fm_like t a b c | false => none)
  | _ => none
/-! EveryMapWrongModel.longest(II)I -/
def fm_longest_5 (r5 : SM → Int32 → Int32 → Int32 → Int32 → OR) (t : SM) (v1 : Int32) (v2 : Int32) (v3 : Int32) (v4 : Int32) : OR :=
  hGetI t 11 39 45 fun worldMany1 =>
  if worldMany1 ≤ v4 then rI v3 t
  else if ((v1 >>> (v4 &&& 31)) &&& 1) = 1 then hGetC t 11 39 47 65 <|
  hRecv t 11 39 <| bI (fm_like t v1 v4 v2) fun like3 t2 =>
  hALd t2 65 ((128 * v2) + like3) fun e4 =>
  if e4 ≤ v3 then r5 t2 v1 v2 v3 (v4 + 1)
  else r5 t2 v1 v2 e4 (v4 + 1)
  else r5 t v1 v2 v3 (v4 + 1)
def fm_longest_l5 : Nat → SM → Int32 → Int32 → Int32 → Int32 → OR
  | 0, _, _, _, _, _ => none
  | n + 1, t, v1, v2, v3, v4 => fm_longest_5 (fm_longest_l5 n) t v1 v2 v3 v4
def fm_longest (t : SM) (a : Int32) (b : Int32) : OR :=
  fm_longest_l5 1000000 t a b 0 0
def F_236 (as : List Value) (t : SM) : OR := match as with
  | [.ref z0, .int a, .int b] => (match Nat.beq z0 39 with | true => fm_longest t a b | false => none)
  | _ => none
/-! EveryMapWrongModel.firstOf(I)I -/
def fm_firstOf_2 (r2 : SM → Int32 → Int32 → OR) (t : SM) (v1 : Int32) (v2 : Int32) : OR :=
  if ((v1 >>> (v2 &&& 31)) &&& 1) = 0 then r2 t v1 (v2 + 1)
  else rI v2 t
def fm_firstOf_l2 : Nat → SM → Int32 → Int32 → OR
  | 0, _, _, _ => none
  | n + 1, t, v1, v2 => fm_firstOf_2 (fm_firstOf_l2 n) t v1 v2
def fm_firstOf (t : SM) (a : Int32) : OR :=
  fm_firstOf_l2 1000000 t a 0
def F_237 (as : List Value) (t : SM) : OR := match as with
  | [.ref z0, .int a] => (match Nat.beq z0 39 with | true => fm_firstOf t a | false => none)
  | _ => none
/-! EveryMapWrongModel.byStreet(III)I -/
def fm_byStreet (t : SM) (a : Int32) (b : Int32) (c : Int32) : OR :=
  hGetC t 11 39 13 48 <|
  hALd t 48 a fun e1 =>
  hRecv t 11 39 <| bI (fm_beyond t a c) fun beyond3 t2 =>
  hRecv t2 11 39 <| bI (fm_longest t2 b beyond3) fun longest5 t4 =>
  if (e1 + longest5) ≤ 1000000 then rI (e1 + longest5) t4
  else rI 1000000 t4
def F_238 (as : List Value) (t : SM) : OR := match as with
  | [.ref z0, .int a, .int b, .int c] => (match Nat.beq z0 39 with | true => fm_byStreet t a b c | false => none)
  | _ => none
/-! EveryMapWrongModel.betters(II)Z -/
def fm_betters_12 (r12 : SM → Int32 → Int32 → Int32 → Int32 → Int32 → OR) (t : SM) (v1 : Int32) (v2 : Int32) (v3 : Int32) (v4 : Int32) (v5 : Int32) : OR :=
  hGetI t 11 39 9 fun streets1 =>
  if streets1 ≤ v5 then hZ v4 (rI v4 t)
  else hRecv t 11 39 <| bI (fm_endsAt t v5 v2) fun endsAt3 t2 =>
  if endsAt3 = 0 then r12 t2 v1 v2 v3 v4 (v5 + 1)
  else hGetC t2 11 39 44 63 <|
  hALd t2 63 v3 fun e4 =>
  hRecv t2 11 39 <| bI (fm_isOpen t2 v5 e4) fun isOpen6 t5 =>
  if isOpen6 = 0 then r12 t5 v1 v2 v3 v4 (v5 + 1)
  else hRecv t5 11 39 <| bI (fm_byStreet t5 v5 v1 v2) fun byStreet8 t7 =>
  hGetC t7 11 39 47 65 <|
  hALd t7 65 ((128 * v2) + v1) fun e9 =>
  if e9 ≤ byStreet8 then r12 t7 v1 v2 v3 v4 (v5 + 1)
  else hGetC t7 11 39 47 65 <|
  hASt t7 65 ((128 * v2) + v1) byStreet8 fun t10 =>
  r12 t10 v1 v2 v3 1 (v5 + 1)
def fm_betters_l12 : Nat → SM → Int32 → Int32 → Int32 → Int32 → Int32 → OR
  | 0, _, _, _, _, _, _ => none
  | n + 1, t, v1, v2, v3, v4, v5 => fm_betters_12 (fm_betters_l12 n) t v1 v2 v3 v4 v5
def fm_betters (t : SM) (a : Int32) (b : Int32) : OR :=
  hRecv t 11 39 <| bI (fm_firstOf t a) fun firstOf2 t1 =>
  fm_betters_l12 1000000 t1 a b firstOf2 0 0
def F_239 (as : List Value) (t : SM) : OR := match as with
  | [.ref z0, .int a, .int b] => (match Nat.beq z0 39 with | true => fm_betters t a b | false => none)
  | _ => none
/-! EveryMapWrongModel.findsWorst(I)V -/
def fm_findsWorst_121 (r38 : SM → Int32 → Int32 → OR) (t : SM) (v1 : Int32) (v2 : Int32) : OR :=
  r38 t v1 v2
def fm_findsWorst_115 (r46 : SM → Int32 → Int32 → Int32 → OR) (t : SM) (v1 : Int32) (v2 : Int32) (v3 : Int32) : OR :=
  r46 t v1 v2 (v3 + 1)
def fm_findsWorst_55 (k115 : SM → Int32 → Int32 → Int32 → OR) (r55 : SM → Int32 → Int32 → Int32 → Int32 → OR) (t : SM) (v1 : Int32) (v2 : Int32) (v3 : Int32) (v4 : Int32) : OR :=
  hGetI t 11 39 45 fun worldMany1 =>
  if ((1 : Int32) <<< (worldMany1 &&& 31)) ≤ v4 then k115 t v1 v2 v3
  else if v3 = v1 then k115 t v1 v2 v3
  else hRecv t 11 39 <| bI (fm_firstOf t v4) fun firstOf3 t2 =>
  hRecv t2 11 39 <| bI (fm_like t2 v4 firstOf3 v3) fun like5 t4 =>
  if like5 = v4 then hRecv t4 11 39 <| bI (fm_betters t4 v4 v3) fun betters7 t6 =>
  if betters7 = 0 then if v2 = 0 then r55 t6 v1 0 v3 (v4 + 1)
  else r55 t6 v1 1 v3 (v4 + 1)
  else r55 t6 v1 1 v3 (v4 + 1)
  else r55 t4 v1 v2 v3 (v4 + 1)
def fm_findsWorst_l55 (k115 : SM → Int32 → Int32 → Int32 → OR) : Nat → SM → Int32 → Int32 → Int32 → Int32 → OR
  | 0, _, _, _, _, _ => none
  | n + 1, t, v1, v2, v3, v4 => fm_findsWorst_55 k115 (fm_findsWorst_l55 k115 n) t v1 v2 v3 v4
def fm_findsWorst_46 (k121 : SM → Int32 → Int32 → OR) (r46 : SM → Int32 → Int32 → Int32 → OR) (t : SM) (v1 : Int32) (v2 : Int32) (v3 : Int32) : OR :=
  if 6 ≤ v3 then k121 t v1 v2
  else fm_findsWorst_l55 (fun t u1 u2 u3 => fm_findsWorst_115 r46 t u1 u2 u3) 1000000 t v1 v2 v3 1
def fm_findsWorst_l46 (k121 : SM → Int32 → Int32 → OR) : Nat → SM → Int32 → Int32 → Int32 → OR
  | 0, _, _, _, _ => none
  | n + 1, t, v1, v2, v3 => fm_findsWorst_46 k121 (fm_findsWorst_l46 k121 n) t v1 v2 v3
def fm_findsWorst_38 (r38 : SM → Int32 → Int32 → OR) (t : SM) (v1 : Int32) (v2 : Int32) : OR :=
  if v2 = 0 then rV t
  else fm_findsWorst_l46 (fun t u1 u2 => fm_findsWorst_121 r38 t u1 u2) 1000000 t v1 0 0
def fm_findsWorst_l38 : Nat → SM → Int32 → Int32 → OR
  | 0, _, _, _ => none
  | n + 1, t, v1, v2 => fm_findsWorst_38 (fm_findsWorst_l38 n) t v1 v2
def fm_findsWorst_36 (t : SM) (v1 : Int32) : OR :=
  fm_findsWorst_l38 1000000 t v1 1
def fm_findsWorst_2 (k36 : SM → Int32 → OR) (r2 : SM → Int32 → Int32 → OR) (t : SM) (v1 : Int32) (v2 : Int32) : OR :=
  if 768 ≤ v2 then k36 t v1
  else hGetC t 11 39 47 65 <|
  if (v2 / 128) = v1 then hASt t 65 v2 0 fun t2 =>
  r2 t2 v1 (v2 + 1)
  else hASt t 65 v2 1000000 fun t1 =>
    r2 t1 v1 (v2 + 1)
def fm_findsWorst_l2 (k36 : SM → Int32 → OR) : Nat → SM → Int32 → Int32 → OR
  | 0, _, _, _ => none
  | n + 1, t, v1, v2 => fm_findsWorst_2 k36 (fm_findsWorst_l2 k36 n) t v1 v2
def fm_findsWorst (t : SM) (a : Int32) : OR :=
  fm_findsWorst_l2 (fun t u1 => fm_findsWorst_36 t u1) 1000000 t a 0
def F_240 (as : List Value) (t : SM) : OR := match as with
  | [.ref z0, .int a] => (match Nat.beq z0 39 with | true => fm_findsWorst t a | false => none)
  | _ => none
/-! EveryMapWrongModel.soon(I)I -/
def fm_soon (t : SM) (a : Int32) : OR :=
  bI (fm_areTwo t a) fun areTwo2 t1 =>
  if areTwo2 = 0 then rI (-5) t1
  else hRecv t1 11 39 <| bV (fm_findsWorlds t1) fun t3 =>
    hGetI t3 11 39 45 fun worldMany4 =>
    bI (fm_in t3 worldMany4 1 7) fun in6 t5 =>
    if in6 = 0 then rI (-3) t5
    else hRecv t5 11 39 <| bV (fm_findsWorst t5 (a - a / 10 * 10)) fun t7 =>
      hGetI t7 11 39 45 fun worldMany8 =>
      hRecv t7 11 39 <| bI (fm_longest t7 (((1 : Int32) <<< (worldMany8 &&& 31)) - 1) (a / 10)) fun longest10 t9 =>
      if longest10 < 1000000 then rI longest10 t9
      else rI (-1) t9
def F_241 (as : List Value) (t : SM) : OR := match as with
  | [.ref z0, .int a] => (match Nat.beq z0 39 with | true => fm_soon t a | false => none)
  | _ => none
/-! EveryMapWrongModel.step(II)I -/
def fm_step_134 (r134 : SM → Int32 → Int32 → Int32 → Int32 → Int32 → Int32 → OR) (t : SM) (v1 : Int32) (v2 : Int32) (v4 : Int32) (v5 : Int32) (v6 : Int32) (v7 : Int32) : OR :=
  hGetI t 11 39 9 fun streets1 =>
  if streets1 ≤ v7 then rI (-1) t
  else if v4 = (v1 - v1 / 10 * 10) then rI (-1) t
  else if 1000000 ≤ v6 then rI (-1) t
  else hRecv t 11 39 <| bI (fm_endsAt t v7 v4) fun endsAt3 t2 =>
  if endsAt3 = 0 then r134 t2 v1 v2 v4 v5 v6 (v7 + 1)
  else hRecv t2 11 39 <| bI (fm_isOpen t2 v7 v2) fun isOpen5 t4 =>
  if isOpen5 = 0 then r134 t4 v1 v2 v4 v5 v6 (v7 + 1)
  else hRecv t4 11 39 <| bI (fm_byStreet t4 v7 v5 v4) fun byStreet7 t6 =>
  if byStreet7 = v6 then rI v7 t6
  else r134 t6 v1 v2 v4 v5 v6 (v7 + 1)
def fm_step_l134 : Nat → SM → Int32 → Int32 → Int32 → Int32 → Int32 → Int32 → OR
  | 0, _, _, _, _, _, _, _ => none
  | n + 1, t, v1, v2, v4, v5, v6, v7 => fm_step_134 (fm_step_l134 n) t v1 v2 v4 v5 v6 v7
def fm_step_63 (t : SM) (v1 : Int32) (v2 : Int32) (v3 : Int32) : OR :=
  hGetI t 11 39 45 fun worldMany1 =>
  bI (fm_in t worldMany1 1 7) fun in3 t2 =>
  if in3 = 0 then rI (-3) t2
  else if v3 = (-1) then rI (-3) t2
  else hRecv t2 11 39 <| bV (fm_findsWorst t2 (v1 - v1 / 10 * 10)) fun t4 =>
    hGetI t4 11 39 45 fun worldMany5 =>
    hRecv t4 11 39 <| bI (fm_like t4 (((1 : Int32) <<< (worldMany5 &&& 31)) - 1) v3 (v1 / 10)) fun like7 t6 =>
    hGetC t6 11 39 47 65 <|
    hALd t6 65 ((128 * (v1 / 10)) + like7) fun e8 =>
    fm_step_l134 1000000 t6 v1 v2 (v1 / 10) like7 e8 0
def fm_step_30 (k63 : SM → Int32 → Int32 → Int32 → OR) (r30 : SM → Int32 → Int32 → Int32 → Int32 → OR) (t : SM) (v1 : Int32) (v2 : Int32) (v3 : Int32) (v4 : Int32) : OR :=
  hGetI t 11 39 45 fun worldMany1 =>
  if worldMany1 ≤ v4 then k63 t v1 v2 v3
  else hGetC t 11 39 44 63 <|
  hALd t 63 v4 fun e2 =>
  if e2 = v2 then r30 t v1 v2 v4 (v4 + 1)
  else r30 t v1 v2 v3 (v4 + 1)
def fm_step_l30 (k63 : SM → Int32 → Int32 → Int32 → OR) : Nat → SM → Int32 → Int32 → Int32 → Int32 → OR
  | 0, _, _, _, _, _ => none
  | n + 1, t, v1, v2, v3, v4 => fm_step_30 k63 (fm_step_l30 k63 n) t v1 v2 v3 v4
def fm_step (t : SM) (a : Int32) (b : Int32) : OR :=
  bI (fm_areTwo t a) fun areTwo2 t1 =>
  if areTwo2 = 0 then rI (-5) t1
  else hRecv t1 11 39 <| bI (fm_isTown t1 b) fun isTown4 t3 =>
    if isTown4 = 0 then rI (-7) t3
    else hRecv t3 11 39 <| bV (fm_findsWorlds t3) fun t5 =>
      fm_step_l30 (fun t u1 u2 u3 => fm_step_63 t u1 u2 u3) 1000000 t5 a b (-1) 0
def F_242 (as : List Value) (t : SM) : OR := match as with
  | [.ref z0, .int a, .int b] => (match Nat.beq z0 39 with | true => fm_step t a b | false => none)
  | _ => none
/-! EveryMapWrongModel.tripBy(III)I -/
def fm_tripBy_151 (r12 : SM → Int32 → Int32 → Int32 → Int32 → Int32 → Int32 → OR) (t : SM) (v1 : Int32) (v2 : Int32) (v3 : Int32) (v4 : Int32) (v5 : Int32) (v6 : Int32) (v7 : Int32) : OR :=
  hRecv t 11 39 <| bI (fm_isOpen t v7 v3) fun isOpen2 t1 =>
  if isOpen2 = 0 then r12 t1 v1 v2 v3 v4 (v5 ||| ((1 : Int32) <<< (v7 &&& 31))) v6
  else hGetC t1 11 39 13 48 <|
  hALd t1 48 v7 fun e3 =>
  hRecv t1 11 39 <| bI (fm_beyond t1 v7 v4) fun beyond5 t4 =>
  r12 t4 v1 v2 v3 beyond5 v5 (v6 + e3)
def fm_tripBy_97 (r57 : SM → Int32 → Int32 → Int32 → Int32 → Int32 → Int32 → Int32 → Int32 → OR) (t : SM) (v1 : Int32) (v2 : Int32) (v3 : Int32) (v4 : Int32) (v5 : Int32) (v6 : Int32) (v7 : Int32) (v8 : Int32) : OR :=
  r57 t v1 v2 v3 v4 v5 v6 v7 (v8 + (-1))
def fm_tripBy_57 (k151 : SM → Int32 → Int32 → Int32 → Int32 → Int32 → Int32 → Int32 → OR) (r57 : SM → Int32 → Int32 → Int32 → Int32 → Int32 → Int32 → Int32 → Int32 → OR) (t : SM) (v1 : Int32) (v2 : Int32) (v3 : Int32) (v4 : Int32) (v5 : Int32) (v6 : Int32) (v7 : Int32) (v8 : Int32) : OR :=
  if v8 < 0 then k151 t v1 v2 v3 v4 v5 v6 v7
  else hRecv t 11 39 <| bI (fm_endsAt t v8 v4) fun endsAt2 t1 =>
  if endsAt2 = 0 then fm_tripBy_97 r57 t1 v1 v2 v3 v4 v5 v6 v7 v8
  else hRecv t1 11 39 <| bI (fm_isOpen t1 v8 v1) fun isOpen4 t3 =>
  if isOpen4 = 0 then fm_tripBy_97 r57 t3 v1 v2 v3 v4 v5 v6 v7 v8
  else if ((v5 >>> (v8 &&& 31)) &&& 1) = 0 then hGetC t3 11 39 13 48 <|
  hALd t3 48 v8 fun e5 =>
  hGetC t3 11 39 46 64 <|
  hRecv t3 11 39 <| bI (fm_beyond t3 v8 v4) fun beyond7 t6 =>
  hALd t6 64 beyond7 fun e8 =>
  hGetC t6 11 39 46 64 <|
  hALd t6 64 v4 fun e9 =>
  if (e5 + e8) = e9 then r57 t6 v1 v2 v3 v4 v5 v6 v8 (v8 + (-1))
  else r57 t6 v1 v2 v3 v4 v5 v6 v7 (v8 + (-1))
  else fm_tripBy_97 r57 t3 v1 v2 v3 v4 v5 v6 v7 v8
def fm_tripBy_l57 (k151 : SM → Int32 → Int32 → Int32 → Int32 → Int32 → Int32 → Int32 → OR) : Nat → SM → Int32 → Int32 → Int32 → Int32 → Int32 → Int32 → Int32 → Int32 → OR
  | 0, _, _, _, _, _, _, _, _, _ => none
  | n + 1, t, v1, v2, v3, v4, v5, v6, v7, v8 => fm_tripBy_57 k151 (fm_tripBy_l57 k151 n) t v1 v2 v3 v4 v5 v6 v7 v8
def fm_tripBy_12 (r12 : SM → Int32 → Int32 → Int32 → Int32 → Int32 → Int32 → OR) (t : SM) (v1 : Int32) (v2 : Int32) (v3 : Int32) (v4 : Int32) (v5 : Int32) (v6 : Int32) : OR :=
  if v4 = (v2 - v2 / 10 * 10) then rI v6 t
  else hRecv t 11 39 <| bV (fm_measures t (v2 - v2 / 10 * 10) v1 v5) fun t1 =>
  hGetC t1 11 39 46 64 <|
  hALd t1 64 v4 fun e2 =>
  if e2 < 1000000 then hGetI t1 11 39 9 fun streets3 =>
    fm_tripBy_l57 (fun t u1 u2 u3 u4 u5 u6 u7 => fm_tripBy_151 r12 t u1 u2 u3 u4 u5 u6 u7) 1000000 t1 v1 v2 v3 v4 v5 v6 (-1) (streets3 - 1)
  else rI (-1) t1
def fm_tripBy_l12 : Nat → SM → Int32 → Int32 → Int32 → Int32 → Int32 → Int32 → OR
  | 0, _, _, _, _, _, _, _ => none
  | n + 1, t, v1, v2, v3, v4, v5, v6 => fm_tripBy_12 (fm_tripBy_l12 n) t v1 v2 v3 v4 v5 v6
def fm_tripBy (t : SM) (a : Int32) (b : Int32) (c : Int32) : OR :=
  fm_tripBy_l12 1000000 t a b c (b / 10) 0 0
def F_243 (as : List Value) (t : SM) : OR := match as with
  | [.ref z0, .int a, .int b, .int c] => (match Nat.beq z0 39 with | true => fm_tripBy t a b c | false => none)
  | _ => none
/-! EveryMapWrongModel.trip(III)I -/
def fm_trip (t : SM) (a : Int32) (b : Int32) (c : Int32) : OR :=
  hRecv t 11 39 <| bI (fm_isMap t a) fun isMap2 t1 =>
  if isMap2 = 0 then rI (-5) t1
  else bI (fm_areTwo t1 b) fun areTwo4 t3 =>
  if areTwo4 = 0 then rI (-5) t3
  else hRecv t3 11 39 <| bI (fm_isTown t3 c) fun isTown6 t5 =>
    if isTown6 = 0 then rI (-7) t5
    else hGetC t5 11 39 5 41 <|
    hALd t5 41 a fun e7 =>
    hRecv t5 11 39 <| bI (fm_tripBy t5 e7 b c) fun tripBy9 t8 =>
    rI tripBy9 t8
def F_244 (as : List Value) (t : SM) : OR := match as with
  | [.ref z0, .int a, .int b, .int c] => (match Nat.beq z0 39 with | true => fm_trip t a b c | false => none)
  | _ => none
/-! EveryMapWrongModel.goer(I)I -/
def fm_goer (t : SM) (a : Int32) : OR :=
  bI (fm_areTwo t a) fun areTwo2 t1 =>
  if areTwo2 = 0 then rI (-2) t1
  else hGetI t1 11 39 14 fun goers3 =>
    if goers3 = 6 then rI (-4) t1
    else hGetC t1 11 39 15 49 <|
      hGetI t1 11 39 14 fun goers4 =>
      hASt t1 49 goers4 a fun t5 =>
      hGetI t5 11 39 14 fun goers6 =>
      hPutI t5 11 39 14 (goers6 + 1) fun t7 =>
      hGetI t7 11 39 14 fun goers8 =>
      rI (goers8 - 1) t7
def F_245 (as : List Value) (t : SM) : OR := match as with
  | [.ref z0, .int a] => (match Nat.beq z0 39 with | true => fm_goer t a | false => none)
  | _ => none
/-! EveryMapWrongModel.harmOf(III)I -/
def fm_harmOf (t : SM) (a : Int32) (b : Int32) (c : Int32) : OR :=
  hGetC t 11 39 15 49 <|
  hALd t 49 a fun e1 =>
  hRecv t 11 39 <| bI (fm_wayIn t e1 b) fun wayIn3 t2 =>
  if wayIn3 = (-1) then rI 0 t2
  else hGetC t2 11 39 15 49 <|
    hALd t2 49 a fun e4 =>
    hRecv t2 11 39 <| bI (fm_tripBy t2 c e4 b) fun tripBy6 t5 =>
    if tripBy6 = (-1) then hRecv t5 11 39 <| bI (fm_asksOf t5 1 b 99 0) fun asksOf10 t9 =>
    rI asksOf10 t9
    else hRecv t5 11 39 <| bI (fm_asksOf t5 1 b (tripBy6 - wayIn3) 0) fun asksOf8 t7 =>
      rI asksOf8 t7
def F_246 (as : List Value) (t : SM) : OR := match as with
  | [.ref z0, .int a, .int b, .int c] => (match Nat.beq z0 39 with | true => fm_harmOf t a b c | false => none)
  | _ => none
/-! EveryMapWrongModel.harmAll(II)I -/
def fm_harmAll_5 (r5 : SM → Int32 → Int32 → Int32 → Int32 → OR) (t : SM) (v1 : Int32) (v2 : Int32) (v3 : Int32) (v4 : Int32) : OR :=
  hGetI t 11 39 14 fun goers1 =>
  if goers1 ≤ v4 then rI v3 t
  else hRecv t 11 39 <| bI (fm_harmOf t v4 v1 (v1 ^^^ ((1 : Int32) <<< (v2 &&& 31)))) fun harmOf3 t2 =>
  r5 t2 v1 v2 (v3 + harmOf3) (v4 + 1)
def fm_harmAll_l5 : Nat → SM → Int32 → Int32 → Int32 → Int32 → OR
  | 0, _, _, _, _, _ => none
  | n + 1, t, v1, v2, v3, v4 => fm_harmAll_5 (fm_harmAll_l5 n) t v1 v2 v3 v4
def fm_harmAll (t : SM) (a : Int32) (b : Int32) : OR :=
  fm_harmAll_l5 1000000 t a b 0 0
def F_247 (as : List Value) (t : SM) : OR := match as with
  | [.ref z0, .int a, .int b] => (match Nat.beq z0 39 with | true => fm_harmAll t a b | false => none)
  | _ => none
/-! EveryMapWrongModel.harm(II)I -/
def fm_harm (t : SM) (a : Int32) (b : Int32) : OR :=
  hRecv t 11 39 <| bI (fm_isTown t a) fun isTown2 t1 =>
  if isTown2 = 0 then rI (-2) t1
  else hRecv t1 11 39 <| bI (fm_isChoice t1 b) fun isChoice4 t3 =>
    if isChoice4 = 0 then rI (-5) t3
    else hRecv t3 11 39 <| bI (fm_harmAll t3 a b) fun harmAll6 t5 =>
    rI harmAll6 t5
def F_248 (as : List Value) (t : SM) : OR := match as with
  | [.ref z0, .int a, .int b] => (match Nat.beq z0 39 with | true => fm_harm t a b | false => none)
  | _ => none
/-! EveryMapWrongModel.put(II)I -/
def fm_put_63 (t : SM) (v1 : Int32) (v2 : Int32) (v3 : Int32) : OR :=
  if v2 = 0 then rI v3 t
  else hRecv t 11 39 <| bI (fm_harmAll t v1 v3) fun harmAll2 t1 =>
    rI harmAll2 t1
def fm_put_25 (k63 : SM → Int32 → Int32 → Int32 → OR) (r25 : SM → Int32 → Int32 → Int32 → Int32 → OR) (t : SM) (v1 : Int32) (v2 : Int32) (v3 : Int32) (v4 : Int32) : OR :=
  hGetI t 11 39 0 fun choices1 =>
  if choices1 ≤ v4 then k63 t v1 v2 v3
  else hRecv t 11 39 <| bI (fm_harmAll t v1 v4) fun harmAll3 t2 =>
  hRecv t2 11 39 <| bI (fm_harmAll t2 v1 v3) fun harmAll5 t4 =>
  if harmAll5 ≤ harmAll3 then r25 t4 v1 v2 v3 (v4 + 1)
  else r25 t4 v1 v2 v4 (v4 + 1)
def fm_put_l25 (k63 : SM → Int32 → Int32 → Int32 → OR) : Nat → SM → Int32 → Int32 → Int32 → Int32 → OR
  | 0, _, _, _, _, _ => none
  | n + 1, t, v1, v2, v3, v4 => fm_put_25 k63 (fm_put_l25 k63 n) t v1 v2 v3 v4
def fm_put (t : SM) (a : Int32) (b : Int32) : OR :=
  hRecv t 11 39 <| bI (fm_isTown t a) fun isTown2 t1 =>
  if isTown2 = 0 then rI (-2) t1
  else bI (fm_in t1 b 0 1) fun in4 t3 =>
  if in4 = 0 then rI (-2) t3
  else fm_put_l25 (fun t u1 u2 u3 => fm_put_63 t u1 u2 u3) 1000000 t3 a b 0 1
def F_249 (as : List Value) (t : SM) : OR := match as with
  | [.ref z0, .int a, .int b] => (match Nat.beq z0 39 with | true => fm_put t a b | false => none)
  | _ => none
/-! EveryMapWrongModel.trick(III)I -/
def fm_trick_94 (t : SM) (v1 : Int32) (v2 : Int32) (v3 : Int32) (v4 : Int32) : OR :=
  if v3 = 0 then rI v4 t
  else hRecv t 11 39 <| bI (fm_harmOf t v2 v1 (v1 ^^^ ((1 : Int32) <<< (v4 &&& 31)))) fun harmOf2 t1 =>
    rI harmOf2 t1
def fm_trick_43 (k94 : SM → Int32 → Int32 → Int32 → Int32 → OR) (r43 : SM → Int32 → Int32 → Int32 → Int32 → Int32 → OR) (t : SM) (v1 : Int32) (v2 : Int32) (v3 : Int32) (v4 : Int32) (v5 : Int32) : OR :=
  hGetI t 11 39 0 fun choices1 =>
  if choices1 ≤ v5 then k94 t v1 v2 v3 v4
  else hRecv t 11 39 <| bI (fm_harmOf t v2 v1 (v1 ^^^ ((1 : Int32) <<< (v5 &&& 31)))) fun harmOf3 t2 =>
  hRecv t2 11 39 <| bI (fm_harmOf t2 v2 v1 (v1 ^^^ ((1 : Int32) <<< (v4 &&& 31)))) fun harmOf5 t4 =>
  if harmOf3 ≤ harmOf5 then r43 t4 v1 v2 v3 v4 (v5 + 1)
  else r43 t4 v1 v2 v3 v5 (v5 + 1)
def fm_trick_l43 (k94 : SM → Int32 → Int32 → Int32 → Int32 → OR) : Nat → SM → Int32 → Int32 → Int32 → Int32 → Int32 → OR
  | 0, _, _, _, _, _, _ => none
  | n + 1, t, v1, v2, v3, v4, v5 => fm_trick_43 k94 (fm_trick_l43 k94 n) t v1 v2 v3 v4 v5
def fm_trick (t : SM) (a : Int32) (b : Int32) (c : Int32) : OR :=
  hRecv t 11 39 <| bI (fm_isTown t a) fun isTown2 t1 =>
  if isTown2 = 0 then rI (-2) t1
  else bI (fm_in t1 c 0 1) fun in4 t3 =>
  if in4 = 0 then rI (-2) t3
  else hGetI t3 11 39 14 fun goers5 =>
    bI (fm_in t3 b 0 (goers5 - 1)) fun in7 t6 =>
    if in7 = 0 then rI (-5) t6
    else fm_trick_l43 (fun t u1 u2 u3 u4 => fm_trick_94 t u1 u2 u3 u4) 1000000 t6 a b c 0 1
def F_250 (as : List Value) (t : SM) : OR := match as with
  | [.ref z0, .int a, .int b, .int c] => (match Nat.beq z0 39 with | true => fm_trick t a b c | false => none)
  | _ => none
/-! EveryMapWrongModel.enough(I)I -/
def fm_enough_53 (r29 : SM → Int32 → Int32 → Int32 → OR) (t : SM) (v1 : Int32) (v2 : Int32) (v3 : Int32) : OR :=
  hRecv t 11 39 <| bI (fm_allSo t v3) fun allSo2 t1 =>
  hRecv t1 11 39 <| bI (fm_noneSo t1 v3) fun noneSo4 t3 =>
  if (((allSo2 ||| noneSo4) >>> (v1 &&& 31)) &&& 1) = 1 then r29 t3 v1 v3 (v3 + 1)
  else r29 t3 v1 v2 (v3 + 1)
def fm_enough_29 (r29 : SM → Int32 → Int32 → Int32 → OR) (t : SM) (v1 : Int32) (v2 : Int32) (v3 : Int32) : OR :=
  hRecv t 11 39 <| bI (fm_allMaps t) fun allMaps2 t1 =>
  if allMaps2 < v3 then rI v2 t1
  else if v2 = (-1) then fm_enough_53 r29 t1 v1 v2 v3
  else bI (fm_ones t1 v3) fun ones4 t3 =>
  bI (fm_ones t3 v2) fun ones6 t5 =>
  if ones6 ≤ ones4 then r29 t5 v1 v2 (v3 + 1)
  else fm_enough_53 r29 t5 v1 v2 v3
def fm_enough_l29 : Nat → SM → Int32 → Int32 → Int32 → OR
  | 0, _, _, _, _ => none
  | n + 1, t, v1, v2, v3 => fm_enough_29 (fm_enough_l29 n) t v1 v2 v3
def fm_enough (t : SM) (a : Int32) : OR :=
  hRecv t 11 39 <| bI (fm_isChoice t a) fun isChoice2 t1 =>
  if isChoice2 = 0 then rI (-5) t1
  else hRecv t1 11 39 <| bV (fm_findsWorlds t1) fun t3 =>
    hGetI t3 11 39 45 fun worldMany4 =>
    if worldMany4 = 0 then rI (-3) t3
    else fm_enough_l29 1000000 t3 a (-1) 0
def F_251 (as : List Value) (t : SM) : OR := match as with
  | [.ref z0, .int a] => (match Nat.beq z0 39 with | true => fm_enough t a | false => none)
  | _ => none
/-! EveryMapWrongModel.many()I -/
def fm_many_41 (r17 : SM → Int32 → Int32 → Int32 → OR) (t : SM) (v1 : Int32) (v2 : Int32) (v3 : Int32) : OR :=
  hRecv t 11 39 <| bI (fm_countBy t v3) fun countBy2 t1 =>
  if countBy2 = v1 then r17 t1 v1 v3 (v3 + 1)
  else r17 t1 v1 v2 (v3 + 1)
def fm_many_17 (r17 : SM → Int32 → Int32 → Int32 → OR) (t : SM) (v1 : Int32) (v2 : Int32) (v3 : Int32) : OR :=
  hRecv t 11 39 <| bI (fm_allMaps t) fun allMaps2 t1 =>
  if allMaps2 < v3 then rI v2 t1
  else if v2 = (-1) then fm_many_41 r17 t1 v1 v2 v3
  else bI (fm_ones t1 v3) fun ones4 t3 =>
  bI (fm_ones t3 v2) fun ones6 t5 =>
  if ones6 ≤ ones4 then r17 t5 v1 v2 (v3 + 1)
  else fm_many_41 r17 t5 v1 v2 v3
def fm_many_l17 : Nat → SM → Int32 → Int32 → Int32 → OR
  | 0, _, _, _, _ => none
  | n + 1, t, v1, v2, v3 => fm_many_17 (fm_many_l17 n) t v1 v2 v3
def fm_many (t : SM) : OR :=
  hRecv t 11 39 <| bV (fm_agree t) fun t1 =>
  hRecv t1 11 39 <| bI (fm_allMaps t1) fun allMaps3 t2 =>
  hRecv t2 11 39 <| bI (fm_countBy t2 allMaps3) fun countBy5 t4 =>
  fm_many_l17 1000000 t4 countBy5 (-1) 0
def F_252 (as : List Value) (t : SM) : OR := match as with
  | [.ref z0] => (match Nat.beq z0 39 with | true => fm_many t | false => none)
  | _ => none
/-! EveryMapWrongModel.next(I)I -/
def fm_next_141 (t : SM) (v1 : Int32) (v2 : Int32) (v3 : Int32) : OR :=
  if v1 = 0 then rI v2 t
  else rI v3 t
def fm_next_83 (r36 : SM → Int32 → Int32 → Int32 → Int32 → OR) (t : SM) (v1 : Int32) (v2 : Int32) (v3 : Int32) (v4 : Int32) (v5 : Int32) : OR :=
  hGetI t 11 39 45 fun worldMany1 =>
  if v5 ≤ (worldMany1 - v5) then hGetI t 11 39 45 fun worldMany2 =>
    if v3 ≤ (worldMany2 - v5) then if v3 ≤ (worldMany2 - v5) then r36 t v1 v2 v3 (v4 + 1)
      else r36 t v1 v2 (worldMany2 - v5) (v4 + 1)
    else if v3 ≤ (worldMany2 - v5) then r36 t v1 v4 v3 (v4 + 1)
    else r36 t v1 v4 (worldMany2 - v5) (v4 + 1)
  else if v3 ≤ v5 then if v3 ≤ v5 then r36 t v1 v2 v3 (v4 + 1)
    else r36 t v1 v2 v5 (v4 + 1)
  else if v3 ≤ v5 then r36 t v1 v4 v3 (v4 + 1)
  else r36 t v1 v4 v5 (v4 + 1)
def fm_next_51 (k83 : SM → Int32 → Int32 → Int32 → Int32 → Int32 → OR) (r51 : SM → Int32 → Int32 → Int32 → Int32 → Int32 → Int32 → OR) (t : SM) (v1 : Int32) (v2 : Int32) (v3 : Int32) (v4 : Int32) (v5 : Int32) (v6 : Int32) : OR :=
  hGetI t 11 39 45 fun worldMany1 =>
  if worldMany1 ≤ v6 then k83 t v1 v2 v3 v4 v5
  else hGetC t 11 39 44 63 <|
  hALd t 63 v6 fun e2 =>
  r51 t v1 v2 v3 v4 (v5 + ((e2 >>> (v4 &&& 31)) &&& 1)) (v6 + 1)
def fm_next_l51 (k83 : SM → Int32 → Int32 → Int32 → Int32 → Int32 → OR) : Nat → SM → Int32 → Int32 → Int32 → Int32 → Int32 → Int32 → OR
  | 0, _, _, _, _, _, _, _ => none
  | n + 1, t, v1, v2, v3, v4, v5, v6 => fm_next_51 k83 (fm_next_l51 k83 n) t v1 v2 v3 v4 v5 v6
def fm_next_36 (k141 : SM → Int32 → Int32 → Int32 → OR) (r36 : SM → Int32 → Int32 → Int32 → Int32 → OR) (t : SM) (v1 : Int32) (v2 : Int32) (v3 : Int32) (v4 : Int32) : OR :=
  hGetI t 11 39 0 fun choices1 =>
  if choices1 ≤ v4 then k141 t v1 v2 v3
  else fm_next_l51 (fun t u1 u2 u3 u4 u5 => fm_next_83 r36 t u1 u2 u3 u4 u5) 1000000 t v1 v2 v3 v4 0 0
def fm_next_l36 (k141 : SM → Int32 → Int32 → Int32 → OR) : Nat → SM → Int32 → Int32 → Int32 → Int32 → OR
  | 0, _, _, _, _, _ => none
  | n + 1, t, v1, v2, v3, v4 => fm_next_36 k141 (fm_next_l36 k141 n) t v1 v2 v3 v4
def fm_next (t : SM) (a : Int32) : OR :=
  bI (fm_in t a 0 1) fun in2 t1 =>
  if in2 = 0 then rI (-2) t1
  else hRecv t1 11 39 <| bV (fm_findsWorlds t1) fun t3 =>
    hGetI t3 11 39 45 fun worldMany4 =>
    if worldMany4 = 0 then rI (-3) t3
    else hGetI t3 11 39 45 fun worldMany5 =>
      fm_next_l36 (fun t u1 u2 u3 => fm_next_141 t u1 u2 u3) 1000000 t3 a (-1) worldMany5 0
def F_253 (as : List Value) (t : SM) : OR := match as with
  | [.ref z0, .int a] => (match Nat.beq z0 39 with | true => fm_next t a | false => none)
  | _ => none
/-! EveryMapWrongModel.looks()I -/
def fm_looks_193 (t : SM) : OR :=
  hGetC t 11 39 48 66 <|
  hGetI t 11 39 45 fun worldMany1 =>
  hALd t 66 (((1 : Int32) <<< (worldMany1 &&& 31)) - 1) fun e2 =>
  rI e2 t
def fm_looks_180 (r22 : SM → Int32 → OR) (t : SM) (v1 : Int32) (v2 : Int32) : OR :=
  hGetC t 11 39 48 66 <|
  hASt t 66 v1 v2 fun t1 =>
  r22 t1 (v1 + 1)
def fm_looks_102 (r49 : SM → Int32 → Int32 → Int32 → OR) (t : SM) (v1 : Int32) (v2 : Int32) (v3 : Int32) (v4 : Int32) : OR :=
  if v4 = 0 then r49 t v1 v2 (v3 + 1)
  else if v4 = v1 then r49 t v1 v2 (v3 + 1)
  else hGetC t 11 39 48 66 <|
  hALd t 66 v4 fun e1 =>
  hGetC t 11 39 48 66 <|
  hALd t 66 (v1 &&& (v4 ^^^ (-1))) fun e2 =>
  if e1 ≤ e2 then hGetC t 11 39 48 66 <|
    hALd t 66 (v1 &&& (v4 ^^^ (-1))) fun e3 =>
    if v2 ≤ (e3 + 1) then r49 t v1 v2 (v3 + 1)
    else r49 t v1 (e3 + 1) (v3 + 1)
  else hGetC t 11 39 48 66 <|
  hALd t 66 v4 fun e4 =>
  if v2 ≤ (e4 + 1) then r49 t v1 v2 (v3 + 1)
  else r49 t v1 (e4 + 1) (v3 + 1)
def fm_looks_63 (k102 : SM → Int32 → Int32 → Int32 → Int32 → OR) (r63 : SM → Int32 → Int32 → Int32 → Int32 → Int32 → OR) (t : SM) (v1 : Int32) (v2 : Int32) (v3 : Int32) (v4 : Int32) (v5 : Int32) : OR :=
  hGetI t 11 39 45 fun worldMany1 =>
  if worldMany1 ≤ v5 then k102 t v1 v2 v3 v4
  else hGetC t 11 39 44 63 <|
  hALd t 63 v5 fun e2 =>
  r63 t v1 v2 v3 (v4 ||| ((((v1 >>> (v5 &&& 31)) &&& (e2 >>> (v3 &&& 31))) &&& 1) <<< (v5 &&& 31))) (v5 + 1)
def fm_looks_l63 (k102 : SM → Int32 → Int32 → Int32 → Int32 → OR) : Nat → SM → Int32 → Int32 → Int32 → Int32 → Int32 → OR
  | 0, _, _, _, _, _, _ => none
  | n + 1, t, v1, v2, v3, v4, v5 => fm_looks_63 k102 (fm_looks_l63 k102 n) t v1 v2 v3 v4 v5
def fm_looks_49 (k180 : SM → Int32 → Int32 → OR) (r49 : SM → Int32 → Int32 → Int32 → OR) (t : SM) (v1 : Int32) (v2 : Int32) (v3 : Int32) : OR :=
  hGetI t 11 39 0 fun choices1 =>
  if choices1 ≤ v3 then k180 t v1 v2
  else fm_looks_l63 (fun t u1 u2 u3 u4 => fm_looks_102 r49 t u1 u2 u3 u4) 1000000 t v1 v2 v3 0 0
def fm_looks_l49 (k180 : SM → Int32 → Int32 → OR) : Nat → SM → Int32 → Int32 → Int32 → OR
  | 0, _, _, _, _ => none
  | n + 1, t, v1, v2, v3 => fm_looks_49 k180 (fm_looks_l49 k180 n) t v1 v2 v3
def fm_looks_22 (k193 : SM → OR) (r22 : SM → Int32 → OR) (t : SM) (v1 : Int32) : OR :=
  hGetI t 11 39 45 fun worldMany1 =>
  if ((1 : Int32) <<< (worldMany1 &&& 31)) ≤ v1 then k193 t
  else bI (fm_ones t v1) fun ones3 t2 =>
  if ones3 = 1 then fm_looks_l49 (fun t u1 u2 => fm_looks_180 r22 t u1 u2) 1000000 t2 v1 0 0
  else fm_looks_l49 (fun t u1 u2 => fm_looks_180 r22 t u1 u2) 1000000 t2 v1 1000000 0
def fm_looks_l22 (k193 : SM → OR) : Nat → SM → Int32 → OR
  | 0, _, _ => none
  | n + 1, t, v1 => fm_looks_22 k193 (fm_looks_l22 k193 n) t v1
def fm_looks (t : SM) : OR :=
  hRecv t 11 39 <| bV (fm_findsWorlds t) fun t1 =>
  hGetI t1 11 39 45 fun worldMany2 =>
  bI (fm_in t1 worldMany2 1 7) fun in4 t3 =>
  if in4 = 0 then rI (-3) t3
  else fm_looks_l22 (fun t => fm_looks_193 t) 1000000 t3 1
def F_254 (as : List Value) (t : SM) : OR := match as with
  | [.ref z0] => (match Nat.beq z0 39 with | true => fm_looks t | false => none)
  | _ => none
/-! EveryMapWrongModel.from(I)I -/
def fm_from_15 (r15 : SM → Int32 → Int32 → Int32 → OR) (t : SM) (v1 : Int32) (v2 : Int32) (v3 : Int32) : OR :=
  hGetI t 11 39 3 fun maps1 =>
  if maps1 ≤ v3 then rI v2 t
  else if v3 = v1 then r15 t v1 (v2 ||| 0) (v3 + 1)
  else hGetC t 11 39 5 41 <|
  hALd t 41 v3 fun e2 =>
  hGetC t 11 39 5 41 <|
  hALd t 41 v1 fun e3 =>
  bI (fm_ones t (e2 ^^^ e3)) fun ones5 t4 =>
  if ones5 = 1 then r15 t4 v1 (v2 ||| ((1 : Int32) <<< (v3 &&& 31))) (v3 + 1)
  else r15 t4 v1 (v2 ||| 0) (v3 + 1)
def fm_from_l15 : Nat → SM → Int32 → Int32 → Int32 → OR
  | 0, _, _, _, _ => none
  | n + 1, t, v1, v2, v3 => fm_from_15 (fm_from_l15 n) t v1 v2 v3
def fm_from (t : SM) (a : Int32) : OR :=
  hRecv t 11 39 <| bI (fm_isMap t a) fun isMap2 t1 =>
  if isMap2 = 0 then rI (-5) t1
  else fm_from_l15 1000000 t1 a 0 0
def F_255 (as : List Value) (t : SM) : OR := match as with
  | [.ref z0, .int a] => (match Nat.beq z0 39 with | true => fm_from t a | false => none)
  | _ => none
/-! EveryMapWrongModel.drawsAll()V -/
def fm_drawsAll_150 (r16 : SM → Int32 → Int32 → OR) (t : SM) (v1 : Int32) (v2 : Int32) (v3 : Int32) (v4 : Int32) (v5 : Int32) : OR :=
  hGetC t 11 39 49 67 <|
  hASt t 67 v3 v4 fun t1 =>
  hGetI t1 11 39 50 fun drawnAll2 =>
  hPutI t1 11 39 50 (drawnAll2 + v5) fun t3 =>
  r16 t3 (v1 ||| ((1 : Int32) <<< (v3 &&& 31))) (v2 + 1)
def fm_drawsAll_144 (r36 : SM → Int32 → Int32 → Int32 → Int32 → Int32 → Int32 → OR) (t : SM) (v1 : Int32) (v2 : Int32) (v3 : Int32) (v4 : Int32) (v5 : Int32) (v6 : Int32) : OR :=
  r36 t v1 v2 v3 v4 v5 (v6 + 1)
def fm_drawsAll_80 (r48 : SM → Int32 → Int32 → Int32 → Int32 → Int32 → Int32 → Int32 → OR) (t : SM) (v1 : Int32) (v2 : Int32) (v3 : Int32) (v4 : Int32) (v5 : Int32) (v6 : Int32) (v7 : Int32) : OR :=
  r48 t v1 v2 v3 v4 v5 v6 (v7 + 1)
def fm_drawsAll_48 (k144 : SM → Int32 → Int32 → Int32 → Int32 → Int32 → Int32 → OR) (r48 : SM → Int32 → Int32 → Int32 → Int32 → Int32 → Int32 → Int32 → OR) (t : SM) (v1 : Int32) (v2 : Int32) (v3 : Int32) (v4 : Int32) (v5 : Int32) (v6 : Int32) (v7 : Int32) : OR :=
  hGetI t 11 39 3 fun maps1 =>
  if maps1 ≤ v7 then k144 t v1 v2 v3 v4 v5 v6
  else if ((v1 >>> (v6 &&& 31)) &&& 1) = 0 then if ((v1 >>> (v7 &&& 31)) &&& 1) = 1 then hGetC t 11 39 5 41 <|
  hALd t 41 v6 fun e2 =>
  hGetC t 11 39 5 41 <|
  hALd t 41 v7 fun e3 =>
  bI (fm_ones t (e2 ^^^ e3)) fun ones5 t4 =>
  if v5 ≤ ones5 then r48 t4 v1 v2 v3 v4 v5 v6 (v7 + 1)
  else hGetC t4 11 39 5 41 <|
  hALd t4 41 v6 fun e6 =>
  hGetC t4 11 39 5 41 <|
  hALd t4 41 v7 fun e7 =>
  bI (fm_ones t4 (e6 ^^^ e7)) fun ones9 t8 =>
  r48 t8 v1 v2 v6 v7 ones9 v6 (v7 + 1)
  else fm_drawsAll_80 r48 t v1 v2 v3 v4 v5 v6 v7
  else fm_drawsAll_80 r48 t v1 v2 v3 v4 v5 v6 v7
def fm_drawsAll_l48 (k144 : SM → Int32 → Int32 → Int32 → Int32 → Int32 → Int32 → OR) : Nat → SM → Int32 → Int32 → Int32 → Int32 → Int32 → Int32 → Int32 → OR
  | 0, _, _, _, _, _, _, _, _ => none
  | n + 1, t, v1, v2, v3, v4, v5, v6, v7 => fm_drawsAll_48 k144 (fm_drawsAll_l48 k144 n) t v1 v2 v3 v4 v5 v6 v7
def fm_drawsAll_36 (k150 : SM → Int32 → Int32 → Int32 → Int32 → Int32 → OR) (r36 : SM → Int32 → Int32 → Int32 → Int32 → Int32 → Int32 → OR) (t : SM) (v1 : Int32) (v2 : Int32) (v3 : Int32) (v4 : Int32) (v5 : Int32) (v6 : Int32) : OR :=
  hGetI t 11 39 3 fun maps1 =>
  if maps1 ≤ v6 then k150 t v1 v2 v3 v4 v5
  else fm_drawsAll_l48 (fun t u1 u2 u3 u4 u5 u6 => fm_drawsAll_144 r36 t u1 u2 u3 u4 u5 u6) 1000000 t v1 v2 v3 v4 v5 v6 0
def fm_drawsAll_l36 (k150 : SM → Int32 → Int32 → Int32 → Int32 → Int32 → OR) : Nat → SM → Int32 → Int32 → Int32 → Int32 → Int32 → Int32 → OR
  | 0, _, _, _, _, _, _, _ => none
  | n + 1, t, v1, v2, v3, v4, v5, v6 => fm_drawsAll_36 k150 (fm_drawsAll_l36 k150 n) t v1 v2 v3 v4 v5 v6
def fm_drawsAll_16 (r16 : SM → Int32 → Int32 → OR) (t : SM) (v1 : Int32) (v2 : Int32) : OR :=
  hGetI t 11 39 3 fun maps1 =>
  if maps1 ≤ v2 then rV t
  else fm_drawsAll_l36 (fun t u1 u2 u3 u4 u5 => fm_drawsAll_150 r16 t u1 u2 u3 u4 u5) 1000000 t v1 v2 (-1) (-1) 99 0
def fm_drawsAll_l16 : Nat → SM → Int32 → Int32 → OR
  | 0, _, _, _ => none
  | n + 1, t, v1, v2 => fm_drawsAll_16 (fm_drawsAll_l16 n) t v1 v2
def fm_drawsAll (t : SM) : OR :=
  hPutI t 11 39 50 0 fun t1 =>
  hGetC t1 11 39 49 67 <|
  hASt t1 67 0 (-1) fun t2 =>
  fm_drawsAll_l16 1000000 t2 1 1
def F_256 (as : List Value) (t : SM) : OR := match as with
  | [.ref z0] => (match Nat.beq z0 39 with | true => fm_drawsAll t | false => none)
  | _ => none
/-! EveryMapWrongModel.tree()I -/
def fm_tree (t : SM) : OR :=
  hRecv t 11 39 <| bV (fm_drawsAll t) fun t1 =>
  hGetI t1 11 39 50 fun drawnAll2 =>
  rI drawnAll2 t1
def F_257 (as : List Value) (t : SM) : OR := match as with
  | [.ref z0] => (match Nat.beq z0 39 with | true => fm_tree t | false => none)
  | _ => none
/-! EveryMapWrongModel.drawnFrom(I)I -/
def fm_drawnFrom (t : SM) (a : Int32) : OR :=
  hRecv t 11 39 <| bI (fm_isMap t a) fun isMap2 t1 =>
  if isMap2 = 0 then rI (-5) t1
  else hRecv t1 11 39 <| bV (fm_drawsAll t1) fun t3 =>
    hGetC t3 11 39 49 67 <|
    hALd t3 67 a fun e4 =>
    rI e4 t3
def F_258 (as : List Value) (t : SM) : OR := match as with
  | [.ref z0, .int a] => (match Nat.beq z0 39 with | true => fm_drawnFrom t a | false => none)
  | _ => none
/-! EveryMapWrongModel.shows(I)I -/
def fm_shows (t : SM) (a : Int32) : OR :=
  hGetC t 11 39 4 40 <|
  hALd t 40 a fun e1 =>
  if e1 = 3 then hGetC t 11 39 6 42 <|
  hALd t 42 a fun e3 =>
  rI e3 t
  else hGetI t 11 39 0 fun choices2 =>
    rI (((1 : Int32) <<< (choices2 &&& 31)) - 1) t
def F_259 (as : List Value) (t : SM) : OR := match as with
  | [.ref z0, .int a] => (match Nat.beq z0 39 with | true => fm_shows t a | false => none)
  | _ => none
/-! EveryMapWrongModel.over(III)I -/
def fm_over (t : SM) (a : Int32) (b : Int32) (c : Int32) : OR :=
  hRecv t 11 39 <| bI (fm_isMap t a) fun isMap2 t1 =>
  if isMap2 = 0 then rI (-5) t1
  else hRecv t1 11 39 <| bI (fm_isMap t1 b) fun isMap4 t3 =>
  if isMap4 = 0 then rI (-5) t3
  else bI (fm_in t3 c 0 1) fun in6 t5 =>
    if in6 = 0 then rI (-7) t5
    else hRecv t5 11 39 <| bI (fm_shows t5 a) fun shows8 t7 =>
      hRecv t7 11 39 <| bI (fm_shows t7 b) fun shows10 t9 =>
      hGetC t9 11 39 5 41 <|
      hALd t9 41 a fun e11 =>
      hGetC t9 11 39 5 41 <|
      hALd t9 41 b fun e12 =>
      if c = 0 then rI ((shows8 &&& shows10) &&& (e11 ^^^ e12)) t9
      else bI (fm_ones t9 ((shows8 &&& shows10) &&& (e11 ^^^ e12))) fun ones14 t13 =>
        rI ones14 t13
def F_260 (as : List Value) (t : SM) : OR := match as with
  | [.ref z0, .int a, .int b, .int c] => (match Nat.beq z0 39 with | true => fm_over t a b c | false => none)
  | _ => none
/-! EveryMapWrongModel.join()I -/
def fm_join_42 (t : SM) (v1 : Int32) : OR :=
  hRecv t 11 39 <| bI (fm_countBy t v1) fun countBy2 t1 =>
  rI countBy2 t1
def fm_join_8 (k42 : SM → Int32 → OR) (r8 : SM → Int32 → Int32 → OR) (t : SM) (v1 : Int32) (v2 : Int32) : OR :=
  hGetI t 11 39 3 fun maps1 =>
  if maps1 ≤ v2 then k42 t v1
  else hGetC t 11 39 4 40 <|
  hALd t 40 v2 fun e2 =>
  if e2 = 3 then r8 t (v1 ||| ((1 : Int32) <<< (v2 &&& 31))) (v2 + 1)
  else r8 t (v1 ||| 0) (v2 + 1)
def fm_join_l8 (k42 : SM → Int32 → OR) : Nat → SM → Int32 → Int32 → OR
  | 0, _, _, _ => none
  | n + 1, t, v1, v2 => fm_join_8 k42 (fm_join_l8 k42 n) t v1 v2
def fm_join (t : SM) : OR :=
  hRecv t 11 39 <| bV (fm_agree t) fun t1 =>
  fm_join_l8 (fun t u1 => fm_join_42 t u1) 1000000 t1 0 0
def F_261 (as : List Value) (t : SM) : OR := match as with
  | [.ref z0] => (match Nat.beq z0 39 with | true => fm_join t | false => none)
  | _ => none
/-! EveryMapWrongModel.years(II)I -/
def fm_years_44 (r44 : SM → Int32 → Int32 → Int32 → Int32 → Int32 → OR) (t : SM) (v1 : Int32) (v2 : Int32) (v3 : Int32) (v4 : Int32) (v5 : Int32) : OR :=
  hGetI t 11 39 0 fun choices1 =>
  if ((1 : Int32) <<< (choices1 &&& 31)) ≤ v5 then rI v4 t
  else hGetC t 11 39 43 62 <|
  hALd t 62 v5 fun e2 =>
  if e2 < 0 then r44 t v1 v2 v3 v4 (v5 + 1)
  else hGetC t 11 39 43 62 <|
  hALd t 62 v5 fun e3 =>
  if (e3 &&& v3) = v3 then hGetC t 11 39 5 41 <|
  hALd t 41 v1 fun e4 =>
  bI (fm_ones t (e4 ^^^ v5)) fun ones6 t5 =>
  if 0 ≤ (ones6 - 1) then if v4 = (-1) then r44 t5 v1 v2 v3 (ones6 - 1) (v5 + 1)
    else if v2 = 0 then if v4 ≤ (ones6 - 1) then r44 t5 v1 v2 v3 v4 (v5 + 1)
    else r44 t5 v1 v2 v3 (ones6 - 1) (v5 + 1)
    else if (ones6 - 1) ≤ v4 then r44 t5 v1 v2 v3 v4 (v5 + 1)
      else r44 t5 v1 v2 v3 (ones6 - 1) (v5 + 1)
  else if v4 = (-1) then r44 t5 v1 v2 v3 0 (v5 + 1)
  else if v2 = 0 then if v4 ≤ 0 then r44 t5 v1 v2 v3 v4 (v5 + 1)
  else r44 t5 v1 v2 v3 0 (v5 + 1)
  else if 0 ≤ v4 then r44 t5 v1 v2 v3 v4 (v5 + 1)
    else r44 t5 v1 v2 v3 0 (v5 + 1)
  else r44 t v1 v2 v3 v4 (v5 + 1)
def fm_years_l44 : Nat → SM → Int32 → Int32 → Int32 → Int32 → Int32 → OR
  | 0, _, _, _, _, _, _ => none
  | n + 1, t, v1, v2, v3, v4, v5 => fm_years_44 (fm_years_l44 n) t v1 v2 v3 v4 v5
def fm_years (t : SM) (a : Int32) (b : Int32) : OR :=
  hRecv t 11 39 <| bI (fm_isMap t a) fun isMap2 t1 =>
  if isMap2 = 0 then rI (-5) t1
  else bI (fm_in t1 b 0 1) fun in4 t3 =>
    if in4 = 0 then rI (-7) t3
    else hRecv t3 11 39 <| bV (fm_agree t3) fun t5 =>
      hRecv t5 11 39 <| bI (fm_allMaps t5) fun allMaps7 t6 =>
      fm_years_l44 1000000 t6 a b (allMaps7 &&& (((1 : Int32) <<< (a &&& 31)) ^^^ (-1))) (-1) 0
def F_262 (as : List Value) (t : SM) : OR := match as with
  | [.ref z0, .int a, .int b] => (match Nat.beq z0 39 with | true => fm_years t a b | false => none)
  | _ => none
/-! EveryMapWrongModel.costOf(I)I -/
def fm_costOf_4 (r4 : SM → Int32 → Int32 → Int32 → OR) (t : SM) (v1 : Int32) (v2 : Int32) (v3 : Int32) : OR :=
  hGetI t 11 39 3 fun maps1 =>
  if maps1 ≤ v3 then rI v2 t
  else if ((v1 >>> (v3 &&& 31)) &&& 1) = 1 then hGetC t 11 39 8 44 <|
  hALd t 44 v3 fun e2 =>
  r4 t v1 (v2 + e2) (v3 + 1)
  else r4 t v1 (v2 + 0) (v3 + 1)
def fm_costOf_l4 : Nat → SM → Int32 → Int32 → Int32 → OR
  | 0, _, _, _, _ => none
  | n + 1, t, v1, v2, v3 => fm_costOf_4 (fm_costOf_l4 n) t v1 v2 v3
def fm_costOf (t : SM) (a : Int32) : OR :=
  fm_costOf_l4 1000000 t a 0 0
def F_263 (as : List Value) (t : SM) : OR := match as with
  | [.ref z0, .int a] => (match Nat.beq z0 39 with | true => fm_costOf t a | false => none)
  | _ => none
/-! EveryMapWrongModel.buy(II)I -/
def fm_buy_107 (t : SM) (v2 : Int32) (v3 : Int32) (v4 : Int32) : OR :=
  if v2 = 0 then rI v3 t
  else rI v4 t
def fm_buy_39 (k107 : SM → Int32 → Int32 → Int32 → OR) (r39 : SM → Int32 → Int32 → Int32 → Int32 → Int32 → OR) (t : SM) (v1 : Int32) (v2 : Int32) (v3 : Int32) (v4 : Int32) (v5 : Int32) : OR :=
  hRecv t 11 39 <| bI (fm_allMaps t) fun allMaps2 t1 =>
  if allMaps2 < v5 then k107 t1 v2 v3 v4
  else hRecv t1 11 39 <| bI (fm_costOf t1 v5) fun costOf4 t3 =>
  if v1 < costOf4 then r39 t3 v1 v2 v3 v4 (v5 + 1)
  else hRecv t3 11 39 <| bI (fm_countBy t3 v5) fun countBy6 t5 =>
  if countBy6 < v4 then r39 t5 v1 v2 v5 countBy6 (v5 + 1)
  else if countBy6 = v4 then hRecv t5 11 39 <| bI (fm_costOf t5 v5) fun costOf8 t7 =>
  hRecv t7 11 39 <| bI (fm_costOf t7 v3) fun costOf10 t9 =>
  if costOf10 ≤ costOf8 then r39 t9 v1 v2 v3 v4 (v5 + 1)
  else r39 t9 v1 v2 v5 countBy6 (v5 + 1)
  else r39 t5 v1 v2 v3 v4 (v5 + 1)
def fm_buy_l39 (k107 : SM → Int32 → Int32 → Int32 → OR) : Nat → SM → Int32 → Int32 → Int32 → Int32 → Int32 → OR
  | 0, _, _, _, _, _, _ => none
  | n + 1, t, v1, v2, v3, v4, v5 => fm_buy_39 k107 (fm_buy_l39 k107 n) t v1 v2 v3 v4 v5
def fm_buy (t : SM) (a : Int32) (b : Int32) : OR :=
  bI (fm_in t a 0 9999) fun in2 t1 =>
  if in2 = 0 then rI (-2) t1
  else bI (fm_in t1 b 0 1) fun in4 t3 =>
  if in4 = 0 then rI (-2) t3
  else hRecv t3 11 39 <| bV (fm_agree t3) fun t5 =>
    hRecv t5 11 39 <| bI (fm_countBy t5 0) fun countBy7 t6 =>
    fm_buy_l39 (fun t u2 u3 u4 => fm_buy_107 t u2 u3 u4) 1000000 t6 a b 0 countBy7 1
def F_264 (as : List Value) (t : SM) : OR := match as with
  | [.ref z0, .int a, .int b] => (match Nat.beq z0 39 with | true => fm_buy t a b | false => none)
  | _ => none
/-! EveryMapWrongModel.worth(I)I -/
def fm_worth (t : SM) (a : Int32) : OR :=
  hRecv t 11 39 <| bI (fm_isMap t a) fun isMap2 t1 =>
  if isMap2 = 0 then rI (-5) t1
  else hRecv t1 11 39 <| bV (fm_agree t1) fun t3 =>
    hRecv t3 11 39 <| bI (fm_allMaps t3) fun allMaps5 t4 =>
    hRecv t4 11 39 <| bI (fm_countBy t4 (allMaps5 &&& (((1 : Int32) <<< (a &&& 31)) ^^^ (-1)))) fun countBy7 t6 =>
    hRecv t6 11 39 <| bI (fm_allMaps t6) fun allMaps9 t8 =>
    hRecv t8 11 39 <| bI (fm_countBy t8 allMaps9) fun countBy11 t10 =>
    hGetC t10 11 39 5 41 <|
    hALd t10 41 a fun e12 =>
    hRecv t10 11 39 <| bI (fm_asksOf t10 2 e12 0 (countBy7 - countBy11)) fun asksOf14 t13 =>
    rI asksOf14 t13
def F_265 (as : List Value) (t : SM) : OR := match as with
  | [.ref z0, .int a] => (match Nat.beq z0 39 with | true => fm_worth t a | false => none)
  | _ => none
/-! EveryMapWrongModel.drawn(II)I -/
def fm_drawn (t : SM) (a : Int32) (b : Int32) : OR :=
  bI (fm_in t a 0 99999) fun in2 t1 =>
  if in2 = 0 then rI (-2) t1
  else bI (fm_in t1 b 0 2) fun in4 t3 =>
  if in4 = 0 then rI (-2) t3
  else hRecv t3 11 39 <| bV (fm_findsWorlds t3) fun t5 =>
    hGetI t5 11 39 45 fun worldMany6 =>
    if worldMany6 = 0 then rI (-3) t5
    else hGetC t5 11 39 44 63 <|
      hGetI t5 11 39 45 fun worldMany7 =>
      hNZL (Int32.toInt64 worldMany7) (hALd t5 63 (Int64.toInt32 (((((Int32.toInt64 a) + 1) * 48271) - (((Int32.toInt64 a) + 1) * 48271) / 2147483647 * 2147483647) - ((((Int32.toInt64 a) + 1) * 48271) - (((Int32.toInt64 a) + 1) * 48271) / 2147483647 * 2147483647) / (Int32.toInt64 worldMany7) * (Int32.toInt64 worldMany7))) fun e8 =>
      hGetI t5 11 39 0 fun choices9 =>
      hNZL (Int32.toInt64 choices9) (if b = 0 then rI e8 t5
      else if b = 1 then rI (e8 ^^^ ((1 : Int32) <<< ((Int64.toInt32 (((((((Int32.toInt64 a) + 1) * 48271) - (((Int32.toInt64 a) + 1) * 48271) / 2147483647 * 2147483647) * 48271) - (((((Int32.toInt64 a) + 1) * 48271) - (((Int32.toInt64 a) + 1) * 48271) / 2147483647 * 2147483647) * 48271) / 2147483647 * 2147483647) - ((((((Int32.toInt64 a) + 1) * 48271) - (((Int32.toInt64 a) + 1) * 48271) / 2147483647 * 2147483647) * 48271) - (((((Int32.toInt64 a) + 1) * 48271) - (((Int32.toInt64 a) + 1) * 48271) / 2147483647 * 2147483647) * 48271) / 2147483647 * 2147483647) / (Int32.toInt64 choices9) * (Int32.toInt64 choices9))) &&& 31))) t5
        else rI (Int64.toInt32 (((((((Int32.toInt64 a) + 1) * 48271) - (((Int32.toInt64 a) + 1) * 48271) / 2147483647 * 2147483647) * 48271) - (((((Int32.toInt64 a) + 1) * 48271) - (((Int32.toInt64 a) + 1) * 48271) / 2147483647 * 2147483647) * 48271) / 2147483647 * 2147483647) - ((((((Int32.toInt64 a) + 1) * 48271) - (((Int32.toInt64 a) + 1) * 48271) / 2147483647 * 2147483647) * 48271) - (((((Int32.toInt64 a) + 1) * 48271) - (((Int32.toInt64 a) + 1) * 48271) / 2147483647 * 2147483647) * 48271) / 2147483647 * 2147483647) / (Int32.toInt64 choices9) * (Int32.toInt64 choices9))) t5))
def F_266 (as : List Value) (t : SM) : OR := match as with
  | [.ref z0, .int a, .int b] => (match Nat.beq z0 39 with | true => fm_drawn t a b | false => none)
  | _ => none
/-! EveryMapWrongModel.image()I -/
def fm_image_63 (t : SM) : OR :=
  hGetI t 11 39 3 fun maps1 =>
  rI maps1 t
def fm_image_39 (k63 : SM → OR) (r39 : SM → Int32 → OR) (t : SM) (v1 : Int32) : OR :=
  if 8 ≤ v1 then k63 t
  else hGetC t 11 39 27 53 <|
  hGetC t 11 39 8 44 <|
  hALd t 44 v1 fun e1 =>
  hASt t 53 v1 e1 fun t2 =>
  r39 t2 (v1 + 1)
def fm_image_l39 (k63 : SM → OR) : Nat → SM → Int32 → OR
  | 0, _, _ => none
  | n + 1, t, v1 => fm_image_39 k63 (fm_image_l39 k63 n) t v1
def fm_image (t : SM) : OR :=
  hPutI t 11 39 22 1 fun t1 =>
  hGetI t1 11 39 1 fun seen2 =>
  hPutI t1 11 39 23 seen2 fun t3 =>
  hGetI t3 11 39 2 fun seenSo4 =>
  hPutI t3 11 39 24 seenSo4 fun t5 =>
  hGetI t5 11 39 3 fun maps6 =>
  hPutI t5 11 39 25 maps6 fun t7 =>
  hGetI t7 11 39 21 fun rule8 =>
  hPutI t7 11 39 26 rule8 fun t9 =>
  fm_image_l39 (fun t => fm_image_63 t) 1000000 t9 0
def F_267 (as : List Value) (t : SM) : OR := match as with
  | [.ref z0] => (match Nat.beq z0 39 with | true => fm_image t | false => none)
  | _ => none
/-! EveryMapWrongModel.back()I -/
def fm_back_70 (t : SM) : OR :=
  hGetI t 11 39 3 fun maps1 =>
  rI maps1 t
def fm_back_44 (k70 : SM → OR) (r44 : SM → Int32 → OR) (t : SM) (v1 : Int32) : OR :=
  hGetI t 11 39 3 fun maps1 =>
  if maps1 ≤ v1 then k70 t
  else hGetC t 11 39 8 44 <|
  hGetC t 11 39 27 53 <|
  hALd t 53 v1 fun e2 =>
  hASt t 44 v1 e2 fun t3 =>
  r44 t3 (v1 + 1)
def fm_back_l44 (k70 : SM → OR) : Nat → SM → Int32 → OR
  | 0, _, _ => none
  | n + 1, t, v1 => fm_back_44 k70 (fm_back_l44 k70 n) t v1
def fm_back (t : SM) : OR :=
  hGetI t 11 39 22 fun hasImage1 =>
  if hasImage1 = 0 then rI (-3) t
  else hGetI t 11 39 23 fun imageSeen2 =>
    hPutI t 11 39 1 imageSeen2 fun t3 =>
    hGetI t3 11 39 24 fun imageSo4 =>
    hPutI t3 11 39 2 imageSo4 fun t5 =>
    hGetI t5 11 39 25 fun imageMaps6 =>
    hPutI t5 11 39 3 imageMaps6 fun t7 =>
    hGetI t7 11 39 26 fun imageRule8 =>
    hPutI t7 11 39 21 imageRule8 fun t9 =>
    fm_back_l44 (fun t => fm_back_70 t) 1000000 t9 0
def F_268 (as : List Value) (t : SM) : OR := match as with
  | [.ref z0] => (match Nat.beq z0 39 with | true => fm_back t | false => none)
  | _ => none
/-! EveryMapWrongModel.sheet(III)I -/
def fm_sheet_70 (r70 : SM → Int32 → Int32 → OR) (t : SM) (v1 : Int32) (v4 : Int32) : OR :=
  if 40 ≤ v4 then rI 1 t
  else hGetC t 11 39 30 56 <|
  hASt t 56 ((40 * v1) + v4) 0 fun t1 =>
  r70 t1 v1 (v4 + 1)
def fm_sheet_l70 : Nat → SM → Int32 → Int32 → OR
  | 0, _, _, _ => none
  | n + 1, t, v1, v4 => fm_sheet_70 (fm_sheet_l70 n) t v1 v4
def fm_sheet_44 (t : SM) (v1 : Int32) (v2 : Int32) (v3 : Int32) : OR :=
  hGetC t 11 39 28 54 <|
  hASt t 54 v1 v2 fun t1 =>
  hGetC t1 11 39 29 55 <|
  if v2 = (-1) then hASt t1 55 v1 0 fun t3 =>
  fm_sheet_l70 1000000 t3 v1 0
  else hASt t1 55 v1 v3 fun t2 =>
    fm_sheet_l70 1000000 t2 v1 0
def fm_sheet_32 (t : SM) (v1 : Int32) (v2 : Int32) (v3 : Int32) : OR :=
  if v2 = (-1) then fm_sheet_44 t v1 v2 v3
  else if 0 ≤ v3 then fm_sheet_44 t v1 v2 v3
  else rI (-14) t
def fm_sheet (t : SM) (a : Int32) (b : Int32) (c : Int32) : OR :=
  bI (fm_in t a 0 3) fun in2 t1 =>
  if in2 = 0 then rI (-2) t1
  else bI (fm_in t1 b (-1) 2) fun in4 t3 =>
  if in4 = 0 then rI (-2) t3
  else if b = (-1) then fm_sheet_32 t3 a b c
  else if c ≤ 40 then fm_sheet_32 t3 a b c
  else rI (-2) t3
def F_269 (as : List Value) (t : SM) : OR := match as with
  | [.ref z0, .int a, .int b, .int c] => (match Nat.beq z0 39 with | true => fm_sheet t a b c | false => none)
  | _ => none
/-! EveryMapWrongModel.cell(III)I -/
def fm_cell (t : SM) (a : Int32) (b : Int32) (c : Int32) : OR :=
  bI (fm_in t a 0 3) fun in2 t1 =>
  if in2 = 0 then rI (-2) t1
  else hGetC t1 11 39 28 54 <|
    hALd t1 54 a fun e3 =>
    if e3 = (-1) then rI (-11) t1
    else hGetC t1 11 39 29 55 <|
      hALd t1 55 a fun e4 =>
      bI (fm_in t1 b 0 (e4 - 1)) fun in6 t5 =>
      if in6 = 0 then rI (-12) t5
      else hGetC t5 11 39 30 56 <|
        hGetC t5 11 39 28 54 <|
        hALd t5 54 a fun e7 =>
        if e7 = 0 then hASt t5 56 ((40 * a) + b) (Int8.toInt32 (Int32.toInt8 c)) fun t11 =>
        rI 1 t11
        else hGetC t5 11 39 28 54 <|
          hALd t5 54 a fun e8 =>
          if e8 = 1 then hASt t5 56 ((40 * a) + b) (Int16.toInt32 (Int32.toInt16 c)) fun t10 =>
          rI 1 t10
          else hASt t5 56 ((40 * a) + b) c fun t9 =>
            rI 1 t9
def F_270 (as : List Value) (t : SM) : OR := match as with
  | [.ref z0, .int a, .int b, .int c] => (match Nat.beq z0 39 with | true => fm_cell t a b c | false => none)
  | _ => none
/-! EveryMapWrongModel.copy(IIIII)I -/
def fm_copy_147 (r147 : SM → Int32 → Int32 → Int32 → Int32 → OR) (t : SM) (v5 : Int32) (v6 : Int32) (v7 : Int32) (v8 : Int32) : OR :=
  if v5 ≤ v8 then rI v5 t
  else if v7 ≤ v6 then hGetC t 11 39 30 56 <|
    hGetC t 11 39 30 56 <|
    hALd t 56 (v6 + v8) fun e1 =>
    hASt t 56 (v7 + v8) e1 fun t2 =>
    r147 t2 v5 v6 v7 (v8 + 1)
  else hGetC t 11 39 30 56 <|
  hGetC t 11 39 30 56 <|
  hALd t 56 (v6 + ((v5 - 1) - v8)) fun e3 =>
  hASt t 56 (v7 + ((v5 - 1) - v8)) e3 fun t4 =>
  r147 t4 v5 v6 v7 (v8 + 1)
def fm_copy_l147 : Nat → SM → Int32 → Int32 → Int32 → Int32 → OR
  | 0, _, _, _, _, _ => none
  | n + 1, t, v5, v6, v7, v8 => fm_copy_147 (fm_copy_l147 n) t v5 v6 v7 v8
def fm_copy (t : SM) (a : Int32) (b : Int32) (c : Int32) (d : Int32) (e : Int32) : OR :=
  bI (fm_in t a 0 3) fun in2 t1 =>
  if in2 = 0 then rI (-2) t1
  else bI (fm_in t1 c 0 3) fun in4 t3 =>
  if in4 = 0 then rI (-2) t3
  else hGetC t3 11 39 28 54 <|
    hALd t3 54 a fun e5 =>
    if e5 = (-1) then rI (-11) t3
    else hGetC t3 11 39 28 54 <|
    hALd t3 54 c fun e6 =>
    if e6 = (-1) then rI (-11) t3
    else hGetC t3 11 39 28 54 <|
      hALd t3 54 a fun e7 =>
      hGetC t3 11 39 28 54 <|
      hALd t3 54 c fun e8 =>
      if e7 = e8 then if e < 0 then rI (-12) t3
        else if b < 0 then rI (-12) t3
        else if d < 0 then rI (-12) t3
        else hGetC t3 11 39 29 55 <|
        hALd t3 55 a fun e9 =>
        if e9 < b then rI (-12) t3
        else hGetC t3 11 39 29 55 <|
        hALd t3 55 c fun e10 =>
        if e10 < d then rI (-12) t3
        else hGetC t3 11 39 29 55 <|
        hALd t3 55 a fun e11 =>
        if (e11 - b) < e then rI (-12) t3
        else hGetC t3 11 39 29 55 <|
        hALd t3 55 c fun e12 =>
        if e ≤ (e12 - d) then fm_copy_l147 1000000 t3 e ((40 * a) + b) ((40 * c) + d) 0
        else rI (-12) t3
      else rI (-13) t3
def F_271 (as : List Value) (t : SM) : OR := match as with
  | [.ref z0, .int a, .int b, .int c, .int d, .int e] => (match Nat.beq z0 39 with | true => fm_copy t a b c d e | false => none)
  | _ => none
/-! EveryMapWrongModel.mapsBy(IIII)I -/
def fm_mapsBy_64 (r64 : SM → Int32 → Int32 → Int32 → Int32 → Int32 → OR) (t : SM) (v1 : Int32) (v3 : Int32) (v4 : Int32) (v5 : Int32) (v6 : Int32) : OR :=
  if v4 ≤ v6 then rI v5 t
  else if v3 < 0 then rI (-12) t
  else if (v3 + (4 * v6)) < v3 then rI (-12) t
  else hGetC t 11 39 29 55 <|
  hALd t 55 v1 fun e1 =>
  if (v3 + (4 * v6)) ≤ (e1 - 4) then hGetC t 11 39 30 56 <|
    hALd t 56 ((40 * v1) + (v3 + (4 * v6))) fun e2 =>
    hGetC t 11 39 30 56 <|
    hALd t 56 (((40 * v1) + (v3 + (4 * v6))) + 1) fun e3 =>
    hGetC t 11 39 30 56 <|
    hALd t 56 (((40 * v1) + (v3 + (4 * v6))) + 2) fun e4 =>
    hGetC t 11 39 30 56 <|
    hALd t 56 (((40 * v1) + (v3 + (4 * v6))) + 3) fun e5 =>
    hRecv t 11 39 <| bI (fm_map t e2 e3 e4 e5) fun map7 t6 =>
    if map7 < 0 then r64 t6 v1 v3 v4 (v5 + 0) (v6 + 1)
    else r64 t6 v1 v3 v4 (v5 + 1) (v6 + 1)
  else rI (-12) t
def fm_mapsBy_l64 : Nat → SM → Int32 → Int32 → Int32 → Int32 → Int32 → OR
  | 0, _, _, _, _, _, _ => none
  | n + 1, t, v1, v3, v4, v5, v6 => fm_mapsBy_64 (fm_mapsBy_l64 n) t v1 v3 v4 v5 v6
def fm_mapsBy (t : SM) (a : Int32) (b : Int32) (c : Int32) (d : Int32) : OR :=
  bI (fm_in t a 0 3) fun in2 t1 =>
  if in2 = 0 then rI (-2) t1
  else bI (fm_in t1 b 0 2) fun in4 t3 =>
  if in4 = 0 then rI (-2) t3
  else bI (fm_in t3 d 0 8) fun in6 t5 =>
  if in6 = 0 then rI (-2) t5
  else hGetC t5 11 39 28 54 <|
    hALd t5 54 a fun e7 =>
    if e7 = (-1) then rI (-11) t5
    else hGetC t5 11 39 28 54 <|
      hALd t5 54 a fun e8 =>
      if e8 = b then fm_mapsBy_l64 1000000 t5 a c d 0 0
      else rI (-13) t5
def F_272 (as : List Value) (t : SM) : OR := match as with
  | [.ref z0, .int a, .int b, .int c, .int d] => (match Nat.beq z0 39 with | true => fm_mapsBy t a b c d | false => none)
  | _ => none
/-! EveryMapWrongModel.isUnder(II)Z -/
def fm_isUnder (t : SM) (a : Int32) (b : Int32) : OR :=
  if b = 0 then rI 1 t
  else if a = b then rI 1 t
  else if b = 2 then if a = 3 then rI 1 t
  else rI 0 t
  else rI 0 t
def F_273 (as : List Value) (t : SM) : OR := match as with
  | [.int a, .int b] => fm_isUnder t a b
  | _ => none
/-! EveryMapWrongModel.taken(II)I -/
def fm_taken (t : SM) (a : Int32) (b : Int32) : OR :=
  bI (fm_in t b 0 6) fun in2 t1 =>
  if in2 = 0 then rI (-2) t1
  else bI (fm_in t1 a 0 19) fun in4 t3 =>
    if in4 = 0 then rI (-12) t3
    else if 12 ≤ a then hGetI t3 11 39 3 fun maps5 =>
        if (a - 12) < maps5 then if 6 ≤ b then rI (-13) t3
          else hGetC t3 11 39 4 40 <|
          hALd t3 40 (a - 12) fun e6 =>
          bI (fm_isUnder t3 e6 b) fun isUnder8 t7 =>
          if isUnder8 = 0 then rI (-13) t7
          else rI (a - 12) t7
        else rI (-11) t3
      else hGetI t3 11 39 9 fun streets9 =>
      if a < streets9 then if b = 6 then hGetC t3 11 39 13 48 <|
        hALd t3 48 a fun e10 =>
        rI e10 t3
        else rI (-13) t3
      else rI (-11) t3
def F_274 (as : List Value) (t : SM) : OR := match as with
  | [.ref z0, .int a, .int b] => (match Nat.beq z0 39 with | true => fm_taken t a b | false => none)
  | _ => none
