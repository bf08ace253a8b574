section
set_option maxRecDepth 100000
variable {l : Launch} {r : RR}
def FT_119 : FT := (156, F_156) :: (163, F_163) :: []
theorem ft_119 : FTok l 2 mtab FT_119 := FTok.cons (ok_156 l) (by omega) (FTok.cons (ok_163 l) (by omega) (FTok.nil))
theorem fx_look_eq : (fun (G156 : List Value → SM → OR) (G163 : List Value → SM → OR) (t : SM) (a : Int32) (b : Int32) => ex clN P_119 none bytJ (mkCal rks ((156, G156) :: (163, G163) :: [])) [] (kDisp []) 400 0 [(0, .ref 0), (1, .int a), (2, .int b)] [] t) = (fun (G156 : List Value → SM → OR) (G163 : List Value → SM → OR) (t : SM) (a : Int32) (b : Int32) =>
  hRecv t 10 0 <| bI (G156 [.ref 0, .int a] t) fun isChoice2 t1 =>
  if isChoice2 = 0 then rI (-5) t1
  else if b < (-1) then rI (-7) t1
    else if b ≤ 1 then hGetI t1 10 0 1 fun seen3 =>
      bI (G163 [.int seen3, .int a] t1) fun hasChoice5 t4 =>
      if hasChoice5 = 0 then if 0 ≤ b then hGetI t4 10 0 1 fun seen6 =>
          hPutI t4 10 0 1 (seen6 ||| ((1 : Int32) <<< (a &&& 31))) fun t7 =>
          if b = 1 then hGetI t7 10 0 2 fun seenSo10 =>
          hPutI t7 10 0 2 (seenSo10 ||| ((1 : Int32) <<< (a &&& 31))) fun t11 =>
          rI (-1) t11
          else hGetI t7 10 0 2 fun seenSo8 =>
            hPutI t7 10 0 2 (seenSo8 &&& (((1 : Int32) <<< (a &&& 31)) ^^^ (-1))) fun t9 =>
            rI (-1) t9
        else hGetI t4 10 0 1 fun seen12 =>
        hPutI t4 10 0 1 (seen12 &&& (((1 : Int32) <<< (a &&& 31)) ^^^ (-1))) fun t13 =>
        if b = 1 then hGetI t13 10 0 2 fun seenSo16 =>
        hPutI t13 10 0 2 (seenSo16 ||| ((1 : Int32) <<< (a &&& 31))) fun t17 =>
        rI (-1) t17
        else hGetI t13 10 0 2 fun seenSo14 =>
          hPutI t13 10 0 2 (seenSo14 &&& (((1 : Int32) <<< (a &&& 31)) ^^^ (-1))) fun t15 =>
          rI (-1) t15
      else hGetI t4 10 0 2 fun seenSo18 =>
      if 0 ≤ b then hGetI t4 10 0 1 fun seen19 =>
        hPutI t4 10 0 1 (seen19 ||| ((1 : Int32) <<< (a &&& 31))) fun t20 =>
        if b = 1 then hGetI t20 10 0 2 fun seenSo23 =>
        hPutI t20 10 0 2 (seenSo23 ||| ((1 : Int32) <<< (a &&& 31))) fun t24 =>
        rI ((seenSo18 >>> (a &&& 31)) &&& 1) t24
        else hGetI t20 10 0 2 fun seenSo21 =>
          hPutI t20 10 0 2 (seenSo21 &&& (((1 : Int32) <<< (a &&& 31)) ^^^ (-1))) fun t22 =>
          rI ((seenSo18 >>> (a &&& 31)) &&& 1) t22
      else hGetI t4 10 0 1 fun seen25 =>
      hPutI t4 10 0 1 (seen25 &&& (((1 : Int32) <<< (a &&& 31)) ^^^ (-1))) fun t26 =>
      if b = 1 then hGetI t26 10 0 2 fun seenSo29 =>
      hPutI t26 10 0 2 (seenSo29 ||| ((1 : Int32) <<< (a &&& 31))) fun t30 =>
      rI ((seenSo18 >>> (a &&& 31)) &&& 1) t30
      else hGetI t26 10 0 2 fun seenSo27 =>
        hPutI t26 10 0 2 (seenSo27 &&& (((1 : Int32) <<< (a &&& 31)) ^^^ (-1))) fun t28 =>
        rI ((seenSo18 >>> (a &&& 31)) &&& 1) t28
    else rI (-7) t1) := by rfl
theorem fx_look_ok (t : SM) (a : Int32) (b : Int32) (h : fx_look t a b = some r) : Body l 2 q_119 P_119 r 0 [(0, .ref 0), (1, .int a), (2, .int b)] [] t :=
  blk ft_119 (by omega) rfl rows_119 (KDok.nil) ((congrFun (congrFun (congrFun (congrFun (congrFun (fx_look_eq) F_156) F_163) t) a) b).trans h)
theorem ok_119 (l : Launch) : Fok l 2 mtab 119 (F_119) := by
  intro as t r h
  unfold F_119 at h
  split at h
  · rename_i z0 a b
    split at h
    · rename_i hz0
      obtain rfl := Nat.eq_of_beq_eq_true hz0
      exact ⟨q_119, rfl, mok_119, con_of (P := P_119) (by decide +kernel) rfl (Nat.le_of_ble_eq_true rfl) (fx_look_ok t a b h)⟩
    · cases h
  · cases h
end
section
set_option maxRecDepth 100000
variable {l : Launch} {r : RR}
def FT_157 : FT := []
theorem ft_157 : FTok l 1 mtab FT_157 := FTok.nil
theorem fx_everyChoice_eq : (fun (t : SM) => ex clN P_157 none bytJ (mkCal rks ([])) [] (kDisp []) 400 0 [(0, .ref 0)] [] t) = (fun (t : SM) =>
  hGetI t 10 0 0 fun choices1 =>
  rI (((1 : Int32) <<< (choices1 &&& 31)) - 1) t) := by rfl
theorem fx_everyChoice_ok (t : SM) (h : fx_everyChoice t = some r) : Body l 1 q_157 P_157 r 0 [(0, .ref 0)] [] t :=
  blk ft_157 (by omega) rfl rows_157 (KDok.nil) ((congrFun (fx_everyChoice_eq) t).trans h)
theorem ok_157 (l : Launch) : Fok l 1 mtab 157 (F_157) := by
  intro as t r h
  unfold F_157 at h
  split at h
  · rename_i z0
    split at h
    · rename_i hz0
      obtain rfl := Nat.eq_of_beq_eq_true hz0
      exact ⟨q_157, rfl, mok_157, con_of (P := P_157) (by decide +kernel) rfl (Nat.le_of_ble_eq_true rfl) (fx_everyChoice_ok t h)⟩
    · cases h
  · cases h
end
section
set_option maxRecDepth 100000
variable {l : Launch} {r : RR}
def FT_171 : FT := (170, F_170) :: []
theorem ft_171 : FTok l 3 mtab FT_171 := FTok.cons (ok_170 l) (by omega) (FTok.nil)
theorem fx_mayBeRight_eq : (fun (G170 : List Value → SM → OR) (t : SM) (a : Int32) => ex clN P_171 none bytJ (mkCal rks ((170, G170) :: [])) [] (kDisp []) 400 0 [(0, .ref 0), (1, .int a)] [] t) = (fun (G170 : List Value → SM → OR) (t : SM) (a : Int32) =>
  hGetI t 10 0 1 fun seen1 =>
  hGetI t 10 0 2 fun seenSo2 =>
  if (a &&& seen1) = seenSo2 then hRecv t 10 0 <| bI (G170 [.ref 0, .int a] t) fun lawAllows4 t3 =>
  if lawAllows4 = 0 then rI 0 t3
  else rI 1 t3
  else rI 0 t) := by rfl
theorem fx_mayBeRight_ok (t : SM) (a : Int32) (h : fx_mayBeRight t a = some r) : Body l 3 q_171 P_171 r 0 [(0, .ref 0), (1, .int a)] [] t :=
  blk ft_171 (by omega) rfl rows_171 (KDok.nil) ((congrFun (congrFun (congrFun (fx_mayBeRight_eq) F_170) t) a).trans h)
theorem ok_171 (l : Launch) : Fok l 3 mtab 171 (F_171) := by
  intro as t r h
  unfold F_171 at h
  split at h
  · rename_i z0 a
    split at h
    · rename_i hz0
      obtain rfl := Nat.eq_of_beq_eq_true hz0
      exact ⟨q_171, rfl, mok_171, con_of (P := P_171) (by decide +kernel) rfl (Nat.le_of_ble_eq_true rfl) (fx_mayBeRight_ok t a h)⟩
    · cases h
  · cases h
end
section
set_option maxRecDepth 100000
variable {l : Launch} {r : RR}
def FT_172 : FT := (157, F_157) :: (34, F_34) :: (171, F_171) :: (98, F_98) :: []
theorem ft_172 : FTok l 4 mtab FT_172 := FTok.cons (ok_157 l) (by omega) (FTok.cons (ok_34 l) (by omega) (FTok.cons (ok_171 l) (by omega) (FTok.cons (ok_98 l) (by omega) (FTok.nil))))
theorem fx_findWorlds_54_eq : (fun (G157 : List Value → SM → OR) (G34 : List Value → SM → OR) (G171 : List Value → SM → OR) (G98 : List Value → SM → OR) (t : SM) => ex clN P_172 none bytJ (mkCal rks ((157, G157) :: (34, G34) :: (171, G171) :: (98, G98) :: [])) [] (kDisp []) 400 54 [(0, .ref 0)] [] t) = (fun (G157 : List Value → SM → OR) (G34 : List Value → SM → OR) (G171 : List Value → SM → OR) (G98 : List Value → SM → OR) (t : SM) =>
  hGetC t 10 0 13 16 <|
  hGetI t 9 16 1 fun size1 =>
  rI size1 t) := by rfl
theorem fx_findWorlds_54_ok (t : SM) (h : fx_findWorlds_54 t = some r) : Body l 4 q_172 P_172 r 54 [(0, .ref 0)] [] t :=
  blk ft_172 (by omega) rfl rows_172 (KDok.nil) ((congrFun (congrFun (congrFun (congrFun (congrFun (fx_findWorlds_54_eq) F_157) F_34) F_171) F_98) t).trans h)
theorem fx_findWorlds_10_eq : (fun (G157 : List Value → SM → OR) (G34 : List Value → SM → OR) (G171 : List Value → SM → OR) (G98 : List Value → SM → OR) (j10 : SM → Int32 → Int32 → OR) (j54 : SM → OR) (t : SM) (v1 : Int32) (v2 : Int32) => ex clN P_172 none bytJ (mkCal rks ((157, G157) :: (34, G34) :: (171, G171) :: (98, G98) :: [])) [10, 54] (kDisp [(10, kF 0 0 <| kI 1 fun w1 => kI 2 fun w2 => kE fun t => j10 t w1 w2), (54, kF 0 0 <| kE fun t => j54 t)]) 400 10 [(2, .int v2), (1, .int v1), (0, .ref 0)] [] t) = (fun (G157 : List Value → SM → OR) (G34 : List Value → SM → OR) (G171 : List Value → SM → OR) (G98 : List Value → SM → OR) (j10 : SM → Int32 → Int32 → OR) (j54 : SM → OR) (t : SM) (v1 : Int32) (v2 : Int32) =>
  hRecv t 10 0 <| bI (G157 [.ref 0] t) fun everyChoice2 t1 =>
  if everyChoice2 < v2 then j54 t1
  else hGetC t1 10 0 3 1 <|
  hRecv t1 1 1 <| bI (G34 [.ref 1, .int v2] t1) fun agreeingWith4 t3 =>
  if (agreeingWith4 &&& v1) = v1 then hRecv t3 10 0 <| bI (G171 [.ref 0, .int v2] t3) fun mayBeRight6 t5 =>
  if mayBeRight6 = 0 then j10 t5 v1 (v2 + 1)
  else hGetC t5 10 0 13 16 <|
  hRecv t5 9 16 <| bV (G98 [.ref 16, .int v2] t5) fun t7 =>
  j10 t7 v1 (v2 + 1)
  else j10 t3 v1 (v2 + 1)) := by rfl
theorem fx_findWorlds_10_ok {k54 : SM → OR} {r10 : SM → Int32 → Int32 → OR} (h_k54 : ∀ (t : SM), k54 t = some r → Body l 4 q_172 P_172 r 54 [(0, .ref 0)] [] t) (h_r10 : ∀ (t : SM) (v1 : Int32) (v2 : Int32), r10 t v1 v2 = some r → Body l 4 q_172 P_172 r 10 [(2, .int v2), (1, .int v1), (0, .ref 0)] [] t) (t : SM) (v1 : Int32) (v2 : Int32) (h : fx_findWorlds_10 k54 r10 t v1 v2 = some r) : Body l 4 q_172 P_172 r 10 [(2, .int v2), (1, .int v1), (0, .ref 0)] [] t :=
  blk ft_172 (by omega) rfl rows_172 (KDok.cons (KOK.f <| KOK.i fun w1 => KOK.i fun w2 => KOK.e (f := fun t => r10 t w1 w2) fun t h => h_r10 t w1 w2 h) (KDok.cons (KOK.f <| KOK.e (f := fun t => k54 t) fun t h => h_k54 t h) (KDok.nil))) ((congrFun (congrFun (congrFun (congrFun (congrFun (congrFun (congrFun (congrFun (congrFun (fx_findWorlds_10_eq) F_157) F_34) F_171) F_98) (fun t u1 u2 => r10 t u1 u2)) (fun t => k54 t)) t) v1) v2).trans h)
theorem fx_findWorlds_l10_ok {k54 : SM → OR} (h_k54 : ∀ (t : SM), k54 t = some r → Body l 4 q_172 P_172 r 54 [(0, .ref 0)] [] t) : ∀ (n : Nat) (t : SM) (v1 : Int32) (v2 : Int32), fx_findWorlds_l10 k54 n t v1 v2 = some r → Body l 4 q_172 P_172 r 10 [(2, .int v2), (1, .int v1), (0, .ref 0)] [] t
  | 0, _, _, _, h => by cases h
  | n + 1, t, v1, v2, h => fx_findWorlds_10_ok h_k54 (fx_findWorlds_l10_ok h_k54 n) t v1 v2 h
theorem fx_findWorlds_eq : (fun (G157 : List Value → SM → OR) (G34 : List Value → SM → OR) (G171 : List Value → SM → OR) (G98 : List Value → SM → OR) (j10 : SM → Int32 → Int32 → OR) (t : SM) (a : Int32) => ex clN P_172 none bytJ (mkCal rks ((157, G157) :: (34, G34) :: (171, G171) :: (98, G98) :: [])) [10] (kDisp [(10, kF 0 0 <| kI 1 fun w1 => kI 2 fun w2 => kE fun t => j10 t w1 w2)]) 400 0 [(0, .ref 0), (1, .int a)] [] t) = (fun (G157 : List Value → SM → OR) (G34 : List Value → SM → OR) (G171 : List Value → SM → OR) (G98 : List Value → SM → OR) (j10 : SM → Int32 → Int32 → OR) (t : SM) (a : Int32) =>
  hGetC t 10 0 13 16 <|
  hPutI t 9 16 1 0 fun t1 =>
  j10 t1 a 0) := by rfl
theorem fx_findWorlds_ok (t : SM) (a : Int32) (h : fx_findWorlds t a = some r) : Body l 4 q_172 P_172 r 0 [(0, .ref 0), (1, .int a)] [] t :=
  blk ft_172 (by omega) rfl rows_172 (KDok.cons (KOK.f <| KOK.i fun w1 => KOK.i fun w2 => KOK.e (f := fun t => fx_findWorlds_l10 (fun t => fx_findWorlds_54 t) 1000000 t w1 w2) fun t h => fx_findWorlds_l10_ok (k54 := fun t => fx_findWorlds_54 t) (fun t h => fx_findWorlds_54_ok t h) 1000000 t w1 w2 h) (KDok.nil)) ((congrFun (congrFun (congrFun (congrFun (congrFun (congrFun (congrFun (fx_findWorlds_eq) F_157) F_34) F_171) F_98) (fun t u1 u2 => fx_findWorlds_l10 (fun t => fx_findWorlds_54 t) 1000000 t u1 u2)) t) a).trans h)
theorem ok_172 (l : Launch) : Fok l 4 mtab 172 (F_172) := by
  intro as t r h
  unfold F_172 at h
  split at h
  · rename_i z0 a
    split at h
    · rename_i hz0
      obtain rfl := Nat.eq_of_beq_eq_true hz0
      exact ⟨q_172, rfl, mok_172, con_of (P := P_172) (by decide +kernel) rfl (Nat.le_of_ble_eq_true rfl) (fx_findWorlds_ok t a h)⟩
    · cases h
  · cases h
end
section
set_option maxRecDepth 100000
variable {l : Launch} {r : RR}
def FT_120 : FT := (32, F_32) :: (172, F_172) :: []
theorem ft_120 : FTok l 5 mtab FT_120 := FTok.cons (ok_32 l) (by omega) (FTok.cons (ok_172 l) (by omega) (FTok.nil))
theorem fx_worlds_eq : (fun (G32 : List Value → SM → OR) (G172 : List Value → SM → OR) (t : SM) (a : Int32) => ex clN P_120 none bytJ (mkCal rks ((32, G32) :: (172, G172) :: [])) [] (kDisp []) 400 0 [(0, .ref 0), (1, .int a)] [] t) = (fun (G32 : List Value → SM → OR) (G172 : List Value → SM → OR) (t : SM) (a : Int32) =>
  if a < 0 then rI (-2) t
  else hGetC t 10 0 3 1 <|
  hRecv t 1 1 <| bI (G32 [.ref 1] t) fun everyMap2 t1 =>
  if a ≤ everyMap2 then hRecv t1 10 0 <| bI (G172 [.ref 0, .int a] t1) fun findWorlds4 t3 =>
    rI findWorlds4 t3
  else rI (-2) t1) := by rfl
theorem fx_worlds_ok (t : SM) (a : Int32) (h : fx_worlds t a = some r) : Body l 5 q_120 P_120 r 0 [(0, .ref 0), (1, .int a)] [] t :=
  blk ft_120 (by omega) rfl rows_120 (KDok.nil) ((congrFun (congrFun (congrFun (congrFun (fx_worlds_eq) F_32) F_172) t) a).trans h)
theorem ok_120 (l : Launch) : Fok l 5 mtab 120 (F_120) := by
  intro as t r h
  unfold F_120 at h
  split at h
  · rename_i z0 a
    split at h
    · rename_i hz0
      obtain rfl := Nat.eq_of_beq_eq_true hz0
      exact ⟨q_120, rfl, mok_120, con_of (P := P_120) (by decide +kernel) rfl (Nat.le_of_ble_eq_true rfl) (fx_worlds_ok t a h)⟩
    · cases h
  · cases h
end
section
set_option maxRecDepth 100000
variable {l : Launch} {r : RR}
def FT_121 : FT := (32, F_32) :: (172, F_172) :: (99, F_99) :: []
theorem ft_121 : FTok l 5 mtab FT_121 := FTok.cons (ok_32 l) (by omega) (FTok.cons (ok_172 l) (by omega) (FTok.cons (ok_99 l) (by omega) (FTok.nil)))
theorem fx_world_eq : (fun (G32 : List Value → SM → OR) (G172 : List Value → SM → OR) (G99 : List Value → SM → OR) (t : SM) (a : Int32) => ex clN P_121 none bytJ (mkCal rks ((32, G32) :: (172, G172) :: (99, G99) :: [])) [] (kDisp []) 400 0 [(0, .ref 0), (1, .int a)] [] t) = (fun (G32 : List Value → SM → OR) (G172 : List Value → SM → OR) (G99 : List Value → SM → OR) (t : SM) (a : Int32) =>
  hGetC t 10 0 3 1 <|
  hRecv t 1 1 <| bI (G32 [.ref 1] t) fun everyMap2 t1 =>
  hRecv t1 10 0 <| bI (G172 [.ref 0, .int everyMap2] t1) fun findWorlds4 t3 =>
  hGetC t3 10 0 13 16 <|
  hRecv t3 9 16 <| bI (G99 [.ref 16, .int a] t3) fun townAt6 t5 =>
  rI townAt6 t5) := by rfl
theorem fx_world_ok (t : SM) (a : Int32) (h : fx_world t a = some r) : Body l 5 q_121 P_121 r 0 [(0, .ref 0), (1, .int a)] [] t :=
  blk ft_121 (by omega) rfl rows_121 (KDok.nil) ((congrFun (congrFun (congrFun (congrFun (congrFun (fx_world_eq) F_32) F_172) F_99) t) a).trans h)
theorem ok_121 (l : Launch) : Fok l 5 mtab 121 (F_121) := by
  intro as t r h
  unfold F_121 at h
  split at h
  · rename_i z0 a
    split at h
    · rename_i hz0
      obtain rfl := Nat.eq_of_beq_eq_true hz0
      exact ⟨q_121, rfl, mok_121, con_of (P := P_121) (by decide +kernel) rfl (Nat.le_of_ble_eq_true rfl) (fx_world_ok t a h)⟩
    · cases h
  · cases h
end
section
set_option maxRecDepth 100000
variable {l : Launch} {r : RR}
def FT_122 : FT := (32, F_32) :: (172, F_172) :: (101, F_101) :: (157, F_157) :: (102, F_102) :: []
theorem ft_122 : FTok l 5 mtab FT_122 := FTok.cons (ok_32 l) (by omega) (FTok.cons (ok_172 l) (by omega) (FTok.cons (ok_101 l) (by omega) (FTok.cons (ok_157 l) (by omega) (FTok.cons (ok_102 l) (by omega) (FTok.nil)))))
theorem fx_sure_eq : (fun (G32 : List Value → SM → OR) (G172 : List Value → SM → OR) (G101 : List Value → SM → OR) (G157 : List Value → SM → OR) (G102 : List Value → SM → OR) (t : SM) (a : Int32) => ex clN P_122 none bytJ (mkCal rks ((32, G32) :: (172, G172) :: (101, G101) :: (157, G157) :: (102, G102) :: [])) [] (kDisp []) 400 0 [(0, .ref 0), (1, .int a)] [] t) = (fun (G32 : List Value → SM → OR) (G172 : List Value → SM → OR) (G101 : List Value → SM → OR) (G157 : List Value → SM → OR) (G102 : List Value → SM → OR) (t : SM) (a : Int32) =>
  if a < 0 then rI (-2) t
  else if a ≤ 2 then hGetC t 10 0 3 1 <|
    hRecv t 1 1 <| bI (G32 [.ref 1] t) fun everyMap2 t1 =>
    hRecv t1 10 0 <| bI (G172 [.ref 0, .int everyMap2] t1) fun findWorlds4 t3 =>
    if findWorlds4 = 0 then rI (-3) t3
    else if a = 0 then hGetC t3 10 0 13 16 <|
        hRecv t3 9 16 <| bI (G101 [.ref 16] t3) fun soInAll6 t5 =>
        rI soInAll6 t5
      else if a = 1 then hRecv t3 10 0 <| bI (G157 [.ref 0] t3) fun everyChoice8 t7 =>
        hGetC t7 10 0 13 16 <|
        hRecv t7 9 16 <| bI (G102 [.ref 16] t7) fun soInSome10 t9 =>
        rI (everyChoice8 &&& (soInSome10 ^^^ (-1))) t9
      else hGetC t3 10 0 13 16 <|
      hRecv t3 9 16 <| bI (G102 [.ref 16] t3) fun soInSome12 t11 =>
      hGetC t11 10 0 13 16 <|
      hRecv t11 9 16 <| bI (G101 [.ref 16] t11) fun soInAll14 t13 =>
      rI (soInSome12 &&& (soInAll14 ^^^ (-1))) t13
  else rI (-2) t) := by rfl
theorem fx_sure_ok (t : SM) (a : Int32) (h : fx_sure t a = some r) : Body l 5 q_122 P_122 r 0 [(0, .ref 0), (1, .int a)] [] t :=
  blk ft_122 (by omega) rfl rows_122 (KDok.nil) ((congrFun (congrFun (congrFun (congrFun (congrFun (congrFun (congrFun (fx_sure_eq) F_32) F_172) F_101) F_157) F_102) t) a).trans h)
theorem ok_122 (l : Launch) : Fok l 5 mtab 122 (F_122) := by
  intro as t r h
  unfold F_122 at h
  split at h
  · rename_i z0 a
    split at h
    · rename_i hz0
      obtain rfl := Nat.eq_of_beq_eq_true hz0
      exact ⟨q_122, rfl, mok_122, con_of (P := P_122) (by decide +kernel) rfl (Nat.le_of_ble_eq_true rfl) (fx_sure_ok t a h)⟩
    · cases h
  · cases h
end
section
set_option maxRecDepth 100000
variable {l : Launch} {r : RR}
def FT_175 : FT := (166, F_166) :: (167, F_167) :: []
theorem ft_175 : FTok l 2 mtab FT_175 := FTok.cons (ok_166 l) (by omega) (FTok.cons (ok_167 l) (by omega) (FTok.nil))
theorem fx_addTo_eq : (fun (G166 : List Value → SM → OR) (G167 : List Value → SM → OR) (t : SM) (a : Nat) (b : Int32) (c : Int32) => ex clN P_175 none bytJ (mkCal rks ((166, G166) :: (167, G167) :: [])) [] (kDisp []) 400 0 [(0, .ref a), (1, .int b), (2, .int c)] [] t) = (fun (G166 : List Value → SM → OR) (G167 : List Value → SM → OR) (t : SM) (a : Nat) (b : Int32) (c : Int32) =>
  bI (G166 [.ref a, .int b] t) fun numberAt2 t1 =>
  bV (G167 [.ref a, .int b, .int (numberAt2 + c)] t1) fun t3 =>
  rV t3) := by rfl
theorem fx_addTo_ok (t : SM) (a : Nat) (b : Int32) (c : Int32) (h : fx_addTo t a b c = some r) : Body l 2 q_175 P_175 r 0 [(0, .ref a), (1, .int b), (2, .int c)] [] t :=
  blk ft_175 (by omega) rfl rows_175 (KDok.nil) ((congrFun (congrFun (congrFun (congrFun (congrFun (congrFun (fx_addTo_eq) F_166) F_167) t) a) b) c).trans h)
theorem ok_175 (l : Launch) : Fok l 2 mtab 175 (F_175) := by
  intro as t r h
  unfold F_175 at h
  split at h
  · rename_i a b c
    exact ⟨q_175, rfl, mok_175, con_of (P := P_175) (by decide +kernel) rfl (Nat.le_of_ble_eq_true rfl) (fx_addTo_ok t a b c h)⟩
  · cases h
end
section
set_option maxRecDepth 100000
variable {l : Launch} {r : RR}
def FT_174 : FT := (3, F_3) :: (32, F_32) :: (157, F_157) :: (171, F_171) :: (34, F_34) :: (175, F_175) :: (166, F_166) :: []
theorem ft_174 : FTok l 4 mtab FT_174 := FTok.cons (ok_3 l) (by omega) (FTok.cons (ok_32 l) (by omega) (FTok.cons (ok_157 l) (by omega) (FTok.cons (ok_171 l) (by omega) (FTok.cons (ok_34 l) (by omega) (FTok.cons (ok_175 l) (by omega) (FTok.cons (ok_166 l) (by omega) (FTok.nil)))))))
theorem fx_tally_121_eq : (fun (G3 : List Value → SM → OR) (G32 : List Value → SM → OR) (G157 : List Value → SM → OR) (G171 : List Value → SM → OR) (G34 : List Value → SM → OR) (G175 : List Value → SM → OR) (G166 : List Value → SM → OR) (j67 : SM → Nat → Int32 → Int32 → OR) (t : SM) (v1 : Nat) (v3 : Int32) (v4 : Int32) => ex clN P_174 none bytJ (mkCal rks ((3, G3) :: (32, G32) :: (157, G157) :: (171, G171) :: (34, G34) :: (175, G175) :: (166, G166) :: [])) [67] (kDisp [(67, kF 0 0 <| kR 1 fun w1 => kI 3 fun w3 => kI 4 fun w4 => kE fun t => j67 t w1 w3 w4)]) 400 121 [(4, .int v4), (3, .int v3), (1, .ref v1), (0, .ref 0)] [] t) = (fun (G3 : List Value → SM → OR) (G32 : List Value → SM → OR) (G157 : List Value → SM → OR) (G171 : List Value → SM → OR) (G34 : List Value → SM → OR) (G175 : List Value → SM → OR) (G166 : List Value → SM → OR) (j67 : SM → Nat → Int32 → Int32 → OR) (t : SM) (v1 : Nat) (v3 : Int32) (v4 : Int32) =>
  j67 t v1 v3 (v4 + 1)) := by rfl
theorem fx_tally_121_ok {r67 : SM → Nat → Int32 → Int32 → OR} (h_r67 : ∀ (t : SM) (v1 : Nat) (v3 : Int32) (v4 : Int32), r67 t v1 v3 v4 = some r → Body l 4 q_174 P_174 r 67 [(4, .int v4), (3, .int v3), (1, .ref v1), (0, .ref 0)] [] t) (t : SM) (v1 : Nat) (v3 : Int32) (v4 : Int32) (h : fx_tally_121 r67 t v1 v3 v4 = some r) : Body l 4 q_174 P_174 r 121 [(4, .int v4), (3, .int v3), (1, .ref v1), (0, .ref 0)] [] t :=
  blk ft_174 (by omega) rfl rows_174 (KDok.cons (KOK.f <| KOK.rf fun w1 => KOK.i fun w3 => KOK.i fun w4 => KOK.e (f := fun t => r67 t w1 w3 w4) fun t h => h_r67 t w1 w3 w4 h) (KDok.nil)) ((congrFun (congrFun (congrFun (congrFun (congrFun (congrFun (congrFun (congrFun (congrFun (congrFun (congrFun (congrFun (fx_tally_121_eq) F_3) F_32) F_157) F_171) F_34) F_175) F_166) (fun t u1 u3 u4 => r67 t u1 u3 u4)) t) v1) v3) v4).trans h)
theorem fx_tally_82_eq : (fun (G3 : List Value → SM → OR) (G32 : List Value → SM → OR) (G157 : List Value → SM → OR) (G171 : List Value → SM → OR) (G34 : List Value → SM → OR) (G175 : List Value → SM → OR) (G166 : List Value → SM → OR) (j82 : SM → Nat → Int32 → Int32 → Int32 → OR) (j121 : SM → Nat → Int32 → Int32 → OR) (t : SM) (v1 : Nat) (v3 : Int32) (v4 : Int32) (v5 : Int32) => ex clN P_174 none bytJ (mkCal rks ((3, G3) :: (32, G32) :: (157, G157) :: (171, G171) :: (34, G34) :: (175, G175) :: (166, G166) :: [])) [82, 121] (kDisp [(82, kF 0 0 <| kR 1 fun w1 => kI 3 fun w3 => kI 4 fun w4 => kI 5 fun w5 => kE fun t => j82 t w1 w3 w4 w5), (121, kF 0 0 <| kR 1 fun w1 => kI 3 fun w3 => kI 4 fun w4 => kE fun t => j121 t w1 w3 w4)]) 400 82 [(5, .int v5), (4, .int v4), (3, .int v3), (1, .ref v1), (0, .ref 0)] [] t) = (fun (G3 : List Value → SM → OR) (G32 : List Value → SM → OR) (G157 : List Value → SM → OR) (G171 : List Value → SM → OR) (G34 : List Value → SM → OR) (G175 : List Value → SM → OR) (G166 : List Value → SM → OR) (j82 : SM → Nat → Int32 → Int32 → Int32 → OR) (j121 : SM → Nat → Int32 → Int32 → OR) (t : SM) (v1 : Nat) (v3 : Int32) (v4 : Int32) (v5 : Int32) =>
  if v3 < v5 then j121 t v1 v3 v4
  else if ((v5 >>> (v4 &&& 31)) &&& 1) = 0 then bI (G166 [.ref v1, .int (v5 ||| ((1 : Int32) <<< (v4 &&& 31)))] t) fun numberAt2 t1 =>
  bV (G175 [.ref v1, .int v5, .int numberAt2] t1) fun t3 =>
  j82 t3 v1 v3 v4 (v5 + 1)
  else j82 t v1 v3 v4 (v5 + 1)) := by rfl
theorem fx_tally_82_ok {k121 : SM → Nat → Int32 → Int32 → OR} {r82 : SM → Nat → Int32 → Int32 → Int32 → OR} (h_k121 : ∀ (t : SM) (v1 : Nat) (v3 : Int32) (v4 : Int32), k121 t v1 v3 v4 = some r → Body l 4 q_174 P_174 r 121 [(4, .int v4), (3, .int v3), (1, .ref v1), (0, .ref 0)] [] t) (h_r82 : ∀ (t : SM) (v1 : Nat) (v3 : Int32) (v4 : Int32) (v5 : Int32), r82 t v1 v3 v4 v5 = some r → Body l 4 q_174 P_174 r 82 [(5, .int v5), (4, .int v4), (3, .int v3), (1, .ref v1), (0, .ref 0)] [] t) (t : SM) (v1 : Nat) (v3 : Int32) (v4 : Int32) (v5 : Int32) (h : fx_tally_82 k121 r82 t v1 v3 v4 v5 = some r) : Body l 4 q_174 P_174 r 82 [(5, .int v5), (4, .int v4), (3, .int v3), (1, .ref v1), (0, .ref 0)] [] t :=
  blk ft_174 (by omega) rfl rows_174 (KDok.cons (KOK.f <| KOK.rf fun w1 => KOK.i fun w3 => KOK.i fun w4 => KOK.i fun w5 => KOK.e (f := fun t => r82 t w1 w3 w4 w5) fun t h => h_r82 t w1 w3 w4 w5 h) (KDok.cons (KOK.f <| KOK.rf fun w1 => KOK.i fun w3 => KOK.i fun w4 => KOK.e (f := fun t => k121 t w1 w3 w4) fun t h => h_k121 t w1 w3 w4 h) (KDok.nil))) ((congrFun (congrFun (congrFun (congrFun (congrFun (congrFun (congrFun (congrFun (congrFun (congrFun (congrFun (congrFun (congrFun (congrFun (fx_tally_82_eq) F_3) F_32) F_157) F_171) F_34) F_175) F_166) (fun t u1 u3 u4 u5 => r82 t u1 u3 u4 u5)) (fun t u1 u3 u4 => k121 t u1 u3 u4)) t) v1) v3) v4) v5).trans h)
theorem fx_tally_l82_ok {k121 : SM → Nat → Int32 → Int32 → OR} (h_k121 : ∀ (t : SM) (v1 : Nat) (v3 : Int32) (v4 : Int32), k121 t v1 v3 v4 = some r → Body l 4 q_174 P_174 r 121 [(4, .int v4), (3, .int v3), (1, .ref v1), (0, .ref 0)] [] t) : ∀ (n : Nat) (t : SM) (v1 : Nat) (v3 : Int32) (v4 : Int32) (v5 : Int32), fx_tally_l82 k121 n t v1 v3 v4 v5 = some r → Body l 4 q_174 P_174 r 82 [(5, .int v5), (4, .int v4), (3, .int v3), (1, .ref v1), (0, .ref 0)] [] t
  | 0, _, _, _, _, _, h => by cases h
  | n + 1, t, v1, v3, v4, v5, h => fx_tally_82_ok h_k121 (fx_tally_l82_ok h_k121 n) t v1 v3 v4 v5 h
theorem fx_tally_67_eq : (fun (G3 : List Value → SM → OR) (G32 : List Value → SM → OR) (G157 : List Value → SM → OR) (G171 : List Value → SM → OR) (G34 : List Value → SM → OR) (G175 : List Value → SM → OR) (G166 : List Value → SM → OR) (j82 : SM → Nat → Int32 → Int32 → Int32 → OR) (t : SM) (v1 : Nat) (v3 : Int32) (v4 : Int32) => ex clN P_174 none bytJ (mkCal rks ((3, G3) :: (32, G32) :: (157, G157) :: (171, G171) :: (34, G34) :: (175, G175) :: (166, G166) :: [])) [82] (kDisp [(82, kF 0 0 <| kR 1 fun w1 => kI 3 fun w3 => kI 4 fun w4 => kI 5 fun w5 => kE fun t => j82 t w1 w3 w4 w5)]) 400 67 [(4, .int v4), (3, .int v3), (1, .ref v1), (0, .ref 0)] [] t) = (fun (G3 : List Value → SM → OR) (G32 : List Value → SM → OR) (G157 : List Value → SM → OR) (G171 : List Value → SM → OR) (G34 : List Value → SM → OR) (G175 : List Value → SM → OR) (G166 : List Value → SM → OR) (j82 : SM → Nat → Int32 → Int32 → Int32 → OR) (t : SM) (v1 : Nat) (v3 : Int32) (v4 : Int32) =>
  hGetC t 10 0 3 1 <|
  hGetI t 1 1 1 fun size1 =>
  if size1 ≤ v4 then rV t
  else j82 t v1 v3 v4 0) := by rfl
theorem fx_tally_67_ok {r67 : SM → Nat → Int32 → Int32 → OR} (h_r67 : ∀ (t : SM) (v1 : Nat) (v3 : Int32) (v4 : Int32), r67 t v1 v3 v4 = some r → Body l 4 q_174 P_174 r 67 [(4, .int v4), (3, .int v3), (1, .ref v1), (0, .ref 0)] [] t) (t : SM) (v1 : Nat) (v3 : Int32) (v4 : Int32) (h : fx_tally_67 r67 t v1 v3 v4 = some r) : Body l 4 q_174 P_174 r 67 [(4, .int v4), (3, .int v3), (1, .ref v1), (0, .ref 0)] [] t :=
  blk ft_174 (by omega) rfl rows_174 (KDok.cons (KOK.f <| KOK.rf fun w1 => KOK.i fun w3 => KOK.i fun w4 => KOK.i fun w5 => KOK.e (f := fun t => fx_tally_l82 (fun t u1 u3 u4 => fx_tally_121 r67 t u1 u3 u4) 1000000 t w1 w3 w4 w5) fun t h => fx_tally_l82_ok (k121 := fun t u1 u3 u4 => fx_tally_121 r67 t u1 u3 u4) (fun t u1 u3 u4 h => fx_tally_121_ok h_r67 t u1 u3 u4 h) 1000000 t w1 w3 w4 w5 h) (KDok.nil)) ((congrFun (congrFun (congrFun (congrFun (congrFun (congrFun (congrFun (congrFun (congrFun (congrFun (congrFun (congrFun (fx_tally_67_eq) F_3) F_32) F_157) F_171) F_34) F_175) F_166) (fun t u1 u3 u4 u5 => fx_tally_l82 (fun t u1 u3 u4 => fx_tally_121 r67 t u1 u3 u4) 1000000 t u1 u3 u4 u5)) t) v1) v3) v4).trans h)
theorem fx_tally_l67_ok : ∀ (n : Nat) (t : SM) (v1 : Nat) (v3 : Int32) (v4 : Int32), fx_tally_l67 n t v1 v3 v4 = some r → Body l 4 q_174 P_174 r 67 [(4, .int v4), (3, .int v3), (1, .ref v1), (0, .ref 0)] [] t
  | 0, _, _, _, _, h => by cases h
  | n + 1, t, v1, v3, v4, h => fx_tally_67_ok (fx_tally_l67_ok n) t v1 v3 v4 h
theorem fx_tally_64_eq : (fun (G3 : List Value → SM → OR) (G32 : List Value → SM → OR) (G157 : List Value → SM → OR) (G171 : List Value → SM → OR) (G34 : List Value → SM → OR) (G175 : List Value → SM → OR) (G166 : List Value → SM → OR) (j67 : SM → Nat → Int32 → Int32 → OR) (t : SM) (v1 : Nat) (v3 : Int32) => ex clN P_174 none bytJ (mkCal rks ((3, G3) :: (32, G32) :: (157, G157) :: (171, G171) :: (34, G34) :: (175, G175) :: (166, G166) :: [])) [67] (kDisp [(67, kF 0 0 <| kR 1 fun w1 => kI 3 fun w3 => kI 4 fun w4 => kE fun t => j67 t w1 w3 w4)]) 400 64 [(3, .int v3), (1, .ref v1), (0, .ref 0)] [] t) = (fun (G3 : List Value → SM → OR) (G32 : List Value → SM → OR) (G157 : List Value → SM → OR) (G171 : List Value → SM → OR) (G34 : List Value → SM → OR) (G175 : List Value → SM → OR) (G166 : List Value → SM → OR) (j67 : SM → Nat → Int32 → Int32 → OR) (t : SM) (v1 : Nat) (v3 : Int32) =>
  j67 t v1 v3 0) := by rfl
theorem fx_tally_64_ok (t : SM) (v1 : Nat) (v3 : Int32) (h : fx_tally_64 t v1 v3 = some r) : Body l 4 q_174 P_174 r 64 [(3, .int v3), (1, .ref v1), (0, .ref 0)] [] t :=
  blk ft_174 (by omega) rfl rows_174 (KDok.cons (KOK.f <| KOK.rf fun w1 => KOK.i fun w3 => KOK.i fun w4 => KOK.e (f := fun t => fx_tally_l67 1000000 t w1 w3 w4) fun t h => fx_tally_l67_ok 1000000 t w1 w3 w4 h) (KDok.nil)) ((congrFun (congrFun (congrFun (congrFun (congrFun (congrFun (congrFun (congrFun (congrFun (congrFun (congrFun (fx_tally_64_eq) F_3) F_32) F_157) F_171) F_34) F_175) F_166) (fun t u1 u3 u4 => fx_tally_l67 1000000 t u1 u3 u4)) t) v1) v3).trans h)
theorem fx_tally_16_eq : (fun (G3 : List Value → SM → OR) (G32 : List Value → SM → OR) (G157 : List Value → SM → OR) (G171 : List Value → SM → OR) (G34 : List Value → SM → OR) (G175 : List Value → SM → OR) (G166 : List Value → SM → OR) (j16 : SM → Nat → Int32 → Int32 → Int32 → OR) (j64 : SM → Nat → Int32 → OR) (t : SM) (v1 : Nat) (v2 : Int32) (v3 : Int32) (v4 : Int32) => ex clN P_174 none bytJ (mkCal rks ((3, G3) :: (32, G32) :: (157, G157) :: (171, G171) :: (34, G34) :: (175, G175) :: (166, G166) :: [])) [16, 64] (kDisp [(16, kF 0 0 <| kR 1 fun w1 => kI 2 fun w2 => kI 3 fun w3 => kI 4 fun w4 => kE fun t => j16 t w1 w2 w3 w4), (64, kF 0 0 <| kR 1 fun w1 => kI 3 fun w3 => kE fun t => j64 t w1 w3)]) 400 16 [(4, .int v4), (3, .int v3), (2, .int v2), (1, .ref v1), (0, .ref 0)] [] t) = (fun (G3 : List Value → SM → OR) (G32 : List Value → SM → OR) (G157 : List Value → SM → OR) (G171 : List Value → SM → OR) (G34 : List Value → SM → OR) (G175 : List Value → SM → OR) (G166 : List Value → SM → OR) (j16 : SM → Nat → Int32 → Int32 → Int32 → OR) (j64 : SM → Nat → Int32 → OR) (t : SM) (v1 : Nat) (v2 : Int32) (v3 : Int32) (v4 : Int32) =>
  hRecv t 10 0 <| bI (G157 [.ref 0] t) fun everyChoice2 t1 =>
  if everyChoice2 < v4 then j64 t1 v1 v3
  else if (v4 &&& v2) = v2 then hRecv t1 10 0 <| bI (G171 [.ref 0, .int v4] t1) fun mayBeRight4 t3 =>
  if mayBeRight4 = 0 then j16 t3 v1 v2 v3 (v4 + 1)
  else hGetC t3 10 0 3 1 <|
  hRecv t3 1 1 <| bI (G34 [.ref 1, .int v4] t3) fun agreeingWith6 t5 =>
  bV (G175 [.ref v1, .int (agreeingWith6 &&& v3), .int 1] t5) fun t7 =>
  j16 t7 v1 v2 v3 (v4 + 1)
  else j16 t1 v1 v2 v3 (v4 + 1)) := by rfl
theorem fx_tally_16_ok {k64 : SM → Nat → Int32 → OR} {r16 : SM → Nat → Int32 → Int32 → Int32 → OR} (h_k64 : ∀ (t : SM) (v1 : Nat) (v3 : Int32), k64 t v1 v3 = some r → Body l 4 q_174 P_174 r 64 [(3, .int v3), (1, .ref v1), (0, .ref 0)] [] t) (h_r16 : ∀ (t : SM) (v1 : Nat) (v2 : Int32) (v3 : Int32) (v4 : Int32), r16 t v1 v2 v3 v4 = some r → Body l 4 q_174 P_174 r 16 [(4, .int v4), (3, .int v3), (2, .int v2), (1, .ref v1), (0, .ref 0)] [] t) (t : SM) (v1 : Nat) (v2 : Int32) (v3 : Int32) (v4 : Int32) (h : fx_tally_16 k64 r16 t v1 v2 v3 v4 = some r) : Body l 4 q_174 P_174 r 16 [(4, .int v4), (3, .int v3), (2, .int v2), (1, .ref v1), (0, .ref 0)] [] t :=
  blk ft_174 (by omega) rfl rows_174 (KDok.cons (KOK.f <| KOK.rf fun w1 => KOK.i fun w2 => KOK.i fun w3 => KOK.i fun w4 => KOK.e (f := fun t => r16 t w1 w2 w3 w4) fun t h => h_r16 t w1 w2 w3 w4 h) (KDok.cons (KOK.f <| KOK.rf fun w1 => KOK.i fun w3 => KOK.e (f := fun t => k64 t w1 w3) fun t h => h_k64 t w1 w3 h) (KDok.nil))) ((congrFun (congrFun (congrFun (congrFun (congrFun (congrFun (congrFun (congrFun (congrFun (congrFun (congrFun (congrFun (congrFun (congrFun (fx_tally_16_eq) F_3) F_32) F_157) F_171) F_34) F_175) F_166) (fun t u1 u2 u3 u4 => r16 t u1 u2 u3 u4)) (fun t u1 u3 => k64 t u1 u3)) t) v1) v2) v3) v4).trans h)
theorem fx_tally_l16_ok {k64 : SM → Nat → Int32 → OR} (h_k64 : ∀ (t : SM) (v1 : Nat) (v3 : Int32), k64 t v1 v3 = some r → Body l 4 q_174 P_174 r 64 [(3, .int v3), (1, .ref v1), (0, .ref 0)] [] t) : ∀ (n : Nat) (t : SM) (v1 : Nat) (v2 : Int32) (v3 : Int32) (v4 : Int32), fx_tally_l16 k64 n t v1 v2 v3 v4 = some r → Body l 4 q_174 P_174 r 16 [(4, .int v4), (3, .int v3), (2, .int v2), (1, .ref v1), (0, .ref 0)] [] t
  | 0, _, _, _, _, _, h => by cases h
  | n + 1, t, v1, v2, v3, v4, h => fx_tally_16_ok h_k64 (fx_tally_l16_ok h_k64 n) t v1 v2 v3 v4 h
theorem fx_tally_eq : (fun (G3 : List Value → SM → OR) (G32 : List Value → SM → OR) (G157 : List Value → SM → OR) (G171 : List Value → SM → OR) (G34 : List Value → SM → OR) (G175 : List Value → SM → OR) (G166 : List Value → SM → OR) (j16 : SM → Nat → Int32 → Int32 → Int32 → OR) (t : SM) (a : Nat) (b : Int32) => ex clN P_174 none bytJ (mkCal rks ((3, G3) :: (32, G32) :: (157, G157) :: (171, G171) :: (34, G34) :: (175, G175) :: (166, G166) :: [])) [16] (kDisp [(16, kF 0 0 <| kR 1 fun w1 => kI 2 fun w2 => kI 3 fun w3 => kI 4 fun w4 => kE fun t => j16 t w1 w2 w3 w4)]) 400 0 [(0, .ref 0), (1, .ref a), (2, .int b)] [] t) = (fun (G3 : List Value → SM → OR) (G32 : List Value → SM → OR) (G157 : List Value → SM → OR) (G171 : List Value → SM → OR) (G34 : List Value → SM → OR) (G175 : List Value → SM → OR) (G166 : List Value → SM → OR) (j16 : SM → Nat → Int32 → Int32 → Int32 → OR) (t : SM) (a : Nat) (b : Int32) =>
  bV (G3 [.ref a, .int 0] t) fun t1 =>
  hGetC t1 10 0 3 1 <|
  hRecv t1 1 1 <| bI (G32 [.ref 1] t1) fun everyMap3 t2 =>
  j16 t2 a b everyMap3 0) := by rfl
theorem fx_tally_ok (t : SM) (a : Nat) (b : Int32) (h : fx_tally t a b = some r) : Body l 4 q_174 P_174 r 0 [(0, .ref 0), (1, .ref a), (2, .int b)] [] t :=
  blk ft_174 (by omega) rfl rows_174 (KDok.cons (KOK.f <| KOK.rf fun w1 => KOK.i fun w2 => KOK.i fun w3 => KOK.i fun w4 => KOK.e (f := fun t => fx_tally_l16 (fun t u1 u3 => fx_tally_64 t u1 u3) 1000000 t w1 w2 w3 w4) fun t h => fx_tally_l16_ok (k64 := fun t u1 u3 => fx_tally_64 t u1 u3) (fun t u1 u3 h => fx_tally_64_ok t u1 u3 h) 1000000 t w1 w2 w3 w4 h) (KDok.nil)) ((congrFun (congrFun (congrFun (congrFun (congrFun (congrFun (congrFun (congrFun (congrFun (congrFun (congrFun (fx_tally_eq) F_3) F_32) F_157) F_171) F_34) F_175) F_166) (fun t u1 u2 u3 u4 => fx_tally_l16 (fun t u1 u3 => fx_tally_64 t u1 u3) 1000000 t u1 u2 u3 u4)) t) a) b).trans h)
theorem ok_174 (l : Launch) : Fok l 4 mtab 174 (F_174) := by
  intro as t r h
  unfold F_174 at h
  split at h
  · rename_i z0 a b
    split at h
    · rename_i hz0
      obtain rfl := Nat.eq_of_beq_eq_true hz0
      exact ⟨q_174, rfl, mok_174, con_of (P := P_174) (by decide +kernel) rfl (Nat.le_of_ble_eq_true rfl) (fx_tally_ok t a b h)⟩
    · cases h
  · cases h
end
section
set_option maxRecDepth 100000
variable {l : Launch} {r : RR}
def FT_176 : FT := (32, F_32) :: (0, F_0) :: []
theorem ft_176 : FTok l 2 mtab FT_176 := FTok.cons (ok_32 l) (by omega) (FTok.cons (ok_0 l) (by omega) (FTok.nil))
theorem fx_fewestWanted_4_eq : (fun (G32 : List Value → SM → OR) (G0 : List Value → SM → OR) (j4 : SM → Int32 → Int32 → OR) (t : SM) (v1 : Int32) (v2 : Int32) => ex clN P_176 none bytJ (mkCal rks ((32, G32) :: (0, G0) :: [])) [4] (kDisp [(4, kF 0 0 <| kI 1 fun w1 => kI 2 fun w2 => kE fun t => j4 t w1 w2)]) 400 4 [(2, .int v2), (1, .int v1), (0, .ref 0)] [] t) = (fun (G32 : List Value → SM → OR) (G0 : List Value → SM → OR) (j4 : SM → Int32 → Int32 → OR) (t : SM) (v1 : Int32) (v2 : Int32) =>
  hGetC t 10 0 3 1 <|
  hRecv t 1 1 <| bI (G32 [.ref 1] t) fun everyMap2 t1 =>
  if everyMap2 < v2 then rI v1 t1
  else hGetC t1 10 0 16 21 <|
  hALen t1 21 fun n3 =>
  if n3 ≤ v2 then rI v1 t1
  else hGetC t1 10 0 16 21 <|
  hBLd t1 21 v2 fun e4 =>
  if e4 = 0 then j4 t1 v1 (v2 + 1)
  else if v1 < 0 then j4 t1 v2 (v2 + 1)
  else bI (G0 [.int v2] t1) fun bitCount6 t5 =>
  bI (G0 [.int v1] t5) fun bitCount8 t7 =>
  if bitCount8 ≤ bitCount6 then j4 t7 v1 (v2 + 1)
  else j4 t7 v2 (v2 + 1)) := by rfl
theorem fx_fewestWanted_4_ok {r4 : SM → Int32 → Int32 → OR} (h_r4 : ∀ (t : SM) (v1 : Int32) (v2 : Int32), r4 t v1 v2 = some r → Body l 2 q_176 P_176 r 4 [(2, .int v2), (1, .int v1), (0, .ref 0)] [] t) (t : SM) (v1 : Int32) (v2 : Int32) (h : fx_fewestWanted_4 r4 t v1 v2 = some r) : Body l 2 q_176 P_176 r 4 [(2, .int v2), (1, .int v1), (0, .ref 0)] [] t :=
  blk ft_176 (by omega) rfl rows_176 (KDok.cons (KOK.f <| KOK.i fun w1 => KOK.i fun w2 => KOK.e (f := fun t => r4 t w1 w2) fun t h => h_r4 t w1 w2 h) (KDok.nil)) ((congrFun (congrFun (congrFun (congrFun (congrFun (congrFun (fx_fewestWanted_4_eq) F_32) F_0) (fun t u1 u2 => r4 t u1 u2)) t) v1) v2).trans h)
theorem fx_fewestWanted_l4_ok : ∀ (n : Nat) (t : SM) (v1 : Int32) (v2 : Int32), fx_fewestWanted_l4 n t v1 v2 = some r → Body l 2 q_176 P_176 r 4 [(2, .int v2), (1, .int v1), (0, .ref 0)] [] t
  | 0, _, _, _, h => by cases h
  | n + 1, t, v1, v2, h => fx_fewestWanted_4_ok (fx_fewestWanted_l4_ok n) t v1 v2 h
theorem fx_fewestWanted_eq : (fun (G32 : List Value → SM → OR) (G0 : List Value → SM → OR) (j4 : SM → Int32 → Int32 → OR) (t : SM) => ex clN P_176 none bytJ (mkCal rks ((32, G32) :: (0, G0) :: [])) [4] (kDisp [(4, kF 0 0 <| kI 1 fun w1 => kI 2 fun w2 => kE fun t => j4 t w1 w2)]) 400 0 [(0, .ref 0)] [] t) = (fun (G32 : List Value → SM → OR) (G0 : List Value → SM → OR) (j4 : SM → Int32 → Int32 → OR) (t : SM) =>
  j4 t (-1) 0) := by rfl
theorem fx_fewestWanted_ok (t : SM) (h : fx_fewestWanted t = some r) : Body l 2 q_176 P_176 r 0 [(0, .ref 0)] [] t :=
  blk ft_176 (by omega) rfl rows_176 (KDok.cons (KOK.f <| KOK.i fun w1 => KOK.i fun w2 => KOK.e (f := fun t => fx_fewestWanted_l4 1000000 t w1 w2) fun t h => fx_fewestWanted_l4_ok 1000000 t w1 w2 h) (KDok.nil)) ((congrFun (congrFun (congrFun (congrFun (fx_fewestWanted_eq) F_32) F_0) (fun t u1 u2 => fx_fewestWanted_l4 1000000 t u1 u2)) t).trans h)
theorem ok_176 (l : Launch) : Fok l 2 mtab 176 (F_176) := by
  intro as t r h
  unfold F_176 at h
  split at h
  · rename_i z0
    split at h
    · rename_i hz0
      obtain rfl := Nat.eq_of_beq_eq_true hz0
      exact ⟨q_176, rfl, mok_176, con_of (P := P_176) (by decide +kernel) rfl (Nat.le_of_ble_eq_true rfl) (fx_fewestWanted_ok t h)⟩
    · cases h
  · cases h
end
section
set_option maxRecDepth 100000
variable {l : Launch} {r : RR}
def FT_123 : FT := (174, F_174) :: (176, F_176) :: []
theorem ft_123 : FTok l 5 mtab FT_123 := FTok.cons (ok_174 l) (by omega) (FTok.cons (ok_176 l) (by omega) (FTok.nil))
theorem fx_none_44_eq : (fun (G174 : List Value → SM → OR) (G176 : List Value → SM → OR) (t : SM) => ex clN P_123 none bytJ (mkCal rks ((174, G174) :: (176, G176) :: [])) [] (kDisp []) 400 44 [(0, .ref 0)] [] t) = (fun (G174 : List Value → SM → OR) (G176 : List Value → SM → OR) (t : SM) =>
  hRecv t 10 0 <| bI (G176 [.ref 0] t) fun fewestWanted2 t1 =>
  rI fewestWanted2 t1) := by rfl
theorem fx_none_44_ok (t : SM) (h : fx_none_44 t = some r) : Body l 5 q_123 P_123 r 44 [(0, .ref 0)] [] t :=
  blk ft_123 (by omega) rfl rows_123 (KDok.nil) ((congrFun (congrFun (congrFun (fx_none_44_eq) F_174) F_176) t).trans h)
theorem fx_none_11_eq : (fun (G174 : List Value → SM → OR) (G176 : List Value → SM → OR) (j11 : SM → Int32 → OR) (j44 : SM → OR) (t : SM) (v1 : Int32) => ex clN P_123 none bytJ (mkCal rks ((174, G174) :: (176, G176) :: [])) [11, 44] (kDisp [(11, kF 0 0 <| kI 1 fun w1 => kE fun t => j11 t w1), (44, kF 0 0 <| kE fun t => j44 t)]) 400 11 [(1, .int v1), (0, .ref 0)] [] t) = (fun (G174 : List Value → SM → OR) (G176 : List Value → SM → OR) (j11 : SM → Int32 → OR) (j44 : SM → OR) (t : SM) (v1 : Int32) =>
  if 256 ≤ v1 then j44 t
  else hGetC t 10 0 16 21 <|
  hGetC t 10 0 14 19 <|
  hALd t 19 v1 fun e1 =>
  if e1 = 0 then hBSt t 21 v1 1 fun t3 =>
  j11 t3 (v1 + 1)
  else hBSt t 21 v1 0 fun t2 =>
    j11 t2 (v1 + 1)) := by rfl
theorem fx_none_11_ok {k44 : SM → OR} {r11 : SM → Int32 → OR} (h_k44 : ∀ (t : SM), k44 t = some r → Body l 5 q_123 P_123 r 44 [(0, .ref 0)] [] t) (h_r11 : ∀ (t : SM) (v1 : Int32), r11 t v1 = some r → Body l 5 q_123 P_123 r 11 [(1, .int v1), (0, .ref 0)] [] t) (t : SM) (v1 : Int32) (h : fx_none_11 k44 r11 t v1 = some r) : Body l 5 q_123 P_123 r 11 [(1, .int v1), (0, .ref 0)] [] t :=
  blk ft_123 (by omega) rfl rows_123 (KDok.cons (KOK.f <| KOK.i fun w1 => KOK.e (f := fun t => r11 t w1) fun t h => h_r11 t w1 h) (KDok.cons (KOK.f <| KOK.e (f := fun t => k44 t) fun t h => h_k44 t h) (KDok.nil))) ((congrFun (congrFun (congrFun (congrFun (congrFun (congrFun (fx_none_11_eq) F_174) F_176) (fun t u1 => r11 t u1)) (fun t => k44 t)) t) v1).trans h)
theorem fx_none_l11_ok {k44 : SM → OR} (h_k44 : ∀ (t : SM), k44 t = some r → Body l 5 q_123 P_123 r 44 [(0, .ref 0)] [] t) : ∀ (n : Nat) (t : SM) (v1 : Int32), fx_none_l11 k44 n t v1 = some r → Body l 5 q_123 P_123 r 11 [(1, .int v1), (0, .ref 0)] [] t
  | 0, _, _, h => by cases h
  | n + 1, t, v1, h => fx_none_11_ok h_k44 (fx_none_l11_ok h_k44 n) t v1 h
theorem fx_none_eq : (fun (G174 : List Value → SM → OR) (G176 : List Value → SM → OR) (j11 : SM → Int32 → OR) (t : SM) => ex clN P_123 none bytJ (mkCal rks ((174, G174) :: (176, G176) :: [])) [11] (kDisp [(11, kF 0 0 <| kI 1 fun w1 => kE fun t => j11 t w1)]) 400 0 [(0, .ref 0)] [] t) = (fun (G174 : List Value → SM → OR) (G176 : List Value → SM → OR) (j11 : SM → Int32 → OR) (t : SM) =>
  hGetC t 10 0 14 19 <|
  hRecv t 10 0 <| bV (G174 [.ref 0, .ref 19, .int 0] t) fun t1 =>
  j11 t1 0) := by rfl
theorem fx_none_ok (t : SM) (h : fx_none t = some r) : Body l 5 q_123 P_123 r 0 [(0, .ref 0)] [] t :=
  blk ft_123 (by omega) rfl rows_123 (KDok.cons (KOK.f <| KOK.i fun w1 => KOK.e (f := fun t => fx_none_l11 (fun t => fx_none_44 t) 1000000 t w1) fun t h => fx_none_l11_ok (k44 := fun t => fx_none_44 t) (fun t h => fx_none_44_ok t h) 1000000 t w1 h) (KDok.nil)) ((congrFun (congrFun (congrFun (congrFun (fx_none_eq) F_174) F_176) (fun t u1 => fx_none_l11 (fun t => fx_none_44 t) 1000000 t u1)) t).trans h)
theorem ok_123 (l : Launch) : Fok l 5 mtab 123 (F_123) := by
  intro as t r h
  unfold F_123 at h
  split at h
  · rename_i z0
    split at h
    · rename_i hz0
      obtain rfl := Nat.eq_of_beq_eq_true hz0
      exact ⟨q_123, rfl, mok_123, con_of (P := P_123) (by decide +kernel) rfl (Nat.le_of_ble_eq_true rfl) (fx_none_ok t h)⟩
    · cases h
  · cases h
end
section
set_option maxRecDepth 100000
variable {l : Launch} {r : RR}
def FT_124 : FT := (155, F_155) :: (171, F_171) :: (32, F_32) :: (34, F_34) :: (164, F_164) :: []
theorem ft_124 : FTok l 4 mtab FT_124 := FTok.cons (ok_155 l) (by omega) (FTok.cons (ok_171 l) (by omega) (FTok.cons (ok_32 l) (by omega) (FTok.cons (ok_34 l) (by omega) (FTok.cons (ok_164 l) (by omega) (FTok.nil)))))
theorem fx_judge_eq : (fun (G155 : List Value → SM → OR) (G171 : List Value → SM → OR) (G32 : List Value → SM → OR) (G34 : List Value → SM → OR) (G164 : List Value → SM → OR) (t : SM) (a : Int32) => ex clN P_124 none bytJ (mkCal rks ((155, G155) :: (171, G171) :: (32, G32) :: (34, G34) :: (164, G164) :: [])) [] (kDisp []) 400 0 [(0, .ref 0), (1, .int a)] [] t) = (fun (G155 : List Value → SM → OR) (G171 : List Value → SM → OR) (G32 : List Value → SM → OR) (G34 : List Value → SM → OR) (G164 : List Value → SM → OR) (t : SM) (a : Int32) =>
  hRecv t 10 0 <| bI (G155 [.ref 0, .int a] t) fun isTown2 t1 =>
  if isTown2 = 0 then rI (-2) t1
  else hRecv t1 10 0 <| bI (G171 [.ref 0, .int a] t1) fun mayBeRight4 t3 =>
    if mayBeRight4 = 0 then rI 99 t3
    else hGetC t3 10 0 3 1 <|
      hRecv t3 1 1 <| bI (G32 [.ref 1] t3) fun everyMap6 t5 =>
      hGetC t5 10 0 3 1 <|
      hRecv t5 1 1 <| bI (G34 [.ref 1, .int a] t5) fun agreeingWith8 t7 =>
      bI (G164 [.int (everyMap6 &&& (agreeingWith8 ^^^ (-1)))] t7) fun firstOf10 t9 =>
      rI firstOf10 t9) := by rfl
theorem fx_judge_ok (t : SM) (a : Int32) (h : fx_judge t a = some r) : Body l 4 q_124 P_124 r 0 [(0, .ref 0), (1, .int a)] [] t :=
  blk ft_124 (by omega) rfl rows_124 (KDok.nil) ((congrFun (congrFun (congrFun (congrFun (congrFun (congrFun (congrFun (fx_judge_eq) F_155) F_171) F_32) F_34) F_164) t) a).trans h)
theorem ok_124 (l : Launch) : Fok l 4 mtab 124 (F_124) := by
  intro as t r h
  unfold F_124 at h
  split at h
  · rename_i z0 a
    split at h
    · rename_i hz0
      obtain rfl := Nat.eq_of_beq_eq_true hz0
      exact ⟨q_124, rfl, mok_124, con_of (P := P_124) (by decide +kernel) rfl (Nat.le_of_ble_eq_true rfl) (fx_judge_ok t a h)⟩
    · cases h
  · cases h
end
section
set_option maxRecDepth 100000
variable {l : Launch} {r : RR}
def FT_158 : FT := []
theorem ft_158 : FTok l 1 mtab FT_158 := FTok.nil
theorem fx_isPlace_eq : (fun (t : SM) (a : Int32) => ex clN P_158 none bytJ (mkCal rks ([])) [] (kDisp []) 400 0 [(0, .int a)] [] t) = (fun (t : SM) (a : Int32) =>
  if a < 0 then rI 0 t
  else if 6 ≤ a then rI 0 t
  else rI 1 t) := by rfl
theorem fx_isPlace_ok (t : SM) (a : Int32) (h : fx_isPlace t a = some r) : Body l 1 q_158 P_158 r 0 [(0, .int a)] [] t :=
  blk ft_158 (by omega) rfl rows_158 (KDok.nil) ((congrFun (congrFun (fx_isPlace_eq) t) a).trans h)
theorem ok_158 (l : Launch) : Fok l 1 mtab 158 (F_158) := by
  intro as t r h
  unfold F_158 at h
  split at h
  · rename_i a
    exact ⟨q_158, rfl, mok_158, con_of (P := P_158) (by decide +kernel) rfl (Nat.le_of_ble_eq_true rfl) (fx_isPlace_ok t a h)⟩
  · cases h
end
section
set_option maxRecDepth 100000
variable {l : Launch} {r : RR}
def FT_125 : FT := (158, F_158) :: (156, F_156) :: (81, F_81) :: []
theorem ft_125 : FTok l 3 mtab FT_125 := FTok.cons (ok_158 l) (by omega) (FTok.cons (ok_156 l) (by omega) (FTok.cons (ok_81 l) (by omega) (FTok.nil)))
theorem fx_street_35_eq : (fun (G158 : List Value → SM → OR) (G156 : List Value → SM → OR) (G81 : List Value → SM → OR) (t : SM) (v1 : Int32) (v2 : Int32) (v3 : Int32) (v4 : Int32) => ex clN P_125 none bytJ (mkCal rks ((158, G158) :: (156, G156) :: (81, G81) :: [])) [] (kDisp []) 400 35 [(4, .int v4), (3, .int v3), (2, .int v2), (1, .int v1), (0, .ref 0)] [] t) = (fun (G158 : List Value → SM → OR) (G156 : List Value → SM → OR) (G81 : List Value → SM → OR) (t : SM) (v1 : Int32) (v2 : Int32) (v3 : Int32) (v4 : Int32) =>
  if v4 < 1 then rI (-2) t
  else if v4 ≤ 99 then hGetC t 10 0 4 5 <|
    hRecv t 7 5 <| bI (G81 [.ref 5, .int v1, .int v2, .int v3, .int v4] t) fun add2 t1 =>
    rI add2 t1
  else rI (-2) t) := by rfl
theorem fx_street_35_ok (t : SM) (v1 : Int32) (v2 : Int32) (v3 : Int32) (v4 : Int32) (h : fx_street_35 t v1 v2 v3 v4 = some r) : Body l 3 q_125 P_125 r 35 [(4, .int v4), (3, .int v3), (2, .int v2), (1, .int v1), (0, .ref 0)] [] t :=
  blk ft_125 (by omega) rfl rows_125 (KDok.nil) ((congrFun (congrFun (congrFun (congrFun (congrFun (congrFun (congrFun (congrFun (fx_street_35_eq) F_158) F_156) F_81) t) v1) v2) v3) v4).trans h)
theorem fx_street_eq : (fun (G158 : List Value → SM → OR) (G156 : List Value → SM → OR) (G81 : List Value → SM → OR) (j35 : SM → Int32 → Int32 → Int32 → Int32 → OR) (t : SM) (a : Int32) (b : Int32) (c : Int32) (d : Int32) => ex clN P_125 none bytJ (mkCal rks ((158, G158) :: (156, G156) :: (81, G81) :: [])) [35] (kDisp [(35, kF 0 0 <| kI 1 fun w1 => kI 2 fun w2 => kI 3 fun w3 => kI 4 fun w4 => kE fun t => j35 t w1 w2 w3 w4)]) 400 0 [(0, .ref 0), (1, .int a), (2, .int b), (3, .int c), (4, .int d)] [] t) = (fun (G158 : List Value → SM → OR) (G156 : List Value → SM → OR) (G81 : List Value → SM → OR) (j35 : SM → Int32 → Int32 → Int32 → Int32 → OR) (t : SM) (a : Int32) (b : Int32) (c : Int32) (d : Int32) =>
  bI (G158 [.int a] t) fun isPlace2 t1 =>
  if isPlace2 = 0 then rI (-2) t1
  else bI (G158 [.int b] t1) fun isPlace4 t3 =>
  if isPlace4 = 0 then rI (-2) t3
  else if a = b then rI (-2) t3
  else if c = (-1) then j35 t3 a b c d
    else hRecv t3 10 0 <| bI (G156 [.ref 0, .int c] t3) fun isChoice6 t5 =>
    if isChoice6 = 0 then rI (-2) t5
    else j35 t5 a b c d) := by rfl
theorem fx_street_ok (t : SM) (a : Int32) (b : Int32) (c : Int32) (d : Int32) (h : fx_street t a b c d = some r) : Body l 3 q_125 P_125 r 0 [(0, .ref 0), (1, .int a), (2, .int b), (3, .int c), (4, .int d)] [] t :=
  blk ft_125 (by omega) rfl rows_125 (KDok.cons (KOK.f <| KOK.i fun w1 => KOK.i fun w2 => KOK.i fun w3 => KOK.i fun w4 => KOK.e (f := fun t => fx_street_35 t w1 w2 w3 w4) fun t h => fx_street_35_ok t w1 w2 w3 w4 h) (KDok.nil)) ((congrFun (congrFun (congrFun (congrFun (congrFun (congrFun (congrFun (congrFun (congrFun (fx_street_eq) F_158) F_156) F_81) (fun t u1 u2 u3 u4 => fx_street_35 t u1 u2 u3 u4)) t) a) b) c) d).trans h)
theorem ok_125 (l : Launch) : Fok l 3 mtab 125 (F_125) := by
  intro as t r h
  unfold F_125 at h
  split at h
  · rename_i z0 a b c d
    split at h
    · rename_i hz0
      obtain rfl := Nat.eq_of_beq_eq_true hz0
      exact ⟨q_125, rfl, mok_125, con_of (P := P_125) (by decide +kernel) rfl (Nat.le_of_ble_eq_true rfl) (fx_street_ok t a b c d h)⟩
    · cases h
  · cases h
end
section
set_option maxRecDepth 100000
variable {l : Launch} {r : RR}
def FT_159 : FT := (160, F_160) :: (158, F_158) :: (161, F_161) :: []
theorem ft_159 : FTok l 2 mtab FT_159 := FTok.cons (ok_160 l) (by omega) (FTok.cons (ok_158 l) (by omega) (FTok.cons (ok_161 l) (by omega) (FTok.nil)))
theorem fx_isTwo_eq : (fun (G160 : List Value → SM → OR) (G158 : List Value → SM → OR) (G161 : List Value → SM → OR) (t : SM) (a : Int32) => ex clN P_159 none bytJ (mkCal rks ((160, G160) :: (158, G158) :: (161, G161) :: [])) [] (kDisp []) 400 0 [(0, .int a)] [] t) = (fun (G160 : List Value → SM → OR) (G158 : List Value → SM → OR) (G161 : List Value → SM → OR) (t : SM) (a : Int32) =>
  if a < 0 then rI 0 t
  else bI (G160 [.int a] t) fun startOf2 t1 =>
  bI (G158 [.int startOf2] t1) fun isPlace4 t3 =>
  if isPlace4 = 0 then rI 0 t3
  else bI (G161 [.int a] t3) fun goalOf6 t5 =>
  bI (G158 [.int goalOf6] t5) fun isPlace8 t7 =>
  if isPlace8 = 0 then rI 0 t7
  else rI 1 t7) := by rfl
theorem fx_isTwo_ok (t : SM) (a : Int32) (h : fx_isTwo t a = some r) : Body l 2 q_159 P_159 r 0 [(0, .int a)] [] t :=
  blk ft_159 (by omega) rfl rows_159 (KDok.nil) ((congrFun (congrFun (congrFun (congrFun (congrFun (fx_isTwo_eq) F_160) F_158) F_161) t) a).trans h)
theorem ok_159 (l : Launch) : Fok l 2 mtab 159 (F_159) := by
  intro as t r h
  unfold F_159 at h
  split at h
  · rename_i a
    exact ⟨q_159, rfl, mok_159, con_of (P := P_159) (by decide +kernel) rfl (Nat.le_of_ble_eq_true rfl) (fx_isTwo_ok t a h)⟩
  · cases h
end
section
set_option maxRecDepth 100000
variable {l : Launch} {r : RR}
def FT_126 : FT := (159, F_159) :: (155, F_155) :: (82, F_82) :: (84, F_84) :: []
theorem ft_126 : FTok l 5 mtab FT_126 := FTok.cons (ok_159 l) (by omega) (FTok.cons (ok_155 l) (by omega) (FTok.cons (ok_82 l) (by omega) (FTok.cons (ok_84 l) (by omega) (FTok.nil))))
theorem fx_way_eq : (fun (G159 : List Value → SM → OR) (G155 : List Value → SM → OR) (G82 : List Value → SM → OR) (G84 : List Value → SM → OR) (t : SM) (a : Int32) (b : Int32) => ex clN P_126 none bytJ (mkCal rks ((159, G159) :: (155, G155) :: (82, G82) :: (84, G84) :: [])) [] (kDisp []) 400 0 [(0, .ref 0), (1, .int a), (2, .int b)] [] t) = (fun (G159 : List Value → SM → OR) (G155 : List Value → SM → OR) (G82 : List Value → SM → OR) (G84 : List Value → SM → OR) (t : SM) (a : Int32) (b : Int32) =>
  bI (G159 [.int a] t) fun isTwo2 t1 =>
  if isTwo2 = 0 then rI (-5) t1
  else hRecv t1 10 0 <| bI (G155 [.ref 0, .int b] t1) fun isTown4 t3 =>
    if isTown4 = 0 then rI (-7) t3
    else hGetC t3 10 0 4 5 <|
      hGetC t3 10 0 4 5 <|
      hRecv t3 7 5 <| bI (G82 [.ref 5, .int b] t3) fun openIn6 t5 =>
      hRecv t5 7 5 <| bI (G84 [.ref 5, .int a, .int openIn6] t5) fun shortest8 t7 =>
      rI shortest8 t7) := by rfl
theorem fx_way_ok (t : SM) (a : Int32) (b : Int32) (h : fx_way t a b = some r) : Body l 5 q_126 P_126 r 0 [(0, .ref 0), (1, .int a), (2, .int b)] [] t :=
  blk ft_126 (by omega) rfl rows_126 (KDok.nil) ((congrFun (congrFun (congrFun (congrFun (congrFun (congrFun (congrFun (fx_way_eq) F_159) F_155) F_82) F_84) t) a) b).trans h)
theorem ok_126 (l : Launch) : Fok l 5 mtab 126 (F_126) := by
  intro as t r h
  unfold F_126 at h
  split at h
  · rename_i z0 a b
    split at h
    · rename_i hz0
      obtain rfl := Nat.eq_of_beq_eq_true hz0
      exact ⟨q_126, rfl, mok_126, con_of (P := P_126) (by decide +kernel) rfl (Nat.le_of_ble_eq_true rfl) (fx_way_ok t a b h)⟩
    · cases h
  · cases h
end
section
set_option maxRecDepth 100000
variable {l : Launch} {r : RR}
def FT_127 : FT := (159, F_159) :: (32, F_32) :: (172, F_172) :: (101, F_101) :: (82, F_82) :: (84, F_84) :: []
theorem ft_127 : FTok l 5 mtab FT_127 := FTok.cons (ok_159 l) (by omega) (FTok.cons (ok_32 l) (by omega) (FTok.cons (ok_172 l) (by omega) (FTok.cons (ok_101 l) (by omega) (FTok.cons (ok_82 l) (by omega) (FTok.cons (ok_84 l) (by omega) (FTok.nil))))))
theorem fx_safe_eq : (fun (G159 : List Value → SM → OR) (G32 : List Value → SM → OR) (G172 : List Value → SM → OR) (G101 : List Value → SM → OR) (G82 : List Value → SM → OR) (G84 : List Value → SM → OR) (t : SM) (a : Int32) => ex clN P_127 none bytJ (mkCal rks ((159, G159) :: (32, G32) :: (172, G172) :: (101, G101) :: (82, G82) :: (84, G84) :: [])) [] (kDisp []) 400 0 [(0, .ref 0), (1, .int a)] [] t) = (fun (G159 : List Value → SM → OR) (G32 : List Value → SM → OR) (G172 : List Value → SM → OR) (G101 : List Value → SM → OR) (G82 : List Value → SM → OR) (G84 : List Value → SM → OR) (t : SM) (a : Int32) =>
  bI (G159 [.int a] t) fun isTwo2 t1 =>
  if isTwo2 = 0 then rI (-5) t1
  else hGetC t1 10 0 3 1 <|
    hRecv t1 1 1 <| bI (G32 [.ref 1] t1) fun everyMap4 t3 =>
    hRecv t3 10 0 <| bI (G172 [.ref 0, .int everyMap4] t3) fun findWorlds6 t5 =>
    if findWorlds6 = 0 then rI (-3) t5
    else hGetC t5 10 0 4 5 <|
      hGetC t5 10 0 4 5 <|
      hGetC t5 10 0 13 16 <|
      hRecv t5 9 16 <| bI (G101 [.ref 16] t5) fun soInAll8 t7 =>
      hRecv t7 7 5 <| bI (G82 [.ref 5, .int soInAll8] t7) fun openIn10 t9 =>
      hRecv t9 7 5 <| bI (G84 [.ref 5, .int a, .int openIn10] t9) fun shortest12 t11 =>
      rI shortest12 t11) := by rfl
theorem fx_safe_ok (t : SM) (a : Int32) (h : fx_safe t a = some r) : Body l 5 q_127 P_127 r 0 [(0, .ref 0), (1, .int a)] [] t :=
  blk ft_127 (by omega) rfl rows_127 (KDok.nil) ((congrFun (congrFun (congrFun (congrFun (congrFun (congrFun (congrFun (congrFun (fx_safe_eq) F_159) F_32) F_172) F_101) F_82) F_84) t) a).trans h)
theorem ok_127 (l : Launch) : Fok l 5 mtab 127 (F_127) := by
  intro as t r h
  unfold F_127 at h
  split at h
  · rename_i z0 a
    split at h
    · rename_i hz0
      obtain rfl := Nat.eq_of_beq_eq_true hz0
      exact ⟨q_127, rfl, mok_127, con_of (P := P_127) (by decide +kernel) rfl (Nat.le_of_ble_eq_true rfl) (fx_safe_ok t a h)⟩
    · cases h
  · cases h
end
section
set_option maxRecDepth 100000
variable {l : Launch} {r : RR}
def FT_173 : FT := (32, F_32) :: (172, F_172) :: []
theorem ft_173 : FTok l 5 mtab FT_173 := FTok.cons (ok_32 l) (by omega) (FTok.cons (ok_172 l) (by omega) (FTok.nil))
theorem fx_findFewWorlds_eq : (fun (G32 : List Value → SM → OR) (G172 : List Value → SM → OR) (t : SM) => ex clN P_173 none bytJ (mkCal rks ((32, G32) :: (172, G172) :: [])) [] (kDisp []) 400 0 [(0, .ref 0)] [] t) = (fun (G32 : List Value → SM → OR) (G172 : List Value → SM → OR) (t : SM) =>
  hGetC t 10 0 3 1 <|
  hRecv t 1 1 <| bI (G32 [.ref 1] t) fun everyMap2 t1 =>
  hRecv t1 10 0 <| bI (G172 [.ref 0, .int everyMap2] t1) fun findWorlds4 t3 =>
  if findWorlds4 < 1 then rI 0 t3
  else if 7 < findWorlds4 then rI 0 t3
  else rI 1 t3) := by rfl
theorem fx_findFewWorlds_ok (t : SM) (h : fx_findFewWorlds t = some r) : Body l 5 q_173 P_173 r 0 [(0, .ref 0)] [] t :=
  blk ft_173 (by omega) rfl rows_173 (KDok.nil) ((congrFun (congrFun (congrFun (fx_findFewWorlds_eq) F_32) F_172) t).trans h)
theorem ok_173 (l : Launch) : Fok l 5 mtab 173 (F_173) := by
  intro as t r h
  unfold F_173 at h
  split at h
  · rename_i z0
    split at h
    · rename_i hz0
      obtain rfl := Nat.eq_of_beq_eq_true hz0
      exact ⟨q_173, rfl, mok_173, con_of (P := P_173) (by decide +kernel) rfl (Nat.le_of_ble_eq_true rfl) (fx_findFewWorlds_ok t h)⟩
    · cases h
  · cases h
end
section
set_option maxRecDepth 100000
variable {l : Launch} {r : RR}
def FT_128 : FT := (159, F_159) :: (173, F_173) :: (161, F_161) :: (18, F_18) :: (160, F_160) :: (19, F_19) :: []
theorem ft_128 : FTok l 7 mtab FT_128 := FTok.cons (ok_159 l) (by omega) (FTok.cons (ok_173 l) (by omega) (FTok.cons (ok_161 l) (by omega) (FTok.cons (ok_18 l) (by omega) (FTok.cons (ok_160 l) (by omega) (FTok.cons (ok_19 l) (by omega) (FTok.nil))))))
theorem fx_soon_eq : (fun (G159 : List Value → SM → OR) (G173 : List Value → SM → OR) (G161 : List Value → SM → OR) (G18 : List Value → SM → OR) (G160 : List Value → SM → OR) (G19 : List Value → SM → OR) (t : SM) (a : Int32) => ex clN P_128 none bytJ (mkCal rks ((159, G159) :: (173, G173) :: (161, G161) :: (18, G18) :: (160, G160) :: (19, G19) :: [])) [] (kDisp []) 400 0 [(0, .ref 0), (1, .int a)] [] t) = (fun (G159 : List Value → SM → OR) (G173 : List Value → SM → OR) (G161 : List Value → SM → OR) (G18 : List Value → SM → OR) (G160 : List Value → SM → OR) (G19 : List Value → SM → OR) (t : SM) (a : Int32) =>
  bI (G159 [.int a] t) fun isTwo2 t1 =>
  if isTwo2 = 0 then rI (-5) t1
  else hRecv t1 10 0 <| bI (G173 [.ref 0] t1) fun findFewWorlds4 t3 =>
    if findFewWorlds4 = 0 then rI (-3) t3
    else hGetC t3 10 0 17 22 <|
      hGetC t3 10 0 13 16 <|
      bI (G161 [.int a] t3) fun goalOf6 t5 =>
      hRecv t5 0 22 <| bV (G18 [.ref 22, .ref 16, .int goalOf6] t5) fun t7 =>
      hGetC t7 10 0 17 22 <|
      bI (G160 [.int a] t7) fun startOf9 t8 =>
      hRecv t8 0 22 <| bI (G19 [.ref 22, .int startOf9] t8) fun longestFrom11 t10 =>
      rI longestFrom11 t10) := by rfl
theorem fx_soon_ok (t : SM) (a : Int32) (h : fx_soon t a = some r) : Body l 7 q_128 P_128 r 0 [(0, .ref 0), (1, .int a)] [] t :=
  blk ft_128 (by omega) rfl rows_128 (KDok.nil) ((congrFun (congrFun (congrFun (congrFun (congrFun (congrFun (congrFun (congrFun (fx_soon_eq) F_159) F_173) F_161) F_18) F_160) F_19) t) a).trans h)
theorem ok_128 (l : Launch) : Fok l 7 mtab 128 (F_128) := by
  intro as t r h
  unfold F_128 at h
  split at h
  · rename_i z0 a
    split at h
    · rename_i hz0
      obtain rfl := Nat.eq_of_beq_eq_true hz0
      exact ⟨q_128, rfl, mok_128, con_of (P := P_128) (by decide +kernel) rfl (Nat.le_of_ble_eq_true rfl) (fx_soon_ok t a h)⟩
    · cases h
  · cases h
end
section
set_option maxRecDepth 100000
variable {l : Launch} {r : RR}
def FT_129 : FT := (159, F_159) :: (155, F_155) :: (173, F_173) :: (100, F_100) :: (161, F_161) :: (18, F_18) :: (160, F_160) :: (20, F_20) :: []
theorem ft_129 : FTok l 7 mtab FT_129 := FTok.cons (ok_159 l) (by omega) (FTok.cons (ok_155 l) (by omega) (FTok.cons (ok_173 l) (by omega) (FTok.cons (ok_100 l) (by omega) (FTok.cons (ok_161 l) (by omega) (FTok.cons (ok_18 l) (by omega) (FTok.cons (ok_160 l) (by omega) (FTok.cons (ok_20 l) (by omega) (FTok.nil))))))))
theorem fx_step_eq : (fun (G159 : List Value → SM → OR) (G155 : List Value → SM → OR) (G173 : List Value → SM → OR) (G100 : List Value → SM → OR) (G161 : List Value → SM → OR) (G18 : List Value → SM → OR) (G160 : List Value → SM → OR) (G20 : List Value → SM → OR) (t : SM) (a : Int32) (b : Int32) => ex clN P_129 none bytJ (mkCal rks ((159, G159) :: (155, G155) :: (173, G173) :: (100, G100) :: (161, G161) :: (18, G18) :: (160, G160) :: (20, G20) :: [])) [] (kDisp []) 400 0 [(0, .ref 0), (1, .int a), (2, .int b)] [] t) = (fun (G159 : List Value → SM → OR) (G155 : List Value → SM → OR) (G173 : List Value → SM → OR) (G100 : List Value → SM → OR) (G161 : List Value → SM → OR) (G18 : List Value → SM → OR) (G160 : List Value → SM → OR) (G20 : List Value → SM → OR) (t : SM) (a : Int32) (b : Int32) =>
  bI (G159 [.int a] t) fun isTwo2 t1 =>
  if isTwo2 = 0 then rI (-5) t1
  else hRecv t1 10 0 <| bI (G155 [.ref 0, .int b] t1) fun isTown4 t3 =>
    if isTown4 = 0 then rI (-7) t3
    else hRecv t3 10 0 <| bI (G173 [.ref 0] t3) fun findFewWorlds6 t5 =>
      if findFewWorlds6 = 0 then rI (-3) t5
      else hGetC t5 10 0 13 16 <|
      hRecv t5 9 16 <| bI (G100 [.ref 16, .int b] t5) fun placeOf8 t7 =>
      if 0 ≤ placeOf8 then hGetC t7 10 0 17 22 <|
        hGetC t7 10 0 13 16 <|
        bI (G161 [.int a] t7) fun goalOf10 t9 =>
        hRecv t9 0 22 <| bV (G18 [.ref 22, .ref 16, .int goalOf10] t9) fun t11 =>
        hGetC t11 10 0 17 22 <|
        bI (G160 [.int a] t11) fun startOf13 t12 =>
        hGetC t12 10 0 13 16 <|
        hRecv t12 9 16 <| bI (G100 [.ref 16, .int b] t12) fun placeOf15 t14 =>
        hRecv t14 0 22 <| bI (G20 [.ref 22, .int startOf13, .int placeOf15] t14) fun firstStreet17 t16 =>
        rI firstStreet17 t16
      else rI (-3) t7) := by rfl
theorem fx_step_ok (t : SM) (a : Int32) (b : Int32) (h : fx_step t a b = some r) : Body l 7 q_129 P_129 r 0 [(0, .ref 0), (1, .int a), (2, .int b)] [] t :=
  blk ft_129 (by omega) rfl rows_129 (KDok.nil) ((congrFun (congrFun (congrFun (congrFun (congrFun (congrFun (congrFun (congrFun (congrFun (congrFun (congrFun (fx_step_eq) F_159) F_155) F_173) F_100) F_161) F_18) F_160) F_20) t) a) b).trans h)
theorem ok_129 (l : Launch) : Fok l 7 mtab 129 (F_129) := by
  intro as t r h
  unfold F_129 at h
  split at h
  · rename_i z0 a b
    split at h
    · rename_i hz0
      obtain rfl := Nat.eq_of_beq_eq_true hz0
      exact ⟨q_129, rfl, mok_129, con_of (P := P_129) (by decide +kernel) rfl (Nat.le_of_ble_eq_true rfl) (fx_step_ok t a b h)⟩
    · cases h
  · cases h
end
section
set_option maxRecDepth 100000
variable {l : Launch} {r : RR}
def FT_130 : FT := (29, F_29) :: (159, F_159) :: (155, F_155) :: (88, F_88) :: []
theorem ft_130 : FTok l 5 mtab FT_130 := FTok.cons (ok_29 l) (by omega) (FTok.cons (ok_159 l) (by omega) (FTok.cons (ok_155 l) (by omega) (FTok.cons (ok_88 l) (by omega) (FTok.nil))))
theorem fx_trip_eq : (fun (G29 : List Value → SM → OR) (G159 : List Value → SM → OR) (G155 : List Value → SM → OR) (G88 : List Value → SM → OR) (t : SM) (a : Int32) (b : Int32) (c : Int32) => ex clN P_130 none bytJ (mkCal rks ((29, G29) :: (159, G159) :: (155, G155) :: (88, G88) :: [])) [] (kDisp []) 400 0 [(0, .ref 0), (1, .int a), (2, .int b), (3, .int c)] [] t) = (fun (G29 : List Value → SM → OR) (G159 : List Value → SM → OR) (G155 : List Value → SM → OR) (G88 : List Value → SM → OR) (t : SM) (a : Int32) (b : Int32) (c : Int32) =>
  hGetC t 10 0 3 1 <|
  hRecv t 1 1 <| bQ (G29 [.ref 1, .int a] t) (fun t1 => rI (-5) t1) fun q2 t1 =>
  bI (G159 [.int b] t1) fun isTwo4 t3 =>
  if isTwo4 = 0 then rI (-5) t3
  else hRecv t3 10 0 <| bI (G155 [.ref 0, .int c] t3) fun isTown6 t5 =>
    if isTown6 = 0 then rI (-7) t5
    else hGetC t5 10 0 4 5 <|
      hGetI t5 2 q2 1 fun says7 =>
      hRecv t5 7 5 <| bI (G88 [.ref 5, .int b, .int says7, .int c] t5) fun walk9 t8 =>
      rI walk9 t8) := by rfl
theorem fx_trip_ok (t : SM) (a : Int32) (b : Int32) (c : Int32) (h : fx_trip t a b c = some r) : Body l 5 q_130 P_130 r 0 [(0, .ref 0), (1, .int a), (2, .int b), (3, .int c)] [] t :=
  blk ft_130 (by omega) rfl rows_130 (KDok.nil) ((congrFun (congrFun (congrFun (congrFun (congrFun (congrFun (congrFun (congrFun (fx_trip_eq) F_29) F_159) F_155) F_88) t) a) b) c).trans h)
theorem ok_130 (l : Launch) : Fok l 5 mtab 130 (F_130) := by
  intro as t r h
  unfold F_130 at h
  split at h
  · rename_i z0 a b c
    split at h
    · rename_i hz0
      obtain rfl := Nat.eq_of_beq_eq_true hz0
      exact ⟨q_130, rfl, mok_130, con_of (P := P_130) (by decide +kernel) rfl (Nat.le_of_ble_eq_true rfl) (fx_trip_ok t a b c h)⟩
    · cases h
  · cases h
end
section
set_option maxRecDepth 100000
variable {l : Launch} {r : RR}
def FT_131 : FT := (159, F_159) :: []
theorem ft_131 : FTok l 3 mtab FT_131 := FTok.cons (ok_159 l) (by omega) (FTok.nil)
theorem fx_goer_eq : (fun (G159 : List Value → SM → OR) (t : SM) (a : Int32) => ex clN P_131 none bytJ (mkCal rks ((159, G159) :: [])) [] (kDisp []) 400 0 [(0, .ref 0), (1, .int a)] [] t) = (fun (G159 : List Value → SM → OR) (t : SM) (a : Int32) =>
  bI (G159 [.int a] t) fun isTwo2 t1 =>
  if isTwo2 = 0 then rI (-2) t1
  else hGetI t1 10 0 6 fun goerCount3 =>
    if goerCount3 < 6 then hGetC t1 10 0 5 8 <|
      hGetI t1 10 0 6 fun goerCount4 =>
      hASt t1 8 goerCount4 a fun t5 =>
      hGetI t5 10 0 6 fun goerCount6 =>
      hPutI t5 10 0 6 (goerCount6 + 1) fun t7 =>
      hGetI t7 10 0 6 fun goerCount8 =>
      rI (goerCount8 - 1) t7
    else rI (-4) t1) := by rfl
theorem fx_goer_ok (t : SM) (a : Int32) (h : fx_goer t a = some r) : Body l 3 q_131 P_131 r 0 [(0, .ref 0), (1, .int a)] [] t :=
  blk ft_131 (by omega) rfl rows_131 (KDok.nil) ((congrFun (congrFun (congrFun (fx_goer_eq) F_159) t) a).trans h)
theorem ok_131 (l : Launch) : Fok l 3 mtab 131 (F_131) := by
  intro as t r h
  unfold F_131 at h
  split at h
  · rename_i z0 a
    split at h
    · rename_i hz0
      obtain rfl := Nat.eq_of_beq_eq_true hz0
      exact ⟨q_131, rfl, mok_131, con_of (P := P_131) (by decide +kernel) rfl (Nat.le_of_ble_eq_true rfl) (fx_goer_ok t a h)⟩
    · cases h
  · cases h
end
section
set_option maxRecDepth 100000
variable {l : Launch} {r : RR}
def FT_165 : FT := (2, F_2) :: (1, F_1) :: []
theorem ft_165 : FTok l 2 mtab FT_165 := FTok.cons (ok_2 l) (by omega) (FTok.cons (ok_1 l) (by omega) (FTok.nil))
theorem fx_bounded_eq : (fun (G2 : List Value → SM → OR) (G1 : List Value → SM → OR) (t : SM) (a : Int32) => ex clN P_165 none bytJ (mkCal rks ((2, G2) :: (1, G1) :: [])) [] (kDisp []) 400 0 [(0, .int a)] [] t) = (fun (G2 : List Value → SM → OR) (G1 : List Value → SM → OR) (t : SM) (a : Int32) =>
  bI (G2 [.int 999, .int a] t) fun min2 t1 =>
  bI (G1 [.int 0, .int min2] t1) fun max4 t3 =>
  rI max4 t3) := by rfl
theorem fx_bounded_ok (t : SM) (a : Int32) (h : fx_bounded t a = some r) : Body l 2 q_165 P_165 r 0 [(0, .int a)] [] t :=
  blk ft_165 (by omega) rfl rows_165 (KDok.nil) ((congrFun (congrFun (congrFun (congrFun (fx_bounded_eq) F_2) F_1) t) a).trans h)
theorem ok_165 (l : Launch) : Fok l 2 mtab 165 (F_165) := by
  intro as t r h
  unfold F_165 at h
  split at h
  · rename_i a
    exact ⟨q_165, rfl, mok_165, con_of (P := P_165) (by decide +kernel) rfl (Nat.le_of_ble_eq_true rfl) (fx_bounded_ok t a h)⟩
  · cases h
end
section
set_option maxRecDepth 100000
variable {l : Launch} {r : RR}
def FT_180 : FT := (166, F_166) :: (169, F_169) :: (82, F_82) :: (84, F_84) :: (88, F_88) :: (91, F_91) :: (165, F_165) :: []
theorem ft_180 : FTok l 5 mtab FT_180 := FTok.cons (ok_166 l) (by omega) (FTok.cons (ok_169 l) (by omega) (FTok.cons (ok_82 l) (by omega) (FTok.cons (ok_84 l) (by omega) (FTok.cons (ok_88 l) (by omega) (FTok.cons (ok_91 l) (by omega) (FTok.cons (ok_165 l) (by omega) (FTok.nil)))))))
theorem fx_harmForOne_eq : (fun (G166 : List Value → SM → OR) (G169 : List Value → SM → OR) (G82 : List Value → SM → OR) (G84 : List Value → SM → OR) (G88 : List Value → SM → OR) (G91 : List Value → SM → OR) (G165 : List Value → SM → OR) (t : SM) (a : Int32) (b : Int32) (c : Int32) => ex clN P_180 none bytJ (mkCal rks ((166, G166) :: (169, G169) :: (82, G82) :: (84, G84) :: (88, G88) :: (91, G91) :: (165, G165) :: [])) [] (kDisp []) 400 0 [(0, .ref 0), (1, .int a), (2, .int b), (3, .int c)] [] t) = (fun (G166 : List Value → SM → OR) (G169 : List Value → SM → OR) (G82 : List Value → SM → OR) (G84 : List Value → SM → OR) (G88 : List Value → SM → OR) (G91 : List Value → SM → OR) (G165 : List Value → SM → OR) (t : SM) (a : Int32) (b : Int32) (c : Int32) =>
  hGetC t 10 0 5 8 <|
  bI (G166 [.ref 8, .int a] t) fun numberAt2 t1 =>
  hRecv t1 10 0 <| bQ (G169 [.ref 0] t1) (fun t3 => hGetC t3 10 0 4 5 <|
    hGetC t3 10 0 4 5 <|
    hRecv t3 7 5 <| bI (G82 [.ref 5, .int b] t3) fun openIn6 t5 =>
    hRecv t5 7 5 <| bI (G84 [.ref 5, .int numberAt2, .int openIn6] t5) fun shortest8 t7 =>
    if shortest8 < 0 then rI 0 t7
    else rI 0 t7) fun q4 t3 =>
  hGetC t3 10 0 4 5 <|
  hGetC t3 10 0 4 5 <|
  hRecv t3 7 5 <| bI (G82 [.ref 5, .int b] t3) fun openIn10 t9 =>
  hRecv t9 7 5 <| bI (G84 [.ref 5, .int numberAt2, .int openIn10] t9) fun shortest12 t11 =>
  if shortest12 < 0 then rI 0 t11
  else hGetC t11 10 0 4 5 <|
  hRecv t11 7 5 <| bI (G88 [.ref 5, .int numberAt2, .int c, .int b] t11) fun walk14 t13 =>
  if 0 ≤ walk14 then hRecv t13 8 q4 <| bI (G91 [.ref q4, .int b, .int (walk14 - shortest12)] t13) fun harmOf16 t15 =>
    bI (G165 [.int harmOf16] t15) fun bounded18 t17 =>
    rI bounded18 t17
  else hRecv t13 8 q4 <| bI (G91 [.ref q4, .int b, .int 99] t13) fun harmOf20 t19 =>
  bI (G165 [.int harmOf20] t19) fun bounded22 t21 =>
  rI bounded22 t21) := by rfl
theorem fx_harmForOne_ok (t : SM) (a : Int32) (b : Int32) (c : Int32) (h : fx_harmForOne t a b c = some r) : Body l 5 q_180 P_180 r 0 [(0, .ref 0), (1, .int a), (2, .int b), (3, .int c)] [] t :=
  blk ft_180 (by omega) rfl rows_180 (KDok.nil) ((congrFun (congrFun (congrFun (congrFun (congrFun (congrFun (congrFun (congrFun (congrFun (congrFun (congrFun (fx_harmForOne_eq) F_166) F_169) F_82) F_84) F_88) F_91) F_165) t) a) b) c).trans h)
theorem ok_180 (l : Launch) : Fok l 5 mtab 180 (F_180) := by
  intro as t r h
  unfold F_180 at h
  split at h
  · rename_i z0 a b c
    split at h
    · rename_i hz0
      obtain rfl := Nat.eq_of_beq_eq_true hz0
      exact ⟨q_180, rfl, mok_180, con_of (P := P_180) (by decide +kernel) rfl (Nat.le_of_ble_eq_true rfl) (fx_harmForOne_ok t a b c h)⟩
    · cases h
  · cases h
end
section
set_option maxRecDepth 100000
variable {l : Launch} {r : RR}
def FT_179 : FT := (180, F_180) :: []
theorem ft_179 : FTok l 6 mtab FT_179 := FTok.cons (ok_180 l) (by omega) (FTok.nil)
theorem fx_harmOfSlip_5_eq : (fun (G180 : List Value → SM → OR) (j5 : SM → Int32 → Int32 → Int32 → Int32 → OR) (t : SM) (v1 : Int32) (v2 : Int32) (v3 : Int32) (v4 : Int32) => ex clN P_179 none bytJ (mkCal rks ((180, G180) :: [])) [5] (kDisp [(5, kF 0 0 <| kI 1 fun w1 => kI 2 fun w2 => kI 3 fun w3 => kI 4 fun w4 => kE fun t => j5 t w1 w2 w3 w4)]) 400 5 [(4, .int v4), (3, .int v3), (2, .int v2), (1, .int v1), (0, .ref 0)] [] t) = (fun (G180 : List Value → SM → OR) (j5 : SM → Int32 → Int32 → Int32 → Int32 → OR) (t : SM) (v1 : Int32) (v2 : Int32) (v3 : Int32) (v4 : Int32) =>
  hGetI t 10 0 6 fun goerCount1 =>
  if goerCount1 ≤ v4 then rI v3 t
  else hRecv t 10 0 <| bI (G180 [.ref 0, .int v4, .int v1, .int (v1 ^^^ ((1 : Int32) <<< (v2 &&& 31)))] t) fun harmForOne3 t2 =>
  j5 t2 v1 v2 (v3 + harmForOne3) (v4 + 1)) := by rfl
theorem fx_harmOfSlip_5_ok {r5 : SM → Int32 → Int32 → Int32 → Int32 → OR} (h_r5 : ∀ (t : SM) (v1 : Int32) (v2 : Int32) (v3 : Int32) (v4 : Int32), r5 t v1 v2 v3 v4 = some r → Body l 6 q_179 P_179 r 5 [(4, .int v4), (3, .int v3), (2, .int v2), (1, .int v1), (0, .ref 0)] [] t) (t : SM) (v1 : Int32) (v2 : Int32) (v3 : Int32) (v4 : Int32) (h : fx_harmOfSlip_5 r5 t v1 v2 v3 v4 = some r) : Body l 6 q_179 P_179 r 5 [(4, .int v4), (3, .int v3), (2, .int v2), (1, .int v1), (0, .ref 0)] [] t :=
  blk ft_179 (by omega) rfl rows_179 (KDok.cons (KOK.f <| KOK.i fun w1 => KOK.i fun w2 => KOK.i fun w3 => KOK.i fun w4 => KOK.e (f := fun t => r5 t w1 w2 w3 w4) fun t h => h_r5 t w1 w2 w3 w4 h) (KDok.nil)) ((congrFun (congrFun (congrFun (congrFun (congrFun (congrFun (congrFun (fx_harmOfSlip_5_eq) F_180) (fun t u1 u2 u3 u4 => r5 t u1 u2 u3 u4)) t) v1) v2) v3) v4).trans h)
theorem fx_harmOfSlip_l5_ok : ∀ (n : Nat) (t : SM) (v1 : Int32) (v2 : Int32) (v3 : Int32) (v4 : Int32), fx_harmOfSlip_l5 n t v1 v2 v3 v4 = some r → Body l 6 q_179 P_179 r 5 [(4, .int v4), (3, .int v3), (2, .int v2), (1, .int v1), (0, .ref 0)] [] t
  | 0, _, _, _, _, _, h => by cases h
  | n + 1, t, v1, v2, v3, v4, h => fx_harmOfSlip_5_ok (fx_harmOfSlip_l5_ok n) t v1 v2 v3 v4 h
theorem fx_harmOfSlip_eq : (fun (G180 : List Value → SM → OR) (j5 : SM → Int32 → Int32 → Int32 → Int32 → OR) (t : SM) (a : Int32) (b : Int32) => ex clN P_179 none bytJ (mkCal rks ((180, G180) :: [])) [5] (kDisp [(5, kF 0 0 <| kI 1 fun w1 => kI 2 fun w2 => kI 3 fun w3 => kI 4 fun w4 => kE fun t => j5 t w1 w2 w3 w4)]) 400 0 [(0, .ref 0), (1, .int a), (2, .int b)] [] t) = (fun (G180 : List Value → SM → OR) (j5 : SM → Int32 → Int32 → Int32 → Int32 → OR) (t : SM) (a : Int32) (b : Int32) =>
  j5 t a b 0 0) := by rfl
theorem fx_harmOfSlip_ok (t : SM) (a : Int32) (b : Int32) (h : fx_harmOfSlip t a b = some r) : Body l 6 q_179 P_179 r 0 [(0, .ref 0), (1, .int a), (2, .int b)] [] t :=
  blk ft_179 (by omega) rfl rows_179 (KDok.cons (KOK.f <| KOK.i fun w1 => KOK.i fun w2 => KOK.i fun w3 => KOK.i fun w4 => KOK.e (f := fun t => fx_harmOfSlip_l5 1000000 t w1 w2 w3 w4) fun t h => fx_harmOfSlip_l5_ok 1000000 t w1 w2 w3 w4 h) (KDok.nil)) ((congrFun (congrFun (congrFun (congrFun (congrFun (fx_harmOfSlip_eq) F_180) (fun t u1 u2 u3 u4 => fx_harmOfSlip_l5 1000000 t u1 u2 u3 u4)) t) a) b).trans h)
theorem ok_179 (l : Launch) : Fok l 6 mtab 179 (F_179) := by
  intro as t r h
  unfold F_179 at h
  split at h
  · rename_i z0 a b
    split at h
    · rename_i hz0
      obtain rfl := Nat.eq_of_beq_eq_true hz0
      exact ⟨q_179, rfl, mok_179, con_of (P := P_179) (by decide +kernel) rfl (Nat.le_of_ble_eq_true rfl) (fx_harmOfSlip_ok t a b h)⟩
    · cases h
  · cases h
end
section
set_option maxRecDepth 100000
variable {l : Launch} {r : RR}
def FT_132 : FT := (155, F_155) :: (156, F_156) :: (179, F_179) :: []
theorem ft_132 : FTok l 7 mtab FT_132 := FTok.cons (ok_155 l) (by omega) (FTok.cons (ok_156 l) (by omega) (FTok.cons (ok_179 l) (by omega) (FTok.nil)))
theorem fx_harm_eq : (fun (G155 : List Value → SM → OR) (G156 : List Value → SM → OR) (G179 : List Value → SM → OR) (t : SM) (a : Int32) (b : Int32) => ex clN P_132 none bytJ (mkCal rks ((155, G155) :: (156, G156) :: (179, G179) :: [])) [] (kDisp []) 400 0 [(0, .ref 0), (1, .int a), (2, .int b)] [] t) = (fun (G155 : List Value → SM → OR) (G156 : List Value → SM → OR) (G179 : List Value → SM → OR) (t : SM) (a : Int32) (b : Int32) =>
  hRecv t 10 0 <| bI (G155 [.ref 0, .int a] t) fun isTown2 t1 =>
  if isTown2 = 0 then rI (-2) t1
  else hRecv t1 10 0 <| bI (G156 [.ref 0, .int b] t1) fun isChoice4 t3 =>
    if isChoice4 = 0 then rI (-5) t3
    else hRecv t3 10 0 <| bI (G179 [.ref 0, .int a, .int b] t3) fun harmOfSlip6 t5 =>
      rI harmOfSlip6 t5) := by rfl
theorem fx_harm_ok (t : SM) (a : Int32) (b : Int32) (h : fx_harm t a b = some r) : Body l 7 q_132 P_132 r 0 [(0, .ref 0), (1, .int a), (2, .int b)] [] t :=
  blk ft_132 (by omega) rfl rows_132 (KDok.nil) ((congrFun (congrFun (congrFun (congrFun (congrFun (congrFun (fx_harm_eq) F_155) F_156) F_179) t) a) b).trans h)
theorem ok_132 (l : Launch) : Fok l 7 mtab 132 (F_132) := by
  intro as t r h
  unfold F_132 at h
  split at h
  · rename_i z0 a b
    split at h
    · rename_i hz0
      obtain rfl := Nat.eq_of_beq_eq_true hz0
      exact ⟨q_132, rfl, mok_132, con_of (P := P_132) (by decide +kernel) rfl (Nat.le_of_ble_eq_true rfl) (fx_harm_ok t a b h)⟩
    · cases h
  · cases h
end
section
set_option maxRecDepth 100000
variable {l : Launch} {r : RR}
def FT_133 : FT := (155, F_155) :: (162, F_162) :: (179, F_179) :: []
theorem ft_133 : FTok l 7 mtab FT_133 := FTok.cons (ok_155 l) (by omega) (FTok.cons (ok_162 l) (by omega) (FTok.cons (ok_179 l) (by omega) (FTok.nil)))
theorem fx_put_69_eq : (fun (G155 : List Value → SM → OR) (G162 : List Value → SM → OR) (G179 : List Value → SM → OR) (t : SM) (v2 : Int32) (v3 : Int32) (v4 : Int32) => ex clN P_133 none bytJ (mkCal rks ((155, G155) :: (162, G162) :: (179, G179) :: [])) [] (kDisp []) 400 69 [(4, .int v4), (3, .int v3), (2, .int v2)] [] t) = (fun (G155 : List Value → SM → OR) (G162 : List Value → SM → OR) (G179 : List Value → SM → OR) (t : SM) (v2 : Int32) (v3 : Int32) (v4 : Int32) =>
  if v2 = 0 then rI v3 t
  else rI v4 t) := by rfl
theorem fx_put_69_ok (t : SM) (v2 : Int32) (v3 : Int32) (v4 : Int32) (h : fx_put_69 t v2 v3 v4 = some r) : Body l 7 q_133 P_133 r 69 [(4, .int v4), (3, .int v3), (2, .int v2)] [] t :=
  blk ft_133 (by omega) rfl rows_133 (KDok.nil) ((congrFun (congrFun (congrFun (congrFun (congrFun (congrFun (congrFun (fx_put_69_eq) F_155) F_162) F_179) t) v2) v3) v4).trans h)
theorem fx_put_31_eq : (fun (G155 : List Value → SM → OR) (G162 : List Value → SM → OR) (G179 : List Value → SM → OR) (j31 : SM → Int32 → Int32 → Int32 → Int32 → Int32 → OR) (j69 : SM → Int32 → Int32 → Int32 → OR) (t : SM) (v1 : Int32) (v2 : Int32) (v3 : Int32) (v4 : Int32) (v5 : Int32) => ex clN P_133 none bytJ (mkCal rks ((155, G155) :: (162, G162) :: (179, G179) :: [])) [31, 69] (kDisp [(31, kF 0 0 <| kI 1 fun w1 => kI 2 fun w2 => kI 3 fun w3 => kI 4 fun w4 => kI 5 fun w5 => kE fun t => j31 t w1 w2 w3 w4 w5), (69, kI 2 fun w2 => kI 3 fun w3 => kI 4 fun w4 => kE fun t => j69 t w2 w3 w4)]) 400 31 [(5, .int v5), (4, .int v4), (3, .int v3), (2, .int v2), (1, .int v1), (0, .ref 0)] [] t) = (fun (G155 : List Value → SM → OR) (G162 : List Value → SM → OR) (G179 : List Value → SM → OR) (j31 : SM → Int32 → Int32 → Int32 → Int32 → Int32 → OR) (j69 : SM → Int32 → Int32 → Int32 → OR) (t : SM) (v1 : Int32) (v2 : Int32) (v3 : Int32) (v4 : Int32) (v5 : Int32) =>
  hGetI t 10 0 0 fun choices1 =>
  if choices1 ≤ v5 then j69 t v2 v3 v4
  else hRecv t 10 0 <| bI (G179 [.ref 0, .int v1, .int v5] t) fun harmOfSlip3 t2 =>
  if v4 ≤ harmOfSlip3 then j31 t2 v1 v2 v3 v4 (v5 + 1)
  else j31 t2 v1 v2 v5 harmOfSlip3 (v5 + 1)) := by rfl
theorem fx_put_31_ok {k69 : SM → Int32 → Int32 → Int32 → OR} {r31 : SM → Int32 → Int32 → Int32 → Int32 → Int32 → OR} (h_k69 : ∀ (t : SM) (v2 : Int32) (v3 : Int32) (v4 : Int32), k69 t v2 v3 v4 = some r → Body l 7 q_133 P_133 r 69 [(4, .int v4), (3, .int v3), (2, .int v2)] [] t) (h_r31 : ∀ (t : SM) (v1 : Int32) (v2 : Int32) (v3 : Int32) (v4 : Int32) (v5 : Int32), r31 t v1 v2 v3 v4 v5 = some r → Body l 7 q_133 P_133 r 31 [(5, .int v5), (4, .int v4), (3, .int v3), (2, .int v2), (1, .int v1), (0, .ref 0)] [] t) (t : SM) (v1 : Int32) (v2 : Int32) (v3 : Int32) (v4 : Int32) (v5 : Int32) (h : fx_put_31 k69 r31 t v1 v2 v3 v4 v5 = some r) : Body l 7 q_133 P_133 r 31 [(5, .int v5), (4, .int v4), (3, .int v3), (2, .int v2), (1, .int v1), (0, .ref 0)] [] t :=
  blk ft_133 (by omega) rfl rows_133 (KDok.cons (KOK.f <| KOK.i fun w1 => KOK.i fun w2 => KOK.i fun w3 => KOK.i fun w4 => KOK.i fun w5 => KOK.e (f := fun t => r31 t w1 w2 w3 w4 w5) fun t h => h_r31 t w1 w2 w3 w4 w5 h) (KDok.cons (KOK.i fun w2 => KOK.i fun w3 => KOK.i fun w4 => KOK.e (f := fun t => k69 t w2 w3 w4) fun t h => h_k69 t w2 w3 w4 h) (KDok.nil))) ((congrFun (congrFun (congrFun (congrFun (congrFun (congrFun (congrFun (congrFun (congrFun (congrFun (congrFun (fx_put_31_eq) F_155) F_162) F_179) (fun t u1 u2 u3 u4 u5 => r31 t u1 u2 u3 u4 u5)) (fun t u2 u3 u4 => k69 t u2 u3 u4)) t) v1) v2) v3) v4) v5).trans h)
theorem fx_put_l31_ok {k69 : SM → Int32 → Int32 → Int32 → OR} (h_k69 : ∀ (t : SM) (v2 : Int32) (v3 : Int32) (v4 : Int32), k69 t v2 v3 v4 = some r → Body l 7 q_133 P_133 r 69 [(4, .int v4), (3, .int v3), (2, .int v2)] [] t) : ∀ (n : Nat) (t : SM) (v1 : Int32) (v2 : Int32) (v3 : Int32) (v4 : Int32) (v5 : Int32), fx_put_l31 k69 n t v1 v2 v3 v4 v5 = some r → Body l 7 q_133 P_133 r 31 [(5, .int v5), (4, .int v4), (3, .int v3), (2, .int v2), (1, .int v1), (0, .ref 0)] [] t
  | 0, _, _, _, _, _, _, h => by cases h
  | n + 1, t, v1, v2, v3, v4, v5, h => fx_put_31_ok h_k69 (fx_put_l31_ok h_k69 n) t v1 v2 v3 v4 v5 h
theorem fx_put_eq : (fun (G155 : List Value → SM → OR) (G162 : List Value → SM → OR) (G179 : List Value → SM → OR) (j31 : SM → Int32 → Int32 → Int32 → Int32 → Int32 → OR) (t : SM) (a : Int32) (b : Int32) => ex clN P_133 none bytJ (mkCal rks ((155, G155) :: (162, G162) :: (179, G179) :: [])) [31] (kDisp [(31, kF 0 0 <| kI 1 fun w1 => kI 2 fun w2 => kI 3 fun w3 => kI 4 fun w4 => kI 5 fun w5 => kE fun t => j31 t w1 w2 w3 w4 w5)]) 400 0 [(0, .ref 0), (1, .int a), (2, .int b)] [] t) = (fun (G155 : List Value → SM → OR) (G162 : List Value → SM → OR) (G179 : List Value → SM → OR) (j31 : SM → Int32 → Int32 → Int32 → Int32 → Int32 → OR) (t : SM) (a : Int32) (b : Int32) =>
  hRecv t 10 0 <| bI (G155 [.ref 0, .int a] t) fun isTown2 t1 =>
  if isTown2 = 0 then rI (-2) t1
  else bI (G162 [.int b] t1) fun isZeroOrOne4 t3 =>
  if isZeroOrOne4 = 0 then rI (-2) t3
  else hRecv t3 10 0 <| bI (G179 [.ref 0, .int a, .int 0] t3) fun harmOfSlip6 t5 =>
    j31 t5 a b 0 harmOfSlip6 1) := by rfl
theorem fx_put_ok (t : SM) (a : Int32) (b : Int32) (h : fx_put t a b = some r) : Body l 7 q_133 P_133 r 0 [(0, .ref 0), (1, .int a), (2, .int b)] [] t :=
  blk ft_133 (by omega) rfl rows_133 (KDok.cons (KOK.f <| KOK.i fun w1 => KOK.i fun w2 => KOK.i fun w3 => KOK.i fun w4 => KOK.i fun w5 => KOK.e (f := fun t => fx_put_l31 (fun t u2 u3 u4 => fx_put_69 t u2 u3 u4) 1000000 t w1 w2 w3 w4 w5) fun t h => fx_put_l31_ok (k69 := fun t u2 u3 u4 => fx_put_69 t u2 u3 u4) (fun t u2 u3 u4 h => fx_put_69_ok t u2 u3 u4 h) 1000000 t w1 w2 w3 w4 w5 h) (KDok.nil)) ((congrFun (congrFun (congrFun (congrFun (congrFun (congrFun (congrFun (fx_put_eq) F_155) F_162) F_179) (fun t u1 u2 u3 u4 u5 => fx_put_l31 (fun t u2 u3 u4 => fx_put_69 t u2 u3 u4) 1000000 t u1 u2 u3 u4 u5)) t) a) b).trans h)
theorem ok_133 (l : Launch) : Fok l 7 mtab 133 (F_133) := by
  intro as t r h
  unfold F_133 at h
  split at h
  · rename_i z0 a b
    split at h
    · rename_i hz0
      obtain rfl := Nat.eq_of_beq_eq_true hz0
      exact ⟨q_133, rfl, mok_133, con_of (P := P_133) (by decide +kernel) rfl (Nat.le_of_ble_eq_true rfl) (fx_put_ok t a b h)⟩
    · cases h
  · cases h
end
section
set_option maxRecDepth 100000
variable {l : Launch} {r : RR}
def FT_134 : FT := (155, F_155) :: (162, F_162) :: (180, F_180) :: []
theorem ft_134 : FTok l 6 mtab FT_134 := FTok.cons (ok_155 l) (by omega) (FTok.cons (ok_162 l) (by omega) (FTok.cons (ok_180 l) (by omega) (FTok.nil)))
theorem fx_trick_94_eq : (fun (G155 : List Value → SM → OR) (G162 : List Value → SM → OR) (G180 : List Value → SM → OR) (t : SM) (v3 : Int32) (v4 : Int32) (v5 : Int32) => ex clN P_134 none bytJ (mkCal rks ((155, G155) :: (162, G162) :: (180, G180) :: [])) [] (kDisp []) 400 94 [(5, .int v5), (4, .int v4), (3, .int v3)] [] t) = (fun (G155 : List Value → SM → OR) (G162 : List Value → SM → OR) (G180 : List Value → SM → OR) (t : SM) (v3 : Int32) (v4 : Int32) (v5 : Int32) =>
  if v3 = 0 then rI v4 t
  else rI v5 t) := by rfl
theorem fx_trick_94_ok (t : SM) (v3 : Int32) (v4 : Int32) (v5 : Int32) (h : fx_trick_94 t v3 v4 v5 = some r) : Body l 6 q_134 P_134 r 94 [(5, .int v5), (4, .int v4), (3, .int v3)] [] t :=
  blk ft_134 (by omega) rfl rows_134 (KDok.nil) ((congrFun (congrFun (congrFun (congrFun (congrFun (congrFun (congrFun (fx_trick_94_eq) F_155) F_162) F_180) t) v3) v4) v5).trans h)
theorem fx_trick_50_eq : (fun (G155 : List Value → SM → OR) (G162 : List Value → SM → OR) (G180 : List Value → SM → OR) (j50 : SM → Int32 → Int32 → Int32 → Int32 → Int32 → Int32 → OR) (j94 : SM → Int32 → Int32 → Int32 → OR) (t : SM) (v1 : Int32) (v2 : Int32) (v3 : Int32) (v4 : Int32) (v5 : Int32) (v6 : Int32) => ex clN P_134 none bytJ (mkCal rks ((155, G155) :: (162, G162) :: (180, G180) :: [])) [50, 94] (kDisp [(50, kF 0 0 <| kI 1 fun w1 => kI 2 fun w2 => kI 3 fun w3 => kI 4 fun w4 => kI 5 fun w5 => kI 6 fun w6 => kE fun t => j50 t w1 w2 w3 w4 w5 w6), (94, kI 3 fun w3 => kI 4 fun w4 => kI 5 fun w5 => kE fun t => j94 t w3 w4 w5)]) 400 50 [(6, .int v6), (5, .int v5), (4, .int v4), (3, .int v3), (2, .int v2), (1, .int v1), (0, .ref 0)] [] t) = (fun (G155 : List Value → SM → OR) (G162 : List Value → SM → OR) (G180 : List Value → SM → OR) (j50 : SM → Int32 → Int32 → Int32 → Int32 → Int32 → Int32 → OR) (j94 : SM → Int32 → Int32 → Int32 → OR) (t : SM) (v1 : Int32) (v2 : Int32) (v3 : Int32) (v4 : Int32) (v5 : Int32) (v6 : Int32) =>
  hGetI t 10 0 0 fun choices1 =>
  if choices1 ≤ v6 then j94 t v3 v4 v5
  else hRecv t 10 0 <| bI (G180 [.ref 0, .int v2, .int v1, .int (v1 ^^^ ((1 : Int32) <<< (v6 &&& 31)))] t) fun harmForOne3 t2 =>
  if harmForOne3 ≤ v5 then j50 t2 v1 v2 v3 v4 v5 (v6 + 1)
  else j50 t2 v1 v2 v3 v6 harmForOne3 (v6 + 1)) := by rfl
theorem fx_trick_50_ok {k94 : SM → Int32 → Int32 → Int32 → OR} {r50 : SM → Int32 → Int32 → Int32 → Int32 → Int32 → Int32 → OR} (h_k94 : ∀ (t : SM) (v3 : Int32) (v4 : Int32) (v5 : Int32), k94 t v3 v4 v5 = some r → Body l 6 q_134 P_134 r 94 [(5, .int v5), (4, .int v4), (3, .int v3)] [] t) (h_r50 : ∀ (t : SM) (v1 : Int32) (v2 : Int32) (v3 : Int32) (v4 : Int32) (v5 : Int32) (v6 : Int32), r50 t v1 v2 v3 v4 v5 v6 = some r → Body l 6 q_134 P_134 r 50 [(6, .int v6), (5, .int v5), (4, .int v4), (3, .int v3), (2, .int v2), (1, .int v1), (0, .ref 0)] [] t) (t : SM) (v1 : Int32) (v2 : Int32) (v3 : Int32) (v4 : Int32) (v5 : Int32) (v6 : Int32) (h : fx_trick_50 k94 r50 t v1 v2 v3 v4 v5 v6 = some r) : Body l 6 q_134 P_134 r 50 [(6, .int v6), (5, .int v5), (4, .int v4), (3, .int v3), (2, .int v2), (1, .int v1), (0, .ref 0)] [] t :=
  blk ft_134 (by omega) rfl rows_134 (KDok.cons (KOK.f <| KOK.i fun w1 => KOK.i fun w2 => KOK.i fun w3 => KOK.i fun w4 => KOK.i fun w5 => KOK.i fun w6 => KOK.e (f := fun t => r50 t w1 w2 w3 w4 w5 w6) fun t h => h_r50 t w1 w2 w3 w4 w5 w6 h) (KDok.cons (KOK.i fun w3 => KOK.i fun w4 => KOK.i fun w5 => KOK.e (f := fun t => k94 t w3 w4 w5) fun t h => h_k94 t w3 w4 w5 h) (KDok.nil))) ((congrFun (congrFun (congrFun (congrFun (congrFun (congrFun (congrFun (congrFun (congrFun (congrFun (congrFun (congrFun (fx_trick_50_eq) F_155) F_162) F_180) (fun t u1 u2 u3 u4 u5 u6 => r50 t u1 u2 u3 u4 u5 u6)) (fun t u3 u4 u5 => k94 t u3 u4 u5)) t) v1) v2) v3) v4) v5) v6).trans h)
theorem fx_trick_l50_ok {k94 : SM → Int32 → Int32 → Int32 → OR} (h_k94 : ∀ (t : SM) (v3 : Int32) (v4 : Int32) (v5 : Int32), k94 t v3 v4 v5 = some r → Body l 6 q_134 P_134 r 94 [(5, .int v5), (4, .int v4), (3, .int v3)] [] t) : ∀ (n : Nat) (t : SM) (v1 : Int32) (v2 : Int32) (v3 : Int32) (v4 : Int32) (v5 : Int32) (v6 : Int32), fx_trick_l50 k94 n t v1 v2 v3 v4 v5 v6 = some r → Body l 6 q_134 P_134 r 50 [(6, .int v6), (5, .int v5), (4, .int v4), (3, .int v3), (2, .int v2), (1, .int v1), (0, .ref 0)] [] t
  | 0, _, _, _, _, _, _, _, h => by cases h
  | n + 1, t, v1, v2, v3, v4, v5, v6, h => fx_trick_50_ok h_k94 (fx_trick_l50_ok h_k94 n) t v1 v2 v3 v4 v5 v6 h
theorem fx_trick_eq : (fun (G155 : List Value → SM → OR) (G162 : List Value → SM → OR) (G180 : List Value → SM → OR) (j50 : SM → Int32 → Int32 → Int32 → Int32 → Int32 → Int32 → OR) (t : SM) (a : Int32) (b : Int32) (c : Int32) => ex clN P_134 none bytJ (mkCal rks ((155, G155) :: (162, G162) :: (180, G180) :: [])) [50] (kDisp [(50, kF 0 0 <| kI 1 fun w1 => kI 2 fun w2 => kI 3 fun w3 => kI 4 fun w4 => kI 5 fun w5 => kI 6 fun w6 => kE fun t => j50 t w1 w2 w3 w4 w5 w6)]) 400 0 [(0, .ref 0), (1, .int a), (2, .int b), (3, .int c)] [] t) = (fun (G155 : List Value → SM → OR) (G162 : List Value → SM → OR) (G180 : List Value → SM → OR) (j50 : SM → Int32 → Int32 → Int32 → Int32 → Int32 → Int32 → OR) (t : SM) (a : Int32) (b : Int32) (c : Int32) =>
  hRecv t 10 0 <| bI (G155 [.ref 0, .int a] t) fun isTown2 t1 =>
  if isTown2 = 0 then rI (-2) t1
  else bI (G162 [.int c] t1) fun isZeroOrOne4 t3 =>
  if isZeroOrOne4 = 0 then rI (-2) t3
  else if b < 0 then rI (-5) t3
    else hGetI t3 10 0 6 fun goerCount5 =>
    if b < goerCount5 then hRecv t3 10 0 <| bI (G180 [.ref 0, .int b, .int a, .int (a ^^^ 1)] t3) fun harmForOne7 t6 =>
      j50 t6 a b c 0 harmForOne7 1
    else rI (-5) t3) := by rfl
theorem fx_trick_ok (t : SM) (a : Int32) (b : Int32) (c : Int32) (h : fx_trick t a b c = some r) : Body l 6 q_134 P_134 r 0 [(0, .ref 0), (1, .int a), (2, .int b), (3, .int c)] [] t :=
  blk ft_134 (by omega) rfl rows_134 (KDok.cons (KOK.f <| KOK.i fun w1 => KOK.i fun w2 => KOK.i fun w3 => KOK.i fun w4 => KOK.i fun w5 => KOK.i fun w6 => KOK.e (f := fun t => fx_trick_l50 (fun t u3 u4 u5 => fx_trick_94 t u3 u4 u5) 1000000 t w1 w2 w3 w4 w5 w6) fun t h => fx_trick_l50_ok (k94 := fun t u3 u4 u5 => fx_trick_94 t u3 u4 u5) (fun t u3 u4 u5 h => fx_trick_94_ok t u3 u4 u5 h) 1000000 t w1 w2 w3 w4 w5 w6 h) (KDok.nil)) ((congrFun (congrFun (congrFun (congrFun (congrFun (congrFun (congrFun (congrFun (fx_trick_eq) F_155) F_162) F_180) (fun t u1 u2 u3 u4 u5 u6 => fx_trick_l50 (fun t u3 u4 u5 => fx_trick_94 t u3 u4 u5) 1000000 t u1 u2 u3 u4 u5 u6)) t) a) b) c).trans h)
theorem ok_134 (l : Launch) : Fok l 6 mtab 134 (F_134) := by
  intro as t r h
  unfold F_134 at h
  split at h
  · rename_i z0 a b c
    split at h
    · rename_i hz0
      obtain rfl := Nat.eq_of_beq_eq_true hz0
      exact ⟨q_134, rfl, mok_134, con_of (P := P_134) (by decide +kernel) rfl (Nat.le_of_ble_eq_true rfl) (fx_trick_ok t a b c h)⟩
    · cases h
  · cases h
end
section
set_option maxRecDepth 100000
variable {l : Launch} {r : RR}
def FT_135 : FT := (156, F_156) :: (174, F_174) :: (32, F_32) :: (166, F_166) :: (176, F_176) :: []
theorem ft_135 : FTok l 5 mtab FT_135 := FTok.cons (ok_156 l) (by omega) (FTok.cons (ok_174 l) (by omega) (FTok.cons (ok_32 l) (by omega) (FTok.cons (ok_166 l) (by omega) (FTok.cons (ok_176 l) (by omega) (FTok.nil)))))
theorem fx_enough_101_eq : (fun (G156 : List Value → SM → OR) (G174 : List Value → SM → OR) (G32 : List Value → SM → OR) (G166 : List Value → SM → OR) (G176 : List Value → SM → OR) (t : SM) => ex clN P_135 none bytJ (mkCal rks ((156, G156) :: (174, G174) :: (32, G32) :: (166, G166) :: (176, G176) :: [])) [] (kDisp []) 400 101 [(0, .ref 0)] [] t) = (fun (G156 : List Value → SM → OR) (G174 : List Value → SM → OR) (G32 : List Value → SM → OR) (G166 : List Value → SM → OR) (G176 : List Value → SM → OR) (t : SM) =>
  hRecv t 10 0 <| bI (G176 [.ref 0] t) fun fewestWanted2 t1 =>
  rI fewestWanted2 t1) := by rfl
theorem fx_enough_101_ok (t : SM) (h : fx_enough_101 t = some r) : Body l 5 q_135 P_135 r 101 [(0, .ref 0)] [] t :=
  blk ft_135 (by omega) rfl rows_135 (KDok.nil) ((congrFun (congrFun (congrFun (congrFun (congrFun (congrFun (fx_enough_101_eq) F_156) F_174) F_32) F_166) F_176) t).trans h)
theorem fx_enough_53_eq : (fun (G156 : List Value → SM → OR) (G174 : List Value → SM → OR) (G32 : List Value → SM → OR) (G166 : List Value → SM → OR) (G176 : List Value → SM → OR) (j53 : SM → Int32 → OR) (j101 : SM → OR) (t : SM) (v2 : Int32) => ex clN P_135 none bytJ (mkCal rks ((156, G156) :: (174, G174) :: (32, G32) :: (166, G166) :: (176, G176) :: [])) [53, 101] (kDisp [(53, kF 0 0 <| kI 2 fun w2 => kE fun t => j53 t w2), (101, kF 0 0 <| kE fun t => j101 t)]) 400 53 [(2, .int v2), (0, .ref 0)] [] t) = (fun (G156 : List Value → SM → OR) (G174 : List Value → SM → OR) (G32 : List Value → SM → OR) (G166 : List Value → SM → OR) (G176 : List Value → SM → OR) (j53 : SM → Int32 → OR) (j101 : SM → OR) (t : SM) (v2 : Int32) =>
  if 256 ≤ v2 then j101 t
  else hGetC t 10 0 16 21 <|
  hGetC t 10 0 15 20 <|
  hALd t 20 v2 fun e1 =>
  if e1 = 0 then hBSt t 21 v2 1 fun t2 =>
    j53 t2 (v2 + 1)
  else hGetC t 10 0 15 20 <|
  hALd t 20 v2 fun e3 =>
  hGetC t 10 0 14 19 <|
  hALd t 19 v2 fun e4 =>
  if e3 = e4 then hBSt t 21 v2 1 fun t6 =>
  j53 t6 (v2 + 1)
  else hBSt t 21 v2 0 fun t5 =>
    j53 t5 (v2 + 1)) := by rfl
theorem fx_enough_53_ok {k101 : SM → OR} {r53 : SM → Int32 → OR} (h_k101 : ∀ (t : SM), k101 t = some r → Body l 5 q_135 P_135 r 101 [(0, .ref 0)] [] t) (h_r53 : ∀ (t : SM) (v2 : Int32), r53 t v2 = some r → Body l 5 q_135 P_135 r 53 [(2, .int v2), (0, .ref 0)] [] t) (t : SM) (v2 : Int32) (h : fx_enough_53 k101 r53 t v2 = some r) : Body l 5 q_135 P_135 r 53 [(2, .int v2), (0, .ref 0)] [] t :=
  blk ft_135 (by omega) rfl rows_135 (KDok.cons (KOK.f <| KOK.i fun w2 => KOK.e (f := fun t => r53 t w2) fun t h => h_r53 t w2 h) (KDok.cons (KOK.f <| KOK.e (f := fun t => k101 t) fun t h => h_k101 t h) (KDok.nil))) ((congrFun (congrFun (congrFun (congrFun (congrFun (congrFun (congrFun (congrFun (congrFun (fx_enough_53_eq) F_156) F_174) F_32) F_166) F_176) (fun t u2 => r53 t u2)) (fun t => k101 t)) t) v2).trans h)
theorem fx_enough_l53_ok {k101 : SM → OR} (h_k101 : ∀ (t : SM), k101 t = some r → Body l 5 q_135 P_135 r 101 [(0, .ref 0)] [] t) : ∀ (n : Nat) (t : SM) (v2 : Int32), fx_enough_l53 k101 n t v2 = some r → Body l 5 q_135 P_135 r 53 [(2, .int v2), (0, .ref 0)] [] t
  | 0, _, _, h => by cases h
  | n + 1, t, v2, h => fx_enough_53_ok h_k101 (fx_enough_l53_ok h_k101 n) t v2 h
theorem fx_enough_eq : (fun (G156 : List Value → SM → OR) (G174 : List Value → SM → OR) (G32 : List Value → SM → OR) (G166 : List Value → SM → OR) (G176 : List Value → SM → OR) (j53 : SM → Int32 → OR) (t : SM) (a : Int32) => ex clN P_135 none bytJ (mkCal rks ((156, G156) :: (174, G174) :: (32, G32) :: (166, G166) :: (176, G176) :: [])) [53] (kDisp [(53, kF 0 0 <| kI 2 fun w2 => kE fun t => j53 t w2)]) 400 0 [(0, .ref 0), (1, .int a)] [] t) = (fun (G156 : List Value → SM → OR) (G174 : List Value → SM → OR) (G32 : List Value → SM → OR) (G166 : List Value → SM → OR) (G176 : List Value → SM → OR) (j53 : SM → Int32 → OR) (t : SM) (a : Int32) =>
  hRecv t 10 0 <| bI (G156 [.ref 0, .int a] t) fun isChoice2 t1 =>
  if isChoice2 = 0 then rI (-5) t1
  else hGetC t1 10 0 14 19 <|
    hRecv t1 10 0 <| bV (G174 [.ref 0, .ref 19, .int 0] t1) fun t3 =>
    hGetC t3 10 0 14 19 <|
    hGetC t3 10 0 3 1 <|
    hRecv t3 1 1 <| bI (G32 [.ref 1] t3) fun everyMap5 t4 =>
    bI (G166 [.ref 19, .int everyMap5] t4) fun numberAt7 t6 =>
    if numberAt7 = 0 then rI (-3) t6
    else hGetC t6 10 0 15 20 <|
      hRecv t6 10 0 <| bV (G174 [.ref 0, .ref 20, .int ((1 : Int32) <<< (a &&& 31))] t6) fun t8 =>
      j53 t8 0) := by rfl
theorem fx_enough_ok (t : SM) (a : Int32) (h : fx_enough t a = some r) : Body l 5 q_135 P_135 r 0 [(0, .ref 0), (1, .int a)] [] t :=
  blk ft_135 (by omega) rfl rows_135 (KDok.cons (KOK.f <| KOK.i fun w2 => KOK.e (f := fun t => fx_enough_l53 (fun t => fx_enough_101 t) 1000000 t w2) fun t h => fx_enough_l53_ok (k101 := fun t => fx_enough_101 t) (fun t h => fx_enough_101_ok t h) 1000000 t w2 h) (KDok.nil)) ((congrFun (congrFun (congrFun (congrFun (congrFun (congrFun (congrFun (congrFun (fx_enough_eq) F_156) F_174) F_32) F_166) F_176) (fun t u2 => fx_enough_l53 (fun t => fx_enough_101 t) 1000000 t u2)) t) a).trans h)
theorem ok_135 (l : Launch) : Fok l 5 mtab 135 (F_135) := by
  intro as t r h
  unfold F_135 at h
  split at h
  · rename_i z0 a
    split at h
    · rename_i hz0
      obtain rfl := Nat.eq_of_beq_eq_true hz0
      exact ⟨q_135, rfl, mok_135, con_of (P := P_135) (by decide +kernel) rfl (Nat.le_of_ble_eq_true rfl) (fx_enough_ok t a h)⟩
    · cases h
  · cases h
end
section
set_option maxRecDepth 100000
variable {l : Launch} {r : RR}
def FT_136 : FT := (174, F_174) :: (32, F_32) :: (166, F_166) :: (176, F_176) :: []
theorem ft_136 : FTok l 5 mtab FT_136 := FTok.cons (ok_174 l) (by omega) (FTok.cons (ok_32 l) (by omega) (FTok.cons (ok_166 l) (by omega) (FTok.cons (ok_176 l) (by omega) (FTok.nil))))
theorem fx_many_60_eq : (fun (G174 : List Value → SM → OR) (G32 : List Value → SM → OR) (G166 : List Value → SM → OR) (G176 : List Value → SM → OR) (t : SM) => ex clN P_136 none bytJ (mkCal rks ((174, G174) :: (32, G32) :: (166, G166) :: (176, G176) :: [])) [] (kDisp []) 400 60 [(0, .ref 0)] [] t) = (fun (G174 : List Value → SM → OR) (G32 : List Value → SM → OR) (G166 : List Value → SM → OR) (G176 : List Value → SM → OR) (t : SM) =>
  hRecv t 10 0 <| bI (G176 [.ref 0] t) fun fewestWanted2 t1 =>
  rI fewestWanted2 t1) := by rfl
theorem fx_many_60_ok (t : SM) (h : fx_many_60 t = some r) : Body l 5 q_136 P_136 r 60 [(0, .ref 0)] [] t :=
  blk ft_136 (by omega) rfl rows_136 (KDok.nil) ((congrFun (congrFun (congrFun (congrFun (congrFun (fx_many_60_eq) F_174) F_32) F_166) F_176) t).trans h)
theorem fx_many_26_eq : (fun (G174 : List Value → SM → OR) (G32 : List Value → SM → OR) (G166 : List Value → SM → OR) (G176 : List Value → SM → OR) (j26 : SM → Int32 → Int32 → OR) (j60 : SM → OR) (t : SM) (v1 : Int32) (v2 : Int32) => ex clN P_136 none bytJ (mkCal rks ((174, G174) :: (32, G32) :: (166, G166) :: (176, G176) :: [])) [26, 60] (kDisp [(26, kF 0 0 <| kI 1 fun w1 => kI 2 fun w2 => kE fun t => j26 t w1 w2), (60, kF 0 0 <| kE fun t => j60 t)]) 400 26 [(2, .int v2), (1, .int v1), (0, .ref 0)] [] t) = (fun (G174 : List Value → SM → OR) (G32 : List Value → SM → OR) (G166 : List Value → SM → OR) (G176 : List Value → SM → OR) (j26 : SM → Int32 → Int32 → OR) (j60 : SM → OR) (t : SM) (v1 : Int32) (v2 : Int32) =>
  if 256 ≤ v2 then j60 t
  else hGetC t 10 0 16 21 <|
  hGetC t 10 0 14 19 <|
  hALd t 19 v2 fun e1 =>
  if e1 = v1 then hBSt t 21 v2 1 fun t3 =>
  j26 t3 v1 (v2 + 1)
  else hBSt t 21 v2 0 fun t2 =>
    j26 t2 v1 (v2 + 1)) := by rfl
theorem fx_many_26_ok {k60 : SM → OR} {r26 : SM → Int32 → Int32 → OR} (h_k60 : ∀ (t : SM), k60 t = some r → Body l 5 q_136 P_136 r 60 [(0, .ref 0)] [] t) (h_r26 : ∀ (t : SM) (v1 : Int32) (v2 : Int32), r26 t v1 v2 = some r → Body l 5 q_136 P_136 r 26 [(2, .int v2), (1, .int v1), (0, .ref 0)] [] t) (t : SM) (v1 : Int32) (v2 : Int32) (h : fx_many_26 k60 r26 t v1 v2 = some r) : Body l 5 q_136 P_136 r 26 [(2, .int v2), (1, .int v1), (0, .ref 0)] [] t :=
  blk ft_136 (by omega) rfl rows_136 (KDok.cons (KOK.f <| KOK.i fun w1 => KOK.i fun w2 => KOK.e (f := fun t => r26 t w1 w2) fun t h => h_r26 t w1 w2 h) (KDok.cons (KOK.f <| KOK.e (f := fun t => k60 t) fun t h => h_k60 t h) (KDok.nil))) ((congrFun (congrFun (congrFun (congrFun (congrFun (congrFun (congrFun (congrFun (congrFun (fx_many_26_eq) F_174) F_32) F_166) F_176) (fun t u1 u2 => r26 t u1 u2)) (fun t => k60 t)) t) v1) v2).trans h)
theorem fx_many_l26_ok {k60 : SM → OR} (h_k60 : ∀ (t : SM), k60 t = some r → Body l 5 q_136 P_136 r 60 [(0, .ref 0)] [] t) : ∀ (n : Nat) (t : SM) (v1 : Int32) (v2 : Int32), fx_many_l26 k60 n t v1 v2 = some r → Body l 5 q_136 P_136 r 26 [(2, .int v2), (1, .int v1), (0, .ref 0)] [] t
  | 0, _, _, _, h => by cases h
  | n + 1, t, v1, v2, h => fx_many_26_ok h_k60 (fx_many_l26_ok h_k60 n) t v1 v2 h
theorem fx_many_eq : (fun (G174 : List Value → SM → OR) (G32 : List Value → SM → OR) (G166 : List Value → SM → OR) (G176 : List Value → SM → OR) (j26 : SM → Int32 → Int32 → OR) (t : SM) => ex clN P_136 none bytJ (mkCal rks ((174, G174) :: (32, G32) :: (166, G166) :: (176, G176) :: [])) [26] (kDisp [(26, kF 0 0 <| kI 1 fun w1 => kI 2 fun w2 => kE fun t => j26 t w1 w2)]) 400 0 [(0, .ref 0)] [] t) = (fun (G174 : List Value → SM → OR) (G32 : List Value → SM → OR) (G166 : List Value → SM → OR) (G176 : List Value → SM → OR) (j26 : SM → Int32 → Int32 → OR) (t : SM) =>
  hGetC t 10 0 14 19 <|
  hRecv t 10 0 <| bV (G174 [.ref 0, .ref 19, .int 0] t) fun t1 =>
  hGetC t1 10 0 14 19 <|
  hGetC t1 10 0 3 1 <|
  hRecv t1 1 1 <| bI (G32 [.ref 1] t1) fun everyMap3 t2 =>
  bI (G166 [.ref 19, .int everyMap3] t2) fun numberAt5 t4 =>
  j26 t4 numberAt5 0) := by rfl
theorem fx_many_ok (t : SM) (h : fx_many t = some r) : Body l 5 q_136 P_136 r 0 [(0, .ref 0)] [] t :=
  blk ft_136 (by omega) rfl rows_136 (KDok.cons (KOK.f <| KOK.i fun w1 => KOK.i fun w2 => KOK.e (f := fun t => fx_many_l26 (fun t => fx_many_60 t) 1000000 t w1 w2) fun t h => fx_many_l26_ok (k60 := fun t => fx_many_60 t) (fun t h => fx_many_60_ok t h) 1000000 t w1 w2 h) (KDok.nil)) ((congrFun (congrFun (congrFun (congrFun (congrFun (congrFun (fx_many_eq) F_174) F_32) F_166) F_176) (fun t u1 u2 => fx_many_l26 (fun t => fx_many_60 t) 1000000 t u1 u2)) t).trans h)
theorem ok_136 (l : Launch) : Fok l 5 mtab 136 (F_136) := by
  intro as t r h
  unfold F_136 at h
  split at h
  · rename_i z0
    split at h
    · rename_i hz0
      obtain rfl := Nat.eq_of_beq_eq_true hz0
      exact ⟨q_136, rfl, mok_136, con_of (P := P_136) (by decide +kernel) rfl (Nat.le_of_ble_eq_true rfl) (fx_many_ok t h)⟩
    · cases h
  · cases h
end
section
set_option maxRecDepth 100000
variable {l : Launch} {r : RR}
def FT_137 : FT := (162, F_162) :: (32, F_32) :: (172, F_172) :: (103, F_103) :: (1, F_1) :: []
theorem ft_137 : FTok l 5 mtab FT_137 := FTok.cons (ok_162 l) (by omega) (FTok.cons (ok_32 l) (by omega) (FTok.cons (ok_172 l) (by omega) (FTok.cons (ok_103 l) (by omega) (FTok.cons (ok_1 l) (by omega) (FTok.nil)))))
theorem fx_next_89_eq : (fun (G162 : List Value → SM → OR) (G32 : List Value → SM → OR) (G172 : List Value → SM → OR) (G103 : List Value → SM → OR) (G1 : List Value → SM → OR) (t : SM) (v1 : Int32) (v2 : Int32) (v3 : Int32) => ex clN P_137 none bytJ (mkCal rks ((162, G162) :: (32, G32) :: (172, G172) :: (103, G103) :: (1, G1) :: [])) [] (kDisp []) 400 89 [(3, .int v3), (2, .int v2), (1, .int v1)] [] t) = (fun (G162 : List Value → SM → OR) (G32 : List Value → SM → OR) (G172 : List Value → SM → OR) (G103 : List Value → SM → OR) (G1 : List Value → SM → OR) (t : SM) (v1 : Int32) (v2 : Int32) (v3 : Int32) =>
  if v1 = 0 then rI v3 t
  else rI v2 t) := by rfl
theorem fx_next_89_ok (t : SM) (v1 : Int32) (v2 : Int32) (v3 : Int32) (h : fx_next_89 t v1 v2 v3 = some r) : Body l 5 q_137 P_137 r 89 [(3, .int v3), (2, .int v2), (1, .int v1)] [] t :=
  blk ft_137 (by omega) rfl rows_137 (KDok.nil) ((congrFun (congrFun (congrFun (congrFun (congrFun (congrFun (congrFun (congrFun (congrFun (fx_next_89_eq) F_162) F_32) F_172) F_103) F_1) t) v1) v2) v3).trans h)
theorem fx_next_34_eq : (fun (G162 : List Value → SM → OR) (G32 : List Value → SM → OR) (G172 : List Value → SM → OR) (G103 : List Value → SM → OR) (G1 : List Value → SM → OR) (j34 : SM → Int32 → Int32 → Int32 → Int32 → OR) (j89 : SM → Int32 → Int32 → Int32 → OR) (t : SM) (v1 : Int32) (v2 : Int32) (v3 : Int32) (v4 : Int32) => ex clN P_137 none bytJ (mkCal rks ((162, G162) :: (32, G32) :: (172, G172) :: (103, G103) :: (1, G1) :: [])) [34, 89] (kDisp [(34, kF 0 0 <| kI 1 fun w1 => kI 2 fun w2 => kI 3 fun w3 => kI 4 fun w4 => kE fun t => j34 t w1 w2 w3 w4), (89, kI 1 fun w1 => kI 2 fun w2 => kI 3 fun w3 => kE fun t => j89 t w1 w2 w3)]) 400 34 [(4, .int v4), (3, .int v3), (2, .int v2), (1, .int v1), (0, .ref 0)] [] t) = (fun (G162 : List Value → SM → OR) (G32 : List Value → SM → OR) (G172 : List Value → SM → OR) (G103 : List Value → SM → OR) (G1 : List Value → SM → OR) (j34 : SM → Int32 → Int32 → Int32 → Int32 → OR) (j89 : SM → Int32 → Int32 → Int32 → OR) (t : SM) (v1 : Int32) (v2 : Int32) (v3 : Int32) (v4 : Int32) =>
  hGetI t 10 0 0 fun choices1 =>
  if choices1 ≤ v4 then j89 t v1 v2 v3
  else hGetC t 10 0 13 16 <|
  hRecv t 9 16 <| bI (G103 [.ref 16, .int v4] t) fun howManyHave3 t2 =>
  hGetC t2 10 0 13 16 <|
  hGetI t2 9 16 1 fun size4 =>
  bI (G1 [.int howManyHave3, .int (size4 - howManyHave3)] t2) fun max6 t5 =>
  if v2 ≤ max6 then j34 t5 v1 v2 v3 (v4 + 1)
  else j34 t5 v1 max6 v4 (v4 + 1)) := by rfl
theorem fx_next_34_ok {k89 : SM → Int32 → Int32 → Int32 → OR} {r34 : SM → Int32 → Int32 → Int32 → Int32 → OR} (h_k89 : ∀ (t : SM) (v1 : Int32) (v2 : Int32) (v3 : Int32), k89 t v1 v2 v3 = some r → Body l 5 q_137 P_137 r 89 [(3, .int v3), (2, .int v2), (1, .int v1)] [] t) (h_r34 : ∀ (t : SM) (v1 : Int32) (v2 : Int32) (v3 : Int32) (v4 : Int32), r34 t v1 v2 v3 v4 = some r → Body l 5 q_137 P_137 r 34 [(4, .int v4), (3, .int v3), (2, .int v2), (1, .int v1), (0, .ref 0)] [] t) (t : SM) (v1 : Int32) (v2 : Int32) (v3 : Int32) (v4 : Int32) (h : fx_next_34 k89 r34 t v1 v2 v3 v4 = some r) : Body l 5 q_137 P_137 r 34 [(4, .int v4), (3, .int v3), (2, .int v2), (1, .int v1), (0, .ref 0)] [] t :=
  blk ft_137 (by omega) rfl rows_137 (KDok.cons (KOK.f <| KOK.i fun w1 => KOK.i fun w2 => KOK.i fun w3 => KOK.i fun w4 => KOK.e (f := fun t => r34 t w1 w2 w3 w4) fun t h => h_r34 t w1 w2 w3 w4 h) (KDok.cons (KOK.i fun w1 => KOK.i fun w2 => KOK.i fun w3 => KOK.e (f := fun t => k89 t w1 w2 w3) fun t h => h_k89 t w1 w2 w3 h) (KDok.nil))) ((congrFun (congrFun (congrFun (congrFun (congrFun (congrFun (congrFun (congrFun (congrFun (congrFun (congrFun (congrFun (fx_next_34_eq) F_162) F_32) F_172) F_103) F_1) (fun t u1 u2 u3 u4 => r34 t u1 u2 u3 u4)) (fun t u1 u2 u3 => k89 t u1 u2 u3)) t) v1) v2) v3) v4).trans h)
theorem fx_next_l34_ok {k89 : SM → Int32 → Int32 → Int32 → OR} (h_k89 : ∀ (t : SM) (v1 : Int32) (v2 : Int32) (v3 : Int32), k89 t v1 v2 v3 = some r → Body l 5 q_137 P_137 r 89 [(3, .int v3), (2, .int v2), (1, .int v1)] [] t) : ∀ (n : Nat) (t : SM) (v1 : Int32) (v2 : Int32) (v3 : Int32) (v4 : Int32), fx_next_l34 k89 n t v1 v2 v3 v4 = some r → Body l 5 q_137 P_137 r 34 [(4, .int v4), (3, .int v3), (2, .int v2), (1, .int v1), (0, .ref 0)] [] t
  | 0, _, _, _, _, _, h => by cases h
  | n + 1, t, v1, v2, v3, v4, h => fx_next_34_ok h_k89 (fx_next_l34_ok h_k89 n) t v1 v2 v3 v4 h
theorem fx_next_eq : (fun (G162 : List Value → SM → OR) (G32 : List Value → SM → OR) (G172 : List Value → SM → OR) (G103 : List Value → SM → OR) (G1 : List Value → SM → OR) (j34 : SM → Int32 → Int32 → Int32 → Int32 → OR) (t : SM) (a : Int32) => ex clN P_137 none bytJ (mkCal rks ((162, G162) :: (32, G32) :: (172, G172) :: (103, G103) :: (1, G1) :: [])) [34] (kDisp [(34, kF 0 0 <| kI 1 fun w1 => kI 2 fun w2 => kI 3 fun w3 => kI 4 fun w4 => kE fun t => j34 t w1 w2 w3 w4)]) 400 0 [(0, .ref 0), (1, .int a)] [] t) = (fun (G162 : List Value → SM → OR) (G32 : List Value → SM → OR) (G172 : List Value → SM → OR) (G103 : List Value → SM → OR) (G1 : List Value → SM → OR) (j34 : SM → Int32 → Int32 → Int32 → Int32 → OR) (t : SM) (a : Int32) =>
  bI (G162 [.int a] t) fun isZeroOrOne2 t1 =>
  if isZeroOrOne2 = 0 then rI (-2) t1
  else hGetC t1 10 0 3 1 <|
    hRecv t1 1 1 <| bI (G32 [.ref 1] t1) fun everyMap4 t3 =>
    hRecv t3 10 0 <| bI (G172 [.ref 0, .int everyMap4] t3) fun findWorlds6 t5 =>
    if findWorlds6 = 0 then rI (-3) t5
    else j34 t5 a findWorlds6 (-1) 0) := by rfl
theorem fx_next_ok (t : SM) (a : Int32) (h : fx_next t a = some r) : Body l 5 q_137 P_137 r 0 [(0, .ref 0), (1, .int a)] [] t :=
  blk ft_137 (by omega) rfl rows_137 (KDok.cons (KOK.f <| KOK.i fun w1 => KOK.i fun w2 => KOK.i fun w3 => KOK.i fun w4 => KOK.e (f := fun t => fx_next_l34 (fun t u1 u2 u3 => fx_next_89 t u1 u2 u3) 1000000 t w1 w2 w3 w4) fun t h => fx_next_l34_ok (k89 := fun t u1 u2 u3 => fx_next_89 t u1 u2 u3) (fun t u1 u2 u3 h => fx_next_89_ok t u1 u2 u3 h) 1000000 t w1 w2 w3 w4 h) (KDok.nil)) ((congrFun (congrFun (congrFun (congrFun (congrFun (congrFun (congrFun (congrFun (fx_next_eq) F_162) F_32) F_172) F_103) F_1) (fun t u1 u2 u3 u4 => fx_next_l34 (fun t u1 u2 u3 => fx_next_89 t u1 u2 u3) 1000000 t u1 u2 u3 u4)) t) a).trans h)
theorem ok_137 (l : Launch) : Fok l 5 mtab 137 (F_137) := by
  intro as t r h
  unfold F_137 at h
  split at h
  · rename_i z0 a
    split at h
    · rename_i hz0
      obtain rfl := Nat.eq_of_beq_eq_true hz0
      exact ⟨q_137, rfl, mok_137, con_of (P := P_137) (by decide +kernel) rfl (Nat.le_of_ble_eq_true rfl) (fx_next_ok t a h)⟩
    · cases h
  · cases h
end
section
set_option maxRecDepth 100000
variable {l : Launch} {r : RR}
def FT_138 : FT := (173, F_173) :: (104, F_104) :: []
theorem ft_138 : FTok l 6 mtab FT_138 := FTok.cons (ok_173 l) (by omega) (FTok.cons (ok_104 l) (by omega) (FTok.nil))
theorem fx_looks_eq : (fun (G173 : List Value → SM → OR) (G104 : List Value → SM → OR) (t : SM) => ex clN P_138 none bytJ (mkCal rks ((173, G173) :: (104, G104) :: [])) [] (kDisp []) 400 0 [(0, .ref 0)] [] t) = (fun (G173 : List Value → SM → OR) (G104 : List Value → SM → OR) (t : SM) =>
  hRecv t 10 0 <| bI (G173 [.ref 0] t) fun findFewWorlds2 t1 =>
  if findFewWorlds2 = 0 then rI (-3) t1
  else hGetC t1 10 0 13 16 <|
    hGetI t1 10 0 0 fun choices3 =>
    hRecv t1 9 16 <| bI (G104 [.ref 16, .int choices3] t1) fun looksAtWorst5 t4 =>
    rI looksAtWorst5 t4) := by rfl
theorem fx_looks_ok (t : SM) (h : fx_looks t = some r) : Body l 6 q_138 P_138 r 0 [(0, .ref 0)] [] t :=
  blk ft_138 (by omega) rfl rows_138 (KDok.nil) ((congrFun (congrFun (congrFun (fx_looks_eq) F_173) F_104) t).trans h)
theorem ok_138 (l : Launch) : Fok l 6 mtab 138 (F_138) := by
  intro as t r h
  unfold F_138 at h
  split at h
  · rename_i z0
    split at h
    · rename_i hz0
      obtain rfl := Nat.eq_of_beq_eq_true hz0
      exact ⟨q_138, rfl, mok_138, con_of (P := P_138) (by decide +kernel) rfl (Nat.le_of_ble_eq_true rfl) (fx_looks_ok t h)⟩
    · cases h
  · cases h
end
section
set_option maxRecDepth 100000
variable {l : Launch} {r : RR}
def FT_139 : FT := (29, F_29) :: (36, F_36) :: []
theorem ft_139 : FTok l 3 mtab FT_139 := FTok.cons (ok_29 l) (by omega) (FTok.cons (ok_36 l) (by omega) (FTok.nil))
theorem fx_from_21_eq : (fun (G29 : List Value → SM → OR) (G36 : List Value → SM → OR) (j21 : SM → Int32 → Int32 → Int32 → OR) (t : SM) (v1 : Int32) (v3 : Int32) (v4 : Int32) => ex clN P_139 none bytJ (mkCal rks ((29, G29) :: (36, G36) :: [])) [21] (kDisp [(21, kF 0 0 <| kI 1 fun w1 => kI 3 fun w3 => kI 4 fun w4 => kE fun t => j21 t w1 w3 w4)]) 400 21 [(4, .int v4), (3, .int v3), (1, .int v1), (0, .ref 0)] [] t) = (fun (G29 : List Value → SM → OR) (G36 : List Value → SM → OR) (j21 : SM → Int32 → Int32 → Int32 → OR) (t : SM) (v1 : Int32) (v3 : Int32) (v4 : Int32) =>
  hGetC t 10 0 3 1 <|
  hGetI t 1 1 1 fun size1 =>
  if size1 ≤ v4 then rI v3 t
  else hGetC t 10 0 3 1 <|
  hRecv t 1 1 <| bI (G36 [.ref 1, .int v1, .int v4] t) fun unlike3 t2 =>
  if unlike3 = 1 then j21 t2 v1 (v3 ||| ((1 : Int32) <<< (v4 &&& 31))) (v4 + 1)
  else j21 t2 v1 v3 (v4 + 1)) := by rfl
theorem fx_from_21_ok {r21 : SM → Int32 → Int32 → Int32 → OR} (h_r21 : ∀ (t : SM) (v1 : Int32) (v3 : Int32) (v4 : Int32), r21 t v1 v3 v4 = some r → Body l 3 q_139 P_139 r 21 [(4, .int v4), (3, .int v3), (1, .int v1), (0, .ref 0)] [] t) (t : SM) (v1 : Int32) (v3 : Int32) (v4 : Int32) (h : fx_from_21 r21 t v1 v3 v4 = some r) : Body l 3 q_139 P_139 r 21 [(4, .int v4), (3, .int v3), (1, .int v1), (0, .ref 0)] [] t :=
  blk ft_139 (by omega) rfl rows_139 (KDok.cons (KOK.f <| KOK.i fun w1 => KOK.i fun w3 => KOK.i fun w4 => KOK.e (f := fun t => r21 t w1 w3 w4) fun t h => h_r21 t w1 w3 w4 h) (KDok.nil)) ((congrFun (congrFun (congrFun (congrFun (congrFun (congrFun (congrFun (fx_from_21_eq) F_29) F_36) (fun t u1 u3 u4 => r21 t u1 u3 u4)) t) v1) v3) v4).trans h)
theorem fx_from_l21_ok : ∀ (n : Nat) (t : SM) (v1 : Int32) (v3 : Int32) (v4 : Int32), fx_from_l21 n t v1 v3 v4 = some r → Body l 3 q_139 P_139 r 21 [(4, .int v4), (3, .int v3), (1, .int v1), (0, .ref 0)] [] t
  | 0, _, _, _, _, h => by cases h
  | n + 1, t, v1, v3, v4, h => fx_from_21_ok (fx_from_l21_ok n) t v1 v3 v4 h
theorem fx_from_eq : (fun (G29 : List Value → SM → OR) (G36 : List Value → SM → OR) (j21 : SM → Int32 → Int32 → Int32 → OR) (t : SM) (a : Int32) => ex clN P_139 none bytJ (mkCal rks ((29, G29) :: (36, G36) :: [])) [21] (kDisp [(21, kF 0 0 <| kI 1 fun w1 => kI 3 fun w3 => kI 4 fun w4 => kE fun t => j21 t w1 w3 w4)]) 400 0 [(0, .ref 0), (1, .int a)] [] t) = (fun (G29 : List Value → SM → OR) (G36 : List Value → SM → OR) (j21 : SM → Int32 → Int32 → Int32 → OR) (t : SM) (a : Int32) =>
  hGetC t 10 0 3 1 <|
  hRecv t 1 1 <| bQ (G29 [.ref 1, .int a] t) (fun t1 => rI (-5) t1) fun q2 t1 =>
  j21 t1 a 0 0) := by rfl
theorem fx_from_ok (t : SM) (a : Int32) (h : fx_from t a = some r) : Body l 3 q_139 P_139 r 0 [(0, .ref 0), (1, .int a)] [] t :=
  blk ft_139 (by omega) rfl rows_139 (KDok.cons (KOK.f <| KOK.i fun w1 => KOK.i fun w3 => KOK.i fun w4 => KOK.e (f := fun t => fx_from_l21 1000000 t w1 w3 w4) fun t h => fx_from_l21_ok 1000000 t w1 w3 w4 h) (KDok.nil)) ((congrFun (congrFun (congrFun (congrFun (congrFun (fx_from_eq) F_29) F_36) (fun t u1 u3 u4 => fx_from_l21 1000000 t u1 u3 u4)) t) a).trans h)
theorem ok_139 (l : Launch) : Fok l 3 mtab 139 (F_139) := by
  intro as t r h
  unfold F_139 at h
  split at h
  · rename_i z0 a
    split at h
    · rename_i hz0
      obtain rfl := Nat.eq_of_beq_eq_true hz0
      exact ⟨q_139, rfl, mok_139, con_of (P := P_139) (by decide +kernel) rfl (Nat.le_of_ble_eq_true rfl) (fx_from_ok t a h)⟩
    · cases h
  · cases h
end
section
set_option maxRecDepth 100000
variable {l : Launch} {r : RR}
def FT_140 : FT := (38, F_38) :: []
theorem ft_140 : FTok l 5 mtab FT_140 := FTok.cons (ok_38 l) (by omega) (FTok.nil)
theorem fx_tree_eq : (fun (G38 : List Value → SM → OR) (t : SM) => ex clN P_140 none bytJ (mkCal rks ((38, G38) :: [])) [] (kDisp []) 400 0 [(0, .ref 0)] [] t) = (fun (G38 : List Value → SM → OR) (t : SM) =>
  hGetC t 10 0 3 1 <|
  hRecv t 1 1 <| bI (G38 [.ref 1] t) fun drawFromOneAnother2 t1 =>
  rI drawFromOneAnother2 t1) := by rfl
theorem fx_tree_ok (t : SM) (h : fx_tree t = some r) : Body l 5 q_140 P_140 r 0 [(0, .ref 0)] [] t :=
  blk ft_140 (by omega) rfl rows_140 (KDok.nil) ((congrFun (congrFun (fx_tree_eq) F_38) t).trans h)
theorem ok_140 (l : Launch) : Fok l 5 mtab 140 (F_140) := by
  intro as t r h
  unfold F_140 at h
  split at h
  · rename_i z0
    split at h
    · rename_i hz0
      obtain rfl := Nat.eq_of_beq_eq_true hz0
      exact ⟨q_140, rfl, mok_140, con_of (P := P_140) (by decide +kernel) rfl (Nat.le_of_ble_eq_true rfl) (fx_tree_ok t h)⟩
    · cases h
  · cases h
end
section
set_option maxRecDepth 100000
variable {l : Launch} {r : RR}
def FT_141 : FT := (29, F_29) :: (38, F_38) :: (37, F_37) :: []
theorem ft_141 : FTok l 5 mtab FT_141 := FTok.cons (ok_29 l) (by omega) (FTok.cons (ok_38 l) (by omega) (FTok.cons (ok_37 l) (by omega) (FTok.nil)))
theorem fx_drawnFrom_eq : (fun (G29 : List Value → SM → OR) (G38 : List Value → SM → OR) (G37 : List Value → SM → OR) (t : SM) (a : Int32) => ex clN P_141 none bytJ (mkCal rks ((29, G29) :: (38, G38) :: (37, G37) :: [])) [] (kDisp []) 400 0 [(0, .ref 0), (1, .int a)] [] t) = (fun (G29 : List Value → SM → OR) (G38 : List Value → SM → OR) (G37 : List Value → SM → OR) (t : SM) (a : Int32) =>
  hGetC t 10 0 3 1 <|
  hRecv t 1 1 <| bQ (G29 [.ref 1, .int a] t) (fun t1 => rI (-5) t1) fun q2 t1 =>
  hGetC t1 10 0 3 1 <|
  hRecv t1 1 1 <| bI (G38 [.ref 1] t1) fun drawFromOneAnother4 t3 =>
  hGetC t3 10 0 3 1 <|
  hRecv t3 1 1 <| bI (G37 [.ref 1, .int a] t3) fun originOf6 t5 =>
  rI originOf6 t5) := by rfl
theorem fx_drawnFrom_ok (t : SM) (a : Int32) (h : fx_drawnFrom t a = some r) : Body l 5 q_141 P_141 r 0 [(0, .ref 0), (1, .int a)] [] t :=
  blk ft_141 (by omega) rfl rows_141 (KDok.nil) ((congrFun (congrFun (congrFun (congrFun (congrFun (fx_drawnFrom_eq) F_29) F_38) F_37) t) a).trans h)
theorem ok_141 (l : Launch) : Fok l 5 mtab 141 (F_141) := by
  intro as t r h
  unfold F_141 at h
  split at h
  · rename_i z0 a
    split at h
    · rename_i hz0
      obtain rfl := Nat.eq_of_beq_eq_true hz0
      exact ⟨q_141, rfl, mok_141, con_of (P := P_141) (by decide +kernel) rfl (Nat.le_of_ble_eq_true rfl) (fx_drawnFrom_ok t a h)⟩
    · cases h
  · cases h
end
section
set_option maxRecDepth 100000
variable {l : Launch} {r : RR}
def FT_142 : FT := (29, F_29) :: (162, F_162) :: (41, F_41) :: (157, F_157) :: (0, F_0) :: []
theorem ft_142 : FTok l 2 mtab FT_142 := FTok.cons (ok_29 l) (by omega) (FTok.cons (ok_162 l) (by omega) (FTok.cons (ok_41 l) (by omega) (FTok.cons (ok_157 l) (by omega) (FTok.cons (ok_0 l) (by omega) (FTok.nil)))))
theorem fx_over_eq : (fun (G29 : List Value → SM → OR) (G162 : List Value → SM → OR) (G41 : List Value → SM → OR) (G157 : List Value → SM → OR) (G0 : List Value → SM → OR) (t : SM) (a : Int32) (b : Int32) (c : Int32) => ex clN P_142 none bytJ (mkCal rks ((29, G29) :: (162, G162) :: (41, G41) :: (157, G157) :: (0, G0) :: [])) [] (kDisp []) 400 0 [(0, .ref 0), (1, .int a), (2, .int b), (3, .int c)] [] t) = (fun (G29 : List Value → SM → OR) (G162 : List Value → SM → OR) (G41 : List Value → SM → OR) (G157 : List Value → SM → OR) (G0 : List Value → SM → OR) (t : SM) (a : Int32) (b : Int32) (c : Int32) =>
  hGetC t 10 0 3 1 <|
  hRecv t 1 1 <| bQ (G29 [.ref 1, .int a] t) (fun t1 => hGetC t1 10 0 3 1 <|
    hRecv t1 1 1 <| bQ (G29 [.ref 1, .int b] t1) (fun t3 => rI (-5) t3) fun q4 t3 =>
    rI (-5) t3) fun q2 t1 =>
  hGetC t1 10 0 3 1 <|
  hRecv t1 1 1 <| bQ (G29 [.ref 1, .int b] t1) (fun t5 => rI (-5) t5) fun q6 t5 =>
  bI (G162 [.int c] t5) fun isZeroOrOne8 t7 =>
  if isZeroOrOne8 = 0 then rI (-7) t7
  else hGetI t7 2 q2 1 fun says9 =>
    hGetI t7 2 q6 1 fun says10 =>
    hRecv t7 2 q2 <| bI (G41 [.ref q2] t7) fun shown12 t11 =>
    hRecv t11 2 q6 <| bI (G41 [.ref q6] t11) fun shown14 t13 =>
    hRecv t13 10 0 <| bI (G157 [.ref 0] t13) fun everyChoice16 t15 =>
    if c = 0 then rI ((((says9 ^^^ says10) &&& shown12) &&& shown14) &&& everyChoice16) t15
    else bI (G0 [.int ((((says9 ^^^ says10) &&& shown12) &&& shown14) &&& everyChoice16)] t15) fun bitCount18 t17 =>
      rI bitCount18 t17) := by rfl
theorem fx_over_ok (t : SM) (a : Int32) (b : Int32) (c : Int32) (h : fx_over t a b c = some r) : Body l 2 q_142 P_142 r 0 [(0, .ref 0), (1, .int a), (2, .int b), (3, .int c)] [] t :=
  blk ft_142 (by omega) rfl rows_142 (KDok.nil) ((congrFun (congrFun (congrFun (congrFun (congrFun (congrFun (congrFun (congrFun (congrFun (fx_over_eq) F_29) F_162) F_41) F_157) F_0) t) a) b) c).trans h)
theorem ok_142 (l : Launch) : Fok l 2 mtab 142 (F_142) := by
  intro as t r h
  unfold F_142 at h
  split at h
  · rename_i z0 a b c
    split at h
    · rename_i hz0
      obtain rfl := Nat.eq_of_beq_eq_true hz0
      exact ⟨q_142, rfl, mok_142, con_of (P := P_142) (by decide +kernel) rfl (Nat.le_of_ble_eq_true rfl) (fx_over_ok t a b c h)⟩
    · cases h
  · cases h
end
section
set_option maxRecDepth 100000
variable {l : Launch} {r : RR}
def FT_143 : FT := (33, F_33) :: (172, F_172) :: []
theorem ft_143 : FTok l 5 mtab FT_143 := FTok.cons (ok_33 l) (by omega) (FTok.cons (ok_172 l) (by omega) (FTok.nil))
theorem fx_join_eq : (fun (G33 : List Value → SM → OR) (G172 : List Value → SM → OR) (t : SM) => ex clN P_143 none bytJ (mkCal rks ((33, G33) :: (172, G172) :: [])) [] (kDisp []) 400 0 [(0, .ref 0)] [] t) = (fun (G33 : List Value → SM → OR) (G172 : List Value → SM → OR) (t : SM) =>
  hGetC t 10 0 3 1 <|
  hRecv t 1 1 <| bI (G33 [.ref 1] t) fun everyPart2 t1 =>
  hRecv t1 10 0 <| bI (G172 [.ref 0, .int everyPart2] t1) fun findWorlds4 t3 =>
  rI findWorlds4 t3) := by rfl
theorem fx_join_ok (t : SM) (h : fx_join t = some r) : Body l 5 q_143 P_143 r 0 [(0, .ref 0)] [] t :=
  blk ft_143 (by omega) rfl rows_143 (KDok.nil) ((congrFun (congrFun (congrFun (fx_join_eq) F_33) F_172) t).trans h)
theorem ok_143 (l : Launch) : Fok l 5 mtab 143 (F_143) := by
  intro as t r h
  unfold F_143 at h
  split at h
  · rename_i z0
    split at h
    · rename_i hz0
      obtain rfl := Nat.eq_of_beq_eq_true hz0
      exact ⟨q_143, rfl, mok_143, con_of (P := P_143) (by decide +kernel) rfl (Nat.le_of_ble_eq_true rfl) (fx_join_ok t h)⟩
    · cases h
  · cases h
end
section
set_option maxRecDepth 100000
variable {l : Launch} {r : RR}
def FT_144 : FT := (29, F_29) :: (162, F_162) :: (32, F_32) :: (172, F_172) :: (99, F_99) :: (0, F_0) :: (1, F_1) :: (2, F_2) :: []
theorem ft_144 : FTok l 5 mtab FT_144 := FTok.cons (ok_29 l) (by omega) (FTok.cons (ok_162 l) (by omega) (FTok.cons (ok_32 l) (by omega) (FTok.cons (ok_172 l) (by omega) (FTok.cons (ok_99 l) (by omega) (FTok.cons (ok_0 l) (by omega) (FTok.cons (ok_1 l) (by omega) (FTok.cons (ok_2 l) (by omega) (FTok.nil))))))))
theorem fx_years_119_eq : (fun (G29 : List Value → SM → OR) (G162 : List Value → SM → OR) (G32 : List Value → SM → OR) (G172 : List Value → SM → OR) (G99 : List Value → SM → OR) (G0 : List Value → SM → OR) (G1 : List Value → SM → OR) (G2 : List Value → SM → OR) (t : SM) (v2 : Int32) (v4 : Int32) (v5 : Int32) => ex clN P_144 none bytJ (mkCal rks ((29, G29) :: (162, G162) :: (32, G32) :: (172, G172) :: (99, G99) :: (0, G0) :: (1, G1) :: (2, G2) :: [])) [] (kDisp []) 400 119 [(5, .int v5), (4, .int v4), (2, .int v2)] [] t) = (fun (G29 : List Value → SM → OR) (G162 : List Value → SM → OR) (G32 : List Value → SM → OR) (G172 : List Value → SM → OR) (G99 : List Value → SM → OR) (G0 : List Value → SM → OR) (G1 : List Value → SM → OR) (G2 : List Value → SM → OR) (t : SM) (v2 : Int32) (v4 : Int32) (v5 : Int32) =>
  if v2 = 0 then rI v4 t
  else rI v5 t) := by rfl
theorem fx_years_119_ok (t : SM) (v2 : Int32) (v4 : Int32) (v5 : Int32) (h : fx_years_119 t v2 v4 v5 = some r) : Body l 5 q_144 P_144 r 119 [(5, .int v5), (4, .int v4), (2, .int v2)] [] t :=
  blk ft_144 (by omega) rfl rows_144 (KDok.nil) ((congrFun (congrFun (congrFun (congrFun (congrFun (congrFun (congrFun (congrFun (congrFun (congrFun (congrFun (congrFun (fx_years_119_eq) F_29) F_162) F_32) F_172) F_99) F_0) F_1) F_2) t) v2) v4) v5).trans h)
theorem fx_years_58_eq : (fun (G29 : List Value → SM → OR) (G162 : List Value → SM → OR) (G32 : List Value → SM → OR) (G172 : List Value → SM → OR) (G99 : List Value → SM → OR) (G0 : List Value → SM → OR) (G1 : List Value → SM → OR) (G2 : List Value → SM → OR) (j58 : SM → Int32 → Nat → Int32 → Int32 → Int32 → OR) (j119 : SM → Int32 → Int32 → Int32 → OR) (t : SM) (v2 : Int32) (v3 : Nat) (v4 : Int32) (v5 : Int32) (v6 : Int32) => ex clN P_144 none bytJ (mkCal rks ((29, G29) :: (162, G162) :: (32, G32) :: (172, G172) :: (99, G99) :: (0, G0) :: (1, G1) :: (2, G2) :: [])) [58, 119] (kDisp [(58, kF 0 0 <| kI 2 fun w2 => kR 3 fun w3 => kI 4 fun w4 => kI 5 fun w5 => kI 6 fun w6 => kE fun t => j58 t w2 w3 w4 w5 w6), (119, kI 2 fun w2 => kI 4 fun w4 => kI 5 fun w5 => kE fun t => j119 t w2 w4 w5)]) 400 58 [(6, .int v6), (5, .int v5), (4, .int v4), (3, .ref v3), (2, .int v2), (0, .ref 0)] [] t) = (fun (G29 : List Value → SM → OR) (G162 : List Value → SM → OR) (G32 : List Value → SM → OR) (G172 : List Value → SM → OR) (G99 : List Value → SM → OR) (G0 : List Value → SM → OR) (G1 : List Value → SM → OR) (G2 : List Value → SM → OR) (j58 : SM → Int32 → Nat → Int32 → Int32 → Int32 → OR) (j119 : SM → Int32 → Int32 → Int32 → OR) (t : SM) (v2 : Int32) (v3 : Nat) (v4 : Int32) (v5 : Int32) (v6 : Int32) =>
  hGetC t 10 0 13 16 <|
  hGetI t 9 16 1 fun size1 =>
  if size1 ≤ v6 then j119 t v2 v4 v5
  else hGetI t 2 v3 1 fun says2 =>
  hGetC t 10 0 13 16 <|
  hRecv t 9 16 <| bI (G99 [.ref 16, .int v6] t) fun townAt4 t3 =>
  bI (G0 [.int (says2 ^^^ townAt4)] t3) fun bitCount6 t5 =>
  bI (G1 [.int 0, .int (bitCount6 - 1)] t5) fun max8 t7 =>
  bI (G2 [.int v4, .int max8] t7) fun min10 t9 =>
  bI (G1 [.int v5, .int max8] t9) fun max12 t11 =>
  j58 t11 v2 v3 min10 max12 (v6 + 1)) := by rfl
theorem fx_years_58_ok {k119 : SM → Int32 → Int32 → Int32 → OR} {r58 : SM → Int32 → Nat → Int32 → Int32 → Int32 → OR} (h_k119 : ∀ (t : SM) (v2 : Int32) (v4 : Int32) (v5 : Int32), k119 t v2 v4 v5 = some r → Body l 5 q_144 P_144 r 119 [(5, .int v5), (4, .int v4), (2, .int v2)] [] t) (h_r58 : ∀ (t : SM) (v2 : Int32) (v3 : Nat) (v4 : Int32) (v5 : Int32) (v6 : Int32), r58 t v2 v3 v4 v5 v6 = some r → Body l 5 q_144 P_144 r 58 [(6, .int v6), (5, .int v5), (4, .int v4), (3, .ref v3), (2, .int v2), (0, .ref 0)] [] t) (t : SM) (v2 : Int32) (v3 : Nat) (v4 : Int32) (v5 : Int32) (v6 : Int32) (h : fx_years_58 k119 r58 t v2 v3 v4 v5 v6 = some r) : Body l 5 q_144 P_144 r 58 [(6, .int v6), (5, .int v5), (4, .int v4), (3, .ref v3), (2, .int v2), (0, .ref 0)] [] t :=
  blk ft_144 (by omega) rfl rows_144 (KDok.cons (KOK.f <| KOK.i fun w2 => KOK.rf fun w3 => KOK.i fun w4 => KOK.i fun w5 => KOK.i fun w6 => KOK.e (f := fun t => r58 t w2 w3 w4 w5 w6) fun t h => h_r58 t w2 w3 w4 w5 w6 h) (KDok.cons (KOK.i fun w2 => KOK.i fun w4 => KOK.i fun w5 => KOK.e (f := fun t => k119 t w2 w4 w5) fun t h => h_k119 t w2 w4 w5 h) (KDok.nil))) ((congrFun (congrFun (congrFun (congrFun (congrFun (congrFun (congrFun (congrFun (congrFun (congrFun (congrFun (congrFun (congrFun (congrFun (congrFun (congrFun (fx_years_58_eq) F_29) F_162) F_32) F_172) F_99) F_0) F_1) F_2) (fun t u2 u3 u4 u5 u6 => r58 t u2 u3 u4 u5 u6)) (fun t u2 u4 u5 => k119 t u2 u4 u5)) t) v2) v3) v4) v5) v6).trans h)
theorem fx_years_l58_ok {k119 : SM → Int32 → Int32 → Int32 → OR} (h_k119 : ∀ (t : SM) (v2 : Int32) (v4 : Int32) (v5 : Int32), k119 t v2 v4 v5 = some r → Body l 5 q_144 P_144 r 119 [(5, .int v5), (4, .int v4), (2, .int v2)] [] t) : ∀ (n : Nat) (t : SM) (v2 : Int32) (v3 : Nat) (v4 : Int32) (v5 : Int32) (v6 : Int32), fx_years_l58 k119 n t v2 v3 v4 v5 v6 = some r → Body l 5 q_144 P_144 r 58 [(6, .int v6), (5, .int v5), (4, .int v4), (3, .ref v3), (2, .int v2), (0, .ref 0)] [] t
  | 0, _, _, _, _, _, _, h => by cases h
  | n + 1, t, v2, v3, v4, v5, v6, h => fx_years_58_ok h_k119 (fx_years_l58_ok h_k119 n) t v2 v3 v4 v5 v6 h
theorem fx_years_eq : (fun (G29 : List Value → SM → OR) (G162 : List Value → SM → OR) (G32 : List Value → SM → OR) (G172 : List Value → SM → OR) (G99 : List Value → SM → OR) (G0 : List Value → SM → OR) (G1 : List Value → SM → OR) (G2 : List Value → SM → OR) (j58 : SM → Int32 → Nat → Int32 → Int32 → Int32 → OR) (t : SM) (a : Int32) (b : Int32) => ex clN P_144 none bytJ (mkCal rks ((29, G29) :: (162, G162) :: (32, G32) :: (172, G172) :: (99, G99) :: (0, G0) :: (1, G1) :: (2, G2) :: [])) [58] (kDisp [(58, kF 0 0 <| kI 2 fun w2 => kR 3 fun w3 => kI 4 fun w4 => kI 5 fun w5 => kI 6 fun w6 => kE fun t => j58 t w2 w3 w4 w5 w6)]) 400 0 [(0, .ref 0), (1, .int a), (2, .int b)] [] t) = (fun (G29 : List Value → SM → OR) (G162 : List Value → SM → OR) (G32 : List Value → SM → OR) (G172 : List Value → SM → OR) (G99 : List Value → SM → OR) (G0 : List Value → SM → OR) (G1 : List Value → SM → OR) (G2 : List Value → SM → OR) (j58 : SM → Int32 → Nat → Int32 → Int32 → Int32 → OR) (t : SM) (a : Int32) (b : Int32) =>
  hGetC t 10 0 3 1 <|
  hRecv t 1 1 <| bQ (G29 [.ref 1, .int a] t) (fun t1 => rI (-5) t1) fun q2 t1 =>
  bI (G162 [.int b] t1) fun isZeroOrOne4 t3 =>
  if isZeroOrOne4 = 0 then rI (-7) t3
  else hGetC t3 10 0 3 1 <|
    hRecv t3 1 1 <| bI (G32 [.ref 1] t3) fun everyMap6 t5 =>
    hRecv t5 10 0 <| bI (G172 [.ref 0, .int (everyMap6 &&& (((1 : Int32) <<< (a &&& 31)) ^^^ (-1)))] t5) fun findWorlds8 t7 =>
    if findWorlds8 = 0 then rI (-1) t7
    else j58 t7 b q2 9 0 0) := by rfl
theorem fx_years_ok (t : SM) (a : Int32) (b : Int32) (h : fx_years t a b = some r) : Body l 5 q_144 P_144 r 0 [(0, .ref 0), (1, .int a), (2, .int b)] [] t :=
  blk ft_144 (by omega) rfl rows_144 (KDok.cons (KOK.f <| KOK.i fun w2 => KOK.rf fun w3 => KOK.i fun w4 => KOK.i fun w5 => KOK.i fun w6 => KOK.e (f := fun t => fx_years_l58 (fun t u2 u4 u5 => fx_years_119 t u2 u4 u5) 1000000 t w2 w3 w4 w5 w6) fun t h => fx_years_l58_ok (k119 := fun t u2 u4 u5 => fx_years_119 t u2 u4 u5) (fun t u2 u4 u5 h => fx_years_119_ok t u2 u4 u5 h) 1000000 t w2 w3 w4 w5 w6 h) (KDok.nil)) ((congrFun (congrFun (congrFun (congrFun (congrFun (congrFun (congrFun (congrFun (congrFun (congrFun (congrFun (congrFun (fx_years_eq) F_29) F_162) F_32) F_172) F_99) F_0) F_1) F_2) (fun t u2 u3 u4 u5 u6 => fx_years_l58 (fun t u2 u4 u5 => fx_years_119 t u2 u4 u5) 1000000 t u2 u3 u4 u5 u6)) t) a) b).trans h)
theorem ok_144 (l : Launch) : Fok l 5 mtab 144 (F_144) := by
  intro as t r h
  unfold F_144 at h
  split at h
  · rename_i z0 a b
    split at h
    · rename_i hz0
      obtain rfl := Nat.eq_of_beq_eq_true hz0
      exact ⟨q_144, rfl, mok_144, con_of (P := P_144) (by decide +kernel) rfl (Nat.le_of_ble_eq_true rfl) (fx_years_ok t a b h)⟩
    · cases h
  · cases h
end
section
set_option maxRecDepth 100000
variable {l : Launch} {r : RR}
def FT_177 : FT := (166, F_166) :: (35, F_35) :: []
theorem ft_177 : FTok l 3 mtab FT_177 := FTok.cons (ok_166 l) (by omega) (FTok.cons (ok_35 l) (by omega) (FTok.nil))
theorem fx_isBetterBuy_eq : (fun (G166 : List Value → SM → OR) (G35 : List Value → SM → OR) (t : SM) (a : Int32) (b : Int32) => ex clN P_177 none bytJ (mkCal rks ((166, G166) :: (35, G35) :: [])) [] (kDisp []) 400 0 [(0, .ref 0), (1, .int a), (2, .int b)] [] t) = (fun (G166 : List Value → SM → OR) (G35 : List Value → SM → OR) (t : SM) (a : Int32) (b : Int32) =>
  hGetC t 10 0 14 19 <|
  bI (G166 [.ref 19, .int a] t) fun numberAt2 t1 =>
  hGetC t1 10 0 14 19 <|
  bI (G166 [.ref 19, .int b] t1) fun numberAt4 t3 =>
  if numberAt2 < numberAt4 then rI 1 t3
  else if numberAt2 = numberAt4 then hGetC t3 10 0 3 1 <|
  hRecv t3 1 1 <| bI (G35 [.ref 1, .int a] t3) fun costOf6 t5 =>
  hGetC t5 10 0 3 1 <|
  hRecv t5 1 1 <| bI (G35 [.ref 1, .int b] t5) fun costOf8 t7 =>
  if costOf8 ≤ costOf6 then rI 0 t7
  else rI 1 t7
  else rI 0 t3) := by rfl
theorem fx_isBetterBuy_ok (t : SM) (a : Int32) (b : Int32) (h : fx_isBetterBuy t a b = some r) : Body l 3 q_177 P_177 r 0 [(0, .ref 0), (1, .int a), (2, .int b)] [] t :=
  blk ft_177 (by omega) rfl rows_177 (KDok.nil) ((congrFun (congrFun (congrFun (congrFun (congrFun (fx_isBetterBuy_eq) F_166) F_35) t) a) b).trans h)
theorem ok_177 (l : Launch) : Fok l 3 mtab 177 (F_177) := by
  intro as t r h
  unfold F_177 at h
  split at h
  · rename_i z0 a b
    split at h
    · rename_i hz0
      obtain rfl := Nat.eq_of_beq_eq_true hz0
      exact ⟨q_177, rfl, mok_177, con_of (P := P_177) (by decide +kernel) rfl (Nat.le_of_ble_eq_true rfl) (fx_isBetterBuy_ok t a b h)⟩
    · cases h
  · cases h
end
section
set_option maxRecDepth 100000
variable {l : Launch} {r : RR}
def FT_145 : FT := (162, F_162) :: (174, F_174) :: (32, F_32) :: (35, F_35) :: (177, F_177) :: (166, F_166) :: []
theorem ft_145 : FTok l 5 mtab FT_145 := FTok.cons (ok_162 l) (by omega) (FTok.cons (ok_174 l) (by omega) (FTok.cons (ok_32 l) (by omega) (FTok.cons (ok_35 l) (by omega) (FTok.cons (ok_177 l) (by omega) (FTok.cons (ok_166 l) (by omega) (FTok.nil))))))
theorem fx_buy_79_eq : (fun (G162 : List Value → SM → OR) (G174 : List Value → SM → OR) (G32 : List Value → SM → OR) (G35 : List Value → SM → OR) (G177 : List Value → SM → OR) (G166 : List Value → SM → OR) (t : SM) (v2 : Int32) (v3 : Int32) => ex clN P_145 none bytJ (mkCal rks ((162, G162) :: (174, G174) :: (32, G32) :: (35, G35) :: (177, G177) :: (166, G166) :: [])) [] (kDisp []) 400 79 [(3, .int v3), (2, .int v2), (0, .ref 0)] [] t) = (fun (G162 : List Value → SM → OR) (G174 : List Value → SM → OR) (G32 : List Value → SM → OR) (G35 : List Value → SM → OR) (G177 : List Value → SM → OR) (G166 : List Value → SM → OR) (t : SM) (v2 : Int32) (v3 : Int32) =>
  if v2 = 0 then rI v3 t
  else hGetC t 10 0 14 19 <|
    bI (G166 [.ref 19, .int v3] t) fun numberAt2 t1 =>
    rI numberAt2 t1) := by rfl
theorem fx_buy_79_ok (t : SM) (v2 : Int32) (v3 : Int32) (h : fx_buy_79 t v2 v3 = some r) : Body l 5 q_145 P_145 r 79 [(3, .int v3), (2, .int v2), (0, .ref 0)] [] t :=
  blk ft_145 (by omega) rfl rows_145 (KDok.nil) ((congrFun (congrFun (congrFun (congrFun (congrFun (congrFun (congrFun (congrFun (congrFun (fx_buy_79_eq) F_162) F_174) F_32) F_35) F_177) F_166) t) v2) v3).trans h)
theorem fx_buy_35_eq : (fun (G162 : List Value → SM → OR) (G174 : List Value → SM → OR) (G32 : List Value → SM → OR) (G35 : List Value → SM → OR) (G177 : List Value → SM → OR) (G166 : List Value → SM → OR) (j35 : SM → Int32 → Int32 → Int32 → Int32 → OR) (j79 : SM → Int32 → Int32 → OR) (t : SM) (v1 : Int32) (v2 : Int32) (v3 : Int32) (v4 : Int32) => ex clN P_145 none bytJ (mkCal rks ((162, G162) :: (174, G174) :: (32, G32) :: (35, G35) :: (177, G177) :: (166, G166) :: [])) [35, 79] (kDisp [(35, kF 0 0 <| kI 1 fun w1 => kI 2 fun w2 => kI 3 fun w3 => kI 4 fun w4 => kE fun t => j35 t w1 w2 w3 w4), (79, kF 0 0 <| kI 2 fun w2 => kI 3 fun w3 => kE fun t => j79 t w2 w3)]) 400 35 [(4, .int v4), (3, .int v3), (2, .int v2), (1, .int v1), (0, .ref 0)] [] t) = (fun (G162 : List Value → SM → OR) (G174 : List Value → SM → OR) (G32 : List Value → SM → OR) (G35 : List Value → SM → OR) (G177 : List Value → SM → OR) (G166 : List Value → SM → OR) (j35 : SM → Int32 → Int32 → Int32 → Int32 → OR) (j79 : SM → Int32 → Int32 → OR) (t : SM) (v1 : Int32) (v2 : Int32) (v3 : Int32) (v4 : Int32) =>
  hGetC t 10 0 3 1 <|
  hRecv t 1 1 <| bI (G32 [.ref 1] t) fun everyMap2 t1 =>
  if everyMap2 < v4 then j79 t1 v2 v3
  else hGetC t1 10 0 3 1 <|
  hRecv t1 1 1 <| bI (G35 [.ref 1, .int v4] t1) fun costOf4 t3 =>
  if v1 < costOf4 then j35 t3 v1 v2 v3 (v4 + 1)
  else hRecv t3 10 0 <| bI (G177 [.ref 0, .int v4, .int v3] t3) fun isBetterBuy6 t5 =>
  if isBetterBuy6 = 0 then j35 t5 v1 v2 v3 (v4 + 1)
  else j35 t5 v1 v2 v4 (v4 + 1)) := by rfl
theorem fx_buy_35_ok {k79 : SM → Int32 → Int32 → OR} {r35 : SM → Int32 → Int32 → Int32 → Int32 → OR} (h_k79 : ∀ (t : SM) (v2 : Int32) (v3 : Int32), k79 t v2 v3 = some r → Body l 5 q_145 P_145 r 79 [(3, .int v3), (2, .int v2), (0, .ref 0)] [] t) (h_r35 : ∀ (t : SM) (v1 : Int32) (v2 : Int32) (v3 : Int32) (v4 : Int32), r35 t v1 v2 v3 v4 = some r → Body l 5 q_145 P_145 r 35 [(4, .int v4), (3, .int v3), (2, .int v2), (1, .int v1), (0, .ref 0)] [] t) (t : SM) (v1 : Int32) (v2 : Int32) (v3 : Int32) (v4 : Int32) (h : fx_buy_35 k79 r35 t v1 v2 v3 v4 = some r) : Body l 5 q_145 P_145 r 35 [(4, .int v4), (3, .int v3), (2, .int v2), (1, .int v1), (0, .ref 0)] [] t :=
  blk ft_145 (by omega) rfl rows_145 (KDok.cons (KOK.f <| KOK.i fun w1 => KOK.i fun w2 => KOK.i fun w3 => KOK.i fun w4 => KOK.e (f := fun t => r35 t w1 w2 w3 w4) fun t h => h_r35 t w1 w2 w3 w4 h) (KDok.cons (KOK.f <| KOK.i fun w2 => KOK.i fun w3 => KOK.e (f := fun t => k79 t w2 w3) fun t h => h_k79 t w2 w3 h) (KDok.nil))) ((congrFun (congrFun (congrFun (congrFun (congrFun (congrFun (congrFun (congrFun (congrFun (congrFun (congrFun (congrFun (congrFun (fx_buy_35_eq) F_162) F_174) F_32) F_35) F_177) F_166) (fun t u1 u2 u3 u4 => r35 t u1 u2 u3 u4)) (fun t u2 u3 => k79 t u2 u3)) t) v1) v2) v3) v4).trans h)
theorem fx_buy_l35_ok {k79 : SM → Int32 → Int32 → OR} (h_k79 : ∀ (t : SM) (v2 : Int32) (v3 : Int32), k79 t v2 v3 = some r → Body l 5 q_145 P_145 r 79 [(3, .int v3), (2, .int v2), (0, .ref 0)] [] t) : ∀ (n : Nat) (t : SM) (v1 : Int32) (v2 : Int32) (v3 : Int32) (v4 : Int32), fx_buy_l35 k79 n t v1 v2 v3 v4 = some r → Body l 5 q_145 P_145 r 35 [(4, .int v4), (3, .int v3), (2, .int v2), (1, .int v1), (0, .ref 0)] [] t
  | 0, _, _, _, _, _, h => by cases h
  | n + 1, t, v1, v2, v3, v4, h => fx_buy_35_ok h_k79 (fx_buy_l35_ok h_k79 n) t v1 v2 v3 v4 h
theorem fx_buy_eq : (fun (G162 : List Value → SM → OR) (G174 : List Value → SM → OR) (G32 : List Value → SM → OR) (G35 : List Value → SM → OR) (G177 : List Value → SM → OR) (G166 : List Value → SM → OR) (j35 : SM → Int32 → Int32 → Int32 → Int32 → OR) (t : SM) (a : Int32) (b : Int32) => ex clN P_145 none bytJ (mkCal rks ((162, G162) :: (174, G174) :: (32, G32) :: (35, G35) :: (177, G177) :: (166, G166) :: [])) [35] (kDisp [(35, kF 0 0 <| kI 1 fun w1 => kI 2 fun w2 => kI 3 fun w3 => kI 4 fun w4 => kE fun t => j35 t w1 w2 w3 w4)]) 400 0 [(0, .ref 0), (1, .int a), (2, .int b)] [] t) = (fun (G162 : List Value → SM → OR) (G174 : List Value → SM → OR) (G32 : List Value → SM → OR) (G35 : List Value → SM → OR) (G177 : List Value → SM → OR) (G166 : List Value → SM → OR) (j35 : SM → Int32 → Int32 → Int32 → Int32 → OR) (t : SM) (a : Int32) (b : Int32) =>
  if a < 0 then rI (-2) t
  else if 9999 < a then rI (-2) t
  else bI (G162 [.int b] t) fun isZeroOrOne2 t1 =>
  if isZeroOrOne2 = 0 then rI (-2) t1
  else hGetC t1 10 0 14 19 <|
    hRecv t1 10 0 <| bV (G174 [.ref 0, .ref 19, .int 0] t1) fun t3 =>
    j35 t3 a b 0 1) := by rfl
theorem fx_buy_ok (t : SM) (a : Int32) (b : Int32) (h : fx_buy t a b = some r) : Body l 5 q_145 P_145 r 0 [(0, .ref 0), (1, .int a), (2, .int b)] [] t :=
  blk ft_145 (by omega) rfl rows_145 (KDok.cons (KOK.f <| KOK.i fun w1 => KOK.i fun w2 => KOK.i fun w3 => KOK.i fun w4 => KOK.e (f := fun t => fx_buy_l35 (fun t u2 u3 => fx_buy_79 t u2 u3) 1000000 t w1 w2 w3 w4) fun t h => fx_buy_l35_ok (k79 := fun t u2 u3 => fx_buy_79 t u2 u3) (fun t u2 u3 h => fx_buy_79_ok t u2 u3 h) 1000000 t w1 w2 w3 w4 h) (KDok.nil)) ((congrFun (congrFun (congrFun (congrFun (congrFun (congrFun (congrFun (congrFun (congrFun (congrFun (fx_buy_eq) F_162) F_174) F_32) F_35) F_177) F_166) (fun t u1 u2 u3 u4 => fx_buy_l35 (fun t u2 u3 => fx_buy_79 t u2 u3) 1000000 t u1 u2 u3 u4)) t) a) b).trans h)
theorem ok_145 (l : Launch) : Fok l 5 mtab 145 (F_145) := by
  intro as t r h
  unfold F_145 at h
  split at h
  · rename_i z0 a b
    split at h
    · rename_i hz0
      obtain rfl := Nat.eq_of_beq_eq_true hz0
      exact ⟨q_145, rfl, mok_145, con_of (P := P_145) (by decide +kernel) rfl (Nat.le_of_ble_eq_true rfl) (fx_buy_ok t a b h)⟩
    · cases h
  · cases h
end
section
set_option maxRecDepth 100000
variable {l : Launch} {r : RR}
def FT_146 : FT := (29, F_29) :: (169, F_169) :: (32, F_32) :: (172, F_172) :: (92, F_92) :: (165, F_165) :: []
theorem ft_146 : FTok l 5 mtab FT_146 := FTok.cons (ok_29 l) (by omega) (FTok.cons (ok_169 l) (by omega) (FTok.cons (ok_32 l) (by omega) (FTok.cons (ok_172 l) (by omega) (FTok.cons (ok_92 l) (by omega) (FTok.cons (ok_165 l) (by omega) (FTok.nil))))))
theorem fx_worth_eq : (fun (G29 : List Value → SM → OR) (G169 : List Value → SM → OR) (G32 : List Value → SM → OR) (G172 : List Value → SM → OR) (G92 : List Value → SM → OR) (G165 : List Value → SM → OR) (t : SM) (a : Int32) => ex clN P_146 none bytJ (mkCal rks ((29, G29) :: (169, G169) :: (32, G32) :: (172, G172) :: (92, G92) :: (165, G165) :: [])) [] (kDisp []) 400 0 [(0, .ref 0), (1, .int a)] [] t) = (fun (G29 : List Value → SM → OR) (G169 : List Value → SM → OR) (G32 : List Value → SM → OR) (G172 : List Value → SM → OR) (G92 : List Value → SM → OR) (G165 : List Value → SM → OR) (t : SM) (a : Int32) =>
  hGetC t 10 0 3 1 <|
  hRecv t 1 1 <| bQ (G29 [.ref 1, .int a] t) (fun t1 => hRecv t1 10 0 <| bQ (G169 [.ref 0] t1) (fun t3 => rI (-5) t3) fun q4 t3 =>
    rI (-5) t3) fun q2 t1 =>
  hRecv t1 10 0 <| bQ (G169 [.ref 0] t1) (fun t5 => rI (-5) t5) fun q6 t5 =>
  hGetC t5 10 0 3 1 <|
  hRecv t5 1 1 <| bI (G32 [.ref 1] t5) fun everyMap8 t7 =>
  hRecv t7 10 0 <| bI (G172 [.ref 0, .int everyMap8] t7) fun findWorlds10 t9 =>
  hGetC t9 10 0 3 1 <|
  hRecv t9 1 1 <| bI (G32 [.ref 1] t9) fun everyMap12 t11 =>
  hRecv t11 10 0 <| bI (G172 [.ref 0, .int (everyMap12 &&& (((1 : Int32) <<< (a &&& 31)) ^^^ (-1)))] t11) fun findWorlds14 t13 =>
  hGetI t13 2 q2 1 fun says15 =>
  hRecv t13 8 q6 <| bI (G92 [.ref q6, .int says15, .int (findWorlds14 - findWorlds10)] t13) fun priceOf17 t16 =>
  bI (G165 [.int priceOf17] t16) fun bounded19 t18 =>
  rI bounded19 t18) := by rfl
theorem fx_worth_ok (t : SM) (a : Int32) (h : fx_worth t a = some r) : Body l 5 q_146 P_146 r 0 [(0, .ref 0), (1, .int a)] [] t :=
  blk ft_146 (by omega) rfl rows_146 (KDok.nil) ((congrFun (congrFun (congrFun (congrFun (congrFun (congrFun (congrFun (congrFun (fx_worth_eq) F_29) F_169) F_32) F_172) F_92) F_165) t) a).trans h)
theorem ok_146 (l : Launch) : Fok l 5 mtab 146 (F_146) := by
  intro as t r h
  unfold F_146 at h
  split at h
  · rename_i z0 a
    split at h
    · rename_i hz0
      obtain rfl := Nat.eq_of_beq_eq_true hz0
      exact ⟨q_146, rfl, mok_146, con_of (P := P_146) (by decide +kernel) rfl (Nat.le_of_ble_eq_true rfl) (fx_worth_ok t a h)⟩
    · cases h
  · cases h
end
section
set_option maxRecDepth 100000
variable {l : Launch} {r : RR}
def FT_147 : FT := (32, F_32) :: (172, F_172) :: (99, F_99) :: []
theorem ft_147 : FTok l 5 mtab FT_147 := FTok.cons (ok_32 l) (by omega) (FTok.cons (ok_172 l) (by omega) (FTok.cons (ok_99 l) (by omega) (FTok.nil)))
theorem fx_drawn_eq : (fun (G32 : List Value → SM → OR) (G172 : List Value → SM → OR) (G99 : List Value → SM → OR) (t : SM) (a : Int32) (b : Int32) => ex clN P_147 none bytJ (mkCal rks ((32, G32) :: (172, G172) :: (99, G99) :: [])) [] (kDisp []) 400 0 [(0, .ref 0), (1, .int a), (2, .int b)] [] t) = (fun (G32 : List Value → SM → OR) (G172 : List Value → SM → OR) (G99 : List Value → SM → OR) (t : SM) (a : Int32) (b : Int32) =>
  if a < 0 then rI (-2) t
  else if 99999 < a then rI (-2) t
  else if b < 0 then rI (-2) t
  else if b ≤ 2 then hGetC t 10 0 3 1 <|
    hRecv t 1 1 <| bI (G32 [.ref 1] t) fun everyMap2 t1 =>
    hRecv t1 10 0 <| bI (G172 [.ref 0, .int everyMap2] t1) fun findWorlds4 t3 =>
    if findWorlds4 = 0 then rI (-3) t3
    else hGetC t3 10 0 13 16 <|
      hGetC t3 10 0 13 16 <|
      hGetI t3 9 16 1 fun size5 =>
      if 1 ≤ size5 then hGetC t3 10 0 13 16 <|
        hGetI t3 9 16 1 fun size6 =>
        hNZL (Int32.toInt64 size6) (hRecv t3 9 16 <| bI (G99 [.ref 16, .int (Int64.toInt32 ((((Int32.toInt64 (a + 1)) * 48271) - ((Int32.toInt64 (a + 1)) * 48271) / 2147483647 * 2147483647) - (((Int32.toInt64 (a + 1)) * 48271) - ((Int32.toInt64 (a + 1)) * 48271) / 2147483647 * 2147483647) / (Int32.toInt64 size6) * (Int32.toInt64 size6)))] t3) fun townAt8 t7 =>
        hGetI t7 10 0 0 fun choices9 =>
        if 1 ≤ choices9 then hGetI t7 10 0 0 fun choices10 =>
          hNZL (Int32.toInt64 choices10) (if b = 0 then rI townAt8 t7
          else if b = 1 then rI (townAt8 ^^^ ((1 : Int32) <<< ((Int64.toInt32 ((((((Int32.toInt64 (a + 1)) * 48271) - ((Int32.toInt64 (a + 1)) * 48271) / 2147483647 * 2147483647) * 48271) - ((((Int32.toInt64 (a + 1)) * 48271) - ((Int32.toInt64 (a + 1)) * 48271) / 2147483647 * 2147483647) * 48271) / 2147483647 * 2147483647) - (((((Int32.toInt64 (a + 1)) * 48271) - ((Int32.toInt64 (a + 1)) * 48271) / 2147483647 * 2147483647) * 48271) - ((((Int32.toInt64 (a + 1)) * 48271) - ((Int32.toInt64 (a + 1)) * 48271) / 2147483647 * 2147483647) * 48271) / 2147483647 * 2147483647) / (Int32.toInt64 choices10) * (Int32.toInt64 choices10))) &&& 31))) t7
          else rI (Int64.toInt32 ((((((Int32.toInt64 (a + 1)) * 48271) - ((Int32.toInt64 (a + 1)) * 48271) / 2147483647 * 2147483647) * 48271) - ((((Int32.toInt64 (a + 1)) * 48271) - ((Int32.toInt64 (a + 1)) * 48271) / 2147483647 * 2147483647) * 48271) / 2147483647 * 2147483647) - (((((Int32.toInt64 (a + 1)) * 48271) - ((Int32.toInt64 (a + 1)) * 48271) / 2147483647 * 2147483647) * 48271) - ((((Int32.toInt64 (a + 1)) * 48271) - ((Int32.toInt64 (a + 1)) * 48271) / 2147483647 * 2147483647) * 48271) / 2147483647 * 2147483647) / (Int32.toInt64 choices10) * (Int32.toInt64 choices10))) t7)
        else if b = 0 then rI townAt8 t7
        else if b = 1 then rI (townAt8 ^^^ ((1 : Int32) <<< ((0 : Int32) &&& 31))) t7
        else rI 0 t7)
      else hRecv t3 9 16 <| bI (G99 [.ref 16, .int 0] t3) fun townAt12 t11 =>
      hGetI t11 10 0 0 fun choices13 =>
      if 1 ≤ choices13 then hGetI t11 10 0 0 fun choices14 =>
        hNZL (Int32.toInt64 choices14) (if b = 0 then rI townAt12 t11
        else if b = 1 then rI (townAt12 ^^^ ((1 : Int32) <<< ((Int64.toInt32 ((((((Int32.toInt64 (a + 1)) * 48271) - ((Int32.toInt64 (a + 1)) * 48271) / 2147483647 * 2147483647) * 48271) - ((((Int32.toInt64 (a + 1)) * 48271) - ((Int32.toInt64 (a + 1)) * 48271) / 2147483647 * 2147483647) * 48271) / 2147483647 * 2147483647) - (((((Int32.toInt64 (a + 1)) * 48271) - ((Int32.toInt64 (a + 1)) * 48271) / 2147483647 * 2147483647) * 48271) - ((((Int32.toInt64 (a + 1)) * 48271) - ((Int32.toInt64 (a + 1)) * 48271) / 2147483647 * 2147483647) * 48271) / 2147483647 * 2147483647) / (Int32.toInt64 choices14) * (Int32.toInt64 choices14))) &&& 31))) t11
        else rI (Int64.toInt32 ((((((Int32.toInt64 (a + 1)) * 48271) - ((Int32.toInt64 (a + 1)) * 48271) / 2147483647 * 2147483647) * 48271) - ((((Int32.toInt64 (a + 1)) * 48271) - ((Int32.toInt64 (a + 1)) * 48271) / 2147483647 * 2147483647) * 48271) / 2147483647 * 2147483647) - (((((Int32.toInt64 (a + 1)) * 48271) - ((Int32.toInt64 (a + 1)) * 48271) / 2147483647 * 2147483647) * 48271) - ((((Int32.toInt64 (a + 1)) * 48271) - ((Int32.toInt64 (a + 1)) * 48271) / 2147483647 * 2147483647) * 48271) / 2147483647 * 2147483647) / (Int32.toInt64 choices14) * (Int32.toInt64 choices14))) t11)
      else if b = 0 then rI townAt12 t11
      else if b = 1 then rI (townAt12 ^^^ ((1 : Int32) <<< ((0 : Int32) &&& 31))) t11
      else rI 0 t11
  else rI (-2) t) := by rfl
theorem fx_drawn_ok (t : SM) (a : Int32) (b : Int32) (h : fx_drawn t a b = some r) : Body l 5 q_147 P_147 r 0 [(0, .ref 0), (1, .int a), (2, .int b)] [] t :=
  blk ft_147 (by omega) rfl rows_147 (KDok.nil) ((congrFun (congrFun (congrFun (congrFun (congrFun (congrFun (fx_drawn_eq) F_32) F_172) F_99) t) a) b).trans h)
theorem ok_147 (l : Launch) : Fok l 5 mtab 147 (F_147) := by
  intro as t r h
  unfold F_147 at h
  split at h
  · rename_i z0 a b
    split at h
    · rename_i hz0
      obtain rfl := Nat.eq_of_beq_eq_true hz0
      exact ⟨q_147, rfl, mok_147, con_of (P := P_147) (by decide +kernel) rfl (Nat.le_of_ble_eq_true rfl) (fx_drawn_ok t a b h)⟩
    · cases h
  · cases h
end
section
set_option maxRecDepth 100000
variable {l : Launch} {r : RR}
def FT_148 : FT := (29, F_29) :: []
theorem ft_148 : FTok l 2 mtab FT_148 := FTok.cons (ok_29 l) (by omega) (FTok.nil)
theorem fx_image_99_eq : (fun (G29 : List Value → SM → OR) (t : SM) => ex clN P_148 none bytJ (mkCal rks ((29, G29) :: [])) [] (kDisp []) 400 99 [(0, .ref 0)] [] t) = (fun (G29 : List Value → SM → OR) (t : SM) =>
  hGetC t 10 0 3 1 <|
  hGetI t 1 1 1 fun size1 =>
  rI size1 t) := by rfl
theorem fx_image_99_ok (t : SM) (h : fx_image_99 t = some r) : Body l 2 q_148 P_148 r 99 [(0, .ref 0)] [] t :=
  blk ft_148 (by omega) rfl rows_148 (KDok.nil) ((congrFun (congrFun (fx_image_99_eq) F_29) t).trans h)
theorem fx_image_57_eq : (fun (G29 : List Value → SM → OR) (j57 : SM → Int32 → OR) (j99 : SM → OR) (t : SM) (v1 : Int32) => ex clN P_148 none bytJ (mkCal rks ((29, G29) :: [])) [57, 99] (kDisp [(57, kF 0 0 <| kI 1 fun w1 => kE fun t => j57 t w1), (99, kF 0 0 <| kE fun t => j99 t)]) 400 57 [(1, .int v1), (0, .ref 0)] [] t) = (fun (G29 : List Value → SM → OR) (j57 : SM → Int32 → OR) (j99 : SM → OR) (t : SM) (v1 : Int32) =>
  if 8 ≤ v1 then j99 t
  else hGetC t 10 0 3 1 <|
  hRecv t 1 1 <| bQ (G29 [.ref 1, .int v1] t) (fun t1 => hGetC t1 10 0 11 13 <|
    hGetC t1 3 13 5 14 <|
    hASt t1 14 v1 0 fun t3 =>
    j57 t3 (v1 + 1)) fun q2 t1 =>
  hGetC t1 10 0 11 13 <|
  hGetC t1 3 13 5 14 <|
  hGetI t1 2 q2 5 fun cost4 =>
  hASt t1 14 v1 cost4 fun t5 =>
  j57 t5 (v1 + 1)) := by rfl
theorem fx_image_57_ok {k99 : SM → OR} {r57 : SM → Int32 → OR} (h_k99 : ∀ (t : SM), k99 t = some r → Body l 2 q_148 P_148 r 99 [(0, .ref 0)] [] t) (h_r57 : ∀ (t : SM) (v1 : Int32), r57 t v1 = some r → Body l 2 q_148 P_148 r 57 [(1, .int v1), (0, .ref 0)] [] t) (t : SM) (v1 : Int32) (h : fx_image_57 k99 r57 t v1 = some r) : Body l 2 q_148 P_148 r 57 [(1, .int v1), (0, .ref 0)] [] t :=
  blk ft_148 (by omega) rfl rows_148 (KDok.cons (KOK.f <| KOK.i fun w1 => KOK.e (f := fun t => r57 t w1) fun t h => h_r57 t w1 h) (KDok.cons (KOK.f <| KOK.e (f := fun t => k99 t) fun t h => h_k99 t h) (KDok.nil))) ((congrFun (congrFun (congrFun (congrFun (congrFun (fx_image_57_eq) F_29) (fun t u1 => r57 t u1)) (fun t => k99 t)) t) v1).trans h)
theorem fx_image_l57_ok {k99 : SM → OR} (h_k99 : ∀ (t : SM), k99 t = some r → Body l 2 q_148 P_148 r 99 [(0, .ref 0)] [] t) : ∀ (n : Nat) (t : SM) (v1 : Int32), fx_image_l57 k99 n t v1 = some r → Body l 2 q_148 P_148 r 57 [(1, .int v1), (0, .ref 0)] [] t
  | 0, _, _, h => by cases h
  | n + 1, t, v1, h => fx_image_57_ok h_k99 (fx_image_l57_ok h_k99 n) t v1 h
theorem fx_image_eq : (fun (G29 : List Value → SM → OR) (j57 : SM → Int32 → OR) (t : SM) => ex clN P_148 none bytJ (mkCal rks ((29, G29) :: [])) [57] (kDisp [(57, kF 0 0 <| kI 1 fun w1 => kE fun t => j57 t w1)]) 400 0 [(0, .ref 0)] [] t) = (fun (G29 : List Value → SM → OR) (j57 : SM → Int32 → OR) (t : SM) =>
  hGetC t 10 0 11 13 <|
  hPutI t 3 13 0 1 fun t1 =>
  hGetC t1 10 0 11 13 <|
  hGetI t1 10 0 1 fun seen2 =>
  hPutI t1 3 13 1 seen2 fun t3 =>
  hGetC t3 10 0 11 13 <|
  hGetI t3 10 0 2 fun seenSo4 =>
  hPutI t3 3 13 2 seenSo4 fun t5 =>
  hGetC t5 10 0 11 13 <|
  hGetI t5 10 0 9 fun law6 =>
  hPutI t5 3 13 3 law6 fun t7 =>
  hGetC t7 10 0 11 13 <|
  hGetC t7 10 0 3 1 <|
  hGetI t7 1 1 1 fun size8 =>
  hPutI t7 3 13 4 size8 fun t9 =>
  j57 t9 0) := by rfl
theorem fx_image_ok (t : SM) (h : fx_image t = some r) : Body l 2 q_148 P_148 r 0 [(0, .ref 0)] [] t :=
  blk ft_148 (by omega) rfl rows_148 (KDok.cons (KOK.f <| KOK.i fun w1 => KOK.e (f := fun t => fx_image_l57 (fun t => fx_image_99 t) 1000000 t w1) fun t h => fx_image_l57_ok (k99 := fun t => fx_image_99 t) (fun t h => fx_image_99_ok t h) 1000000 t w1 h) (KDok.nil)) ((congrFun (congrFun (congrFun (fx_image_eq) F_29) (fun t u1 => fx_image_l57 (fun t => fx_image_99 t) 1000000 t u1)) t).trans h)
theorem ok_148 (l : Launch) : Fok l 2 mtab 148 (F_148) := by
  intro as t r h
  unfold F_148 at h
  split at h
  · rename_i z0
    split at h
    · rename_i hz0
      obtain rfl := Nat.eq_of_beq_eq_true hz0
      exact ⟨q_148, rfl, mok_148, con_of (P := P_148) (by decide +kernel) rfl (Nat.le_of_ble_eq_true rfl) (fx_image_ok t h)⟩
    · cases h
  · cases h
end
section
set_option maxRecDepth 100000
variable {l : Launch} {r : RR}
def FT_149 : FT := (31, F_31) :: (29, F_29) :: []
theorem ft_149 : FTok l 3 mtab FT_149 := FTok.cons (ok_31 l) (by omega) (FTok.cons (ok_29 l) (by omega) (FTok.nil))
theorem fx_back_100_eq : (fun (G31 : List Value → SM → OR) (G29 : List Value → SM → OR) (t : SM) => ex clN P_149 none bytJ (mkCal rks ((31, G31) :: (29, G29) :: [])) [] (kDisp []) 400 100 [(0, .ref 0)] [] t) = (fun (G31 : List Value → SM → OR) (G29 : List Value → SM → OR) (t : SM) =>
  hGetC t 10 0 3 1 <|
  hGetI t 1 1 1 fun size1 =>
  rI size1 t) := by rfl
theorem fx_back_100_ok (t : SM) (h : fx_back_100 t = some r) : Body l 3 q_149 P_149 r 100 [(0, .ref 0)] [] t :=
  blk ft_149 (by omega) rfl rows_149 (KDok.nil) ((congrFun (congrFun (congrFun (fx_back_100_eq) F_31) F_29) t).trans h)
theorem fx_back_62_eq : (fun (G31 : List Value → SM → OR) (G29 : List Value → SM → OR) (j62 : SM → Int32 → OR) (j100 : SM → OR) (t : SM) (v1 : Int32) => ex clN P_149 none bytJ (mkCal rks ((31, G31) :: (29, G29) :: [])) [62, 100] (kDisp [(62, kF 0 0 <| kI 1 fun w1 => kE fun t => j62 t w1), (100, kF 0 0 <| kE fun t => j100 t)]) 400 62 [(1, .int v1), (0, .ref 0)] [] t) = (fun (G31 : List Value → SM → OR) (G29 : List Value → SM → OR) (j62 : SM → Int32 → OR) (j100 : SM → OR) (t : SM) (v1 : Int32) =>
  if 8 ≤ v1 then j100 t
  else hGetC t 10 0 3 1 <|
  hRecv t 1 1 <| bQ (G29 [.ref 1, .int v1] t) (fun t1 => j62 t1 (v1 + 1)) fun q2 t1 =>
  hGetC t1 10 0 11 13 <|
  hGetC t1 3 13 5 14 <|
  hALd t1 14 v1 fun e3 =>
  hPutI t1 2 q2 5 e3 fun t4 =>
  j62 t4 (v1 + 1)) := by rfl
theorem fx_back_62_ok {k100 : SM → OR} {r62 : SM → Int32 → OR} (h_k100 : ∀ (t : SM), k100 t = some r → Body l 3 q_149 P_149 r 100 [(0, .ref 0)] [] t) (h_r62 : ∀ (t : SM) (v1 : Int32), r62 t v1 = some r → Body l 3 q_149 P_149 r 62 [(1, .int v1), (0, .ref 0)] [] t) (t : SM) (v1 : Int32) (h : fx_back_62 k100 r62 t v1 = some r) : Body l 3 q_149 P_149 r 62 [(1, .int v1), (0, .ref 0)] [] t :=
  blk ft_149 (by omega) rfl rows_149 (KDok.cons (KOK.f <| KOK.i fun w1 => KOK.e (f := fun t => r62 t w1) fun t h => h_r62 t w1 h) (KDok.cons (KOK.f <| KOK.e (f := fun t => k100 t) fun t h => h_k100 t h) (KDok.nil))) ((congrFun (congrFun (congrFun (congrFun (congrFun (congrFun (fx_back_62_eq) F_31) F_29) (fun t u1 => r62 t u1)) (fun t => k100 t)) t) v1).trans h)
theorem fx_back_l62_ok {k100 : SM → OR} (h_k100 : ∀ (t : SM), k100 t = some r → Body l 3 q_149 P_149 r 100 [(0, .ref 0)] [] t) : ∀ (n : Nat) (t : SM) (v1 : Int32), fx_back_l62 k100 n t v1 = some r → Body l 3 q_149 P_149 r 62 [(1, .int v1), (0, .ref 0)] [] t
  | 0, _, _, h => by cases h
  | n + 1, t, v1, h => fx_back_62_ok h_k100 (fx_back_l62_ok h_k100 n) t v1 h
theorem fx_back_eq : (fun (G31 : List Value → SM → OR) (G29 : List Value → SM → OR) (j62 : SM → Int32 → OR) (t : SM) => ex clN P_149 none bytJ (mkCal rks ((31, G31) :: (29, G29) :: [])) [62] (kDisp [(62, kF 0 0 <| kI 1 fun w1 => kE fun t => j62 t w1)]) 400 0 [(0, .ref 0)] [] t) = (fun (G31 : List Value → SM → OR) (G29 : List Value → SM → OR) (j62 : SM → Int32 → OR) (t : SM) =>
  hGetC t 10 0 11 13 <|
  hGetI t 3 13 0 fun isThere1 =>
  if isThere1 = 0 then rI (-3) t
  else hGetC t 10 0 11 13 <|
    hGetI t 3 13 1 fun seen2 =>
    hPutI t 10 0 1 seen2 fun t3 =>
    hGetC t3 10 0 11 13 <|
    hGetI t3 3 13 2 fun seenSo4 =>
    hPutI t3 10 0 2 seenSo4 fun t5 =>
    hGetC t5 10 0 11 13 <|
    hGetI t5 3 13 3 fun law6 =>
    hPutI t5 10 0 9 law6 fun t7 =>
    hGetC t7 10 0 3 1 <|
    hGetC t7 10 0 11 13 <|
    hGetI t7 3 13 4 fun mapCount8 =>
    hRecv t7 1 1 <| bV (G31 [.ref 1, .int mapCount8] t7) fun t9 =>
    j62 t9 0) := by rfl
theorem fx_back_ok (t : SM) (h : fx_back t = some r) : Body l 3 q_149 P_149 r 0 [(0, .ref 0)] [] t :=
  blk ft_149 (by omega) rfl rows_149 (KDok.cons (KOK.f <| KOK.i fun w1 => KOK.e (f := fun t => fx_back_l62 (fun t => fx_back_100 t) 1000000 t w1) fun t h => fx_back_l62_ok (k100 := fun t => fx_back_100 t) (fun t h => fx_back_100_ok t h) 1000000 t w1 h) (KDok.nil)) ((congrFun (congrFun (congrFun (congrFun (fx_back_eq) F_31) F_29) (fun t u1 => fx_back_l62 (fun t => fx_back_100 t) 1000000 t u1)) t).trans h)
theorem ok_149 (l : Launch) : Fok l 3 mtab 149 (F_149) := by
  intro as t r h
  unfold F_149 at h
  split at h
  · rename_i z0
    split at h
    · rename_i hz0
      obtain rfl := Nat.eq_of_beq_eq_true hz0
      exact ⟨q_149, rfl, mok_149, con_of (P := P_149) (by decide +kernel) rfl (Nat.le_of_ble_eq_true rfl) (fx_back_ok t h)⟩
    · cases h
  · cases h
end
section
set_option maxRecDepth 100000
variable {l : Launch} {r : RR}
def FT_168 : FT := []
theorem ft_168 : FTok l 1 mtab FT_168 := FTok.nil
theorem fx_sheetAt_eq : (fun (t : SM) (a : Int32) => ex clN P_168 none bytJ (mkCal rks ([])) [] (kDisp []) 400 0 [(0, .ref 0), (1, .int a)] [] t) = (fun (t : SM) (a : Int32) =>
  if a < 0 then rN t
  else hGetC t 10 0 12 15 <|
  hALen t 15 fun n1 =>
  if n1 ≤ a then rN t
  else hGetC t 10 0 12 15 <|
  hQLd t 5 15 a (rN t) fun q2 =>
  rR q2 t) := by rfl
theorem fx_sheetAt_ok (t : SM) (a : Int32) (h : fx_sheetAt t a = some r) : Body l 1 q_168 P_168 r 0 [(0, .ref 0), (1, .int a)] [] t :=
  blk ft_168 (by omega) rfl rows_168 (KDok.nil) ((congrFun (congrFun (fx_sheetAt_eq) t) a).trans h)
theorem ok_168 (l : Launch) : Fok l 1 mtab 168 (F_168) := by
  intro as t r h
  unfold F_168 at h
  split at h
  · rename_i z0 a
    split at h
    · rename_i hz0
      obtain rfl := Nat.eq_of_beq_eq_true hz0
      exact ⟨q_168, rfl, mok_168, con_of (P := P_168) (by decide +kernel) rfl (Nat.le_of_ble_eq_true rfl) (fx_sheetAt_ok t a h)⟩
    · cases h
  · cases h
end
section
set_option maxRecDepth 100000
variable {l : Launch} {r : RR}
def FT_150 : FT := (168, F_168) :: (71, F_71) :: []
theorem ft_150 : FTok l 3 mtab FT_150 := FTok.cons (ok_168 l) (by omega) (FTok.cons (ok_71 l) (by omega) (FTok.nil))
theorem fx_sheet_eq : (fun (G168 : List Value → SM → OR) (G71 : List Value → SM → OR) (t : SM) (a : Int32) (b : Int32) (c : Int32) => ex clN P_150 none bytJ (mkCal rks ((168, G168) :: (71, G71) :: [])) [] (kDisp []) 400 0 [(0, .ref 0), (1, .int a), (2, .int b), (3, .int c)] [] t) = (fun (G168 : List Value → SM → OR) (G71 : List Value → SM → OR) (t : SM) (a : Int32) (b : Int32) (c : Int32) =>
  hRecv t 10 0 <| bQ (G168 [.ref 0, .int a] t) (fun t1 => rI (-2) t1) fun q2 t1 =>
  if b < (-1) then rI (-2) t1
  else if b ≤ 2 then if b = (-1) then hRecv t1 5 q2 <| bV (G71 [.ref q2, .int b, .int 0] t1) fun t4 =>
    rI 1 t4
    else if c ≤ 40 then if 0 ≤ c then hRecv t1 5 q2 <| bV (G71 [.ref q2, .int b, .int c] t1) fun t3 =>
          rI 1 t3
        else rI (-14) t1
      else rI (-2) t1
  else rI (-2) t1) := by rfl
theorem fx_sheet_ok (t : SM) (a : Int32) (b : Int32) (c : Int32) (h : fx_sheet t a b c = some r) : Body l 3 q_150 P_150 r 0 [(0, .ref 0), (1, .int a), (2, .int b), (3, .int c)] [] t :=
  blk ft_150 (by omega) rfl rows_150 (KDok.nil) ((congrFun (congrFun (congrFun (congrFun (congrFun (congrFun (fx_sheet_eq) F_168) F_71) t) a) b) c).trans h)
theorem ok_150 (l : Launch) : Fok l 3 mtab 150 (F_150) := by
  intro as t r h
  unfold F_150 at h
  split at h
  · rename_i z0 a b c
    split at h
    · rename_i hz0
      obtain rfl := Nat.eq_of_beq_eq_true hz0
      exact ⟨q_150, rfl, mok_150, con_of (P := P_150) (by decide +kernel) rfl (Nat.le_of_ble_eq_true rfl) (fx_sheet_ok t a b c h)⟩
    · cases h
  · cases h
end
section
set_option maxRecDepth 100000
variable {l : Launch} {r : RR}
def FT_151 : FT := (168, F_168) :: (72, F_72) :: (73, F_73) :: []
theorem ft_151 : FTok l 3 mtab FT_151 := FTok.cons (ok_168 l) (by omega) (FTok.cons (ok_72 l) (by omega) (FTok.cons (ok_73 l) (by omega) (FTok.nil)))
theorem fx_cell_eq : (fun (G168 : List Value → SM → OR) (G72 : List Value → SM → OR) (G73 : List Value → SM → OR) (t : SM) (a : Int32) (b : Int32) (c : Int32) => ex clN P_151 none bytJ (mkCal rks ((168, G168) :: (72, G72) :: (73, G73) :: [])) [] (kDisp []) 400 0 [(0, .ref 0), (1, .int a), (2, .int b), (3, .int c)] [] t) = (fun (G168 : List Value → SM → OR) (G72 : List Value → SM → OR) (G73 : List Value → SM → OR) (t : SM) (a : Int32) (b : Int32) (c : Int32) =>
  hRecv t 10 0 <| bQ (G168 [.ref 0, .int a] t) (fun t1 => rI (-2) t1) fun q2 t1 =>
  hGetI t1 5 q2 0 fun sort3 =>
  if sort3 = (-1) then rI (-11) t1
  else hRecv t1 5 q2 <| bI (G72 [.ref q2, .int b, .int 1] t1) fun spans5 t4 =>
    if spans5 = 0 then rI (-12) t4
    else hRecv t4 5 q2 <| bV (G73 [.ref q2, .int b, .int c] t4) fun t6 =>
      rI 1 t6) := by rfl
theorem fx_cell_ok (t : SM) (a : Int32) (b : Int32) (c : Int32) (h : fx_cell t a b c = some r) : Body l 3 q_151 P_151 r 0 [(0, .ref 0), (1, .int a), (2, .int b), (3, .int c)] [] t :=
  blk ft_151 (by omega) rfl rows_151 (KDok.nil) ((congrFun (congrFun (congrFun (congrFun (congrFun (congrFun (congrFun (fx_cell_eq) F_168) F_72) F_73) t) a) b) c).trans h)
theorem ok_151 (l : Launch) : Fok l 3 mtab 151 (F_151) := by
  intro as t r h
  unfold F_151 at h
  split at h
  · rename_i z0 a b c
    split at h
    · rename_i hz0
      obtain rfl := Nat.eq_of_beq_eq_true hz0
      exact ⟨q_151, rfl, mok_151, con_of (P := P_151) (by decide +kernel) rfl (Nat.le_of_ble_eq_true rfl) (fx_cell_ok t a b c h)⟩
    · cases h
  · cases h
end
section
set_option maxRecDepth 100000
variable {l : Launch} {r : RR}
def FT_152 : FT := (168, F_168) :: (72, F_72) :: []
theorem ft_152 : FTok l 2 mtab FT_152 := FTok.cons (ok_168 l) (by omega) (FTok.cons (ok_72 l) (by omega) (FTok.nil))
theorem fx_copy_eq : (fun (G168 : List Value → SM → OR) (G72 : List Value → SM → OR) (t : SM) (a : Int32) (b : Int32) (c : Int32) (d : Int32) (e : Int32) => ex clN P_152 none bytJ (mkCal rks ((168, G168) :: (72, G72) :: [])) [] (kDisp []) 400 0 [(0, .ref 0), (1, .int a), (2, .int b), (3, .int c), (4, .int d), (5, .int e)] [] t) = (fun (G168 : List Value → SM → OR) (G72 : List Value → SM → OR) (t : SM) (a : Int32) (b : Int32) (c : Int32) (d : Int32) (e : Int32) =>
  hRecv t 10 0 <| bQ (G168 [.ref 0, .int a] t) (fun t1 => hRecv t1 10 0 <| bQ (G168 [.ref 0, .int c] t1) (fun t3 => rI (-2) t3) fun q4 t3 =>
    rI (-2) t3) fun q2 t1 =>
  hRecv t1 10 0 <| bQ (G168 [.ref 0, .int c] t1) (fun t5 => rI (-2) t5) fun q6 t5 =>
  hGetI t5 5 q2 0 fun sort7 =>
  if sort7 = (-1) then rI (-11) t5
  else hGetI t5 5 q6 0 fun sort8 =>
  if sort8 = (-1) then rI (-11) t5
  else hGetI t5 5 q2 0 fun sort9 =>
    hGetI t5 5 q6 0 fun sort10 =>
    if sort9 = sort10 then if e < 0 then rI (-12) t5
      else hRecv t5 5 q2 <| bI (G72 [.ref q2, .int b, .int e] t5) fun spans12 t11 =>
      if spans12 = 0 then rI (-12) t11
      else hRecv t11 5 q6 <| bI (G72 [.ref q6, .int d, .int e] t11) fun spans14 t13 =>
      if spans14 = 0 then rI (-12) t13
      else hGetR t13 5 q2 2 (hGetR t13 5 q6 2 (none) fun numbers16 =>
          none) fun numbers15 =>
        hGetR t13 5 q6 2 (none) fun numbers19 =>
        hCpy t13 numbers15 b numbers19 d e fun t21 =>
        rI e t21
    else rI (-13) t5) := by rfl
theorem fx_copy_ok (t : SM) (a : Int32) (b : Int32) (c : Int32) (d : Int32) (e : Int32) (h : fx_copy t a b c d e = some r) : Body l 2 q_152 P_152 r 0 [(0, .ref 0), (1, .int a), (2, .int b), (3, .int c), (4, .int d), (5, .int e)] [] t :=
  blk ft_152 (by omega) rfl rows_152 (KDok.nil) ((congrFun (congrFun (congrFun (congrFun (congrFun (congrFun (congrFun (congrFun (fx_copy_eq) F_168) F_72) t) a) b) c) d) e).trans h)
theorem ok_152 (l : Launch) : Fok l 2 mtab 152 (F_152) := by
  intro as t r h
  unfold F_152 at h
  split at h
  · rename_i z0 a b c d e
    split at h
    · rename_i hz0
      obtain rfl := Nat.eq_of_beq_eq_true hz0
      exact ⟨q_152, rfl, mok_152, con_of (P := P_152) (by decide +kernel) rfl (Nat.le_of_ble_eq_true rfl) (fx_copy_ok t a b c d e h)⟩
    · cases h
  · cases h
end
section
set_option maxRecDepth 100000
variable {l : Launch} {r : RR}
def FT_178 : FT := (74, F_74) :: (114, F_114) :: []
theorem ft_178 : FTok l 6 mtab FT_178 := FTok.cons (ok_74 l) (by omega) (FTok.cons (ok_114 l) (by omega) (FTok.nil))
theorem fx_mapByFour_eq : (fun (G74 : List Value → SM → OR) (G114 : List Value → SM → OR) (t : SM) (a : Nat) (b : Int32) => ex clN P_178 none bytJ (mkCal rks ((74, G74) :: (114, G114) :: [])) [] (kDisp []) 400 0 [(0, .ref 0), (1, .ref a), (2, .int b)] [] t) = (fun (G74 : List Value → SM → OR) (G114 : List Value → SM → OR) (t : SM) (a : Nat) (b : Int32) =>
  hRecv t 5 a <| bI (G74 [.ref a, .int b] t) fun numberAtPlace2 t1 =>
  hRecv t1 5 a <| bI (G74 [.ref a, .int (b + 1)] t1) fun numberAtPlace4 t3 =>
  hRecv t3 5 a <| bI (G74 [.ref a, .int (b + 2)] t3) fun numberAtPlace6 t5 =>
  hRecv t5 5 a <| bI (G74 [.ref a, .int (b + 3)] t5) fun numberAtPlace8 t7 =>
  hRecv t7 10 0 <| bI (G114 [.ref 0, .int numberAtPlace2, .int numberAtPlace4, .int numberAtPlace6, .int numberAtPlace8] t7) fun map10 t9 =>
  rI map10 t9) := by rfl
theorem fx_mapByFour_ok (t : SM) (a : Nat) (b : Int32) (h : fx_mapByFour t a b = some r) : Body l 6 q_178 P_178 r 0 [(0, .ref 0), (1, .ref a), (2, .int b)] [] t :=
  blk ft_178 (by omega) rfl rows_178 (KDok.nil) ((congrFun (congrFun (congrFun (congrFun (congrFun (fx_mapByFour_eq) F_74) F_114) t) a) b).trans h)
theorem ok_178 (l : Launch) : Fok l 6 mtab 178 (F_178) := by
  intro as t r h
  unfold F_178 at h
  split at h
  · rename_i z0 a b
    split at h
    · rename_i hz0
      obtain rfl := Nat.eq_of_beq_eq_true hz0
      exact ⟨q_178, rfl, mok_178, con_of (P := P_178) (by decide +kernel) rfl (Nat.le_of_ble_eq_true rfl) (fx_mapByFour_ok t a b h)⟩
    · cases h
  · cases h
end
section
set_option maxRecDepth 100000
variable {l : Launch} {r : RR}
def FT_153 : FT := (168, F_168) :: (72, F_72) :: (178, F_178) :: []
theorem ft_153 : FTok l 7 mtab FT_153 := FTok.cons (ok_168 l) (by omega) (FTok.cons (ok_72 l) (by omega) (FTok.cons (ok_178 l) (by omega) (FTok.nil)))
theorem fx_mapsBy_66_eq : (fun (G168 : List Value → SM → OR) (G72 : List Value → SM → OR) (G178 : List Value → SM → OR) (j66 : SM → Int32 → Int32 → Nat → Int32 → Int32 → OR) (t : SM) (v3 : Int32) (v4 : Int32) (v5 : Nat) (v6 : Int32) (v7 : Int32) => ex clN P_153 none bytJ (mkCal rks ((168, G168) :: (72, G72) :: (178, G178) :: [])) [66] (kDisp [(66, kF 0 0 <| kI 3 fun w3 => kI 4 fun w4 => kR 5 fun w5 => kI 6 fun w6 => kI 7 fun w7 => kE fun t => j66 t w3 w4 w5 w6 w7)]) 400 66 [(7, .int v7), (6, .int v6), (5, .ref v5), (4, .int v4), (3, .int v3), (0, .ref 0)] [] t) = (fun (G168 : List Value → SM → OR) (G72 : List Value → SM → OR) (G178 : List Value → SM → OR) (j66 : SM → Int32 → Int32 → Nat → Int32 → Int32 → OR) (t : SM) (v3 : Int32) (v4 : Int32) (v5 : Nat) (v6 : Int32) (v7 : Int32) =>
  if v4 ≤ v7 then rI v6 t
  else if v3 ≤ 40 then hRecv t 5 v5 <| bI (G72 [.ref v5, .int (v3 + (4 * v7)), .int 4] t) fun spans2 t1 =>
    if spans2 = 0 then rI (-12) t1
    else hRecv t1 10 0 <| bI (G178 [.ref 0, .ref v5, .int (v3 + (4 * v7))] t1) fun mapByFour4 t3 =>
      if mapByFour4 < 0 then j66 t3 v3 v4 v5 v6 (v7 + 1)
      else j66 t3 v3 v4 v5 (v6 + 1) (v7 + 1)
  else hRecv t 5 v5 <| bI (G72 [.ref v5, .int v3, .int 4] t) fun spans6 t5 =>
  if spans6 = 0 then rI (-12) t5
  else hRecv t5 10 0 <| bI (G178 [.ref 0, .ref v5, .int v3] t5) fun mapByFour8 t7 =>
    if mapByFour8 < 0 then j66 t7 v3 v4 v5 v6 (v7 + 1)
    else j66 t7 v3 v4 v5 (v6 + 1) (v7 + 1)) := by rfl
theorem fx_mapsBy_66_ok {r66 : SM → Int32 → Int32 → Nat → Int32 → Int32 → OR} (h_r66 : ∀ (t : SM) (v3 : Int32) (v4 : Int32) (v5 : Nat) (v6 : Int32) (v7 : Int32), r66 t v3 v4 v5 v6 v7 = some r → Body l 7 q_153 P_153 r 66 [(7, .int v7), (6, .int v6), (5, .ref v5), (4, .int v4), (3, .int v3), (0, .ref 0)] [] t) (t : SM) (v3 : Int32) (v4 : Int32) (v5 : Nat) (v6 : Int32) (v7 : Int32) (h : fx_mapsBy_66 r66 t v3 v4 v5 v6 v7 = some r) : Body l 7 q_153 P_153 r 66 [(7, .int v7), (6, .int v6), (5, .ref v5), (4, .int v4), (3, .int v3), (0, .ref 0)] [] t :=
  blk ft_153 (by omega) rfl rows_153 (KDok.cons (KOK.f <| KOK.i fun w3 => KOK.i fun w4 => KOK.rf fun w5 => KOK.i fun w6 => KOK.i fun w7 => KOK.e (f := fun t => r66 t w3 w4 w5 w6 w7) fun t h => h_r66 t w3 w4 w5 w6 w7 h) (KDok.nil)) ((congrFun (congrFun (congrFun (congrFun (congrFun (congrFun (congrFun (congrFun (congrFun (congrFun (fx_mapsBy_66_eq) F_168) F_72) F_178) (fun t u3 u4 u5 u6 u7 => r66 t u3 u4 u5 u6 u7)) t) v3) v4) v5) v6) v7).trans h)
theorem fx_mapsBy_l66_ok : ∀ (n : Nat) (t : SM) (v3 : Int32) (v4 : Int32) (v5 : Nat) (v6 : Int32) (v7 : Int32), fx_mapsBy_l66 n t v3 v4 v5 v6 v7 = some r → Body l 7 q_153 P_153 r 66 [(7, .int v7), (6, .int v6), (5, .ref v5), (4, .int v4), (3, .int v3), (0, .ref 0)] [] t
  | 0, _, _, _, _, _, _, h => by cases h
  | n + 1, t, v3, v4, v5, v6, v7, h => fx_mapsBy_66_ok (fx_mapsBy_l66_ok n) t v3 v4 v5 v6 v7 h
theorem fx_mapsBy_eq : (fun (G168 : List Value → SM → OR) (G72 : List Value → SM → OR) (G178 : List Value → SM → OR) (j66 : SM → Int32 → Int32 → Nat → Int32 → Int32 → OR) (t : SM) (a : Int32) (b : Int32) (c : Int32) (d : Int32) => ex clN P_153 none bytJ (mkCal rks ((168, G168) :: (72, G72) :: (178, G178) :: [])) [66] (kDisp [(66, kF 0 0 <| kI 3 fun w3 => kI 4 fun w4 => kR 5 fun w5 => kI 6 fun w6 => kI 7 fun w7 => kE fun t => j66 t w3 w4 w5 w6 w7)]) 400 0 [(0, .ref 0), (1, .int a), (2, .int b), (3, .int c), (4, .int d)] [] t) = (fun (G168 : List Value → SM → OR) (G72 : List Value → SM → OR) (G178 : List Value → SM → OR) (j66 : SM → Int32 → Int32 → Nat → Int32 → Int32 → OR) (t : SM) (a : Int32) (b : Int32) (c : Int32) (d : Int32) =>
  hRecv t 10 0 <| bQ (G168 [.ref 0, .int a] t) (fun t1 => rI (-2) t1) fun q2 t1 =>
  if b < 0 then rI (-2) t1
  else if 2 < b then rI (-2) t1
  else if d < 0 then rI (-2) t1
  else if d ≤ 8 then hGetI t1 5 q2 0 fun sort3 =>
    if sort3 = (-1) then rI (-11) t1
    else hGetI t1 5 q2 0 fun sort4 =>
      if sort4 = b then j66 t1 c d q2 0 0
      else rI (-13) t1
  else rI (-2) t1) := by rfl
theorem fx_mapsBy_ok (t : SM) (a : Int32) (b : Int32) (c : Int32) (d : Int32) (h : fx_mapsBy t a b c d = some r) : Body l 7 q_153 P_153 r 0 [(0, .ref 0), (1, .int a), (2, .int b), (3, .int c), (4, .int d)] [] t :=
  blk ft_153 (by omega) rfl rows_153 (KDok.cons (KOK.f <| KOK.i fun w3 => KOK.i fun w4 => KOK.rf fun w5 => KOK.i fun w6 => KOK.i fun w7 => KOK.e (f := fun t => fx_mapsBy_l66 1000000 t w3 w4 w5 w6 w7) fun t h => fx_mapsBy_l66_ok 1000000 t w3 w4 w5 w6 w7 h) (KDok.nil)) ((congrFun (congrFun (congrFun (congrFun (congrFun (congrFun (congrFun (congrFun (congrFun (fx_mapsBy_eq) F_168) F_72) F_178) (fun t u3 u4 u5 u6 u7 => fx_mapsBy_l66 1000000 t u3 u4 u5 u6 u7)) t) a) b) c) d).trans h)
theorem ok_153 (l : Launch) : Fok l 7 mtab 153 (F_153) := by
  intro as t r h
  unfold F_153 at h
  split at h
  · rename_i z0 a b c d
    split at h
    · rename_i hz0
      obtain rfl := Nat.eq_of_beq_eq_true hz0
      exact ⟨q_153, rfl, mok_153, con_of (P := P_153) (by decide +kernel) rfl (Nat.le_of_ble_eq_true rfl) (fx_mapsBy_ok t a b c d h)⟩
    · cases h
  · cases h
end
section
set_option maxRecDepth 100000
variable {l : Launch} {r : RR}
def FT_154 : FT := (80, F_80) :: (29, F_29) :: (43, F_43) :: []
theorem ft_154 : FTok l 2 mtab FT_154 := FTok.cons (ok_80 l) (by omega) (FTok.cons (ok_29 l) (by omega) (FTok.cons (ok_43 l) (by omega) (FTok.nil)))
theorem fx_taken_eq : (fun (G80 : List Value → SM → OR) (G29 : List Value → SM → OR) (G43 : List Value → SM → OR) (t : SM) (a : Int32) (b : Int32) => ex clN P_154 none bytJ (mkCal rks ((80, G80) :: (29, G29) :: (43, G43) :: [])) [] (kDisp []) 400 0 [(0, .ref 0), (1, .int a), (2, .int b)] [] t) = (fun (G80 : List Value → SM → OR) (G29 : List Value → SM → OR) (G43 : List Value → SM → OR) (t : SM) (a : Int32) (b : Int32) =>
  if b < 0 then rI (-2) t
  else if b ≤ 6 then if a < 0 then rI (-12) t
    else if a < 20 then if b ≤ 5 then if 12 ≤ a then hGetC t 10 0 3 1 <|
          hRecv t 1 1 <| bQ (G29 [.ref 1, .int (a - 12)] t) (fun t1 => rI (-11) t1) fun q2 t1 =>
          hRecv t1 2 q2 <| bI (G43 [.ref q2, .int b] t1) fun isOne4 t3 =>
          if isOne4 = 0 then rI (-13) t3
          else rI (a - 12) t3
        else hGetC t 10 0 4 5 <|
        hRecv t 7 5 <| bQ (G80 [.ref 5, .int a] t) (fun t5 => rI (-11) t5) fun q6 t5 =>
        rI (-13) t5
      else if 12 ≤ a then hGetC t 10 0 3 1 <|
        hRecv t 1 1 <| bQ (G29 [.ref 1, .int (a - 12)] t) (fun t7 => rI (-11) t7) fun q8 t7 =>
        rI (-13) t7
      else hGetC t 10 0 4 5 <|
      hRecv t 7 5 <| bQ (G80 [.ref 5, .int a] t) (fun t9 => rI (-11) t9) fun q10 t9 =>
      hGetI t9 6 q10 3 fun takes11 =>
      rI takes11 t9
    else rI (-12) t
  else rI (-2) t) := by rfl
theorem fx_taken_ok (t : SM) (a : Int32) (b : Int32) (h : fx_taken t a b = some r) : Body l 2 q_154 P_154 r 0 [(0, .ref 0), (1, .int a), (2, .int b)] [] t :=
  blk ft_154 (by omega) rfl rows_154 (KDok.nil) ((congrFun (congrFun (congrFun (congrFun (congrFun (congrFun (fx_taken_eq) F_80) F_29) F_43) t) a) b).trans h)
theorem ok_154 (l : Launch) : Fok l 2 mtab 154 (F_154) := by
  intro as t r h
  unfold F_154 at h
  split at h
  · rename_i z0 a b
    split at h
    · rename_i hz0
      obtain rfl := Nat.eq_of_beq_eq_true hz0
      exact ⟨q_154, rfl, mok_154, con_of (P := P_154) (by decide +kernel) rfl (Nat.le_of_ble_eq_true rfl) (fx_taken_ok t a b h)⟩
    · cases h
  · cases h
end
