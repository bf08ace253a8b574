section
set_option maxRecDepth 100000
variable {l : Launch} {r : RR}
def FT_228 : FT := []
theorem ft_228 : FTok l 1 mtab FT_228 := FTok.nil
theorem fm_isOpen_eq : (fun (t : SM) (a : Int32) (b : Int32) => ex clN P_228 none bytJ (mkCal rks ([])) [] (kDisp []) 400 0 [(0, .ref 39), (1, .int a), (2, .int b)] [] t) = (fun (t : SM) (a : Int32) (b : Int32) =>
  hGetC t 11 39 12 47 <|
  hALd t 47 a fun e1 =>
  if e1 = (-1) then rI 1 t
  else hGetC t 11 39 12 47 <|
  hALd t 47 a fun e2 =>
  if ((b >>> (e2 &&& 31)) &&& 1) = 1 then rI 1 t
  else rI 0 t) := by rfl
theorem fm_isOpen_ok (t : SM) (a : Int32) (b : Int32) (h : fm_isOpen t a b = some r) : Body l 1 q_228 P_228 r 0 [(0, .ref 39), (1, .int a), (2, .int b)] [] t :=
  blk ft_228 (by omega) rfl rows_228 (KDok.nil) ((congrFun (congrFun (congrFun (fm_isOpen_eq) t) a) b).trans h)
theorem ok_228 (l : Launch) : Fok l 1 mtab 228 (F_228) := by
  intro as t r h
  unfold F_228 at h
  split at h
  · rename_i z0 a b
    split at h
    · rename_i hz0
      obtain rfl := Nat.eq_of_beq_eq_true hz0
      exact ⟨q_228, rfl, mok_228, con_of (P := P_228) (by decide +kernel) rfl (Nat.le_of_ble_eq_true rfl) (fm_isOpen_ok t a b h)⟩
    · cases h
  · cases h
end
section
set_option maxRecDepth 100000
variable {l : Launch} {r : RR}
def FT_229 : FT := []
theorem ft_229 : FTok l 1 mtab FT_229 := FTok.nil
theorem fm_beyond_eq : (fun (t : SM) (a : Int32) (b : Int32) => ex clN P_229 none bytJ (mkCal rks ([])) [] (kDisp []) 400 0 [(0, .ref 39), (1, .int a), (2, .int b)] [] t) = (fun (t : SM) (a : Int32) (b : Int32) =>
  hGetC t 11 39 10 45 <|
  hALd t 45 a fun e1 =>
  if e1 = b then hGetC t 11 39 11 46 <|
  hALd t 46 a fun e3 =>
  rI e3 t
  else hGetC t 11 39 10 45 <|
    hALd t 45 a fun e2 =>
    rI e2 t) := by rfl
theorem fm_beyond_ok (t : SM) (a : Int32) (b : Int32) (h : fm_beyond t a b = some r) : Body l 1 q_229 P_229 r 0 [(0, .ref 39), (1, .int a), (2, .int b)] [] t :=
  blk ft_229 (by omega) rfl rows_229 (KDok.nil) ((congrFun (congrFun (congrFun (fm_beyond_eq) t) a) b).trans h)
theorem ok_229 (l : Launch) : Fok l 1 mtab 229 (F_229) := by
  intro as t r h
  unfold F_229 at h
  split at h
  · rename_i z0 a b
    split at h
    · rename_i hz0
      obtain rfl := Nat.eq_of_beq_eq_true hz0
      exact ⟨q_229, rfl, mok_229, con_of (P := P_229) (by decide +kernel) rfl (Nat.le_of_ble_eq_true rfl) (fm_beyond_ok t a b h)⟩
    · cases h
  · cases h
end
section
set_option maxRecDepth 100000
variable {l : Launch} {r : RR}
def FT_230 : FT := []
theorem ft_230 : FTok l 1 mtab FT_230 := FTok.nil
theorem fm_endsAt_eq : (fun (t : SM) (a : Int32) (b : Int32) => ex clN P_230 none bytJ (mkCal rks ([])) [] (kDisp []) 400 0 [(0, .ref 39), (1, .int a), (2, .int b)] [] t) = (fun (t : SM) (a : Int32) (b : Int32) =>
  hGetC t 11 39 10 45 <|
  hALd t 45 a fun e1 =>
  if e1 = b then rI 1 t
  else hGetC t 11 39 11 46 <|
  hALd t 46 a fun e2 =>
  if e2 = b then rI 1 t
  else rI 0 t) := by rfl
theorem fm_endsAt_ok (t : SM) (a : Int32) (b : Int32) (h : fm_endsAt t a b = some r) : Body l 1 q_230 P_230 r 0 [(0, .ref 39), (1, .int a), (2, .int b)] [] t :=
  blk ft_230 (by omega) rfl rows_230 (KDok.nil) ((congrFun (congrFun (congrFun (fm_endsAt_eq) t) a) b).trans h)
theorem ok_230 (l : Launch) : Fok l 1 mtab 230 (F_230) := by
  intro as t r h
  unfold F_230 at h
  split at h
  · rename_i z0 a b
    split at h
    · rename_i hz0
      obtain rfl := Nat.eq_of_beq_eq_true hz0
      exact ⟨q_230, rfl, mok_230, con_of (P := P_230) (by decide +kernel) rfl (Nat.le_of_ble_eq_true rfl) (fm_endsAt_ok t a b h)⟩
    · cases h
  · cases h
end
section
set_option maxRecDepth 100000
variable {l : Launch} {r : RR}
def FT_231 : FT := (228, F_228) :: []
theorem ft_231 : FTok l 2 mtab FT_231 := FTok.cons (ok_228 l) (by omega) (FTok.nil)
theorem fm_measures_208_eq : (fun (G228 : List Value → SM → OR) (j38 : SM → Int32 → Int32 → Int32 → OR) (t : SM) (v2 : Int32) (v3 : Int32) (v4 : Int32) => ex clN P_231 none bytJ (mkCal rks ((228, G228) :: [])) [38] (kDisp [(38, kF 0 39 <| kI 2 fun w2 => kI 3 fun w3 => kI 4 fun w4 => kE fun t => j38 t w2 w3 w4)]) 400 208 [(4, .int v4), (3, .int v3), (2, .int v2), (0, .ref 39)] [] t) = (fun (G228 : List Value → SM → OR) (j38 : SM → Int32 → Int32 → Int32 → OR) (t : SM) (v2 : Int32) (v3 : Int32) (v4 : Int32) =>
  j38 t v2 v3 (v4 + 1)) := by rfl
theorem fm_measures_208_ok {r38 : SM → Int32 → Int32 → Int32 → OR} (h_r38 : ∀ (t : SM) (v2 : Int32) (v3 : Int32) (v4 : Int32), r38 t v2 v3 v4 = some r → Body l 2 q_231 P_231 r 38 [(4, .int v4), (3, .int v3), (2, .int v2), (0, .ref 39)] [] t) (t : SM) (v2 : Int32) (v3 : Int32) (v4 : Int32) (h : fm_measures_208 r38 t v2 v3 v4 = some r) : Body l 2 q_231 P_231 r 208 [(4, .int v4), (3, .int v3), (2, .int v2), (0, .ref 39)] [] t :=
  blk ft_231 (by omega) rfl rows_231 (KDok.cons (KOK.f <| KOK.i fun w2 => KOK.i fun w3 => KOK.i fun w4 => KOK.e (f := fun t => r38 t w2 w3 w4) fun t h => h_r38 t w2 w3 w4 h) (KDok.nil)) ((congrFun (congrFun (congrFun (congrFun (congrFun (congrFun (fm_measures_208_eq) F_228) (fun t u2 u3 u4 => r38 t u2 u3 u4)) t) v2) v3) v4).trans h)
theorem fm_measures_48_eq : (fun (G228 : List Value → SM → OR) (j48 : SM → Int32 → Int32 → Int32 → Int32 → OR) (j208 : SM → Int32 → Int32 → Int32 → OR) (t : SM) (v2 : Int32) (v3 : Int32) (v4 : Int32) (v5 : Int32) => ex clN P_231 none bytJ (mkCal rks ((228, G228) :: [])) [48, 208] (kDisp [(48, kF 0 39 <| kI 2 fun w2 => kI 3 fun w3 => kI 4 fun w4 => kI 5 fun w5 => kE fun t => j48 t w2 w3 w4 w5), (208, kF 0 39 <| kI 2 fun w2 => kI 3 fun w3 => kI 4 fun w4 => kE fun t => j208 t w2 w3 w4)]) 400 48 [(5, .int v5), (4, .int v4), (3, .int v3), (2, .int v2), (0, .ref 39)] [] t) = (fun (G228 : List Value → SM → OR) (j48 : SM → Int32 → Int32 → Int32 → Int32 → OR) (j208 : SM → Int32 → Int32 → Int32 → OR) (t : SM) (v2 : Int32) (v3 : Int32) (v4 : Int32) (v5 : Int32) =>
  hGetI t 11 39 9 fun streets1 =>
  if streets1 ≤ v5 then j208 t v2 v3 v4
  else hRecv t 11 39 <| bI (G228 [.ref 39, .int v5, .int v2] t) fun isOpen3 t2 =>
  if isOpen3 = 0 then j48 t2 v2 v3 v4 (v5 + 1)
  else if ((v3 >>> (v5 &&& 31)) &&& 1) = 0 then hGetC t2 11 39 46 64 <|
  hGetC t2 11 39 10 45 <|
  hALd t2 45 v5 fun e4 =>
  hALd t2 64 e4 fun e5 =>
  hGetC t2 11 39 46 64 <|
  hGetC t2 11 39 11 46 <|
  hALd t2 46 v5 fun e6 =>
  hALd t2 64 e6 fun e7 =>
  hGetC t2 11 39 46 64 <|
  hGetC t2 11 39 10 45 <|
  hALd t2 45 v5 fun e8 =>
  hGetC t2 11 39 13 48 <|
  hALd t2 48 v5 fun e9 =>
  if e5 ≤ (e7 + e9) then hASt t2 64 e8 e5 fun t10 =>
    hGetC t10 11 39 46 64 <|
    hGetC t10 11 39 10 45 <|
    hALd t10 45 v5 fun e11 =>
    hALd t10 64 e11 fun e12 =>
    hGetC t10 11 39 46 64 <|
    hGetC t10 11 39 11 46 <|
    hALd t10 46 v5 fun e13 =>
    hGetC t10 11 39 13 48 <|
    hALd t10 48 v5 fun e14 =>
    if e7 ≤ (e12 + e14) then hASt t10 64 e13 e7 fun t15 =>
      j48 t15 v2 v3 v4 (v5 + 1)
    else hGetC t10 11 39 13 48 <|
    hALd t10 48 v5 fun e16 =>
    hASt t10 64 e13 (e12 + e16) fun t17 =>
    j48 t17 v2 v3 v4 (v5 + 1)
  else hGetC t2 11 39 13 48 <|
  hALd t2 48 v5 fun e18 =>
  hASt t2 64 e8 (e7 + e18) fun t19 =>
  hGetC t19 11 39 46 64 <|
  hGetC t19 11 39 10 45 <|
  hALd t19 45 v5 fun e20 =>
  hALd t19 64 e20 fun e21 =>
  hGetC t19 11 39 46 64 <|
  hGetC t19 11 39 11 46 <|
  hALd t19 46 v5 fun e22 =>
  hGetC t19 11 39 13 48 <|
  hALd t19 48 v5 fun e23 =>
  if e7 ≤ (e21 + e23) then hASt t19 64 e22 e7 fun t24 =>
    j48 t24 v2 v3 v4 (v5 + 1)
  else hGetC t19 11 39 13 48 <|
  hALd t19 48 v5 fun e25 =>
  hASt t19 64 e22 (e21 + e25) fun t26 =>
  j48 t26 v2 v3 v4 (v5 + 1)
  else j48 t2 v2 v3 v4 (v5 + 1)) := by rfl
theorem fm_measures_48_ok {k208 : SM → Int32 → Int32 → Int32 → OR} {r48 : SM → Int32 → Int32 → Int32 → Int32 → OR} (h_k208 : ∀ (t : SM) (v2 : Int32) (v3 : Int32) (v4 : Int32), k208 t v2 v3 v4 = some r → Body l 2 q_231 P_231 r 208 [(4, .int v4), (3, .int v3), (2, .int v2), (0, .ref 39)] [] t) (h_r48 : ∀ (t : SM) (v2 : Int32) (v3 : Int32) (v4 : Int32) (v5 : Int32), r48 t v2 v3 v4 v5 = some r → Body l 2 q_231 P_231 r 48 [(5, .int v5), (4, .int v4), (3, .int v3), (2, .int v2), (0, .ref 39)] [] t) (t : SM) (v2 : Int32) (v3 : Int32) (v4 : Int32) (v5 : Int32) (h : fm_measures_48 k208 r48 t v2 v3 v4 v5 = some r) : Body l 2 q_231 P_231 r 48 [(5, .int v5), (4, .int v4), (3, .int v3), (2, .int v2), (0, .ref 39)] [] t :=
  blk ft_231 (by omega) rfl rows_231 (KDok.cons (KOK.f <| KOK.i fun w2 => KOK.i fun w3 => KOK.i fun w4 => KOK.i fun w5 => KOK.e (f := fun t => r48 t w2 w3 w4 w5) fun t h => h_r48 t w2 w3 w4 w5 h) (KDok.cons (KOK.f <| KOK.i fun w2 => KOK.i fun w3 => KOK.i fun w4 => KOK.e (f := fun t => k208 t w2 w3 w4) fun t h => h_k208 t w2 w3 w4 h) (KDok.nil))) ((congrFun (congrFun (congrFun (congrFun (congrFun (congrFun (congrFun (congrFun (fm_measures_48_eq) F_228) (fun t u2 u3 u4 u5 => r48 t u2 u3 u4 u5)) (fun t u2 u3 u4 => k208 t u2 u3 u4)) t) v2) v3) v4) v5).trans h)
theorem fm_measures_l48_ok {k208 : SM → Int32 → Int32 → Int32 → OR} (h_k208 : ∀ (t : SM) (v2 : Int32) (v3 : Int32) (v4 : Int32), k208 t v2 v3 v4 = some r → Body l 2 q_231 P_231 r 208 [(4, .int v4), (3, .int v3), (2, .int v2), (0, .ref 39)] [] t) : ∀ (n : Nat) (t : SM) (v2 : Int32) (v3 : Int32) (v4 : Int32) (v5 : Int32), fm_measures_l48 k208 n t v2 v3 v4 v5 = some r → Body l 2 q_231 P_231 r 48 [(5, .int v5), (4, .int v4), (3, .int v3), (2, .int v2), (0, .ref 39)] [] t
  | 0, _, _, _, _, _, h => by cases h
  | n + 1, t, v2, v3, v4, v5, h => fm_measures_48_ok h_k208 (fm_measures_l48_ok h_k208 n) t v2 v3 v4 v5 h
theorem fm_measures_38_eq : (fun (G228 : List Value → SM → OR) (j48 : SM → Int32 → Int32 → Int32 → Int32 → OR) (t : SM) (v2 : Int32) (v3 : Int32) (v4 : Int32) => ex clN P_231 none bytJ (mkCal rks ((228, G228) :: [])) [48] (kDisp [(48, kF 0 39 <| kI 2 fun w2 => kI 3 fun w3 => kI 4 fun w4 => kI 5 fun w5 => kE fun t => j48 t w2 w3 w4 w5)]) 400 38 [(4, .int v4), (3, .int v3), (2, .int v2), (0, .ref 39)] [] t) = (fun (G228 : List Value → SM → OR) (j48 : SM → Int32 → Int32 → Int32 → Int32 → OR) (t : SM) (v2 : Int32) (v3 : Int32) (v4 : Int32) =>
  if 6 ≤ v4 then rV t
  else j48 t v2 v3 v4 0) := by rfl
theorem fm_measures_38_ok {r38 : SM → Int32 → Int32 → Int32 → OR} (h_r38 : ∀ (t : SM) (v2 : Int32) (v3 : Int32) (v4 : Int32), r38 t v2 v3 v4 = some r → Body l 2 q_231 P_231 r 38 [(4, .int v4), (3, .int v3), (2, .int v2), (0, .ref 39)] [] t) (t : SM) (v2 : Int32) (v3 : Int32) (v4 : Int32) (h : fm_measures_38 r38 t v2 v3 v4 = some r) : Body l 2 q_231 P_231 r 38 [(4, .int v4), (3, .int v3), (2, .int v2), (0, .ref 39)] [] t :=
  blk ft_231 (by omega) rfl rows_231 (KDok.cons (KOK.f <| KOK.i fun w2 => KOK.i fun w3 => KOK.i fun w4 => KOK.i fun w5 => KOK.e (f := fun t => fm_measures_l48 (fun t u2 u3 u4 => fm_measures_208 r38 t u2 u3 u4) 1000000 t w2 w3 w4 w5) fun t h => fm_measures_l48_ok (k208 := fun t u2 u3 u4 => fm_measures_208 r38 t u2 u3 u4) (fun t u2 u3 u4 h => fm_measures_208_ok h_r38 t u2 u3 u4 h) 1000000 t w2 w3 w4 w5 h) (KDok.nil)) ((congrFun (congrFun (congrFun (congrFun (congrFun (congrFun (fm_measures_38_eq) F_228) (fun t u2 u3 u4 u5 => fm_measures_l48 (fun t u2 u3 u4 => fm_measures_208 r38 t u2 u3 u4) 1000000 t u2 u3 u4 u5)) t) v2) v3) v4).trans h)
theorem fm_measures_l38_ok : ∀ (n : Nat) (t : SM) (v2 : Int32) (v3 : Int32) (v4 : Int32), fm_measures_l38 n t v2 v3 v4 = some r → Body l 2 q_231 P_231 r 38 [(4, .int v4), (3, .int v3), (2, .int v2), (0, .ref 39)] [] t
  | 0, _, _, _, _, h => by cases h
  | n + 1, t, v2, v3, v4, h => fm_measures_38_ok (fm_measures_l38_ok n) t v2 v3 v4 h
theorem fm_measures_35_eq : (fun (G228 : List Value → SM → OR) (j38 : SM → Int32 → Int32 → Int32 → OR) (t : SM) (v2 : Int32) (v3 : Int32) => ex clN P_231 none bytJ (mkCal rks ((228, G228) :: [])) [38] (kDisp [(38, kF 0 39 <| kI 2 fun w2 => kI 3 fun w3 => kI 4 fun w4 => kE fun t => j38 t w2 w3 w4)]) 400 35 [(3, .int v3), (2, .int v2), (0, .ref 39)] [] t) = (fun (G228 : List Value → SM → OR) (j38 : SM → Int32 → Int32 → Int32 → OR) (t : SM) (v2 : Int32) (v3 : Int32) =>
  j38 t v2 v3 0) := by rfl
theorem fm_measures_35_ok (t : SM) (v2 : Int32) (v3 : Int32) (h : fm_measures_35 t v2 v3 = some r) : Body l 2 q_231 P_231 r 35 [(3, .int v3), (2, .int v2), (0, .ref 39)] [] t :=
  blk ft_231 (by omega) rfl rows_231 (KDok.cons (KOK.f <| KOK.i fun w2 => KOK.i fun w3 => KOK.i fun w4 => KOK.e (f := fun t => fm_measures_l38 1000000 t w2 w3 w4) fun t h => fm_measures_l38_ok 1000000 t w2 w3 w4 h) (KDok.nil)) ((congrFun (congrFun (congrFun (congrFun (congrFun (fm_measures_35_eq) F_228) (fun t u2 u3 u4 => fm_measures_l38 1000000 t u2 u3 u4)) t) v2) v3).trans h)
theorem fm_measures_3_eq : (fun (G228 : List Value → SM → OR) (j3 : SM → Int32 → Int32 → Int32 → Int32 → OR) (j35 : SM → Int32 → Int32 → OR) (t : SM) (v1 : Int32) (v2 : Int32) (v3 : Int32) (v4 : Int32) => ex clN P_231 none bytJ (mkCal rks ((228, G228) :: [])) [3, 35] (kDisp [(3, kF 0 39 <| kI 1 fun w1 => kI 2 fun w2 => kI 3 fun w3 => kI 4 fun w4 => kE fun t => j3 t w1 w2 w3 w4), (35, kF 0 39 <| kI 2 fun w2 => kI 3 fun w3 => kE fun t => j35 t w2 w3)]) 400 3 [(4, .int v4), (3, .int v3), (2, .int v2), (1, .int v1), (0, .ref 39)] [] t) = (fun (G228 : List Value → SM → OR) (j3 : SM → Int32 → Int32 → Int32 → Int32 → OR) (j35 : SM → Int32 → Int32 → OR) (t : SM) (v1 : Int32) (v2 : Int32) (v3 : Int32) (v4 : Int32) =>
  if 6 ≤ v4 then j35 t v2 v3
  else hGetC t 11 39 46 64 <|
  if v4 = v1 then hASt t 64 v4 0 fun t2 =>
  j3 t2 v1 v2 v3 (v4 + 1)
  else hASt t 64 v4 1000000 fun t1 =>
    j3 t1 v1 v2 v3 (v4 + 1)) := by rfl
theorem fm_measures_3_ok {k35 : SM → Int32 → Int32 → OR} {r3 : SM → Int32 → Int32 → Int32 → Int32 → OR} (h_k35 : ∀ (t : SM) (v2 : Int32) (v3 : Int32), k35 t v2 v3 = some r → Body l 2 q_231 P_231 r 35 [(3, .int v3), (2, .int v2), (0, .ref 39)] [] t) (h_r3 : ∀ (t : SM) (v1 : Int32) (v2 : Int32) (v3 : Int32) (v4 : Int32), r3 t v1 v2 v3 v4 = some r → Body l 2 q_231 P_231 r 3 [(4, .int v4), (3, .int v3), (2, .int v2), (1, .int v1), (0, .ref 39)] [] t) (t : SM) (v1 : Int32) (v2 : Int32) (v3 : Int32) (v4 : Int32) (h : fm_measures_3 k35 r3 t v1 v2 v3 v4 = some r) : Body l 2 q_231 P_231 r 3 [(4, .int v4), (3, .int v3), (2, .int v2), (1, .int v1), (0, .ref 39)] [] t :=
  blk ft_231 (by omega) rfl rows_231 (KDok.cons (KOK.f <| KOK.i fun w1 => KOK.i fun w2 => KOK.i fun w3 => KOK.i fun w4 => KOK.e (f := fun t => r3 t w1 w2 w3 w4) fun t h => h_r3 t w1 w2 w3 w4 h) (KDok.cons (KOK.f <| KOK.i fun w2 => KOK.i fun w3 => KOK.e (f := fun t => k35 t w2 w3) fun t h => h_k35 t w2 w3 h) (KDok.nil))) ((congrFun (congrFun (congrFun (congrFun (congrFun (congrFun (congrFun (congrFun (fm_measures_3_eq) F_228) (fun t u1 u2 u3 u4 => r3 t u1 u2 u3 u4)) (fun t u2 u3 => k35 t u2 u3)) t) v1) v2) v3) v4).trans h)
theorem fm_measures_l3_ok {k35 : SM → Int32 → Int32 → OR} (h_k35 : ∀ (t : SM) (v2 : Int32) (v3 : Int32), k35 t v2 v3 = some r → Body l 2 q_231 P_231 r 35 [(3, .int v3), (2, .int v2), (0, .ref 39)] [] t) : ∀ (n : Nat) (t : SM) (v1 : Int32) (v2 : Int32) (v3 : Int32) (v4 : Int32), fm_measures_l3 k35 n t v1 v2 v3 v4 = some r → Body l 2 q_231 P_231 r 3 [(4, .int v4), (3, .int v3), (2, .int v2), (1, .int v1), (0, .ref 39)] [] t
  | 0, _, _, _, _, _, h => by cases h
  | n + 1, t, v1, v2, v3, v4, h => fm_measures_3_ok h_k35 (fm_measures_l3_ok h_k35 n) t v1 v2 v3 v4 h
theorem fm_measures_eq : (fun (G228 : List Value → SM → OR) (j3 : SM → Int32 → Int32 → Int32 → Int32 → OR) (t : SM) (a : Int32) (b : Int32) (c : Int32) => ex clN P_231 none bytJ (mkCal rks ((228, G228) :: [])) [3] (kDisp [(3, kF 0 39 <| kI 1 fun w1 => kI 2 fun w2 => kI 3 fun w3 => kI 4 fun w4 => kE fun t => j3 t w1 w2 w3 w4)]) 400 0 [(0, .ref 39), (1, .int a), (2, .int b), (3, .int c)] [] t) = (fun (G228 : List Value → SM → OR) (j3 : SM → Int32 → Int32 → Int32 → Int32 → OR) (t : SM) (a : Int32) (b : Int32) (c : Int32) =>
  j3 t a b c 0) := by rfl
theorem fm_measures_ok (t : SM) (a : Int32) (b : Int32) (c : Int32) (h : fm_measures t a b c = some r) : Body l 2 q_231 P_231 r 0 [(0, .ref 39), (1, .int a), (2, .int b), (3, .int c)] [] t :=
  blk ft_231 (by omega) rfl rows_231 (KDok.cons (KOK.f <| KOK.i fun w1 => KOK.i fun w2 => KOK.i fun w3 => KOK.i fun w4 => KOK.e (f := fun t => fm_measures_l3 (fun t u2 u3 => fm_measures_35 t u2 u3) 1000000 t w1 w2 w3 w4) fun t h => fm_measures_l3_ok (k35 := fun t u2 u3 => fm_measures_35 t u2 u3) (fun t u2 u3 h => fm_measures_35_ok t u2 u3 h) 1000000 t w1 w2 w3 w4 h) (KDok.nil)) ((congrFun (congrFun (congrFun (congrFun (congrFun (congrFun (fm_measures_eq) F_228) (fun t u1 u2 u3 u4 => fm_measures_l3 (fun t u2 u3 => fm_measures_35 t u2 u3) 1000000 t u1 u2 u3 u4)) t) a) b) c).trans h)
theorem ok_231 (l : Launch) : Fok l 2 mtab 231 (F_231) := by
  intro as t r h
  unfold F_231 at h
  split at h
  · rename_i z0 a b c
    split at h
    · rename_i hz0
      obtain rfl := Nat.eq_of_beq_eq_true hz0
      exact ⟨q_231, rfl, mok_231, con_of (P := P_231) (by decide +kernel) rfl (Nat.le_of_ble_eq_true rfl) (fm_measures_ok t a b c h)⟩
    · cases h
  · cases h
end
section
set_option maxRecDepth 100000
variable {l : Launch} {r : RR}
def FT_232 : FT := (231, F_231) :: []
theorem ft_232 : FTok l 3 mtab FT_232 := FTok.cons (ok_231 l) (by omega) (FTok.nil)
theorem fm_wayIn_eq : (fun (G231 : List Value → SM → OR) (t : SM) (a : Int32) (b : Int32) => ex clN P_232 none bytJ (mkCal rks ((231, G231) :: [])) [] (kDisp []) 400 0 [(0, .ref 39), (1, .int a), (2, .int b)] [] t) = (fun (G231 : List Value → SM → OR) (t : SM) (a : Int32) (b : Int32) =>
  hRecv t 11 39 <| bV (G231 [.ref 39, .int (a - a / 10 * 10), .int b, .int 0] t) fun t1 =>
  hGetC t1 11 39 46 64 <|
  hALd t1 64 (a / 10) fun e2 =>
  if e2 < 1000000 then hGetC t1 11 39 46 64 <|
    hALd t1 64 (a / 10) fun e3 =>
    rI e3 t1
  else rI (-1) t1) := by rfl
theorem fm_wayIn_ok (t : SM) (a : Int32) (b : Int32) (h : fm_wayIn t a b = some r) : Body l 3 q_232 P_232 r 0 [(0, .ref 39), (1, .int a), (2, .int b)] [] t :=
  blk ft_232 (by omega) rfl rows_232 (KDok.nil) ((congrFun (congrFun (congrFun (congrFun (fm_wayIn_eq) F_231) t) a) b).trans h)
theorem ok_232 (l : Launch) : Fok l 3 mtab 232 (F_232) := by
  intro as t r h
  unfold F_232 at h
  split at h
  · rename_i z0 a b
    split at h
    · rename_i hz0
      obtain rfl := Nat.eq_of_beq_eq_true hz0
      exact ⟨q_232, rfl, mok_232, con_of (P := P_232) (by decide +kernel) rfl (Nat.le_of_ble_eq_true rfl) (fm_wayIn_ok t a b h)⟩
    · cases h
  · cases h
end
section
set_option maxRecDepth 100000
variable {l : Launch} {r : RR}
def FT_233 : FT := (186, F_186) :: (183, F_183) :: (232, F_232) :: []
theorem ft_233 : FTok l 4 mtab FT_233 := FTok.cons (ok_186 l) (by omega) (FTok.cons (ok_183 l) (by omega) (FTok.cons (ok_232 l) (by omega) (FTok.nil)))
theorem fm_way_eq : (fun (G186 : List Value → SM → OR) (G183 : List Value → SM → OR) (G232 : List Value → SM → OR) (t : SM) (a : Int32) (b : Int32) => ex clN P_233 none bytJ (mkCal rks ((186, G186) :: (183, G183) :: (232, G232) :: [])) [] (kDisp []) 400 0 [(0, .ref 39), (1, .int a), (2, .int b)] [] t) = (fun (G186 : List Value → SM → OR) (G183 : List Value → SM → OR) (G232 : List Value → SM → OR) (t : SM) (a : Int32) (b : Int32) =>
  bI (G186 [.int a] t) fun areTwo2 t1 =>
  if areTwo2 = 0 then rI (-5) t1
  else hRecv t1 11 39 <| bI (G183 [.ref 39, .int b] t1) fun isTown4 t3 =>
    if isTown4 = 0 then rI (-7) t3
    else hRecv t3 11 39 <| bI (G232 [.ref 39, .int a, .int b] t3) fun wayIn6 t5 =>
    rI wayIn6 t5) := by rfl
theorem fm_way_ok (t : SM) (a : Int32) (b : Int32) (h : fm_way t a b = some r) : Body l 4 q_233 P_233 r 0 [(0, .ref 39), (1, .int a), (2, .int b)] [] t :=
  blk ft_233 (by omega) rfl rows_233 (KDok.nil) ((congrFun (congrFun (congrFun (congrFun (congrFun (congrFun (fm_way_eq) F_186) F_183) F_232) t) a) b).trans h)
theorem ok_233 (l : Launch) : Fok l 4 mtab 233 (F_233) := by
  intro as t r h
  unfold F_233 at h
  split at h
  · rename_i z0 a b
    split at h
    · rename_i hz0
      obtain rfl := Nat.eq_of_beq_eq_true hz0
      exact ⟨q_233, rfl, mok_233, con_of (P := P_233) (by decide +kernel) rfl (Nat.le_of_ble_eq_true rfl) (fm_way_ok t a b h)⟩
    · cases h
  · cases h
end
section
set_option maxRecDepth 100000
variable {l : Launch} {r : RR}
def FT_234 : FT := (186, F_186) :: (219, F_219) :: (218, F_218) :: (222, F_222) :: (232, F_232) :: []
theorem ft_234 : FTok l 7 mtab FT_234 := FTok.cons (ok_186 l) (by omega) (FTok.cons (ok_219 l) (by omega) (FTok.cons (ok_218 l) (by omega) (FTok.cons (ok_222 l) (by omega) (FTok.cons (ok_232 l) (by omega) (FTok.nil)))))
theorem fm_safe_eq : (fun (G186 : List Value → SM → OR) (G219 : List Value → SM → OR) (G218 : List Value → SM → OR) (G222 : List Value → SM → OR) (G232 : List Value → SM → OR) (t : SM) (a : Int32) => ex clN P_234 none bytJ (mkCal rks ((186, G186) :: (219, G219) :: (218, G218) :: (222, G222) :: (232, G232) :: [])) [] (kDisp []) 400 0 [(0, .ref 39), (1, .int a)] [] t) = (fun (G186 : List Value → SM → OR) (G219 : List Value → SM → OR) (G218 : List Value → SM → OR) (G222 : List Value → SM → OR) (G232 : List Value → SM → OR) (t : SM) (a : Int32) =>
  bI (G186 [.int a] t) fun areTwo2 t1 =>
  if areTwo2 = 0 then rI (-5) t1
  else hRecv t1 11 39 <| bV (G219 [.ref 39] t1) fun t3 =>
    hGetI t3 11 39 45 fun worldMany4 =>
    if worldMany4 = 0 then rI (-3) t3
    else hRecv t3 11 39 <| bI (G218 [.ref 39] t3) fun allMaps6 t5 =>
      hRecv t5 11 39 <| bI (G222 [.ref 39, .int allMaps6] t5) fun allSo8 t7 =>
      hRecv t7 11 39 <| bI (G232 [.ref 39, .int a, .int allSo8] t7) fun wayIn10 t9 =>
      rI wayIn10 t9) := by rfl
theorem fm_safe_ok (t : SM) (a : Int32) (h : fm_safe t a = some r) : Body l 7 q_234 P_234 r 0 [(0, .ref 39), (1, .int a)] [] t :=
  blk ft_234 (by omega) rfl rows_234 (KDok.nil) ((congrFun (congrFun (congrFun (congrFun (congrFun (congrFun (congrFun (fm_safe_eq) F_186) F_219) F_218) F_222) F_232) t) a).trans h)
theorem ok_234 (l : Launch) : Fok l 7 mtab 234 (F_234) := by
  intro as t r h
  unfold F_234 at h
  split at h
  · rename_i z0 a
    split at h
    · rename_i hz0
      obtain rfl := Nat.eq_of_beq_eq_true hz0
      exact ⟨q_234, rfl, mok_234, con_of (P := P_234) (by decide +kernel) rfl (Nat.le_of_ble_eq_true rfl) (fm_safe_ok t a h)⟩
    · cases h
  · cases h
end
section
set_option maxRecDepth 100000
variable {l : Launch} {r : RR}
def FT_235 : FT := (230, F_230) :: (228, F_228) :: []
theorem ft_235 : FTok l 2 mtab FT_235 := FTok.cons (ok_230 l) (by omega) (FTok.cons (ok_228 l) (by omega) (FTok.nil))
theorem fm_like_100_eq : (fun (G230 : List Value → SM → OR) (G228 : List Value → SM → OR) (j6 : SM → Int32 → Int32 → Int32 → Int32 → Int32 → OR) (t : SM) (v1 : Int32) (v2 : Int32) (v3 : Int32) (v4 : Int32) (v5 : Int32) (v6 : Int32) => ex clN P_235 none bytJ (mkCal rks ((230, G230) :: (228, G228) :: [])) [6] (kDisp [(6, kF 0 39 <| kI 1 fun w1 => kI 2 fun w2 => kI 3 fun w3 => kI 4 fun w4 => kI 5 fun w5 => kE fun t => j6 t w1 w2 w3 w4 w5)]) 400 100 [(6, .int v6), (5, .int v5), (4, .int v4), (3, .int v3), (2, .int v2), (1, .int v1), (0, .ref 39)] [] t) = (fun (G230 : List Value → SM → OR) (G228 : List Value → SM → OR) (j6 : SM → Int32 → Int32 → Int32 → Int32 → Int32 → OR) (t : SM) (v1 : Int32) (v2 : Int32) (v3 : Int32) (v4 : Int32) (v5 : Int32) (v6 : Int32) =>
  if v6 = 0 then j6 t v1 v2 v3 (v4 ||| 0) (v5 + 1)
  else j6 t v1 v2 v3 (v4 ||| ((1 : Int32) <<< (v5 &&& 31))) (v5 + 1)) := by rfl
theorem fm_like_100_ok {r6 : SM → Int32 → Int32 → Int32 → Int32 → Int32 → OR} (h_r6 : ∀ (t : SM) (v1 : Int32) (v2 : Int32) (v3 : Int32) (v4 : Int32) (v5 : Int32), r6 t v1 v2 v3 v4 v5 = some r → Body l 2 q_235 P_235 r 6 [(5, .int v5), (4, .int v4), (3, .int v3), (2, .int v2), (1, .int v1), (0, .ref 39)] [] t) (t : SM) (v1 : Int32) (v2 : Int32) (v3 : Int32) (v4 : Int32) (v5 : Int32) (v6 : Int32) (h : fm_like_100 r6 t v1 v2 v3 v4 v5 v6 = some r) : Body l 2 q_235 P_235 r 100 [(6, .int v6), (5, .int v5), (4, .int v4), (3, .int v3), (2, .int v2), (1, .int v1), (0, .ref 39)] [] t :=
  blk ft_235 (by omega) rfl rows_235 (KDok.cons (KOK.f <| KOK.i fun w1 => KOK.i fun w2 => KOK.i fun w3 => KOK.i fun w4 => KOK.i fun w5 => KOK.e (f := fun t => r6 t w1 w2 w3 w4 w5) fun t h => h_r6 t w1 w2 w3 w4 w5 h) (KDok.nil)) ((congrFun (congrFun (congrFun (congrFun (congrFun (congrFun (congrFun (congrFun (congrFun (congrFun (fm_like_100_eq) F_230) F_228) (fun t u1 u2 u3 u4 u5 => r6 t u1 u2 u3 u4 u5)) t) v1) v2) v3) v4) v5) v6).trans h)
theorem fm_like_35_eq : (fun (G230 : List Value → SM → OR) (G228 : List Value → SM → OR) (j35 : SM → Int32 → Int32 → Int32 → Int32 → Int32 → Int32 → Int32 → OR) (j100 : SM → Int32 → Int32 → Int32 → Int32 → Int32 → Int32 → OR) (t : SM) (v1 : Int32) (v2 : Int32) (v3 : Int32) (v4 : Int32) (v5 : Int32) (v6 : Int32) (v7 : Int32) => ex clN P_235 none bytJ (mkCal rks ((230, G230) :: (228, G228) :: [])) [35, 100] (kDisp [(35, kF 0 39 <| kI 1 fun w1 => kI 2 fun w2 => kI 3 fun w3 => kI 4 fun w4 => kI 5 fun w5 => kI 6 fun w6 => kI 7 fun w7 => kE fun t => j35 t w1 w2 w3 w4 w5 w6 w7), (100, kF 0 39 <| kI 1 fun w1 => kI 2 fun w2 => kI 3 fun w3 => kI 4 fun w4 => kI 5 fun w5 => kI 6 fun w6 => kE fun t => j100 t w1 w2 w3 w4 w5 w6)]) 400 35 [(7, .int v7), (6, .int v6), (5, .int v5), (4, .int v4), (3, .int v3), (2, .int v2), (1, .int v1), (0, .ref 39)] [] t) = (fun (G230 : List Value → SM → OR) (G228 : List Value → SM → OR) (j35 : SM → Int32 → Int32 → Int32 → Int32 → Int32 → Int32 → Int32 → OR) (j100 : SM → Int32 → Int32 → Int32 → Int32 → Int32 → Int32 → OR) (t : SM) (v1 : Int32) (v2 : Int32) (v3 : Int32) (v4 : Int32) (v5 : Int32) (v6 : Int32) (v7 : Int32) =>
  hGetI t 11 39 9 fun streets1 =>
  if streets1 ≤ v7 then j100 t v1 v2 v3 v4 v5 v6
  else if v6 = 0 then j100 t v1 v2 v3 v4 v5 v6
  else hRecv t 11 39 <| bI (G230 [.ref 39, .int v7, .int v3] t) fun endsAt3 t2 =>
  if endsAt3 = 0 then j35 t2 v1 v2 v3 v4 v5 1 (v7 + 1)
  else hGetC t2 11 39 44 63 <|
  hALd t2 63 v5 fun e4 =>
  hRecv t2 11 39 <| bI (G228 [.ref 39, .int v7, .int e4] t2) fun isOpen6 t5 =>
  hGetC t5 11 39 44 63 <|
  hALd t5 63 v2 fun e7 =>
  hRecv t5 11 39 <| bI (G228 [.ref 39, .int v7, .int e7] t5) fun isOpen9 t8 =>
  if isOpen6 = isOpen9 then j35 t8 v1 v2 v3 v4 v5 1 (v7 + 1)
  else j35 t8 v1 v2 v3 v4 v5 0 (v7 + 1)) := by rfl
theorem fm_like_35_ok {k100 : SM → Int32 → Int32 → Int32 → Int32 → Int32 → Int32 → OR} {r35 : SM → Int32 → Int32 → Int32 → Int32 → Int32 → Int32 → Int32 → OR} (h_k100 : ∀ (t : SM) (v1 : Int32) (v2 : Int32) (v3 : Int32) (v4 : Int32) (v5 : Int32) (v6 : Int32), k100 t v1 v2 v3 v4 v5 v6 = some r → Body l 2 q_235 P_235 r 100 [(6, .int v6), (5, .int v5), (4, .int v4), (3, .int v3), (2, .int v2), (1, .int v1), (0, .ref 39)] [] t) (h_r35 : ∀ (t : SM) (v1 : Int32) (v2 : Int32) (v3 : Int32) (v4 : Int32) (v5 : Int32) (v6 : Int32) (v7 : Int32), r35 t v1 v2 v3 v4 v5 v6 v7 = some r → Body l 2 q_235 P_235 r 35 [(7, .int v7), (6, .int v6), (5, .int v5), (4, .int v4), (3, .int v3), (2, .int v2), (1, .int v1), (0, .ref 39)] [] t) (t : SM) (v1 : Int32) (v2 : Int32) (v3 : Int32) (v4 : Int32) (v5 : Int32) (v6 : Int32) (v7 : Int32) (h : fm_like_35 k100 r35 t v1 v2 v3 v4 v5 v6 v7 = some r) : Body l 2 q_235 P_235 r 35 [(7, .int v7), (6, .int v6), (5, .int v5), (4, .int v4), (3, .int v3), (2, .int v2), (1, .int v1), (0, .ref 39)] [] t :=
  blk ft_235 (by omega) rfl rows_235 (KDok.cons (KOK.f <| KOK.i fun w1 => KOK.i fun w2 => KOK.i fun w3 => KOK.i fun w4 => KOK.i fun w5 => KOK.i fun w6 => KOK.i fun w7 => KOK.e (f := fun t => r35 t w1 w2 w3 w4 w5 w6 w7) fun t h => h_r35 t w1 w2 w3 w4 w5 w6 w7 h) (KDok.cons (KOK.f <| KOK.i fun w1 => KOK.i fun w2 => KOK.i fun w3 => KOK.i fun w4 => KOK.i fun w5 => KOK.i fun w6 => KOK.e (f := fun t => k100 t w1 w2 w3 w4 w5 w6) fun t h => h_k100 t w1 w2 w3 w4 w5 w6 h) (KDok.nil))) ((congrFun (congrFun (congrFun (congrFun (congrFun (congrFun (congrFun (congrFun (congrFun (congrFun (congrFun (congrFun (fm_like_35_eq) F_230) F_228) (fun t u1 u2 u3 u4 u5 u6 u7 => r35 t u1 u2 u3 u4 u5 u6 u7)) (fun t u1 u2 u3 u4 u5 u6 => k100 t u1 u2 u3 u4 u5 u6)) t) v1) v2) v3) v4) v5) v6) v7).trans h)
theorem fm_like_l35_ok {k100 : SM → Int32 → Int32 → Int32 → Int32 → Int32 → Int32 → OR} (h_k100 : ∀ (t : SM) (v1 : Int32) (v2 : Int32) (v3 : Int32) (v4 : Int32) (v5 : Int32) (v6 : Int32), k100 t v1 v2 v3 v4 v5 v6 = some r → Body l 2 q_235 P_235 r 100 [(6, .int v6), (5, .int v5), (4, .int v4), (3, .int v3), (2, .int v2), (1, .int v1), (0, .ref 39)] [] t) : ∀ (n : Nat) (t : SM) (v1 : Int32) (v2 : Int32) (v3 : Int32) (v4 : Int32) (v5 : Int32) (v6 : Int32) (v7 : Int32), fm_like_l35 k100 n t v1 v2 v3 v4 v5 v6 v7 = some r → Body l 2 q_235 P_235 r 35 [(7, .int v7), (6, .int v6), (5, .int v5), (4, .int v4), (3, .int v3), (2, .int v2), (1, .int v1), (0, .ref 39)] [] t
  | 0, _, _, _, _, _, _, _, _, h => by cases h
  | n + 1, t, v1, v2, v3, v4, v5, v6, v7, h => fm_like_35_ok h_k100 (fm_like_l35_ok h_k100 n) t v1 v2 v3 v4 v5 v6 v7 h
theorem fm_like_6_eq : (fun (G230 : List Value → SM → OR) (G228 : List Value → SM → OR) (j35 : SM → Int32 → Int32 → Int32 → Int32 → Int32 → Int32 → Int32 → OR) (t : SM) (v1 : Int32) (v2 : Int32) (v3 : Int32) (v4 : Int32) (v5 : Int32) => ex clN P_235 none bytJ (mkCal rks ((230, G230) :: (228, G228) :: [])) [35] (kDisp [(35, kF 0 39 <| kI 1 fun w1 => kI 2 fun w2 => kI 3 fun w3 => kI 4 fun w4 => kI 5 fun w5 => kI 6 fun w6 => kI 7 fun w7 => kE fun t => j35 t w1 w2 w3 w4 w5 w6 w7)]) 400 6 [(5, .int v5), (4, .int v4), (3, .int v3), (2, .int v2), (1, .int v1), (0, .ref 39)] [] t) = (fun (G230 : List Value → SM → OR) (G228 : List Value → SM → OR) (j35 : SM → Int32 → Int32 → Int32 → Int32 → Int32 → Int32 → Int32 → OR) (t : SM) (v1 : Int32) (v2 : Int32) (v3 : Int32) (v4 : Int32) (v5 : Int32) =>
  hGetI t 11 39 45 fun worldMany1 =>
  if worldMany1 ≤ v5 then rI v4 t
  else if ((v1 >>> (v5 &&& 31)) &&& 1) = 1 then j35 t v1 v2 v3 v4 v5 1 0
  else j35 t v1 v2 v3 v4 v5 0 0) := by rfl
theorem fm_like_6_ok {r6 : SM → Int32 → Int32 → Int32 → Int32 → Int32 → OR} (h_r6 : ∀ (t : SM) (v1 : Int32) (v2 : Int32) (v3 : Int32) (v4 : Int32) (v5 : Int32), r6 t v1 v2 v3 v4 v5 = some r → Body l 2 q_235 P_235 r 6 [(5, .int v5), (4, .int v4), (3, .int v3), (2, .int v2), (1, .int v1), (0, .ref 39)] [] t) (t : SM) (v1 : Int32) (v2 : Int32) (v3 : Int32) (v4 : Int32) (v5 : Int32) (h : fm_like_6 r6 t v1 v2 v3 v4 v5 = some r) : Body l 2 q_235 P_235 r 6 [(5, .int v5), (4, .int v4), (3, .int v3), (2, .int v2), (1, .int v1), (0, .ref 39)] [] t :=
  blk ft_235 (by omega) rfl rows_235 (KDok.cons (KOK.f <| KOK.i fun w1 => KOK.i fun w2 => KOK.i fun w3 => KOK.i fun w4 => KOK.i fun w5 => KOK.i fun w6 => KOK.i fun w7 => KOK.e (f := fun t => fm_like_l35 (fun t u1 u2 u3 u4 u5 u6 => fm_like_100 r6 t u1 u2 u3 u4 u5 u6) 1000000 t w1 w2 w3 w4 w5 w6 w7) fun t h => fm_like_l35_ok (k100 := fun t u1 u2 u3 u4 u5 u6 => fm_like_100 r6 t u1 u2 u3 u4 u5 u6) (fun t u1 u2 u3 u4 u5 u6 h => fm_like_100_ok h_r6 t u1 u2 u3 u4 u5 u6 h) 1000000 t w1 w2 w3 w4 w5 w6 w7 h) (KDok.nil)) ((congrFun (congrFun (congrFun (congrFun (congrFun (congrFun (congrFun (congrFun (congrFun (fm_like_6_eq) F_230) F_228) (fun t u1 u2 u3 u4 u5 u6 u7 => fm_like_l35 (fun t u1 u2 u3 u4 u5 u6 => fm_like_100 r6 t u1 u2 u3 u4 u5 u6) 1000000 t u1 u2 u3 u4 u5 u6 u7)) t) v1) v2) v3) v4) v5).trans h)
theorem fm_like_l6_ok : ∀ (n : Nat) (t : SM) (v1 : Int32) (v2 : Int32) (v3 : Int32) (v4 : Int32) (v5 : Int32), fm_like_l6 n t v1 v2 v3 v4 v5 = some r → Body l 2 q_235 P_235 r 6 [(5, .int v5), (4, .int v4), (3, .int v3), (2, .int v2), (1, .int v1), (0, .ref 39)] [] t
  | 0, _, _, _, _, _, _, h => by cases h
  | n + 1, t, v1, v2, v3, v4, v5, h => fm_like_6_ok (fm_like_l6_ok n) t v1 v2 v3 v4 v5 h
theorem fm_like_eq : (fun (G230 : List Value → SM → OR) (G228 : List Value → SM → OR) (j6 : SM → Int32 → Int32 → Int32 → Int32 → Int32 → OR) (t : SM) (a : Int32) (b : Int32) (c : Int32) => ex clN P_235 none bytJ (mkCal rks ((230, G230) :: (228, G228) :: [])) [6] (kDisp [(6, kF 0 39 <| kI 1 fun w1 => kI 2 fun w2 => kI 3 fun w3 => kI 4 fun w4 => kI 5 fun w5 => kE fun t => j6 t w1 w2 w3 w4 w5)]) 400 0 [(0, .ref 39), (1, .int a), (2, .int b), (3, .int c)] [] t) = (fun (G230 : List Value → SM → OR) (G228 : List Value → SM → OR) (j6 : SM → Int32 → Int32 → Int32 → Int32 → Int32 → OR) (t : SM) (a : Int32) (b : Int32) (c : Int32) =>
  j6 t a b c 0 0) := by rfl
theorem fm_like_ok (t : SM) (a : Int32) (b : Int32) (c : Int32) (h : fm_like t a b c = some r) : Body l 2 q_235 P_235 r 0 [(0, .ref 39), (1, .int a), (2, .int b), (3, .int c)] [] t :=
  blk ft_235 (by omega) rfl rows_235 (KDok.cons (KOK.f <| KOK.i fun w1 => KOK.i fun w2 => KOK.i fun w3 => KOK.i fun w4 => KOK.i fun w5 => KOK.e (f := fun t => fm_like_l6 1000000 t w1 w2 w3 w4 w5) fun t h => fm_like_l6_ok 1000000 t w1 w2 w3 w4 w5 h) (KDok.nil)) ((congrFun (congrFun (congrFun (congrFun (congrFun (congrFun (congrFun (fm_like_eq) F_230) F_228) (fun t u1 u2 u3 u4 u5 => fm_like_l6 1000000 t u1 u2 u3 u4 u5)) t) a) b) c).trans h)
theorem ok_235 (l : Launch) : Fok l 2 mtab 235 (F_235) := by
  intro as t r h
  unfold F_235 at h
  split at h
  · rename_i z0 a b c
    split at h
    · rename_i hz0
      obtain rfl := Nat.eq_of_beq_eq_true hz0
      exact ⟨q_235, rfl, mok_235, con_of (P := P_235) (by decide +kernel) rfl (Nat.le_of_ble_eq_true rfl) (fm_like_ok t a b c h)⟩
    · cases h
  · cases h
end
section
set_option maxRecDepth 100000
variable {l : Launch} {r : RR}
def FT_236 : FT := (235, F_235) :: []
theorem ft_236 : FTok l 3 mtab FT_236 := FTok.cons (ok_235 l) (by omega) (FTok.nil)
theorem fm_longest_5_eq : (fun (G235 : List Value → SM → OR) (j5 : SM → Int32 → Int32 → Int32 → Int32 → OR) (t : SM) (v1 : Int32) (v2 : Int32) (v3 : Int32) (v4 : Int32) => ex clN P_236 none bytJ (mkCal rks ((235, G235) :: [])) [5] (kDisp [(5, kF 0 39 <| kI 1 fun w1 => kI 2 fun w2 => kI 3 fun w3 => kI 4 fun w4 => kE fun t => j5 t w1 w2 w3 w4)]) 400 5 [(4, .int v4), (3, .int v3), (2, .int v2), (1, .int v1), (0, .ref 39)] [] t) = (fun (G235 : List Value → SM → OR) (j5 : SM → Int32 → Int32 → Int32 → Int32 → OR) (t : SM) (v1 : Int32) (v2 : Int32) (v3 : Int32) (v4 : Int32) =>
  hGetI t 11 39 45 fun worldMany1 =>
  if worldMany1 ≤ v4 then rI v3 t
  else if ((v1 >>> (v4 &&& 31)) &&& 1) = 1 then hGetC t 11 39 47 65 <|
  hRecv t 11 39 <| bI (G235 [.ref 39, .int v1, .int v4, .int v2] t) fun like3 t2 =>
  hALd t2 65 ((128 * v2) + like3) fun e4 =>
  if e4 ≤ v3 then j5 t2 v1 v2 v3 (v4 + 1)
  else j5 t2 v1 v2 e4 (v4 + 1)
  else j5 t v1 v2 v3 (v4 + 1)) := by rfl
theorem fm_longest_5_ok {r5 : SM → Int32 → Int32 → Int32 → Int32 → OR} (h_r5 : ∀ (t : SM) (v1 : Int32) (v2 : Int32) (v3 : Int32) (v4 : Int32), r5 t v1 v2 v3 v4 = some r → Body l 3 q_236 P_236 r 5 [(4, .int v4), (3, .int v3), (2, .int v2), (1, .int v1), (0, .ref 39)] [] t) (t : SM) (v1 : Int32) (v2 : Int32) (v3 : Int32) (v4 : Int32) (h : fm_longest_5 r5 t v1 v2 v3 v4 = some r) : Body l 3 q_236 P_236 r 5 [(4, .int v4), (3, .int v3), (2, .int v2), (1, .int v1), (0, .ref 39)] [] t :=
  blk ft_236 (by omega) rfl rows_236 (KDok.cons (KOK.f <| KOK.i fun w1 => KOK.i fun w2 => KOK.i fun w3 => KOK.i fun w4 => KOK.e (f := fun t => r5 t w1 w2 w3 w4) fun t h => h_r5 t w1 w2 w3 w4 h) (KDok.nil)) ((congrFun (congrFun (congrFun (congrFun (congrFun (congrFun (congrFun (fm_longest_5_eq) F_235) (fun t u1 u2 u3 u4 => r5 t u1 u2 u3 u4)) t) v1) v2) v3) v4).trans h)
theorem fm_longest_l5_ok : ∀ (n : Nat) (t : SM) (v1 : Int32) (v2 : Int32) (v3 : Int32) (v4 : Int32), fm_longest_l5 n t v1 v2 v3 v4 = some r → Body l 3 q_236 P_236 r 5 [(4, .int v4), (3, .int v3), (2, .int v2), (1, .int v1), (0, .ref 39)] [] t
  | 0, _, _, _, _, _, h => by cases h
  | n + 1, t, v1, v2, v3, v4, h => fm_longest_5_ok (fm_longest_l5_ok n) t v1 v2 v3 v4 h
theorem fm_longest_eq : (fun (G235 : List Value → SM → OR) (j5 : SM → Int32 → Int32 → Int32 → Int32 → OR) (t : SM) (a : Int32) (b : Int32) => ex clN P_236 none bytJ (mkCal rks ((235, G235) :: [])) [5] (kDisp [(5, kF 0 39 <| kI 1 fun w1 => kI 2 fun w2 => kI 3 fun w3 => kI 4 fun w4 => kE fun t => j5 t w1 w2 w3 w4)]) 400 0 [(0, .ref 39), (1, .int a), (2, .int b)] [] t) = (fun (G235 : List Value → SM → OR) (j5 : SM → Int32 → Int32 → Int32 → Int32 → OR) (t : SM) (a : Int32) (b : Int32) =>
  j5 t a b 0 0) := by rfl
theorem fm_longest_ok (t : SM) (a : Int32) (b : Int32) (h : fm_longest t a b = some r) : Body l 3 q_236 P_236 r 0 [(0, .ref 39), (1, .int a), (2, .int b)] [] t :=
  blk ft_236 (by omega) rfl rows_236 (KDok.cons (KOK.f <| KOK.i fun w1 => KOK.i fun w2 => KOK.i fun w3 => KOK.i fun w4 => KOK.e (f := fun t => fm_longest_l5 1000000 t w1 w2 w3 w4) fun t h => fm_longest_l5_ok 1000000 t w1 w2 w3 w4 h) (KDok.nil)) ((congrFun (congrFun (congrFun (congrFun (congrFun (fm_longest_eq) F_235) (fun t u1 u2 u3 u4 => fm_longest_l5 1000000 t u1 u2 u3 u4)) t) a) b).trans h)
theorem ok_236 (l : Launch) : Fok l 3 mtab 236 (F_236) := by
  intro as t r h
  unfold F_236 at h
  split at h
  · rename_i z0 a b
    split at h
    · rename_i hz0
      obtain rfl := Nat.eq_of_beq_eq_true hz0
      exact ⟨q_236, rfl, mok_236, con_of (P := P_236) (by decide +kernel) rfl (Nat.le_of_ble_eq_true rfl) (fm_longest_ok t a b h)⟩
    · cases h
  · cases h
end
section
set_option maxRecDepth 100000
variable {l : Launch} {r : RR}
def FT_237 : FT := []
theorem ft_237 : FTok l 1 mtab FT_237 := FTok.nil
theorem fm_firstOf_2_eq : (fun (j2 : SM → Int32 → Int32 → OR) (t : SM) (v1 : Int32) (v2 : Int32) => ex clN P_237 none bytJ (mkCal rks ([])) [2] (kDisp [(2, kI 1 fun w1 => kI 2 fun w2 => kE fun t => j2 t w1 w2)]) 400 2 [(2, .int v2), (1, .int v1)] [] t) = (fun (j2 : SM → Int32 → Int32 → OR) (t : SM) (v1 : Int32) (v2 : Int32) =>
  if ((v1 >>> (v2 &&& 31)) &&& 1) = 0 then j2 t v1 (v2 + 1)
  else rI v2 t) := by rfl
theorem fm_firstOf_2_ok {r2 : SM → Int32 → Int32 → OR} (h_r2 : ∀ (t : SM) (v1 : Int32) (v2 : Int32), r2 t v1 v2 = some r → Body l 1 q_237 P_237 r 2 [(2, .int v2), (1, .int v1)] [] t) (t : SM) (v1 : Int32) (v2 : Int32) (h : fm_firstOf_2 r2 t v1 v2 = some r) : Body l 1 q_237 P_237 r 2 [(2, .int v2), (1, .int v1)] [] t :=
  blk ft_237 (by omega) rfl rows_237 (KDok.cons (KOK.i fun w1 => KOK.i fun w2 => KOK.e (f := fun t => r2 t w1 w2) fun t h => h_r2 t w1 w2 h) (KDok.nil)) ((congrFun (congrFun (congrFun (congrFun (fm_firstOf_2_eq) (fun t u1 u2 => r2 t u1 u2)) t) v1) v2).trans h)
theorem fm_firstOf_l2_ok : ∀ (n : Nat) (t : SM) (v1 : Int32) (v2 : Int32), fm_firstOf_l2 n t v1 v2 = some r → Body l 1 q_237 P_237 r 2 [(2, .int v2), (1, .int v1)] [] t
  | 0, _, _, _, h => by cases h
  | n + 1, t, v1, v2, h => fm_firstOf_2_ok (fm_firstOf_l2_ok n) t v1 v2 h
theorem fm_firstOf_eq : (fun (j2 : SM → Int32 → Int32 → OR) (t : SM) (a : Int32) => ex clN P_237 none bytJ (mkCal rks ([])) [2] (kDisp [(2, kI 1 fun w1 => kI 2 fun w2 => kE fun t => j2 t w1 w2)]) 400 0 [(0, .ref 39), (1, .int a)] [] t) = (fun (j2 : SM → Int32 → Int32 → OR) (t : SM) (a : Int32) =>
  j2 t a 0) := by rfl
theorem fm_firstOf_ok (t : SM) (a : Int32) (h : fm_firstOf t a = some r) : Body l 1 q_237 P_237 r 0 [(0, .ref 39), (1, .int a)] [] t :=
  blk ft_237 (by omega) rfl rows_237 (KDok.cons (KOK.i fun w1 => KOK.i fun w2 => KOK.e (f := fun t => fm_firstOf_l2 1000000 t w1 w2) fun t h => fm_firstOf_l2_ok 1000000 t w1 w2 h) (KDok.nil)) ((congrFun (congrFun (congrFun (fm_firstOf_eq) (fun t u1 u2 => fm_firstOf_l2 1000000 t u1 u2)) t) a).trans h)
theorem ok_237 (l : Launch) : Fok l 1 mtab 237 (F_237) := by
  intro as t r h
  unfold F_237 at h
  split at h
  · rename_i z0 a
    split at h
    · rename_i hz0
      obtain rfl := Nat.eq_of_beq_eq_true hz0
      exact ⟨q_237, rfl, mok_237, con_of (P := P_237) (by decide +kernel) rfl (Nat.le_of_ble_eq_true rfl) (fm_firstOf_ok t a h)⟩
    · cases h
  · cases h
end
section
set_option maxRecDepth 100000
variable {l : Launch} {r : RR}
def FT_238 : FT := (229, F_229) :: (236, F_236) :: []
theorem ft_238 : FTok l 4 mtab FT_238 := FTok.cons (ok_229 l) (by omega) (FTok.cons (ok_236 l) (by omega) (FTok.nil))
theorem fm_byStreet_eq : (fun (G229 : List Value → SM → OR) (G236 : List Value → SM → OR) (t : SM) (a : Int32) (b : Int32) (c : Int32) => ex clN P_238 none bytJ (mkCal rks ((229, G229) :: (236, G236) :: [])) [] (kDisp []) 400 0 [(0, .ref 39), (1, .int a), (2, .int b), (3, .int c)] [] t) = (fun (G229 : List Value → SM → OR) (G236 : List Value → SM → OR) (t : SM) (a : Int32) (b : Int32) (c : Int32) =>
  hGetC t 11 39 13 48 <|
  hALd t 48 a fun e1 =>
  hRecv t 11 39 <| bI (G229 [.ref 39, .int a, .int c] t) fun beyond3 t2 =>
  hRecv t2 11 39 <| bI (G236 [.ref 39, .int b, .int beyond3] t2) fun longest5 t4 =>
  if (e1 + longest5) ≤ 1000000 then rI (e1 + longest5) t4
  else rI 1000000 t4) := by rfl
theorem fm_byStreet_ok (t : SM) (a : Int32) (b : Int32) (c : Int32) (h : fm_byStreet t a b c = some r) : Body l 4 q_238 P_238 r 0 [(0, .ref 39), (1, .int a), (2, .int b), (3, .int c)] [] t :=
  blk ft_238 (by omega) rfl rows_238 (KDok.nil) ((congrFun (congrFun (congrFun (congrFun (congrFun (congrFun (fm_byStreet_eq) F_229) F_236) t) a) b) c).trans h)
theorem ok_238 (l : Launch) : Fok l 4 mtab 238 (F_238) := by
  intro as t r h
  unfold F_238 at h
  split at h
  · rename_i z0 a b c
    split at h
    · rename_i hz0
      obtain rfl := Nat.eq_of_beq_eq_true hz0
      exact ⟨q_238, rfl, mok_238, con_of (P := P_238) (by decide +kernel) rfl (Nat.le_of_ble_eq_true rfl) (fm_byStreet_ok t a b c h)⟩
    · cases h
  · cases h
end
section
set_option maxRecDepth 100000
variable {l : Launch} {r : RR}
def FT_239 : FT := (237, F_237) :: (230, F_230) :: (228, F_228) :: (238, F_238) :: []
theorem ft_239 : FTok l 5 mtab FT_239 := FTok.cons (ok_237 l) (by omega) (FTok.cons (ok_230 l) (by omega) (FTok.cons (ok_228 l) (by omega) (FTok.cons (ok_238 l) (by omega) (FTok.nil))))
theorem fm_betters_12_eq : (fun (G237 : List Value → SM → OR) (G230 : List Value → SM → OR) (G228 : List Value → SM → OR) (G238 : List Value → SM → OR) (j12 : SM → Int32 → Int32 → Int32 → Int32 → Int32 → OR) (t : SM) (v1 : Int32) (v2 : Int32) (v3 : Int32) (v4 : Int32) (v5 : Int32) => ex clN P_239 none bytJ (mkCal rks ((237, G237) :: (230, G230) :: (228, G228) :: (238, G238) :: [])) [12] (kDisp [(12, kF 0 39 <| kI 1 fun w1 => kI 2 fun w2 => kI 3 fun w3 => kI 4 fun w4 => kI 5 fun w5 => kE fun t => j12 t w1 w2 w3 w4 w5)]) 400 12 [(5, .int v5), (4, .int v4), (3, .int v3), (2, .int v2), (1, .int v1), (0, .ref 39)] [] t) = (fun (G237 : List Value → SM → OR) (G230 : List Value → SM → OR) (G228 : List Value → SM → OR) (G238 : List Value → SM → OR) (j12 : SM → Int32 → Int32 → Int32 → Int32 → Int32 → OR) (t : SM) (v1 : Int32) (v2 : Int32) (v3 : Int32) (v4 : Int32) (v5 : Int32) =>
  hGetI t 11 39 9 fun streets1 =>
  if streets1 ≤ v5 then hZ v4 (rI v4 t)
  else hRecv t 11 39 <| bI (G230 [.ref 39, .int v5, .int v2] t) fun endsAt3 t2 =>
  if endsAt3 = 0 then j12 t2 v1 v2 v3 v4 (v5 + 1)
  else hGetC t2 11 39 44 63 <|
  hALd t2 63 v3 fun e4 =>
  hRecv t2 11 39 <| bI (G228 [.ref 39, .int v5, .int e4] t2) fun isOpen6 t5 =>
  if isOpen6 = 0 then j12 t5 v1 v2 v3 v4 (v5 + 1)
  else hRecv t5 11 39 <| bI (G238 [.ref 39, .int v5, .int v1, .int v2] t5) fun byStreet8 t7 =>
  hGetC t7 11 39 47 65 <|
  hALd t7 65 ((128 * v2) + v1) fun e9 =>
  if e9 ≤ byStreet8 then j12 t7 v1 v2 v3 v4 (v5 + 1)
  else hGetC t7 11 39 47 65 <|
  hASt t7 65 ((128 * v2) + v1) byStreet8 fun t10 =>
  j12 t10 v1 v2 v3 1 (v5 + 1)) := by rfl
theorem fm_betters_12_ok {r12 : SM → Int32 → Int32 → Int32 → Int32 → Int32 → OR} (h_r12 : ∀ (t : SM) (v1 : Int32) (v2 : Int32) (v3 : Int32) (v4 : Int32) (v5 : Int32), r12 t v1 v2 v3 v4 v5 = some r → Body l 5 q_239 P_239 r 12 [(5, .int v5), (4, .int v4), (3, .int v3), (2, .int v2), (1, .int v1), (0, .ref 39)] [] t) (t : SM) (v1 : Int32) (v2 : Int32) (v3 : Int32) (v4 : Int32) (v5 : Int32) (h : fm_betters_12 r12 t v1 v2 v3 v4 v5 = some r) : Body l 5 q_239 P_239 r 12 [(5, .int v5), (4, .int v4), (3, .int v3), (2, .int v2), (1, .int v1), (0, .ref 39)] [] t :=
  blk ft_239 (by omega) rfl rows_239 (KDok.cons (KOK.f <| KOK.i fun w1 => KOK.i fun w2 => KOK.i fun w3 => KOK.i fun w4 => KOK.i fun w5 => KOK.e (f := fun t => r12 t w1 w2 w3 w4 w5) fun t h => h_r12 t w1 w2 w3 w4 w5 h) (KDok.nil)) ((congrFun (congrFun (congrFun (congrFun (congrFun (congrFun (congrFun (congrFun (congrFun (congrFun (congrFun (fm_betters_12_eq) F_237) F_230) F_228) F_238) (fun t u1 u2 u3 u4 u5 => r12 t u1 u2 u3 u4 u5)) t) v1) v2) v3) v4) v5).trans h)
theorem fm_betters_l12_ok : ∀ (n : Nat) (t : SM) (v1 : Int32) (v2 : Int32) (v3 : Int32) (v4 : Int32) (v5 : Int32), fm_betters_l12 n t v1 v2 v3 v4 v5 = some r → Body l 5 q_239 P_239 r 12 [(5, .int v5), (4, .int v4), (3, .int v3), (2, .int v2), (1, .int v1), (0, .ref 39)] [] t
  | 0, _, _, _, _, _, _, h => by cases h
  | n + 1, t, v1, v2, v3, v4, v5, h => fm_betters_12_ok (fm_betters_l12_ok n) t v1 v2 v3 v4 v5 h
theorem fm_betters_eq : (fun (G237 : List Value → SM → OR) (G230 : List Value → SM → OR) (G228 : List Value → SM → OR) (G238 : List Value → SM → OR) (j12 : SM → Int32 → Int32 → Int32 → Int32 → Int32 → OR) (t : SM) (a : Int32) (b : Int32) => ex clN P_239 none bytJ (mkCal rks ((237, G237) :: (230, G230) :: (228, G228) :: (238, G238) :: [])) [12] (kDisp [(12, kF 0 39 <| kI 1 fun w1 => kI 2 fun w2 => kI 3 fun w3 => kI 4 fun w4 => kI 5 fun w5 => kE fun t => j12 t w1 w2 w3 w4 w5)]) 400 0 [(0, .ref 39), (1, .int a), (2, .int b)] [] t) = (fun (G237 : List Value → SM → OR) (G230 : List Value → SM → OR) (G228 : List Value → SM → OR) (G238 : List Value → SM → OR) (j12 : SM → Int32 → Int32 → Int32 → Int32 → Int32 → OR) (t : SM) (a : Int32) (b : Int32) =>
  hRecv t 11 39 <| bI (G237 [.ref 39, .int a] t) fun firstOf2 t1 =>
  j12 t1 a b firstOf2 0 0) := by rfl
theorem fm_betters_ok (t : SM) (a : Int32) (b : Int32) (h : fm_betters t a b = some r) : Body l 5 q_239 P_239 r 0 [(0, .ref 39), (1, .int a), (2, .int b)] [] t :=
  blk ft_239 (by omega) rfl rows_239 (KDok.cons (KOK.f <| KOK.i fun w1 => KOK.i fun w2 => KOK.i fun w3 => KOK.i fun w4 => KOK.i fun w5 => KOK.e (f := fun t => fm_betters_l12 1000000 t w1 w2 w3 w4 w5) fun t h => fm_betters_l12_ok 1000000 t w1 w2 w3 w4 w5 h) (KDok.nil)) ((congrFun (congrFun (congrFun (congrFun (congrFun (congrFun (congrFun (congrFun (fm_betters_eq) F_237) F_230) F_228) F_238) (fun t u1 u2 u3 u4 u5 => fm_betters_l12 1000000 t u1 u2 u3 u4 u5)) t) a) b).trans h)
theorem ok_239 (l : Launch) : Fok l 5 mtab 239 (F_239) := by
  intro as t r h
  unfold F_239 at h
  split at h
  · rename_i z0 a b
    split at h
    · rename_i hz0
      obtain rfl := Nat.eq_of_beq_eq_true hz0
      exact ⟨q_239, rfl, mok_239, con_of (P := P_239) (by decide +kernel) rfl (Nat.le_of_ble_eq_true rfl) (fm_betters_ok t a b h)⟩
    · cases h
  · cases h
end
section
set_option maxRecDepth 100000
variable {l : Launch} {r : RR}
def FT_240 : FT := (237, F_237) :: (235, F_235) :: (239, F_239) :: []
theorem ft_240 : FTok l 6 mtab FT_240 := FTok.cons (ok_237 l) (by omega) (FTok.cons (ok_235 l) (by omega) (FTok.cons (ok_239 l) (by omega) (FTok.nil)))
theorem fm_findsWorst_121_eq : (fun (G237 : List Value → SM → OR) (G235 : List Value → SM → OR) (G239 : List Value → SM → OR) (j38 : SM → Int32 → Int32 → OR) (t : SM) (v1 : Int32) (v2 : Int32) => ex clN P_240 none bytJ (mkCal rks ((237, G237) :: (235, G235) :: (239, G239) :: [])) [38] (kDisp [(38, kF 0 39 <| kI 1 fun w1 => kI 2 fun w2 => kE fun t => j38 t w1 w2)]) 400 121 [(2, .int v2), (1, .int v1), (0, .ref 39)] [] t) = (fun (G237 : List Value → SM → OR) (G235 : List Value → SM → OR) (G239 : List Value → SM → OR) (j38 : SM → Int32 → Int32 → OR) (t : SM) (v1 : Int32) (v2 : Int32) =>
  j38 t v1 v2) := by rfl
theorem fm_findsWorst_121_ok {r38 : SM → Int32 → Int32 → OR} (h_r38 : ∀ (t : SM) (v1 : Int32) (v2 : Int32), r38 t v1 v2 = some r → Body l 6 q_240 P_240 r 38 [(2, .int v2), (1, .int v1), (0, .ref 39)] [] t) (t : SM) (v1 : Int32) (v2 : Int32) (h : fm_findsWorst_121 r38 t v1 v2 = some r) : Body l 6 q_240 P_240 r 121 [(2, .int v2), (1, .int v1), (0, .ref 39)] [] t :=
  blk ft_240 (by omega) rfl rows_240 (KDok.cons (KOK.f <| KOK.i fun w1 => KOK.i fun w2 => KOK.e (f := fun t => r38 t w1 w2) fun t h => h_r38 t w1 w2 h) (KDok.nil)) ((congrFun (congrFun (congrFun (congrFun (congrFun (congrFun (congrFun (fm_findsWorst_121_eq) F_237) F_235) F_239) (fun t u1 u2 => r38 t u1 u2)) t) v1) v2).trans h)
theorem fm_findsWorst_115_eq : (fun (G237 : List Value → SM → OR) (G235 : List Value → SM → OR) (G239 : List Value → SM → OR) (j46 : SM → Int32 → Int32 → Int32 → OR) (t : SM) (v1 : Int32) (v2 : Int32) (v3 : Int32) => ex clN P_240 none bytJ (mkCal rks ((237, G237) :: (235, G235) :: (239, G239) :: [])) [46] (kDisp [(46, kF 0 39 <| kI 1 fun w1 => kI 2 fun w2 => kI 3 fun w3 => kE fun t => j46 t w1 w2 w3)]) 400 115 [(3, .int v3), (2, .int v2), (1, .int v1), (0, .ref 39)] [] t) = (fun (G237 : List Value → SM → OR) (G235 : List Value → SM → OR) (G239 : List Value → SM → OR) (j46 : SM → Int32 → Int32 → Int32 → OR) (t : SM) (v1 : Int32) (v2 : Int32) (v3 : Int32) =>
  j46 t v1 v2 (v3 + 1)) := by rfl
theorem fm_findsWorst_115_ok {r46 : SM → Int32 → Int32 → Int32 → OR} (h_r46 : ∀ (t : SM) (v1 : Int32) (v2 : Int32) (v3 : Int32), r46 t v1 v2 v3 = some r → Body l 6 q_240 P_240 r 46 [(3, .int v3), (2, .int v2), (1, .int v1), (0, .ref 39)] [] t) (t : SM) (v1 : Int32) (v2 : Int32) (v3 : Int32) (h : fm_findsWorst_115 r46 t v1 v2 v3 = some r) : Body l 6 q_240 P_240 r 115 [(3, .int v3), (2, .int v2), (1, .int v1), (0, .ref 39)] [] t :=
  blk ft_240 (by omega) rfl rows_240 (KDok.cons (KOK.f <| KOK.i fun w1 => KOK.i fun w2 => KOK.i fun w3 => KOK.e (f := fun t => r46 t w1 w2 w3) fun t h => h_r46 t w1 w2 w3 h) (KDok.nil)) ((congrFun (congrFun (congrFun (congrFun (congrFun (congrFun (congrFun (congrFun (fm_findsWorst_115_eq) F_237) F_235) F_239) (fun t u1 u2 u3 => r46 t u1 u2 u3)) t) v1) v2) v3).trans h)
theorem fm_findsWorst_55_eq : (fun (G237 : List Value → SM → OR) (G235 : List Value → SM → OR) (G239 : List Value → SM → OR) (j55 : SM → Int32 → Int32 → Int32 → Int32 → OR) (j115 : SM → Int32 → Int32 → Int32 → OR) (t : SM) (v1 : Int32) (v2 : Int32) (v3 : Int32) (v4 : Int32) => ex clN P_240 none bytJ (mkCal rks ((237, G237) :: (235, G235) :: (239, G239) :: [])) [55, 115] (kDisp [(55, kF 0 39 <| kI 1 fun w1 => kI 2 fun w2 => kI 3 fun w3 => kI 4 fun w4 => kE fun t => j55 t w1 w2 w3 w4), (115, kF 0 39 <| kI 1 fun w1 => kI 2 fun w2 => kI 3 fun w3 => kE fun t => j115 t w1 w2 w3)]) 400 55 [(4, .int v4), (3, .int v3), (2, .int v2), (1, .int v1), (0, .ref 39)] [] t) = (fun (G237 : List Value → SM → OR) (G235 : List Value → SM → OR) (G239 : List Value → SM → OR) (j55 : SM → Int32 → Int32 → Int32 → Int32 → OR) (j115 : SM → Int32 → Int32 → Int32 → OR) (t : SM) (v1 : Int32) (v2 : Int32) (v3 : Int32) (v4 : Int32) =>
  hGetI t 11 39 45 fun worldMany1 =>
  if ((1 : Int32) <<< (worldMany1 &&& 31)) ≤ v4 then j115 t v1 v2 v3
  else if v3 = v1 then j115 t v1 v2 v3
  else hRecv t 11 39 <| bI (G237 [.ref 39, .int v4] t) fun firstOf3 t2 =>
  hRecv t2 11 39 <| bI (G235 [.ref 39, .int v4, .int firstOf3, .int v3] t2) fun like5 t4 =>
  if like5 = v4 then hRecv t4 11 39 <| bI (G239 [.ref 39, .int v4, .int v3] t4) fun betters7 t6 =>
  if betters7 = 0 then if v2 = 0 then j55 t6 v1 0 v3 (v4 + 1)
  else j55 t6 v1 1 v3 (v4 + 1)
  else j55 t6 v1 1 v3 (v4 + 1)
  else j55 t4 v1 v2 v3 (v4 + 1)) := by rfl
theorem fm_findsWorst_55_ok {k115 : SM → Int32 → Int32 → Int32 → OR} {r55 : SM → Int32 → Int32 → Int32 → Int32 → OR} (h_k115 : ∀ (t : SM) (v1 : Int32) (v2 : Int32) (v3 : Int32), k115 t v1 v2 v3 = some r → Body l 6 q_240 P_240 r 115 [(3, .int v3), (2, .int v2), (1, .int v1), (0, .ref 39)] [] t) (h_r55 : ∀ (t : SM) (v1 : Int32) (v2 : Int32) (v3 : Int32) (v4 : Int32), r55 t v1 v2 v3 v4 = some r → Body l 6 q_240 P_240 r 55 [(4, .int v4), (3, .int v3), (2, .int v2), (1, .int v1), (0, .ref 39)] [] t) (t : SM) (v1 : Int32) (v2 : Int32) (v3 : Int32) (v4 : Int32) (h : fm_findsWorst_55 k115 r55 t v1 v2 v3 v4 = some r) : Body l 6 q_240 P_240 r 55 [(4, .int v4), (3, .int v3), (2, .int v2), (1, .int v1), (0, .ref 39)] [] t :=
  blk ft_240 (by omega) rfl rows_240 (KDok.cons (KOK.f <| KOK.i fun w1 => KOK.i fun w2 => KOK.i fun w3 => KOK.i fun w4 => KOK.e (f := fun t => r55 t w1 w2 w3 w4) fun t h => h_r55 t w1 w2 w3 w4 h) (KDok.cons (KOK.f <| KOK.i fun w1 => KOK.i fun w2 => KOK.i fun w3 => KOK.e (f := fun t => k115 t w1 w2 w3) fun t h => h_k115 t w1 w2 w3 h) (KDok.nil))) ((congrFun (congrFun (congrFun (congrFun (congrFun (congrFun (congrFun (congrFun (congrFun (congrFun (fm_findsWorst_55_eq) F_237) F_235) F_239) (fun t u1 u2 u3 u4 => r55 t u1 u2 u3 u4)) (fun t u1 u2 u3 => k115 t u1 u2 u3)) t) v1) v2) v3) v4).trans h)
theorem fm_findsWorst_l55_ok {k115 : SM → Int32 → Int32 → Int32 → OR} (h_k115 : ∀ (t : SM) (v1 : Int32) (v2 : Int32) (v3 : Int32), k115 t v1 v2 v3 = some r → Body l 6 q_240 P_240 r 115 [(3, .int v3), (2, .int v2), (1, .int v1), (0, .ref 39)] [] t) : ∀ (n : Nat) (t : SM) (v1 : Int32) (v2 : Int32) (v3 : Int32) (v4 : Int32), fm_findsWorst_l55 k115 n t v1 v2 v3 v4 = some r → Body l 6 q_240 P_240 r 55 [(4, .int v4), (3, .int v3), (2, .int v2), (1, .int v1), (0, .ref 39)] [] t
  | 0, _, _, _, _, _, h => by cases h
  | n + 1, t, v1, v2, v3, v4, h => fm_findsWorst_55_ok h_k115 (fm_findsWorst_l55_ok h_k115 n) t v1 v2 v3 v4 h
theorem fm_findsWorst_46_eq : (fun (G237 : List Value → SM → OR) (G235 : List Value → SM → OR) (G239 : List Value → SM → OR) (j55 : SM → Int32 → Int32 → Int32 → Int32 → OR) (j121 : SM → Int32 → Int32 → OR) (t : SM) (v1 : Int32) (v2 : Int32) (v3 : Int32) => ex clN P_240 none bytJ (mkCal rks ((237, G237) :: (235, G235) :: (239, G239) :: [])) [55, 121] (kDisp [(55, kF 0 39 <| kI 1 fun w1 => kI 2 fun w2 => kI 3 fun w3 => kI 4 fun w4 => kE fun t => j55 t w1 w2 w3 w4), (121, kF 0 39 <| kI 1 fun w1 => kI 2 fun w2 => kE fun t => j121 t w1 w2)]) 400 46 [(3, .int v3), (2, .int v2), (1, .int v1), (0, .ref 39)] [] t) = (fun (G237 : List Value → SM → OR) (G235 : List Value → SM → OR) (G239 : List Value → SM → OR) (j55 : SM → Int32 → Int32 → Int32 → Int32 → OR) (j121 : SM → Int32 → Int32 → OR) (t : SM) (v1 : Int32) (v2 : Int32) (v3 : Int32) =>
  if 6 ≤ v3 then j121 t v1 v2
  else j55 t v1 v2 v3 1) := by rfl
theorem fm_findsWorst_46_ok {k121 : SM → Int32 → Int32 → OR} {r46 : SM → Int32 → Int32 → Int32 → OR} (h_k121 : ∀ (t : SM) (v1 : Int32) (v2 : Int32), k121 t v1 v2 = some r → Body l 6 q_240 P_240 r 121 [(2, .int v2), (1, .int v1), (0, .ref 39)] [] t) (h_r46 : ∀ (t : SM) (v1 : Int32) (v2 : Int32) (v3 : Int32), r46 t v1 v2 v3 = some r → Body l 6 q_240 P_240 r 46 [(3, .int v3), (2, .int v2), (1, .int v1), (0, .ref 39)] [] t) (t : SM) (v1 : Int32) (v2 : Int32) (v3 : Int32) (h : fm_findsWorst_46 k121 r46 t v1 v2 v3 = some r) : Body l 6 q_240 P_240 r 46 [(3, .int v3), (2, .int v2), (1, .int v1), (0, .ref 39)] [] t :=
  blk ft_240 (by omega) rfl rows_240 (KDok.cons (KOK.f <| KOK.i fun w1 => KOK.i fun w2 => KOK.i fun w3 => KOK.i fun w4 => KOK.e (f := fun t => fm_findsWorst_l55 (fun t u1 u2 u3 => fm_findsWorst_115 r46 t u1 u2 u3) 1000000 t w1 w2 w3 w4) fun t h => fm_findsWorst_l55_ok (k115 := fun t u1 u2 u3 => fm_findsWorst_115 r46 t u1 u2 u3) (fun t u1 u2 u3 h => fm_findsWorst_115_ok h_r46 t u1 u2 u3 h) 1000000 t w1 w2 w3 w4 h) (KDok.cons (KOK.f <| KOK.i fun w1 => KOK.i fun w2 => KOK.e (f := fun t => k121 t w1 w2) fun t h => h_k121 t w1 w2 h) (KDok.nil))) ((congrFun (congrFun (congrFun (congrFun (congrFun (congrFun (congrFun (congrFun (congrFun (fm_findsWorst_46_eq) F_237) F_235) F_239) (fun t u1 u2 u3 u4 => fm_findsWorst_l55 (fun t u1 u2 u3 => fm_findsWorst_115 r46 t u1 u2 u3) 1000000 t u1 u2 u3 u4)) (fun t u1 u2 => k121 t u1 u2)) t) v1) v2) v3).trans h)
theorem fm_findsWorst_l46_ok {k121 : SM → Int32 → Int32 → OR} (h_k121 : ∀ (t : SM) (v1 : Int32) (v2 : Int32), k121 t v1 v2 = some r → Body l 6 q_240 P_240 r 121 [(2, .int v2), (1, .int v1), (0, .ref 39)] [] t) : ∀ (n : Nat) (t : SM) (v1 : Int32) (v2 : Int32) (v3 : Int32), fm_findsWorst_l46 k121 n t v1 v2 v3 = some r → Body l 6 q_240 P_240 r 46 [(3, .int v3), (2, .int v2), (1, .int v1), (0, .ref 39)] [] t
  | 0, _, _, _, _, h => by cases h
  | n + 1, t, v1, v2, v3, h => fm_findsWorst_46_ok h_k121 (fm_findsWorst_l46_ok h_k121 n) t v1 v2 v3 h
theorem fm_findsWorst_38_eq : (fun (G237 : List Value → SM → OR) (G235 : List Value → SM → OR) (G239 : List Value → SM → OR) (j46 : SM → Int32 → Int32 → Int32 → OR) (t : SM) (v1 : Int32) (v2 : Int32) => ex clN P_240 none bytJ (mkCal rks ((237, G237) :: (235, G235) :: (239, G239) :: [])) [46] (kDisp [(46, kF 0 39 <| kI 1 fun w1 => kI 2 fun w2 => kI 3 fun w3 => kE fun t => j46 t w1 w2 w3)]) 400 38 [(2, .int v2), (1, .int v1), (0, .ref 39)] [] t) = (fun (G237 : List Value → SM → OR) (G235 : List Value → SM → OR) (G239 : List Value → SM → OR) (j46 : SM → Int32 → Int32 → Int32 → OR) (t : SM) (v1 : Int32) (v2 : Int32) =>
  if v2 = 0 then rV t
  else j46 t v1 0 0) := by rfl
theorem fm_findsWorst_38_ok {r38 : SM → Int32 → Int32 → OR} (h_r38 : ∀ (t : SM) (v1 : Int32) (v2 : Int32), r38 t v1 v2 = some r → Body l 6 q_240 P_240 r 38 [(2, .int v2), (1, .int v1), (0, .ref 39)] [] t) (t : SM) (v1 : Int32) (v2 : Int32) (h : fm_findsWorst_38 r38 t v1 v2 = some r) : Body l 6 q_240 P_240 r 38 [(2, .int v2), (1, .int v1), (0, .ref 39)] [] t :=
  blk ft_240 (by omega) rfl rows_240 (KDok.cons (KOK.f <| KOK.i fun w1 => KOK.i fun w2 => KOK.i fun w3 => KOK.e (f := fun t => fm_findsWorst_l46 (fun t u1 u2 => fm_findsWorst_121 r38 t u1 u2) 1000000 t w1 w2 w3) fun t h => fm_findsWorst_l46_ok (k121 := fun t u1 u2 => fm_findsWorst_121 r38 t u1 u2) (fun t u1 u2 h => fm_findsWorst_121_ok h_r38 t u1 u2 h) 1000000 t w1 w2 w3 h) (KDok.nil)) ((congrFun (congrFun (congrFun (congrFun (congrFun (congrFun (congrFun (fm_findsWorst_38_eq) F_237) F_235) F_239) (fun t u1 u2 u3 => fm_findsWorst_l46 (fun t u1 u2 => fm_findsWorst_121 r38 t u1 u2) 1000000 t u1 u2 u3)) t) v1) v2).trans h)
theorem fm_findsWorst_l38_ok : ∀ (n : Nat) (t : SM) (v1 : Int32) (v2 : Int32), fm_findsWorst_l38 n t v1 v2 = some r → Body l 6 q_240 P_240 r 38 [(2, .int v2), (1, .int v1), (0, .ref 39)] [] t
  | 0, _, _, _, h => by cases h
  | n + 1, t, v1, v2, h => fm_findsWorst_38_ok (fm_findsWorst_l38_ok n) t v1 v2 h
theorem fm_findsWorst_36_eq : (fun (G237 : List Value → SM → OR) (G235 : List Value → SM → OR) (G239 : List Value → SM → OR) (j38 : SM → Int32 → Int32 → OR) (t : SM) (v1 : Int32) => ex clN P_240 none bytJ (mkCal rks ((237, G237) :: (235, G235) :: (239, G239) :: [])) [38] (kDisp [(38, kF 0 39 <| kI 1 fun w1 => kI 2 fun w2 => kE fun t => j38 t w1 w2)]) 400 36 [(1, .int v1), (0, .ref 39)] [] t) = (fun (G237 : List Value → SM → OR) (G235 : List Value → SM → OR) (G239 : List Value → SM → OR) (j38 : SM → Int32 → Int32 → OR) (t : SM) (v1 : Int32) =>
  j38 t v1 1) := by rfl
theorem fm_findsWorst_36_ok (t : SM) (v1 : Int32) (h : fm_findsWorst_36 t v1 = some r) : Body l 6 q_240 P_240 r 36 [(1, .int v1), (0, .ref 39)] [] t :=
  blk ft_240 (by omega) rfl rows_240 (KDok.cons (KOK.f <| KOK.i fun w1 => KOK.i fun w2 => KOK.e (f := fun t => fm_findsWorst_l38 1000000 t w1 w2) fun t h => fm_findsWorst_l38_ok 1000000 t w1 w2 h) (KDok.nil)) ((congrFun (congrFun (congrFun (congrFun (congrFun (congrFun (fm_findsWorst_36_eq) F_237) F_235) F_239) (fun t u1 u2 => fm_findsWorst_l38 1000000 t u1 u2)) t) v1).trans h)
theorem fm_findsWorst_2_eq : (fun (G237 : List Value → SM → OR) (G235 : List Value → SM → OR) (G239 : List Value → SM → OR) (j2 : SM → Int32 → Int32 → OR) (j36 : SM → Int32 → OR) (t : SM) (v1 : Int32) (v2 : Int32) => ex clN P_240 none bytJ (mkCal rks ((237, G237) :: (235, G235) :: (239, G239) :: [])) [2, 36] (kDisp [(2, kF 0 39 <| kI 1 fun w1 => kI 2 fun w2 => kE fun t => j2 t w1 w2), (36, kF 0 39 <| kI 1 fun w1 => kE fun t => j36 t w1)]) 400 2 [(2, .int v2), (1, .int v1), (0, .ref 39)] [] t) = (fun (G237 : List Value → SM → OR) (G235 : List Value → SM → OR) (G239 : List Value → SM → OR) (j2 : SM → Int32 → Int32 → OR) (j36 : SM → Int32 → OR) (t : SM) (v1 : Int32) (v2 : Int32) =>
  if 768 ≤ v2 then j36 t v1
  else hGetC t 11 39 47 65 <|
  if (v2 / 128) = v1 then hASt t 65 v2 0 fun t2 =>
  j2 t2 v1 (v2 + 1)
  else hASt t 65 v2 1000000 fun t1 =>
    j2 t1 v1 (v2 + 1)) := by rfl
theorem fm_findsWorst_2_ok {k36 : SM → Int32 → OR} {r2 : SM → Int32 → Int32 → OR} (h_k36 : ∀ (t : SM) (v1 : Int32), k36 t v1 = some r → Body l 6 q_240 P_240 r 36 [(1, .int v1), (0, .ref 39)] [] t) (h_r2 : ∀ (t : SM) (v1 : Int32) (v2 : Int32), r2 t v1 v2 = some r → Body l 6 q_240 P_240 r 2 [(2, .int v2), (1, .int v1), (0, .ref 39)] [] t) (t : SM) (v1 : Int32) (v2 : Int32) (h : fm_findsWorst_2 k36 r2 t v1 v2 = some r) : Body l 6 q_240 P_240 r 2 [(2, .int v2), (1, .int v1), (0, .ref 39)] [] t :=
  blk ft_240 (by omega) rfl rows_240 (KDok.cons (KOK.f <| KOK.i fun w1 => KOK.i fun w2 => KOK.e (f := fun t => r2 t w1 w2) fun t h => h_r2 t w1 w2 h) (KDok.cons (KOK.f <| KOK.i fun w1 => KOK.e (f := fun t => k36 t w1) fun t h => h_k36 t w1 h) (KDok.nil))) ((congrFun (congrFun (congrFun (congrFun (congrFun (congrFun (congrFun (congrFun (fm_findsWorst_2_eq) F_237) F_235) F_239) (fun t u1 u2 => r2 t u1 u2)) (fun t u1 => k36 t u1)) t) v1) v2).trans h)
theorem fm_findsWorst_l2_ok {k36 : SM → Int32 → OR} (h_k36 : ∀ (t : SM) (v1 : Int32), k36 t v1 = some r → Body l 6 q_240 P_240 r 36 [(1, .int v1), (0, .ref 39)] [] t) : ∀ (n : Nat) (t : SM) (v1 : Int32) (v2 : Int32), fm_findsWorst_l2 k36 n t v1 v2 = some r → Body l 6 q_240 P_240 r 2 [(2, .int v2), (1, .int v1), (0, .ref 39)] [] t
  | 0, _, _, _, h => by cases h
  | n + 1, t, v1, v2, h => fm_findsWorst_2_ok h_k36 (fm_findsWorst_l2_ok h_k36 n) t v1 v2 h
theorem fm_findsWorst_eq : (fun (G237 : List Value → SM → OR) (G235 : List Value → SM → OR) (G239 : List Value → SM → OR) (j2 : SM → Int32 → Int32 → OR) (t : SM) (a : Int32) => ex clN P_240 none bytJ (mkCal rks ((237, G237) :: (235, G235) :: (239, G239) :: [])) [2] (kDisp [(2, kF 0 39 <| kI 1 fun w1 => kI 2 fun w2 => kE fun t => j2 t w1 w2)]) 400 0 [(0, .ref 39), (1, .int a)] [] t) = (fun (G237 : List Value → SM → OR) (G235 : List Value → SM → OR) (G239 : List Value → SM → OR) (j2 : SM → Int32 → Int32 → OR) (t : SM) (a : Int32) =>
  j2 t a 0) := by rfl
theorem fm_findsWorst_ok (t : SM) (a : Int32) (h : fm_findsWorst t a = some r) : Body l 6 q_240 P_240 r 0 [(0, .ref 39), (1, .int a)] [] t :=
  blk ft_240 (by omega) rfl rows_240 (KDok.cons (KOK.f <| KOK.i fun w1 => KOK.i fun w2 => KOK.e (f := fun t => fm_findsWorst_l2 (fun t u1 => fm_findsWorst_36 t u1) 1000000 t w1 w2) fun t h => fm_findsWorst_l2_ok (k36 := fun t u1 => fm_findsWorst_36 t u1) (fun t u1 h => fm_findsWorst_36_ok t u1 h) 1000000 t w1 w2 h) (KDok.nil)) ((congrFun (congrFun (congrFun (congrFun (congrFun (congrFun (fm_findsWorst_eq) F_237) F_235) F_239) (fun t u1 u2 => fm_findsWorst_l2 (fun t u1 => fm_findsWorst_36 t u1) 1000000 t u1 u2)) t) a).trans h)
theorem ok_240 (l : Launch) : Fok l 6 mtab 240 (F_240) := by
  intro as t r h
  unfold F_240 at h
  split at h
  · rename_i z0 a
    split at h
    · rename_i hz0
      obtain rfl := Nat.eq_of_beq_eq_true hz0
      exact ⟨q_240, rfl, mok_240, con_of (P := P_240) (by decide +kernel) rfl (Nat.le_of_ble_eq_true rfl) (fm_findsWorst_ok t a h)⟩
    · cases h
  · cases h
end
section
set_option maxRecDepth 100000
variable {l : Launch} {r : RR}
def FT_241 : FT := (186, F_186) :: (219, F_219) :: (182, F_182) :: (240, F_240) :: (236, F_236) :: []
theorem ft_241 : FTok l 7 mtab FT_241 := FTok.cons (ok_186 l) (by omega) (FTok.cons (ok_219 l) (by omega) (FTok.cons (ok_182 l) (by omega) (FTok.cons (ok_240 l) (by omega) (FTok.cons (ok_236 l) (by omega) (FTok.nil)))))
theorem fm_soon_eq : (fun (G186 : List Value → SM → OR) (G219 : List Value → SM → OR) (G182 : List Value → SM → OR) (G240 : List Value → SM → OR) (G236 : List Value → SM → OR) (t : SM) (a : Int32) => ex clN P_241 none bytJ (mkCal rks ((186, G186) :: (219, G219) :: (182, G182) :: (240, G240) :: (236, G236) :: [])) [] (kDisp []) 400 0 [(0, .ref 39), (1, .int a)] [] t) = (fun (G186 : List Value → SM → OR) (G219 : List Value → SM → OR) (G182 : List Value → SM → OR) (G240 : List Value → SM → OR) (G236 : List Value → SM → OR) (t : SM) (a : Int32) =>
  bI (G186 [.int a] t) fun areTwo2 t1 =>
  if areTwo2 = 0 then rI (-5) t1
  else hRecv t1 11 39 <| bV (G219 [.ref 39] t1) fun t3 =>
    hGetI t3 11 39 45 fun worldMany4 =>
    bI (G182 [.int worldMany4, .int 1, .int 7] t3) fun in6 t5 =>
    if in6 = 0 then rI (-3) t5
    else hRecv t5 11 39 <| bV (G240 [.ref 39, .int (a - a / 10 * 10)] t5) fun t7 =>
      hGetI t7 11 39 45 fun worldMany8 =>
      hRecv t7 11 39 <| bI (G236 [.ref 39, .int (((1 : Int32) <<< (worldMany8 &&& 31)) - 1), .int (a / 10)] t7) fun longest10 t9 =>
      if longest10 < 1000000 then rI longest10 t9
      else rI (-1) t9) := by rfl
theorem fm_soon_ok (t : SM) (a : Int32) (h : fm_soon t a = some r) : Body l 7 q_241 P_241 r 0 [(0, .ref 39), (1, .int a)] [] t :=
  blk ft_241 (by omega) rfl rows_241 (KDok.nil) ((congrFun (congrFun (congrFun (congrFun (congrFun (congrFun (congrFun (fm_soon_eq) F_186) F_219) F_182) F_240) F_236) t) a).trans h)
theorem ok_241 (l : Launch) : Fok l 7 mtab 241 (F_241) := by
  intro as t r h
  unfold F_241 at h
  split at h
  · rename_i z0 a
    split at h
    · rename_i hz0
      obtain rfl := Nat.eq_of_beq_eq_true hz0
      exact ⟨q_241, rfl, mok_241, con_of (P := P_241) (by decide +kernel) rfl (Nat.le_of_ble_eq_true rfl) (fm_soon_ok t a h)⟩
    · cases h
  · cases h
end
section
set_option maxRecDepth 100000
variable {l : Launch} {r : RR}
def FT_242 : FT := (186, F_186) :: (183, F_183) :: (219, F_219) :: (182, F_182) :: (240, F_240) :: (235, F_235) :: (230, F_230) :: (228, F_228) :: (238, F_238) :: []
theorem ft_242 : FTok l 7 mtab FT_242 := FTok.cons (ok_186 l) (by omega) (FTok.cons (ok_183 l) (by omega) (FTok.cons (ok_219 l) (by omega) (FTok.cons (ok_182 l) (by omega) (FTok.cons (ok_240 l) (by omega) (FTok.cons (ok_235 l) (by omega) (FTok.cons (ok_230 l) (by omega) (FTok.cons (ok_228 l) (by omega) (FTok.cons (ok_238 l) (by omega) (FTok.nil)))))))))
theorem fm_step_134_eq : (fun (G186 : List Value → SM → OR) (G183 : List Value → SM → OR) (G219 : List Value → SM → OR) (G182 : List Value → SM → OR) (G240 : List Value → SM → OR) (G235 : List Value → SM → OR) (G230 : List Value → SM → OR) (G228 : List Value → SM → OR) (G238 : List Value → SM → OR) (j134 : SM → Int32 → Int32 → Int32 → Int32 → Int32 → Int32 → OR) (t : SM) (v1 : Int32) (v2 : Int32) (v4 : Int32) (v5 : Int32) (v6 : Int32) (v7 : Int32) => ex clN P_242 none bytJ (mkCal rks ((186, G186) :: (183, G183) :: (219, G219) :: (182, G182) :: (240, G240) :: (235, G235) :: (230, G230) :: (228, G228) :: (238, G238) :: [])) [134] (kDisp [(134, kF 0 39 <| kI 1 fun w1 => kI 2 fun w2 => kI 4 fun w4 => kI 5 fun w5 => kI 6 fun w6 => kI 7 fun w7 => kE fun t => j134 t w1 w2 w4 w5 w6 w7)]) 400 134 [(7, .int v7), (6, .int v6), (5, .int v5), (4, .int v4), (2, .int v2), (1, .int v1), (0, .ref 39)] [] t) = (fun (G186 : List Value → SM → OR) (G183 : List Value → SM → OR) (G219 : List Value → SM → OR) (G182 : List Value → SM → OR) (G240 : List Value → SM → OR) (G235 : List Value → SM → OR) (G230 : List Value → SM → OR) (G228 : List Value → SM → OR) (G238 : List Value → SM → OR) (j134 : SM → Int32 → Int32 → Int32 → Int32 → Int32 → Int32 → OR) (t : SM) (v1 : Int32) (v2 : Int32) (v4 : Int32) (v5 : Int32) (v6 : Int32) (v7 : Int32) =>
  hGetI t 11 39 9 fun streets1 =>
  if streets1 ≤ v7 then rI (-1) t
  else if v4 = (v1 - v1 / 10 * 10) then rI (-1) t
  else if 1000000 ≤ v6 then rI (-1) t
  else hRecv t 11 39 <| bI (G230 [.ref 39, .int v7, .int v4] t) fun endsAt3 t2 =>
  if endsAt3 = 0 then j134 t2 v1 v2 v4 v5 v6 (v7 + 1)
  else hRecv t2 11 39 <| bI (G228 [.ref 39, .int v7, .int v2] t2) fun isOpen5 t4 =>
  if isOpen5 = 0 then j134 t4 v1 v2 v4 v5 v6 (v7 + 1)
  else hRecv t4 11 39 <| bI (G238 [.ref 39, .int v7, .int v5, .int v4] t4) fun byStreet7 t6 =>
  if byStreet7 = v6 then rI v7 t6
  else j134 t6 v1 v2 v4 v5 v6 (v7 + 1)) := by rfl
theorem fm_step_134_ok {r134 : SM → Int32 → Int32 → Int32 → Int32 → Int32 → Int32 → OR} (h_r134 : ∀ (t : SM) (v1 : Int32) (v2 : Int32) (v4 : Int32) (v5 : Int32) (v6 : Int32) (v7 : Int32), r134 t v1 v2 v4 v5 v6 v7 = some r → Body l 7 q_242 P_242 r 134 [(7, .int v7), (6, .int v6), (5, .int v5), (4, .int v4), (2, .int v2), (1, .int v1), (0, .ref 39)] [] t) (t : SM) (v1 : Int32) (v2 : Int32) (v4 : Int32) (v5 : Int32) (v6 : Int32) (v7 : Int32) (h : fm_step_134 r134 t v1 v2 v4 v5 v6 v7 = some r) : Body l 7 q_242 P_242 r 134 [(7, .int v7), (6, .int v6), (5, .int v5), (4, .int v4), (2, .int v2), (1, .int v1), (0, .ref 39)] [] t :=
  blk ft_242 (by omega) rfl rows_242 (KDok.cons (KOK.f <| KOK.i fun w1 => KOK.i fun w2 => KOK.i fun w4 => KOK.i fun w5 => KOK.i fun w6 => KOK.i fun w7 => KOK.e (f := fun t => r134 t w1 w2 w4 w5 w6 w7) fun t h => h_r134 t w1 w2 w4 w5 w6 w7 h) (KDok.nil)) ((congrFun (congrFun (congrFun (congrFun (congrFun (congrFun (congrFun (congrFun (congrFun (congrFun (congrFun (congrFun (congrFun (congrFun (congrFun (congrFun (congrFun (fm_step_134_eq) F_186) F_183) F_219) F_182) F_240) F_235) F_230) F_228) F_238) (fun t u1 u2 u4 u5 u6 u7 => r134 t u1 u2 u4 u5 u6 u7)) t) v1) v2) v4) v5) v6) v7).trans h)
theorem fm_step_l134_ok : ∀ (n : Nat) (t : SM) (v1 : Int32) (v2 : Int32) (v4 : Int32) (v5 : Int32) (v6 : Int32) (v7 : Int32), fm_step_l134 n t v1 v2 v4 v5 v6 v7 = some r → Body l 7 q_242 P_242 r 134 [(7, .int v7), (6, .int v6), (5, .int v5), (4, .int v4), (2, .int v2), (1, .int v1), (0, .ref 39)] [] t
  | 0, _, _, _, _, _, _, _, h => by cases h
  | n + 1, t, v1, v2, v4, v5, v6, v7, h => fm_step_134_ok (fm_step_l134_ok n) t v1 v2 v4 v5 v6 v7 h
theorem fm_step_63_eq : (fun (G186 : List Value → SM → OR) (G183 : List Value → SM → OR) (G219 : List Value → SM → OR) (G182 : List Value → SM → OR) (G240 : List Value → SM → OR) (G235 : List Value → SM → OR) (G230 : List Value → SM → OR) (G228 : List Value → SM → OR) (G238 : List Value → SM → OR) (j134 : SM → Int32 → Int32 → Int32 → Int32 → Int32 → Int32 → OR) (t : SM) (v1 : Int32) (v2 : Int32) (v3 : Int32) => ex clN P_242 none bytJ (mkCal rks ((186, G186) :: (183, G183) :: (219, G219) :: (182, G182) :: (240, G240) :: (235, G235) :: (230, G230) :: (228, G228) :: (238, G238) :: [])) [134] (kDisp [(134, kF 0 39 <| kI 1 fun w1 => kI 2 fun w2 => kI 4 fun w4 => kI 5 fun w5 => kI 6 fun w6 => kI 7 fun w7 => kE fun t => j134 t w1 w2 w4 w5 w6 w7)]) 400 63 [(3, .int v3), (2, .int v2), (1, .int v1), (0, .ref 39)] [] t) = (fun (G186 : List Value → SM → OR) (G183 : List Value → SM → OR) (G219 : List Value → SM → OR) (G182 : List Value → SM → OR) (G240 : List Value → SM → OR) (G235 : List Value → SM → OR) (G230 : List Value → SM → OR) (G228 : List Value → SM → OR) (G238 : List Value → SM → OR) (j134 : SM → Int32 → Int32 → Int32 → Int32 → Int32 → Int32 → OR) (t : SM) (v1 : Int32) (v2 : Int32) (v3 : Int32) =>
  hGetI t 11 39 45 fun worldMany1 =>
  bI (G182 [.int worldMany1, .int 1, .int 7] t) fun in3 t2 =>
  if in3 = 0 then rI (-3) t2
  else if v3 = (-1) then rI (-3) t2
  else hRecv t2 11 39 <| bV (G240 [.ref 39, .int (v1 - v1 / 10 * 10)] t2) fun t4 =>
    hGetI t4 11 39 45 fun worldMany5 =>
    hRecv t4 11 39 <| bI (G235 [.ref 39, .int (((1 : Int32) <<< (worldMany5 &&& 31)) - 1), .int v3, .int (v1 / 10)] t4) fun like7 t6 =>
    hGetC t6 11 39 47 65 <|
    hALd t6 65 ((128 * (v1 / 10)) + like7) fun e8 =>
    j134 t6 v1 v2 (v1 / 10) like7 e8 0) := by rfl
theorem fm_step_63_ok (t : SM) (v1 : Int32) (v2 : Int32) (v3 : Int32) (h : fm_step_63 t v1 v2 v3 = some r) : Body l 7 q_242 P_242 r 63 [(3, .int v3), (2, .int v2), (1, .int v1), (0, .ref 39)] [] t :=
  blk ft_242 (by omega) rfl rows_242 (KDok.cons (KOK.f <| KOK.i fun w1 => KOK.i fun w2 => KOK.i fun w4 => KOK.i fun w5 => KOK.i fun w6 => KOK.i fun w7 => KOK.e (f := fun t => fm_step_l134 1000000 t w1 w2 w4 w5 w6 w7) fun t h => fm_step_l134_ok 1000000 t w1 w2 w4 w5 w6 w7 h) (KDok.nil)) ((congrFun (congrFun (congrFun (congrFun (congrFun (congrFun (congrFun (congrFun (congrFun (congrFun (congrFun (congrFun (congrFun (congrFun (fm_step_63_eq) F_186) F_183) F_219) F_182) F_240) F_235) F_230) F_228) F_238) (fun t u1 u2 u4 u5 u6 u7 => fm_step_l134 1000000 t u1 u2 u4 u5 u6 u7)) t) v1) v2) v3).trans h)
theorem fm_step_30_eq : (fun (G186 : List Value → SM → OR) (G183 : List Value → SM → OR) (G219 : List Value → SM → OR) (G182 : List Value → SM → OR) (G240 : List Value → SM → OR) (G235 : List Value → SM → OR) (G230 : List Value → SM → OR) (G228 : List Value → SM → OR) (G238 : List Value → SM → OR) (j30 : SM → Int32 → Int32 → Int32 → Int32 → OR) (j63 : SM → Int32 → Int32 → Int32 → OR) (t : SM) (v1 : Int32) (v2 : Int32) (v3 : Int32) (v4 : Int32) => ex clN P_242 none bytJ (mkCal rks ((186, G186) :: (183, G183) :: (219, G219) :: (182, G182) :: (240, G240) :: (235, G235) :: (230, G230) :: (228, G228) :: (238, G238) :: [])) [30, 63] (kDisp [(30, kF 0 39 <| kI 1 fun w1 => kI 2 fun w2 => kI 3 fun w3 => kI 4 fun w4 => kE fun t => j30 t w1 w2 w3 w4), (63, kF 0 39 <| kI 1 fun w1 => kI 2 fun w2 => kI 3 fun w3 => kE fun t => j63 t w1 w2 w3)]) 400 30 [(4, .int v4), (3, .int v3), (2, .int v2), (1, .int v1), (0, .ref 39)] [] t) = (fun (G186 : List Value → SM → OR) (G183 : List Value → SM → OR) (G219 : List Value → SM → OR) (G182 : List Value → SM → OR) (G240 : List Value → SM → OR) (G235 : List Value → SM → OR) (G230 : List Value → SM → OR) (G228 : List Value → SM → OR) (G238 : List Value → SM → OR) (j30 : SM → Int32 → Int32 → Int32 → Int32 → OR) (j63 : SM → Int32 → Int32 → Int32 → OR) (t : SM) (v1 : Int32) (v2 : Int32) (v3 : Int32) (v4 : Int32) =>
  hGetI t 11 39 45 fun worldMany1 =>
  if worldMany1 ≤ v4 then j63 t v1 v2 v3
  else hGetC t 11 39 44 63 <|
  hALd t 63 v4 fun e2 =>
  if e2 = v2 then j30 t v1 v2 v4 (v4 + 1)
  else j30 t v1 v2 v3 (v4 + 1)) := by rfl
theorem fm_step_30_ok {k63 : SM → Int32 → Int32 → Int32 → OR} {r30 : SM → Int32 → Int32 → Int32 → Int32 → OR} (h_k63 : ∀ (t : SM) (v1 : Int32) (v2 : Int32) (v3 : Int32), k63 t v1 v2 v3 = some r → Body l 7 q_242 P_242 r 63 [(3, .int v3), (2, .int v2), (1, .int v1), (0, .ref 39)] [] t) (h_r30 : ∀ (t : SM) (v1 : Int32) (v2 : Int32) (v3 : Int32) (v4 : Int32), r30 t v1 v2 v3 v4 = some r → Body l 7 q_242 P_242 r 30 [(4, .int v4), (3, .int v3), (2, .int v2), (1, .int v1), (0, .ref 39)] [] t) (t : SM) (v1 : Int32) (v2 : Int32) (v3 : Int32) (v4 : Int32) (h : fm_step_30 k63 r30 t v1 v2 v3 v4 = some r) : Body l 7 q_242 P_242 r 30 [(4, .int v4), (3, .int v3), (2, .int v2), (1, .int v1), (0, .ref 39)] [] t :=
  blk ft_242 (by omega) rfl rows_242 (KDok.cons (KOK.f <| KOK.i fun w1 => KOK.i fun w2 => KOK.i fun w3 => KOK.i fun w4 => KOK.e (f := fun t => r30 t w1 w2 w3 w4) fun t h => h_r30 t w1 w2 w3 w4 h) (KDok.cons (KOK.f <| KOK.i fun w1 => KOK.i fun w2 => KOK.i fun w3 => KOK.e (f := fun t => k63 t w1 w2 w3) fun t h => h_k63 t w1 w2 w3 h) (KDok.nil))) ((congrFun (congrFun (congrFun (congrFun (congrFun (congrFun (congrFun (congrFun (congrFun (congrFun (congrFun (congrFun (congrFun (congrFun (congrFun (congrFun (fm_step_30_eq) F_186) F_183) F_219) F_182) F_240) F_235) F_230) F_228) F_238) (fun t u1 u2 u3 u4 => r30 t u1 u2 u3 u4)) (fun t u1 u2 u3 => k63 t u1 u2 u3)) t) v1) v2) v3) v4).trans h)
theorem fm_step_l30_ok {k63 : SM → Int32 → Int32 → Int32 → OR} (h_k63 : ∀ (t : SM) (v1 : Int32) (v2 : Int32) (v3 : Int32), k63 t v1 v2 v3 = some r → Body l 7 q_242 P_242 r 63 [(3, .int v3), (2, .int v2), (1, .int v1), (0, .ref 39)] [] t) : ∀ (n : Nat) (t : SM) (v1 : Int32) (v2 : Int32) (v3 : Int32) (v4 : Int32), fm_step_l30 k63 n t v1 v2 v3 v4 = some r → Body l 7 q_242 P_242 r 30 [(4, .int v4), (3, .int v3), (2, .int v2), (1, .int v1), (0, .ref 39)] [] t
  | 0, _, _, _, _, _, h => by cases h
  | n + 1, t, v1, v2, v3, v4, h => fm_step_30_ok h_k63 (fm_step_l30_ok h_k63 n) t v1 v2 v3 v4 h
theorem fm_step_eq : (fun (G186 : List Value → SM → OR) (G183 : List Value → SM → OR) (G219 : List Value → SM → OR) (G182 : List Value → SM → OR) (G240 : List Value → SM → OR) (G235 : List Value → SM → OR) (G230 : List Value → SM → OR) (G228 : List Value → SM → OR) (G238 : List Value → SM → OR) (j30 : SM → Int32 → Int32 → Int32 → Int32 → OR) (t : SM) (a : Int32) (b : Int32) => ex clN P_242 none bytJ (mkCal rks ((186, G186) :: (183, G183) :: (219, G219) :: (182, G182) :: (240, G240) :: (235, G235) :: (230, G230) :: (228, G228) :: (238, G238) :: [])) [30] (kDisp [(30, kF 0 39 <| kI 1 fun w1 => kI 2 fun w2 => kI 3 fun w3 => kI 4 fun w4 => kE fun t => j30 t w1 w2 w3 w4)]) 400 0 [(0, .ref 39), (1, .int a), (2, .int b)] [] t) = (fun (G186 : List Value → SM → OR) (G183 : List Value → SM → OR) (G219 : List Value → SM → OR) (G182 : List Value → SM → OR) (G240 : List Value → SM → OR) (G235 : List Value → SM → OR) (G230 : List Value → SM → OR) (G228 : List Value → SM → OR) (G238 : List Value → SM → OR) (j30 : SM → Int32 → Int32 → Int32 → Int32 → OR) (t : SM) (a : Int32) (b : Int32) =>
  bI (G186 [.int a] t) fun areTwo2 t1 =>
  if areTwo2 = 0 then rI (-5) t1
  else hRecv t1 11 39 <| bI (G183 [.ref 39, .int b] t1) fun isTown4 t3 =>
    if isTown4 = 0 then rI (-7) t3
    else hRecv t3 11 39 <| bV (G219 [.ref 39] t3) fun t5 =>
      j30 t5 a b (-1) 0) := by rfl
theorem fm_step_ok (t : SM) (a : Int32) (b : Int32) (h : fm_step t a b = some r) : Body l 7 q_242 P_242 r 0 [(0, .ref 39), (1, .int a), (2, .int b)] [] t :=
  blk ft_242 (by omega) rfl rows_242 (KDok.cons (KOK.f <| KOK.i fun w1 => KOK.i fun w2 => KOK.i fun w3 => KOK.i fun w4 => KOK.e (f := fun t => fm_step_l30 (fun t u1 u2 u3 => fm_step_63 t u1 u2 u3) 1000000 t w1 w2 w3 w4) fun t h => fm_step_l30_ok (k63 := fun t u1 u2 u3 => fm_step_63 t u1 u2 u3) (fun t u1 u2 u3 h => fm_step_63_ok t u1 u2 u3 h) 1000000 t w1 w2 w3 w4 h) (KDok.nil)) ((congrFun (congrFun (congrFun (congrFun (congrFun (congrFun (congrFun (congrFun (congrFun (congrFun (congrFun (congrFun (congrFun (fm_step_eq) F_186) F_183) F_219) F_182) F_240) F_235) F_230) F_228) F_238) (fun t u1 u2 u3 u4 => fm_step_l30 (fun t u1 u2 u3 => fm_step_63 t u1 u2 u3) 1000000 t u1 u2 u3 u4)) t) a) b).trans h)
theorem ok_242 (l : Launch) : Fok l 7 mtab 242 (F_242) := by
  intro as t r h
  unfold F_242 at h
  split at h
  · rename_i z0 a b
    split at h
    · rename_i hz0
      obtain rfl := Nat.eq_of_beq_eq_true hz0
      exact ⟨q_242, rfl, mok_242, con_of (P := P_242) (by decide +kernel) rfl (Nat.le_of_ble_eq_true rfl) (fm_step_ok t a b h)⟩
    · cases h
  · cases h
end
section
set_option maxRecDepth 100000
variable {l : Launch} {r : RR}
def FT_243 : FT := (231, F_231) :: (230, F_230) :: (228, F_228) :: (229, F_229) :: []
theorem ft_243 : FTok l 3 mtab FT_243 := FTok.cons (ok_231 l) (by omega) (FTok.cons (ok_230 l) (by omega) (FTok.cons (ok_228 l) (by omega) (FTok.cons (ok_229 l) (by omega) (FTok.nil))))
theorem fm_tripBy_151_eq : (fun (G231 : List Value → SM → OR) (G230 : List Value → SM → OR) (G228 : List Value → SM → OR) (G229 : List Value → SM → OR) (j12 : SM → Int32 → Int32 → Int32 → Int32 → Int32 → Int32 → OR) (t : SM) (v1 : Int32) (v2 : Int32) (v3 : Int32) (v4 : Int32) (v5 : Int32) (v6 : Int32) (v7 : Int32) => ex clN P_243 none bytJ (mkCal rks ((231, G231) :: (230, G230) :: (228, G228) :: (229, G229) :: [])) [12] (kDisp [(12, kF 0 39 <| kI 1 fun w1 => kI 2 fun w2 => kI 3 fun w3 => kI 4 fun w4 => kI 5 fun w5 => kI 6 fun w6 => kE fun t => j12 t w1 w2 w3 w4 w5 w6)]) 400 151 [(7, .int v7), (6, .int v6), (5, .int v5), (4, .int v4), (3, .int v3), (2, .int v2), (1, .int v1), (0, .ref 39)] [] t) = (fun (G231 : List Value → SM → OR) (G230 : List Value → SM → OR) (G228 : List Value → SM → OR) (G229 : List Value → SM → OR) (j12 : SM → Int32 → Int32 → Int32 → Int32 → Int32 → Int32 → OR) (t : SM) (v1 : Int32) (v2 : Int32) (v3 : Int32) (v4 : Int32) (v5 : Int32) (v6 : Int32) (v7 : Int32) =>
  hRecv t 11 39 <| bI (G228 [.ref 39, .int v7, .int v3] t) fun isOpen2 t1 =>
  if isOpen2 = 0 then j12 t1 v1 v2 v3 v4 (v5 ||| ((1 : Int32) <<< (v7 &&& 31))) v6
  else hGetC t1 11 39 13 48 <|
  hALd t1 48 v7 fun e3 =>
  hRecv t1 11 39 <| bI (G229 [.ref 39, .int v7, .int v4] t1) fun beyond5 t4 =>
  j12 t4 v1 v2 v3 beyond5 v5 (v6 + e3)) := by rfl
theorem fm_tripBy_151_ok {r12 : SM → Int32 → Int32 → Int32 → Int32 → Int32 → Int32 → OR} (h_r12 : ∀ (t : SM) (v1 : Int32) (v2 : Int32) (v3 : Int32) (v4 : Int32) (v5 : Int32) (v6 : Int32), r12 t v1 v2 v3 v4 v5 v6 = some r → Body l 3 q_243 P_243 r 12 [(6, .int v6), (5, .int v5), (4, .int v4), (3, .int v3), (2, .int v2), (1, .int v1), (0, .ref 39)] [] t) (t : SM) (v1 : Int32) (v2 : Int32) (v3 : Int32) (v4 : Int32) (v5 : Int32) (v6 : Int32) (v7 : Int32) (h : fm_tripBy_151 r12 t v1 v2 v3 v4 v5 v6 v7 = some r) : Body l 3 q_243 P_243 r 151 [(7, .int v7), (6, .int v6), (5, .int v5), (4, .int v4), (3, .int v3), (2, .int v2), (1, .int v1), (0, .ref 39)] [] t :=
  blk ft_243 (by omega) rfl rows_243 (KDok.cons (KOK.f <| KOK.i fun w1 => KOK.i fun w2 => KOK.i fun w3 => KOK.i fun w4 => KOK.i fun w5 => KOK.i fun w6 => KOK.e (f := fun t => r12 t w1 w2 w3 w4 w5 w6) fun t h => h_r12 t w1 w2 w3 w4 w5 w6 h) (KDok.nil)) ((congrFun (congrFun (congrFun (congrFun (congrFun (congrFun (congrFun (congrFun (congrFun (congrFun (congrFun (congrFun (congrFun (fm_tripBy_151_eq) F_231) F_230) F_228) F_229) (fun t u1 u2 u3 u4 u5 u6 => r12 t u1 u2 u3 u4 u5 u6)) t) v1) v2) v3) v4) v5) v6) v7).trans h)
theorem fm_tripBy_97_eq : (fun (G231 : List Value → SM → OR) (G230 : List Value → SM → OR) (G228 : List Value → SM → OR) (G229 : List Value → SM → OR) (j57 : SM → Int32 → Int32 → Int32 → Int32 → Int32 → Int32 → Int32 → Int32 → OR) (t : SM) (v1 : Int32) (v2 : Int32) (v3 : Int32) (v4 : Int32) (v5 : Int32) (v6 : Int32) (v7 : Int32) (v8 : Int32) => ex clN P_243 none bytJ (mkCal rks ((231, G231) :: (230, G230) :: (228, G228) :: (229, G229) :: [])) [57] (kDisp [(57, kF 0 39 <| kI 1 fun w1 => kI 2 fun w2 => kI 3 fun w3 => kI 4 fun w4 => kI 5 fun w5 => kI 6 fun w6 => kI 7 fun w7 => kI 8 fun w8 => kE fun t => j57 t w1 w2 w3 w4 w5 w6 w7 w8)]) 400 97 [(8, .int v8), (7, .int v7), (6, .int v6), (5, .int v5), (4, .int v4), (3, .int v3), (2, .int v2), (1, .int v1), (0, .ref 39)] [] t) = (fun (G231 : List Value → SM → OR) (G230 : List Value → SM → OR) (G228 : List Value → SM → OR) (G229 : List Value → SM → OR) (j57 : SM → Int32 → Int32 → Int32 → Int32 → Int32 → Int32 → Int32 → Int32 → OR) (t : SM) (v1 : Int32) (v2 : Int32) (v3 : Int32) (v4 : Int32) (v5 : Int32) (v6 : Int32) (v7 : Int32) (v8 : Int32) =>
  j57 t v1 v2 v3 v4 v5 v6 v7 (v8 + (-1))) := by rfl
theorem fm_tripBy_97_ok {r57 : SM → Int32 → Int32 → Int32 → Int32 → Int32 → Int32 → Int32 → Int32 → OR} (h_r57 : ∀ (t : SM) (v1 : Int32) (v2 : Int32) (v3 : Int32) (v4 : Int32) (v5 : Int32) (v6 : Int32) (v7 : Int32) (v8 : Int32), r57 t v1 v2 v3 v4 v5 v6 v7 v8 = some r → Body l 3 q_243 P_243 r 57 [(8, .int v8), (7, .int v7), (6, .int v6), (5, .int v5), (4, .int v4), (3, .int v3), (2, .int v2), (1, .int v1), (0, .ref 39)] [] t) (t : SM) (v1 : Int32) (v2 : Int32) (v3 : Int32) (v4 : Int32) (v5 : Int32) (v6 : Int32) (v7 : Int32) (v8 : Int32) (h : fm_tripBy_97 r57 t v1 v2 v3 v4 v5 v6 v7 v8 = some r) : Body l 3 q_243 P_243 r 97 [(8, .int v8), (7, .int v7), (6, .int v6), (5, .int v5), (4, .int v4), (3, .int v3), (2, .int v2), (1, .int v1), (0, .ref 39)] [] t :=
  blk ft_243 (by omega) rfl rows_243 (KDok.cons (KOK.f <| KOK.i fun w1 => KOK.i fun w2 => KOK.i fun w3 => KOK.i fun w4 => KOK.i fun w5 => KOK.i fun w6 => KOK.i fun w7 => KOK.i fun w8 => KOK.e (f := fun t => r57 t w1 w2 w3 w4 w5 w6 w7 w8) fun t h => h_r57 t w1 w2 w3 w4 w5 w6 w7 w8 h) (KDok.nil)) ((congrFun (congrFun (congrFun (congrFun (congrFun (congrFun (congrFun (congrFun (congrFun (congrFun (congrFun (congrFun (congrFun (congrFun (fm_tripBy_97_eq) F_231) F_230) F_228) F_229) (fun t u1 u2 u3 u4 u5 u6 u7 u8 => r57 t u1 u2 u3 u4 u5 u6 u7 u8)) t) v1) v2) v3) v4) v5) v6) v7) v8).trans h)
theorem fm_tripBy_57_eq : (fun (G231 : List Value → SM → OR) (G230 : List Value → SM → OR) (G228 : List Value → SM → OR) (G229 : List Value → SM → OR) (j57 : SM → Int32 → Int32 → Int32 → Int32 → Int32 → Int32 → Int32 → Int32 → OR) (j97 : SM → Int32 → Int32 → Int32 → Int32 → Int32 → Int32 → Int32 → Int32 → OR) (j151 : SM → Int32 → Int32 → Int32 → Int32 → Int32 → Int32 → Int32 → OR) (t : SM) (v1 : Int32) (v2 : Int32) (v3 : Int32) (v4 : Int32) (v5 : Int32) (v6 : Int32) (v7 : Int32) (v8 : Int32) => ex clN P_243 none bytJ (mkCal rks ((231, G231) :: (230, G230) :: (228, G228) :: (229, G229) :: [])) [57, 97, 151] (kDisp [(57, kF 0 39 <| kI 1 fun w1 => kI 2 fun w2 => kI 3 fun w3 => kI 4 fun w4 => kI 5 fun w5 => kI 6 fun w6 => kI 7 fun w7 => kI 8 fun w8 => kE fun t => j57 t w1 w2 w3 w4 w5 w6 w7 w8), (97, kF 0 39 <| kI 1 fun w1 => kI 2 fun w2 => kI 3 fun w3 => kI 4 fun w4 => kI 5 fun w5 => kI 6 fun w6 => kI 7 fun w7 => kI 8 fun w8 => kE fun t => j97 t w1 w2 w3 w4 w5 w6 w7 w8), (151, kF 0 39 <| kI 1 fun w1 => kI 2 fun w2 => kI 3 fun w3 => kI 4 fun w4 => kI 5 fun w5 => kI 6 fun w6 => kI 7 fun w7 => kE fun t => j151 t w1 w2 w3 w4 w5 w6 w7)]) 400 57 [(8, .int v8), (7, .int v7), (6, .int v6), (5, .int v5), (4, .int v4), (3, .int v3), (2, .int v2), (1, .int v1), (0, .ref 39)] [] t) = (fun (G231 : List Value → SM → OR) (G230 : List Value → SM → OR) (G228 : List Value → SM → OR) (G229 : List Value → SM → OR) (j57 : SM → Int32 → Int32 → Int32 → Int32 → Int32 → Int32 → Int32 → Int32 → OR) (j97 : SM → Int32 → Int32 → Int32 → Int32 → Int32 → Int32 → Int32 → Int32 → OR) (j151 : SM → Int32 → Int32 → Int32 → Int32 → Int32 → Int32 → Int32 → OR) (t : SM) (v1 : Int32) (v2 : Int32) (v3 : Int32) (v4 : Int32) (v5 : Int32) (v6 : Int32) (v7 : Int32) (v8 : Int32) =>
  if v8 < 0 then j151 t v1 v2 v3 v4 v5 v6 v7
  else hRecv t 11 39 <| bI (G230 [.ref 39, .int v8, .int v4] t) fun endsAt2 t1 =>
  if endsAt2 = 0 then j97 t1 v1 v2 v3 v4 v5 v6 v7 v8
  else hRecv t1 11 39 <| bI (G228 [.ref 39, .int v8, .int v1] t1) fun isOpen4 t3 =>
  if isOpen4 = 0 then j97 t3 v1 v2 v3 v4 v5 v6 v7 v8
  else if ((v5 >>> (v8 &&& 31)) &&& 1) = 0 then hGetC t3 11 39 13 48 <|
  hALd t3 48 v8 fun e5 =>
  hGetC t3 11 39 46 64 <|
  hRecv t3 11 39 <| bI (G229 [.ref 39, .int v8, .int v4] t3) fun beyond7 t6 =>
  hALd t6 64 beyond7 fun e8 =>
  hGetC t6 11 39 46 64 <|
  hALd t6 64 v4 fun e9 =>
  if (e5 + e8) = e9 then j57 t6 v1 v2 v3 v4 v5 v6 v8 (v8 + (-1))
  else j57 t6 v1 v2 v3 v4 v5 v6 v7 (v8 + (-1))
  else j97 t3 v1 v2 v3 v4 v5 v6 v7 v8) := by rfl
theorem fm_tripBy_57_ok {k151 : SM → Int32 → Int32 → Int32 → Int32 → Int32 → Int32 → Int32 → OR} {r57 : SM → Int32 → Int32 → Int32 → Int32 → Int32 → Int32 → Int32 → Int32 → OR} (h_k151 : ∀ (t : SM) (v1 : Int32) (v2 : Int32) (v3 : Int32) (v4 : Int32) (v5 : Int32) (v6 : Int32) (v7 : Int32), k151 t v1 v2 v3 v4 v5 v6 v7 = some r → Body l 3 q_243 P_243 r 151 [(7, .int v7), (6, .int v6), (5, .int v5), (4, .int v4), (3, .int v3), (2, .int v2), (1, .int v1), (0, .ref 39)] [] t) (h_r57 : ∀ (t : SM) (v1 : Int32) (v2 : Int32) (v3 : Int32) (v4 : Int32) (v5 : Int32) (v6 : Int32) (v7 : Int32) (v8 : Int32), r57 t v1 v2 v3 v4 v5 v6 v7 v8 = some r → Body l 3 q_243 P_243 r 57 [(8, .int v8), (7, .int v7), (6, .int v6), (5, .int v5), (4, .int v4), (3, .int v3), (2, .int v2), (1, .int v1), (0, .ref 39)] [] t) (t : SM) (v1 : Int32) (v2 : Int32) (v3 : Int32) (v4 : Int32) (v5 : Int32) (v6 : Int32) (v7 : Int32) (v8 : Int32) (h : fm_tripBy_57 k151 r57 t v1 v2 v3 v4 v5 v6 v7 v8 = some r) : Body l 3 q_243 P_243 r 57 [(8, .int v8), (7, .int v7), (6, .int v6), (5, .int v5), (4, .int v4), (3, .int v3), (2, .int v2), (1, .int v1), (0, .ref 39)] [] t :=
  blk ft_243 (by omega) rfl rows_243 (KDok.cons (KOK.f <| KOK.i fun w1 => KOK.i fun w2 => KOK.i fun w3 => KOK.i fun w4 => KOK.i fun w5 => KOK.i fun w6 => KOK.i fun w7 => KOK.i fun w8 => KOK.e (f := fun t => r57 t w1 w2 w3 w4 w5 w6 w7 w8) fun t h => h_r57 t w1 w2 w3 w4 w5 w6 w7 w8 h) (KDok.cons (KOK.f <| KOK.i fun w1 => KOK.i fun w2 => KOK.i fun w3 => KOK.i fun w4 => KOK.i fun w5 => KOK.i fun w6 => KOK.i fun w7 => KOK.i fun w8 => KOK.e (f := fun t => fm_tripBy_97 r57 t w1 w2 w3 w4 w5 w6 w7 w8) fun t h => fm_tripBy_97_ok h_r57 t w1 w2 w3 w4 w5 w6 w7 w8 h) (KDok.cons (KOK.f <| KOK.i fun w1 => KOK.i fun w2 => KOK.i fun w3 => KOK.i fun w4 => KOK.i fun w5 => KOK.i fun w6 => KOK.i fun w7 => KOK.e (f := fun t => k151 t w1 w2 w3 w4 w5 w6 w7) fun t h => h_k151 t w1 w2 w3 w4 w5 w6 w7 h) (KDok.nil)))) ((congrFun (congrFun (congrFun (congrFun (congrFun (congrFun (congrFun (congrFun (congrFun (congrFun (congrFun (congrFun (congrFun (congrFun (congrFun (congrFun (fm_tripBy_57_eq) F_231) F_230) F_228) F_229) (fun t u1 u2 u3 u4 u5 u6 u7 u8 => r57 t u1 u2 u3 u4 u5 u6 u7 u8)) (fun t u1 u2 u3 u4 u5 u6 u7 u8 => fm_tripBy_97 r57 t u1 u2 u3 u4 u5 u6 u7 u8)) (fun t u1 u2 u3 u4 u5 u6 u7 => k151 t u1 u2 u3 u4 u5 u6 u7)) t) v1) v2) v3) v4) v5) v6) v7) v8).trans h)
theorem fm_tripBy_l57_ok {k151 : SM → Int32 → Int32 → Int32 → Int32 → Int32 → Int32 → Int32 → OR} (h_k151 : ∀ (t : SM) (v1 : Int32) (v2 : Int32) (v3 : Int32) (v4 : Int32) (v5 : Int32) (v6 : Int32) (v7 : Int32), k151 t v1 v2 v3 v4 v5 v6 v7 = some r → Body l 3 q_243 P_243 r 151 [(7, .int v7), (6, .int v6), (5, .int v5), (4, .int v4), (3, .int v3), (2, .int v2), (1, .int v1), (0, .ref 39)] [] t) : ∀ (n : Nat) (t : SM) (v1 : Int32) (v2 : Int32) (v3 : Int32) (v4 : Int32) (v5 : Int32) (v6 : Int32) (v7 : Int32) (v8 : Int32), fm_tripBy_l57 k151 n t v1 v2 v3 v4 v5 v6 v7 v8 = some r → Body l 3 q_243 P_243 r 57 [(8, .int v8), (7, .int v7), (6, .int v6), (5, .int v5), (4, .int v4), (3, .int v3), (2, .int v2), (1, .int v1), (0, .ref 39)] [] t
  | 0, _, _, _, _, _, _, _, _, _, h => by cases h
  | n + 1, t, v1, v2, v3, v4, v5, v6, v7, v8, h => fm_tripBy_57_ok h_k151 (fm_tripBy_l57_ok h_k151 n) t v1 v2 v3 v4 v5 v6 v7 v8 h
theorem fm_tripBy_12_eq : (fun (G231 : List Value → SM → OR) (G230 : List Value → SM → OR) (G228 : List Value → SM → OR) (G229 : List Value → SM → OR) (j57 : SM → Int32 → Int32 → Int32 → Int32 → Int32 → Int32 → Int32 → Int32 → OR) (t : SM) (v1 : Int32) (v2 : Int32) (v3 : Int32) (v4 : Int32) (v5 : Int32) (v6 : Int32) => ex clN P_243 none bytJ (mkCal rks ((231, G231) :: (230, G230) :: (228, G228) :: (229, G229) :: [])) [57] (kDisp [(57, kF 0 39 <| kI 1 fun w1 => kI 2 fun w2 => kI 3 fun w3 => kI 4 fun w4 => kI 5 fun w5 => kI 6 fun w6 => kI 7 fun w7 => kI 8 fun w8 => kE fun t => j57 t w1 w2 w3 w4 w5 w6 w7 w8)]) 400 12 [(6, .int v6), (5, .int v5), (4, .int v4), (3, .int v3), (2, .int v2), (1, .int v1), (0, .ref 39)] [] t) = (fun (G231 : List Value → SM → OR) (G230 : List Value → SM → OR) (G228 : List Value → SM → OR) (G229 : List Value → SM → OR) (j57 : SM → Int32 → Int32 → Int32 → Int32 → Int32 → Int32 → Int32 → Int32 → OR) (t : SM) (v1 : Int32) (v2 : Int32) (v3 : Int32) (v4 : Int32) (v5 : Int32) (v6 : Int32) =>
  if v4 = (v2 - v2 / 10 * 10) then rI v6 t
  else hRecv t 11 39 <| bV (G231 [.ref 39, .int (v2 - v2 / 10 * 10), .int v1, .int v5] t) fun t1 =>
  hGetC t1 11 39 46 64 <|
  hALd t1 64 v4 fun e2 =>
  if e2 < 1000000 then hGetI t1 11 39 9 fun streets3 =>
    j57 t1 v1 v2 v3 v4 v5 v6 (-1) (streets3 - 1)
  else rI (-1) t1) := by rfl
theorem fm_tripBy_12_ok {r12 : SM → Int32 → Int32 → Int32 → Int32 → Int32 → Int32 → OR} (h_r12 : ∀ (t : SM) (v1 : Int32) (v2 : Int32) (v3 : Int32) (v4 : Int32) (v5 : Int32) (v6 : Int32), r12 t v1 v2 v3 v4 v5 v6 = some r → Body l 3 q_243 P_243 r 12 [(6, .int v6), (5, .int v5), (4, .int v4), (3, .int v3), (2, .int v2), (1, .int v1), (0, .ref 39)] [] t) (t : SM) (v1 : Int32) (v2 : Int32) (v3 : Int32) (v4 : Int32) (v5 : Int32) (v6 : Int32) (h : fm_tripBy_12 r12 t v1 v2 v3 v4 v5 v6 = some r) : Body l 3 q_243 P_243 r 12 [(6, .int v6), (5, .int v5), (4, .int v4), (3, .int v3), (2, .int v2), (1, .int v1), (0, .ref 39)] [] t :=
  blk ft_243 (by omega) rfl rows_243 (KDok.cons (KOK.f <| KOK.i fun w1 => KOK.i fun w2 => KOK.i fun w3 => KOK.i fun w4 => KOK.i fun w5 => KOK.i fun w6 => KOK.i fun w7 => KOK.i fun w8 => KOK.e (f := fun t => fm_tripBy_l57 (fun t u1 u2 u3 u4 u5 u6 u7 => fm_tripBy_151 r12 t u1 u2 u3 u4 u5 u6 u7) 1000000 t w1 w2 w3 w4 w5 w6 w7 w8) fun t h => fm_tripBy_l57_ok (k151 := fun t u1 u2 u3 u4 u5 u6 u7 => fm_tripBy_151 r12 t u1 u2 u3 u4 u5 u6 u7) (fun t u1 u2 u3 u4 u5 u6 u7 h => fm_tripBy_151_ok h_r12 t u1 u2 u3 u4 u5 u6 u7 h) 1000000 t w1 w2 w3 w4 w5 w6 w7 w8 h) (KDok.nil)) ((congrFun (congrFun (congrFun (congrFun (congrFun (congrFun (congrFun (congrFun (congrFun (congrFun (congrFun (congrFun (fm_tripBy_12_eq) F_231) F_230) F_228) F_229) (fun t u1 u2 u3 u4 u5 u6 u7 u8 => fm_tripBy_l57 (fun t u1 u2 u3 u4 u5 u6 u7 => fm_tripBy_151 r12 t u1 u2 u3 u4 u5 u6 u7) 1000000 t u1 u2 u3 u4 u5 u6 u7 u8)) t) v1) v2) v3) v4) v5) v6).trans h)
theorem fm_tripBy_l12_ok : ∀ (n : Nat) (t : SM) (v1 : Int32) (v2 : Int32) (v3 : Int32) (v4 : Int32) (v5 : Int32) (v6 : Int32), fm_tripBy_l12 n t v1 v2 v3 v4 v5 v6 = some r → Body l 3 q_243 P_243 r 12 [(6, .int v6), (5, .int v5), (4, .int v4), (3, .int v3), (2, .int v2), (1, .int v1), (0, .ref 39)] [] t
  | 0, _, _, _, _, _, _, _, h => by cases h
  | n + 1, t, v1, v2, v3, v4, v5, v6, h => fm_tripBy_12_ok (fm_tripBy_l12_ok n) t v1 v2 v3 v4 v5 v6 h
theorem fm_tripBy_eq : (fun (G231 : List Value → SM → OR) (G230 : List Value → SM → OR) (G228 : List Value → SM → OR) (G229 : List Value → SM → OR) (j12 : SM → Int32 → Int32 → Int32 → Int32 → Int32 → Int32 → OR) (t : SM) (a : Int32) (b : Int32) (c : Int32) => ex clN P_243 none bytJ (mkCal rks ((231, G231) :: (230, G230) :: (228, G228) :: (229, G229) :: [])) [12] (kDisp [(12, kF 0 39 <| kI 1 fun w1 => kI 2 fun w2 => kI 3 fun w3 => kI 4 fun w4 => kI 5 fun w5 => kI 6 fun w6 => kE fun t => j12 t w1 w2 w3 w4 w5 w6)]) 400 0 [(0, .ref 39), (1, .int a), (2, .int b), (3, .int c)] [] t) = (fun (G231 : List Value → SM → OR) (G230 : List Value → SM → OR) (G228 : List Value → SM → OR) (G229 : List Value → SM → OR) (j12 : SM → Int32 → Int32 → Int32 → Int32 → Int32 → Int32 → OR) (t : SM) (a : Int32) (b : Int32) (c : Int32) =>
  j12 t a b c (b / 10) 0 0) := by rfl
theorem fm_tripBy_ok (t : SM) (a : Int32) (b : Int32) (c : Int32) (h : fm_tripBy t a b c = some r) : Body l 3 q_243 P_243 r 0 [(0, .ref 39), (1, .int a), (2, .int b), (3, .int c)] [] t :=
  blk ft_243 (by omega) rfl rows_243 (KDok.cons (KOK.f <| KOK.i fun w1 => KOK.i fun w2 => KOK.i fun w3 => KOK.i fun w4 => KOK.i fun w5 => KOK.i fun w6 => KOK.e (f := fun t => fm_tripBy_l12 1000000 t w1 w2 w3 w4 w5 w6) fun t h => fm_tripBy_l12_ok 1000000 t w1 w2 w3 w4 w5 w6 h) (KDok.nil)) ((congrFun (congrFun (congrFun (congrFun (congrFun (congrFun (congrFun (congrFun (congrFun (fm_tripBy_eq) F_231) F_230) F_228) F_229) (fun t u1 u2 u3 u4 u5 u6 => fm_tripBy_l12 1000000 t u1 u2 u3 u4 u5 u6)) t) a) b) c).trans h)
theorem ok_243 (l : Launch) : Fok l 3 mtab 243 (F_243) := by
  intro as t r h
  unfold F_243 at h
  split at h
  · rename_i z0 a b c
    split at h
    · rename_i hz0
      obtain rfl := Nat.eq_of_beq_eq_true hz0
      exact ⟨q_243, rfl, mok_243, con_of (P := P_243) (by decide +kernel) rfl (Nat.le_of_ble_eq_true rfl) (fm_tripBy_ok t a b c h)⟩
    · cases h
  · cases h
end
section
set_option maxRecDepth 100000
variable {l : Launch} {r : RR}
def FT_244 : FT := (184, F_184) :: (186, F_186) :: (183, F_183) :: (243, F_243) :: []
theorem ft_244 : FTok l 4 mtab FT_244 := FTok.cons (ok_184 l) (by omega) (FTok.cons (ok_186 l) (by omega) (FTok.cons (ok_183 l) (by omega) (FTok.cons (ok_243 l) (by omega) (FTok.nil))))
theorem fm_trip_eq : (fun (G184 : List Value → SM → OR) (G186 : List Value → SM → OR) (G183 : List Value → SM → OR) (G243 : List Value → SM → OR) (t : SM) (a : Int32) (b : Int32) (c : Int32) => ex clN P_244 none bytJ (mkCal rks ((184, G184) :: (186, G186) :: (183, G183) :: (243, G243) :: [])) [] (kDisp []) 400 0 [(0, .ref 39), (1, .int a), (2, .int b), (3, .int c)] [] t) = (fun (G184 : List Value → SM → OR) (G186 : List Value → SM → OR) (G183 : List Value → SM → OR) (G243 : List Value → SM → OR) (t : SM) (a : Int32) (b : Int32) (c : Int32) =>
  hRecv t 11 39 <| bI (G184 [.ref 39, .int a] t) fun isMap2 t1 =>
  if isMap2 = 0 then rI (-5) t1
  else bI (G186 [.int b] t1) fun areTwo4 t3 =>
  if areTwo4 = 0 then rI (-5) t3
  else hRecv t3 11 39 <| bI (G183 [.ref 39, .int c] t3) fun isTown6 t5 =>
    if isTown6 = 0 then rI (-7) t5
    else hGetC t5 11 39 5 41 <|
    hALd t5 41 a fun e7 =>
    hRecv t5 11 39 <| bI (G243 [.ref 39, .int e7, .int b, .int c] t5) fun tripBy9 t8 =>
    rI tripBy9 t8) := by rfl
theorem fm_trip_ok (t : SM) (a : Int32) (b : Int32) (c : Int32) (h : fm_trip t a b c = some r) : Body l 4 q_244 P_244 r 0 [(0, .ref 39), (1, .int a), (2, .int b), (3, .int c)] [] t :=
  blk ft_244 (by omega) rfl rows_244 (KDok.nil) ((congrFun (congrFun (congrFun (congrFun (congrFun (congrFun (congrFun (congrFun (fm_trip_eq) F_184) F_186) F_183) F_243) t) a) b) c).trans h)
theorem ok_244 (l : Launch) : Fok l 4 mtab 244 (F_244) := by
  intro as t r h
  unfold F_244 at h
  split at h
  · rename_i z0 a b c
    split at h
    · rename_i hz0
      obtain rfl := Nat.eq_of_beq_eq_true hz0
      exact ⟨q_244, rfl, mok_244, con_of (P := P_244) (by decide +kernel) rfl (Nat.le_of_ble_eq_true rfl) (fm_trip_ok t a b c h)⟩
    · cases h
  · cases h
end
section
set_option maxRecDepth 100000
variable {l : Launch} {r : RR}
def FT_245 : FT := (186, F_186) :: []
theorem ft_245 : FTok l 3 mtab FT_245 := FTok.cons (ok_186 l) (by omega) (FTok.nil)
theorem fm_goer_eq : (fun (G186 : List Value → SM → OR) (t : SM) (a : Int32) => ex clN P_245 none bytJ (mkCal rks ((186, G186) :: [])) [] (kDisp []) 400 0 [(0, .ref 39), (1, .int a)] [] t) = (fun (G186 : List Value → SM → OR) (t : SM) (a : Int32) =>
  bI (G186 [.int a] t) fun areTwo2 t1 =>
  if areTwo2 = 0 then rI (-2) t1
  else hGetI t1 11 39 14 fun goers3 =>
    if goers3 = 6 then rI (-4) t1
    else hGetC t1 11 39 15 49 <|
      hGetI t1 11 39 14 fun goers4 =>
      hASt t1 49 goers4 a fun t5 =>
      hGetI t5 11 39 14 fun goers6 =>
      hPutI t5 11 39 14 (goers6 + 1) fun t7 =>
      hGetI t7 11 39 14 fun goers8 =>
      rI (goers8 - 1) t7) := by rfl
theorem fm_goer_ok (t : SM) (a : Int32) (h : fm_goer t a = some r) : Body l 3 q_245 P_245 r 0 [(0, .ref 39), (1, .int a)] [] t :=
  blk ft_245 (by omega) rfl rows_245 (KDok.nil) ((congrFun (congrFun (congrFun (fm_goer_eq) F_186) t) a).trans h)
theorem ok_245 (l : Launch) : Fok l 3 mtab 245 (F_245) := by
  intro as t r h
  unfold F_245 at h
  split at h
  · rename_i z0 a
    split at h
    · rename_i hz0
      obtain rfl := Nat.eq_of_beq_eq_true hz0
      exact ⟨q_245, rfl, mok_245, con_of (P := P_245) (by decide +kernel) rfl (Nat.le_of_ble_eq_true rfl) (fm_goer_ok t a h)⟩
    · cases h
  · cases h
end
section
set_option maxRecDepth 100000
variable {l : Launch} {r : RR}
def FT_246 : FT := (232, F_232) :: (243, F_243) :: (204, F_204) :: []
theorem ft_246 : FTok l 4 mtab FT_246 := FTok.cons (ok_232 l) (by omega) (FTok.cons (ok_243 l) (by omega) (FTok.cons (ok_204 l) (by omega) (FTok.nil)))
theorem fm_harmOf_eq : (fun (G232 : List Value → SM → OR) (G243 : List Value → SM → OR) (G204 : List Value → SM → OR) (t : SM) (a : Int32) (b : Int32) (c : Int32) => ex clN P_246 none bytJ (mkCal rks ((232, G232) :: (243, G243) :: (204, G204) :: [])) [] (kDisp []) 400 0 [(0, .ref 39), (1, .int a), (2, .int b), (3, .int c)] [] t) = (fun (G232 : List Value → SM → OR) (G243 : List Value → SM → OR) (G204 : List Value → SM → OR) (t : SM) (a : Int32) (b : Int32) (c : Int32) =>
  hGetC t 11 39 15 49 <|
  hALd t 49 a fun e1 =>
  hRecv t 11 39 <| bI (G232 [.ref 39, .int e1, .int b] t) fun wayIn3 t2 =>
  if wayIn3 = (-1) then rI 0 t2
  else hGetC t2 11 39 15 49 <|
    hALd t2 49 a fun e4 =>
    hRecv t2 11 39 <| bI (G243 [.ref 39, .int c, .int e4, .int b] t2) fun tripBy6 t5 =>
    if tripBy6 = (-1) then hRecv t5 11 39 <| bI (G204 [.ref 39, .int 1, .int b, .int 99, .int 0] t5) fun asksOf10 t9 =>
    rI asksOf10 t9
    else hRecv t5 11 39 <| bI (G204 [.ref 39, .int 1, .int b, .int (tripBy6 - wayIn3), .int 0] t5) fun asksOf8 t7 =>
      rI asksOf8 t7) := by rfl
theorem fm_harmOf_ok (t : SM) (a : Int32) (b : Int32) (c : Int32) (h : fm_harmOf t a b c = some r) : Body l 4 q_246 P_246 r 0 [(0, .ref 39), (1, .int a), (2, .int b), (3, .int c)] [] t :=
  blk ft_246 (by omega) rfl rows_246 (KDok.nil) ((congrFun (congrFun (congrFun (congrFun (congrFun (congrFun (congrFun (fm_harmOf_eq) F_232) F_243) F_204) t) a) b) c).trans h)
theorem ok_246 (l : Launch) : Fok l 4 mtab 246 (F_246) := by
  intro as t r h
  unfold F_246 at h
  split at h
  · rename_i z0 a b c
    split at h
    · rename_i hz0
      obtain rfl := Nat.eq_of_beq_eq_true hz0
      exact ⟨q_246, rfl, mok_246, con_of (P := P_246) (by decide +kernel) rfl (Nat.le_of_ble_eq_true rfl) (fm_harmOf_ok t a b c h)⟩
    · cases h
  · cases h
end
section
set_option maxRecDepth 100000
variable {l : Launch} {r : RR}
def FT_247 : FT := (246, F_246) :: []
theorem ft_247 : FTok l 5 mtab FT_247 := FTok.cons (ok_246 l) (by omega) (FTok.nil)
theorem fm_harmAll_5_eq : (fun (G246 : List Value → SM → OR) (j5 : SM → Int32 → Int32 → Int32 → Int32 → OR) (t : SM) (v1 : Int32) (v2 : Int32) (v3 : Int32) (v4 : Int32) => ex clN P_247 none bytJ (mkCal rks ((246, G246) :: [])) [5] (kDisp [(5, kF 0 39 <| kI 1 fun w1 => kI 2 fun w2 => kI 3 fun w3 => kI 4 fun w4 => kE fun t => j5 t w1 w2 w3 w4)]) 400 5 [(4, .int v4), (3, .int v3), (2, .int v2), (1, .int v1), (0, .ref 39)] [] t) = (fun (G246 : List Value → SM → OR) (j5 : SM → Int32 → Int32 → Int32 → Int32 → OR) (t : SM) (v1 : Int32) (v2 : Int32) (v3 : Int32) (v4 : Int32) =>
  hGetI t 11 39 14 fun goers1 =>
  if goers1 ≤ v4 then rI v3 t
  else hRecv t 11 39 <| bI (G246 [.ref 39, .int v4, .int v1, .int (v1 ^^^ ((1 : Int32) <<< (v2 &&& 31)))] t) fun harmOf3 t2 =>
  j5 t2 v1 v2 (v3 + harmOf3) (v4 + 1)) := by rfl
theorem fm_harmAll_5_ok {r5 : SM → Int32 → Int32 → Int32 → Int32 → OR} (h_r5 : ∀ (t : SM) (v1 : Int32) (v2 : Int32) (v3 : Int32) (v4 : Int32), r5 t v1 v2 v3 v4 = some r → Body l 5 q_247 P_247 r 5 [(4, .int v4), (3, .int v3), (2, .int v2), (1, .int v1), (0, .ref 39)] [] t) (t : SM) (v1 : Int32) (v2 : Int32) (v3 : Int32) (v4 : Int32) (h : fm_harmAll_5 r5 t v1 v2 v3 v4 = some r) : Body l 5 q_247 P_247 r 5 [(4, .int v4), (3, .int v3), (2, .int v2), (1, .int v1), (0, .ref 39)] [] t :=
  blk ft_247 (by omega) rfl rows_247 (KDok.cons (KOK.f <| KOK.i fun w1 => KOK.i fun w2 => KOK.i fun w3 => KOK.i fun w4 => KOK.e (f := fun t => r5 t w1 w2 w3 w4) fun t h => h_r5 t w1 w2 w3 w4 h) (KDok.nil)) ((congrFun (congrFun (congrFun (congrFun (congrFun (congrFun (congrFun (fm_harmAll_5_eq) F_246) (fun t u1 u2 u3 u4 => r5 t u1 u2 u3 u4)) t) v1) v2) v3) v4).trans h)
theorem fm_harmAll_l5_ok : ∀ (n : Nat) (t : SM) (v1 : Int32) (v2 : Int32) (v3 : Int32) (v4 : Int32), fm_harmAll_l5 n t v1 v2 v3 v4 = some r → Body l 5 q_247 P_247 r 5 [(4, .int v4), (3, .int v3), (2, .int v2), (1, .int v1), (0, .ref 39)] [] t
  | 0, _, _, _, _, _, h => by cases h
  | n + 1, t, v1, v2, v3, v4, h => fm_harmAll_5_ok (fm_harmAll_l5_ok n) t v1 v2 v3 v4 h
theorem fm_harmAll_eq : (fun (G246 : List Value → SM → OR) (j5 : SM → Int32 → Int32 → Int32 → Int32 → OR) (t : SM) (a : Int32) (b : Int32) => ex clN P_247 none bytJ (mkCal rks ((246, G246) :: [])) [5] (kDisp [(5, kF 0 39 <| kI 1 fun w1 => kI 2 fun w2 => kI 3 fun w3 => kI 4 fun w4 => kE fun t => j5 t w1 w2 w3 w4)]) 400 0 [(0, .ref 39), (1, .int a), (2, .int b)] [] t) = (fun (G246 : List Value → SM → OR) (j5 : SM → Int32 → Int32 → Int32 → Int32 → OR) (t : SM) (a : Int32) (b : Int32) =>
  j5 t a b 0 0) := by rfl
theorem fm_harmAll_ok (t : SM) (a : Int32) (b : Int32) (h : fm_harmAll t a b = some r) : Body l 5 q_247 P_247 r 0 [(0, .ref 39), (1, .int a), (2, .int b)] [] t :=
  blk ft_247 (by omega) rfl rows_247 (KDok.cons (KOK.f <| KOK.i fun w1 => KOK.i fun w2 => KOK.i fun w3 => KOK.i fun w4 => KOK.e (f := fun t => fm_harmAll_l5 1000000 t w1 w2 w3 w4) fun t h => fm_harmAll_l5_ok 1000000 t w1 w2 w3 w4 h) (KDok.nil)) ((congrFun (congrFun (congrFun (congrFun (congrFun (fm_harmAll_eq) F_246) (fun t u1 u2 u3 u4 => fm_harmAll_l5 1000000 t u1 u2 u3 u4)) t) a) b).trans h)
theorem ok_247 (l : Launch) : Fok l 5 mtab 247 (F_247) := by
  intro as t r h
  unfold F_247 at h
  split at h
  · rename_i z0 a b
    split at h
    · rename_i hz0
      obtain rfl := Nat.eq_of_beq_eq_true hz0
      exact ⟨q_247, rfl, mok_247, con_of (P := P_247) (by decide +kernel) rfl (Nat.le_of_ble_eq_true rfl) (fm_harmAll_ok t a b h)⟩
    · cases h
  · cases h
end
section
set_option maxRecDepth 100000
variable {l : Launch} {r : RR}
def FT_248 : FT := (183, F_183) :: (185, F_185) :: (247, F_247) :: []
theorem ft_248 : FTok l 6 mtab FT_248 := FTok.cons (ok_183 l) (by omega) (FTok.cons (ok_185 l) (by omega) (FTok.cons (ok_247 l) (by omega) (FTok.nil)))
theorem fm_harm_eq : (fun (G183 : List Value → SM → OR) (G185 : List Value → SM → OR) (G247 : List Value → SM → OR) (t : SM) (a : Int32) (b : Int32) => ex clN P_248 none bytJ (mkCal rks ((183, G183) :: (185, G185) :: (247, G247) :: [])) [] (kDisp []) 400 0 [(0, .ref 39), (1, .int a), (2, .int b)] [] t) = (fun (G183 : List Value → SM → OR) (G185 : List Value → SM → OR) (G247 : List Value → SM → OR) (t : SM) (a : Int32) (b : Int32) =>
  hRecv t 11 39 <| bI (G183 [.ref 39, .int a] t) fun isTown2 t1 =>
  if isTown2 = 0 then rI (-2) t1
  else hRecv t1 11 39 <| bI (G185 [.ref 39, .int b] t1) fun isChoice4 t3 =>
    if isChoice4 = 0 then rI (-5) t3
    else hRecv t3 11 39 <| bI (G247 [.ref 39, .int a, .int b] t3) fun harmAll6 t5 =>
    rI harmAll6 t5) := by rfl
theorem fm_harm_ok (t : SM) (a : Int32) (b : Int32) (h : fm_harm t a b = some r) : Body l 6 q_248 P_248 r 0 [(0, .ref 39), (1, .int a), (2, .int b)] [] t :=
  blk ft_248 (by omega) rfl rows_248 (KDok.nil) ((congrFun (congrFun (congrFun (congrFun (congrFun (congrFun (fm_harm_eq) F_183) F_185) F_247) t) a) b).trans h)
theorem ok_248 (l : Launch) : Fok l 6 mtab 248 (F_248) := by
  intro as t r h
  unfold F_248 at h
  split at h
  · rename_i z0 a b
    split at h
    · rename_i hz0
      obtain rfl := Nat.eq_of_beq_eq_true hz0
      exact ⟨q_248, rfl, mok_248, con_of (P := P_248) (by decide +kernel) rfl (Nat.le_of_ble_eq_true rfl) (fm_harm_ok t a b h)⟩
    · cases h
  · cases h
end
section
set_option maxRecDepth 100000
variable {l : Launch} {r : RR}
def FT_249 : FT := (183, F_183) :: (182, F_182) :: (247, F_247) :: []
theorem ft_249 : FTok l 6 mtab FT_249 := FTok.cons (ok_183 l) (by omega) (FTok.cons (ok_182 l) (by omega) (FTok.cons (ok_247 l) (by omega) (FTok.nil)))
theorem fm_put_63_eq : (fun (G183 : List Value → SM → OR) (G182 : List Value → SM → OR) (G247 : List Value → SM → OR) (t : SM) (v1 : Int32) (v2 : Int32) (v3 : Int32) => ex clN P_249 none bytJ (mkCal rks ((183, G183) :: (182, G182) :: (247, G247) :: [])) [] (kDisp []) 400 63 [(3, .int v3), (2, .int v2), (1, .int v1), (0, .ref 39)] [] t) = (fun (G183 : List Value → SM → OR) (G182 : List Value → SM → OR) (G247 : List Value → SM → OR) (t : SM) (v1 : Int32) (v2 : Int32) (v3 : Int32) =>
  if v2 = 0 then rI v3 t
  else hRecv t 11 39 <| bI (G247 [.ref 39, .int v1, .int v3] t) fun harmAll2 t1 =>
    rI harmAll2 t1) := by rfl
theorem fm_put_63_ok (t : SM) (v1 : Int32) (v2 : Int32) (v3 : Int32) (h : fm_put_63 t v1 v2 v3 = some r) : Body l 6 q_249 P_249 r 63 [(3, .int v3), (2, .int v2), (1, .int v1), (0, .ref 39)] [] t :=
  blk ft_249 (by omega) rfl rows_249 (KDok.nil) ((congrFun (congrFun (congrFun (congrFun (congrFun (congrFun (congrFun (fm_put_63_eq) F_183) F_182) F_247) t) v1) v2) v3).trans h)
theorem fm_put_25_eq : (fun (G183 : List Value → SM → OR) (G182 : List Value → SM → OR) (G247 : List Value → SM → OR) (j25 : SM → Int32 → Int32 → Int32 → Int32 → OR) (j63 : SM → Int32 → Int32 → Int32 → OR) (t : SM) (v1 : Int32) (v2 : Int32) (v3 : Int32) (v4 : Int32) => ex clN P_249 none bytJ (mkCal rks ((183, G183) :: (182, G182) :: (247, G247) :: [])) [25, 63] (kDisp [(25, kF 0 39 <| kI 1 fun w1 => kI 2 fun w2 => kI 3 fun w3 => kI 4 fun w4 => kE fun t => j25 t w1 w2 w3 w4), (63, kF 0 39 <| kI 1 fun w1 => kI 2 fun w2 => kI 3 fun w3 => kE fun t => j63 t w1 w2 w3)]) 400 25 [(4, .int v4), (3, .int v3), (2, .int v2), (1, .int v1), (0, .ref 39)] [] t) = (fun (G183 : List Value → SM → OR) (G182 : List Value → SM → OR) (G247 : List Value → SM → OR) (j25 : SM → Int32 → Int32 → Int32 → Int32 → OR) (j63 : SM → Int32 → Int32 → Int32 → OR) (t : SM) (v1 : Int32) (v2 : Int32) (v3 : Int32) (v4 : Int32) =>
  hGetI t 11 39 0 fun choices1 =>
  if choices1 ≤ v4 then j63 t v1 v2 v3
  else hRecv t 11 39 <| bI (G247 [.ref 39, .int v1, .int v4] t) fun harmAll3 t2 =>
  hRecv t2 11 39 <| bI (G247 [.ref 39, .int v1, .int v3] t2) fun harmAll5 t4 =>
  if harmAll5 ≤ harmAll3 then j25 t4 v1 v2 v3 (v4 + 1)
  else j25 t4 v1 v2 v4 (v4 + 1)) := by rfl
theorem fm_put_25_ok {k63 : SM → Int32 → Int32 → Int32 → OR} {r25 : SM → Int32 → Int32 → Int32 → Int32 → OR} (h_k63 : ∀ (t : SM) (v1 : Int32) (v2 : Int32) (v3 : Int32), k63 t v1 v2 v3 = some r → Body l 6 q_249 P_249 r 63 [(3, .int v3), (2, .int v2), (1, .int v1), (0, .ref 39)] [] t) (h_r25 : ∀ (t : SM) (v1 : Int32) (v2 : Int32) (v3 : Int32) (v4 : Int32), r25 t v1 v2 v3 v4 = some r → Body l 6 q_249 P_249 r 25 [(4, .int v4), (3, .int v3), (2, .int v2), (1, .int v1), (0, .ref 39)] [] t) (t : SM) (v1 : Int32) (v2 : Int32) (v3 : Int32) (v4 : Int32) (h : fm_put_25 k63 r25 t v1 v2 v3 v4 = some r) : Body l 6 q_249 P_249 r 25 [(4, .int v4), (3, .int v3), (2, .int v2), (1, .int v1), (0, .ref 39)] [] t :=
  blk ft_249 (by omega) rfl rows_249 (KDok.cons (KOK.f <| KOK.i fun w1 => KOK.i fun w2 => KOK.i fun w3 => KOK.i fun w4 => KOK.e (f := fun t => r25 t w1 w2 w3 w4) fun t h => h_r25 t w1 w2 w3 w4 h) (KDok.cons (KOK.f <| KOK.i fun w1 => KOK.i fun w2 => KOK.i fun w3 => KOK.e (f := fun t => k63 t w1 w2 w3) fun t h => h_k63 t w1 w2 w3 h) (KDok.nil))) ((congrFun (congrFun (congrFun (congrFun (congrFun (congrFun (congrFun (congrFun (congrFun (congrFun (fm_put_25_eq) F_183) F_182) F_247) (fun t u1 u2 u3 u4 => r25 t u1 u2 u3 u4)) (fun t u1 u2 u3 => k63 t u1 u2 u3)) t) v1) v2) v3) v4).trans h)
theorem fm_put_l25_ok {k63 : SM → Int32 → Int32 → Int32 → OR} (h_k63 : ∀ (t : SM) (v1 : Int32) (v2 : Int32) (v3 : Int32), k63 t v1 v2 v3 = some r → Body l 6 q_249 P_249 r 63 [(3, .int v3), (2, .int v2), (1, .int v1), (0, .ref 39)] [] t) : ∀ (n : Nat) (t : SM) (v1 : Int32) (v2 : Int32) (v3 : Int32) (v4 : Int32), fm_put_l25 k63 n t v1 v2 v3 v4 = some r → Body l 6 q_249 P_249 r 25 [(4, .int v4), (3, .int v3), (2, .int v2), (1, .int v1), (0, .ref 39)] [] t
  | 0, _, _, _, _, _, h => by cases h
  | n + 1, t, v1, v2, v3, v4, h => fm_put_25_ok h_k63 (fm_put_l25_ok h_k63 n) t v1 v2 v3 v4 h
theorem fm_put_eq : (fun (G183 : List Value → SM → OR) (G182 : List Value → SM → OR) (G247 : List Value → SM → OR) (j25 : SM → Int32 → Int32 → Int32 → Int32 → OR) (t : SM) (a : Int32) (b : Int32) => ex clN P_249 none bytJ (mkCal rks ((183, G183) :: (182, G182) :: (247, G247) :: [])) [25] (kDisp [(25, kF 0 39 <| kI 1 fun w1 => kI 2 fun w2 => kI 3 fun w3 => kI 4 fun w4 => kE fun t => j25 t w1 w2 w3 w4)]) 400 0 [(0, .ref 39), (1, .int a), (2, .int b)] [] t) = (fun (G183 : List Value → SM → OR) (G182 : List Value → SM → OR) (G247 : List Value → SM → OR) (j25 : SM → Int32 → Int32 → Int32 → Int32 → OR) (t : SM) (a : Int32) (b : Int32) =>
  hRecv t 11 39 <| bI (G183 [.ref 39, .int a] t) fun isTown2 t1 =>
  if isTown2 = 0 then rI (-2) t1
  else bI (G182 [.int b, .int 0, .int 1] t1) fun in4 t3 =>
  if in4 = 0 then rI (-2) t3
  else j25 t3 a b 0 1) := by rfl
theorem fm_put_ok (t : SM) (a : Int32) (b : Int32) (h : fm_put t a b = some r) : Body l 6 q_249 P_249 r 0 [(0, .ref 39), (1, .int a), (2, .int b)] [] t :=
  blk ft_249 (by omega) rfl rows_249 (KDok.cons (KOK.f <| KOK.i fun w1 => KOK.i fun w2 => KOK.i fun w3 => KOK.i fun w4 => KOK.e (f := fun t => fm_put_l25 (fun t u1 u2 u3 => fm_put_63 t u1 u2 u3) 1000000 t w1 w2 w3 w4) fun t h => fm_put_l25_ok (k63 := fun t u1 u2 u3 => fm_put_63 t u1 u2 u3) (fun t u1 u2 u3 h => fm_put_63_ok t u1 u2 u3 h) 1000000 t w1 w2 w3 w4 h) (KDok.nil)) ((congrFun (congrFun (congrFun (congrFun (congrFun (congrFun (congrFun (fm_put_eq) F_183) F_182) F_247) (fun t u1 u2 u3 u4 => fm_put_l25 (fun t u1 u2 u3 => fm_put_63 t u1 u2 u3) 1000000 t u1 u2 u3 u4)) t) a) b).trans h)
theorem ok_249 (l : Launch) : Fok l 6 mtab 249 (F_249) := by
  intro as t r h
  unfold F_249 at h
  split at h
  · rename_i z0 a b
    split at h
    · rename_i hz0
      obtain rfl := Nat.eq_of_beq_eq_true hz0
      exact ⟨q_249, rfl, mok_249, con_of (P := P_249) (by decide +kernel) rfl (Nat.le_of_ble_eq_true rfl) (fm_put_ok t a b h)⟩
    · cases h
  · cases h
end
section
set_option maxRecDepth 100000
variable {l : Launch} {r : RR}
def FT_250 : FT := (183, F_183) :: (182, F_182) :: (246, F_246) :: []
theorem ft_250 : FTok l 5 mtab FT_250 := FTok.cons (ok_183 l) (by omega) (FTok.cons (ok_182 l) (by omega) (FTok.cons (ok_246 l) (by omega) (FTok.nil)))
theorem fm_trick_94_eq : (fun (G183 : List Value → SM → OR) (G182 : List Value → SM → OR) (G246 : List Value → SM → OR) (t : SM) (v1 : Int32) (v2 : Int32) (v3 : Int32) (v4 : Int32) => ex clN P_250 none bytJ (mkCal rks ((183, G183) :: (182, G182) :: (246, G246) :: [])) [] (kDisp []) 400 94 [(4, .int v4), (3, .int v3), (2, .int v2), (1, .int v1), (0, .ref 39)] [] t) = (fun (G183 : List Value → SM → OR) (G182 : List Value → SM → OR) (G246 : List Value → SM → OR) (t : SM) (v1 : Int32) (v2 : Int32) (v3 : Int32) (v4 : Int32) =>
  if v3 = 0 then rI v4 t
  else hRecv t 11 39 <| bI (G246 [.ref 39, .int v2, .int v1, .int (v1 ^^^ ((1 : Int32) <<< (v4 &&& 31)))] t) fun harmOf2 t1 =>
    rI harmOf2 t1) := by rfl
theorem fm_trick_94_ok (t : SM) (v1 : Int32) (v2 : Int32) (v3 : Int32) (v4 : Int32) (h : fm_trick_94 t v1 v2 v3 v4 = some r) : Body l 5 q_250 P_250 r 94 [(4, .int v4), (3, .int v3), (2, .int v2), (1, .int v1), (0, .ref 39)] [] t :=
  blk ft_250 (by omega) rfl rows_250 (KDok.nil) ((congrFun (congrFun (congrFun (congrFun (congrFun (congrFun (congrFun (congrFun (fm_trick_94_eq) F_183) F_182) F_246) t) v1) v2) v3) v4).trans h)
theorem fm_trick_43_eq : (fun (G183 : List Value → SM → OR) (G182 : List Value → SM → OR) (G246 : List Value → SM → OR) (j43 : SM → Int32 → Int32 → Int32 → Int32 → Int32 → OR) (j94 : SM → Int32 → Int32 → Int32 → Int32 → OR) (t : SM) (v1 : Int32) (v2 : Int32) (v3 : Int32) (v4 : Int32) (v5 : Int32) => ex clN P_250 none bytJ (mkCal rks ((183, G183) :: (182, G182) :: (246, G246) :: [])) [43, 94] (kDisp [(43, kF 0 39 <| kI 1 fun w1 => kI 2 fun w2 => kI 3 fun w3 => kI 4 fun w4 => kI 5 fun w5 => kE fun t => j43 t w1 w2 w3 w4 w5), (94, kF 0 39 <| kI 1 fun w1 => kI 2 fun w2 => kI 3 fun w3 => kI 4 fun w4 => kE fun t => j94 t w1 w2 w3 w4)]) 400 43 [(5, .int v5), (4, .int v4), (3, .int v3), (2, .int v2), (1, .int v1), (0, .ref 39)] [] t) = (fun (G183 : List Value → SM → OR) (G182 : List Value → SM → OR) (G246 : List Value → SM → OR) (j43 : SM → Int32 → Int32 → Int32 → Int32 → Int32 → OR) (j94 : SM → Int32 → Int32 → Int32 → Int32 → OR) (t : SM) (v1 : Int32) (v2 : Int32) (v3 : Int32) (v4 : Int32) (v5 : Int32) =>
  hGetI t 11 39 0 fun choices1 =>
  if choices1 ≤ v5 then j94 t v1 v2 v3 v4
  else hRecv t 11 39 <| bI (G246 [.ref 39, .int v2, .int v1, .int (v1 ^^^ ((1 : Int32) <<< (v5 &&& 31)))] t) fun harmOf3 t2 =>
  hRecv t2 11 39 <| bI (G246 [.ref 39, .int v2, .int v1, .int (v1 ^^^ ((1 : Int32) <<< (v4 &&& 31)))] t2) fun harmOf5 t4 =>
  if harmOf3 ≤ harmOf5 then j43 t4 v1 v2 v3 v4 (v5 + 1)
  else j43 t4 v1 v2 v3 v5 (v5 + 1)) := by rfl
theorem fm_trick_43_ok {k94 : SM → Int32 → Int32 → Int32 → Int32 → OR} {r43 : SM → Int32 → Int32 → Int32 → Int32 → Int32 → OR} (h_k94 : ∀ (t : SM) (v1 : Int32) (v2 : Int32) (v3 : Int32) (v4 : Int32), k94 t v1 v2 v3 v4 = some r → Body l 5 q_250 P_250 r 94 [(4, .int v4), (3, .int v3), (2, .int v2), (1, .int v1), (0, .ref 39)] [] t) (h_r43 : ∀ (t : SM) (v1 : Int32) (v2 : Int32) (v3 : Int32) (v4 : Int32) (v5 : Int32), r43 t v1 v2 v3 v4 v5 = some r → Body l 5 q_250 P_250 r 43 [(5, .int v5), (4, .int v4), (3, .int v3), (2, .int v2), (1, .int v1), (0, .ref 39)] [] t) (t : SM) (v1 : Int32) (v2 : Int32) (v3 : Int32) (v4 : Int32) (v5 : Int32) (h : fm_trick_43 k94 r43 t v1 v2 v3 v4 v5 = some r) : Body l 5 q_250 P_250 r 43 [(5, .int v5), (4, .int v4), (3, .int v3), (2, .int v2), (1, .int v1), (0, .ref 39)] [] t :=
  blk ft_250 (by omega) rfl rows_250 (KDok.cons (KOK.f <| KOK.i fun w1 => KOK.i fun w2 => KOK.i fun w3 => KOK.i fun w4 => KOK.i fun w5 => KOK.e (f := fun t => r43 t w1 w2 w3 w4 w5) fun t h => h_r43 t w1 w2 w3 w4 w5 h) (KDok.cons (KOK.f <| KOK.i fun w1 => KOK.i fun w2 => KOK.i fun w3 => KOK.i fun w4 => KOK.e (f := fun t => k94 t w1 w2 w3 w4) fun t h => h_k94 t w1 w2 w3 w4 h) (KDok.nil))) ((congrFun (congrFun (congrFun (congrFun (congrFun (congrFun (congrFun (congrFun (congrFun (congrFun (congrFun (fm_trick_43_eq) F_183) F_182) F_246) (fun t u1 u2 u3 u4 u5 => r43 t u1 u2 u3 u4 u5)) (fun t u1 u2 u3 u4 => k94 t u1 u2 u3 u4)) t) v1) v2) v3) v4) v5).trans h)
theorem fm_trick_l43_ok {k94 : SM → Int32 → Int32 → Int32 → Int32 → OR} (h_k94 : ∀ (t : SM) (v1 : Int32) (v2 : Int32) (v3 : Int32) (v4 : Int32), k94 t v1 v2 v3 v4 = some r → Body l 5 q_250 P_250 r 94 [(4, .int v4), (3, .int v3), (2, .int v2), (1, .int v1), (0, .ref 39)] [] t) : ∀ (n : Nat) (t : SM) (v1 : Int32) (v2 : Int32) (v3 : Int32) (v4 : Int32) (v5 : Int32), fm_trick_l43 k94 n t v1 v2 v3 v4 v5 = some r → Body l 5 q_250 P_250 r 43 [(5, .int v5), (4, .int v4), (3, .int v3), (2, .int v2), (1, .int v1), (0, .ref 39)] [] t
  | 0, _, _, _, _, _, _, h => by cases h
  | n + 1, t, v1, v2, v3, v4, v5, h => fm_trick_43_ok h_k94 (fm_trick_l43_ok h_k94 n) t v1 v2 v3 v4 v5 h
theorem fm_trick_eq : (fun (G183 : List Value → SM → OR) (G182 : List Value → SM → OR) (G246 : List Value → SM → OR) (j43 : SM → Int32 → Int32 → Int32 → Int32 → Int32 → OR) (t : SM) (a : Int32) (b : Int32) (c : Int32) => ex clN P_250 none bytJ (mkCal rks ((183, G183) :: (182, G182) :: (246, G246) :: [])) [43] (kDisp [(43, kF 0 39 <| kI 1 fun w1 => kI 2 fun w2 => kI 3 fun w3 => kI 4 fun w4 => kI 5 fun w5 => kE fun t => j43 t w1 w2 w3 w4 w5)]) 400 0 [(0, .ref 39), (1, .int a), (2, .int b), (3, .int c)] [] t) = (fun (G183 : List Value → SM → OR) (G182 : List Value → SM → OR) (G246 : List Value → SM → OR) (j43 : SM → Int32 → Int32 → Int32 → Int32 → Int32 → OR) (t : SM) (a : Int32) (b : Int32) (c : Int32) =>
  hRecv t 11 39 <| bI (G183 [.ref 39, .int a] t) fun isTown2 t1 =>
  if isTown2 = 0 then rI (-2) t1
  else bI (G182 [.int c, .int 0, .int 1] t1) fun in4 t3 =>
  if in4 = 0 then rI (-2) t3
  else hGetI t3 11 39 14 fun goers5 =>
    bI (G182 [.int b, .int 0, .int (goers5 - 1)] t3) fun in7 t6 =>
    if in7 = 0 then rI (-5) t6
    else j43 t6 a b c 0 1) := by rfl
theorem fm_trick_ok (t : SM) (a : Int32) (b : Int32) (c : Int32) (h : fm_trick t a b c = some r) : Body l 5 q_250 P_250 r 0 [(0, .ref 39), (1, .int a), (2, .int b), (3, .int c)] [] t :=
  blk ft_250 (by omega) rfl rows_250 (KDok.cons (KOK.f <| KOK.i fun w1 => KOK.i fun w2 => KOK.i fun w3 => KOK.i fun w4 => KOK.i fun w5 => KOK.e (f := fun t => fm_trick_l43 (fun t u1 u2 u3 u4 => fm_trick_94 t u1 u2 u3 u4) 1000000 t w1 w2 w3 w4 w5) fun t h => fm_trick_l43_ok (k94 := fun t u1 u2 u3 u4 => fm_trick_94 t u1 u2 u3 u4) (fun t u1 u2 u3 u4 h => fm_trick_94_ok t u1 u2 u3 u4 h) 1000000 t w1 w2 w3 w4 w5 h) (KDok.nil)) ((congrFun (congrFun (congrFun (congrFun (congrFun (congrFun (congrFun (congrFun (fm_trick_eq) F_183) F_182) F_246) (fun t u1 u2 u3 u4 u5 => fm_trick_l43 (fun t u1 u2 u3 u4 => fm_trick_94 t u1 u2 u3 u4) 1000000 t u1 u2 u3 u4 u5)) t) a) b) c).trans h)
theorem ok_250 (l : Launch) : Fok l 5 mtab 250 (F_250) := by
  intro as t r h
  unfold F_250 at h
  split at h
  · rename_i z0 a b c
    split at h
    · rename_i hz0
      obtain rfl := Nat.eq_of_beq_eq_true hz0
      exact ⟨q_250, rfl, mok_250, con_of (P := P_250) (by decide +kernel) rfl (Nat.le_of_ble_eq_true rfl) (fm_trick_ok t a b c h)⟩
    · cases h
  · cases h
end
section
set_option maxRecDepth 100000
variable {l : Launch} {r : RR}
def FT_251 : FT := (185, F_185) :: (219, F_219) :: (218, F_218) :: (187, F_187) :: (222, F_222) :: (223, F_223) :: []
theorem ft_251 : FTok l 7 mtab FT_251 := FTok.cons (ok_185 l) (by omega) (FTok.cons (ok_219 l) (by omega) (FTok.cons (ok_218 l) (by omega) (FTok.cons (ok_187 l) (by omega) (FTok.cons (ok_222 l) (by omega) (FTok.cons (ok_223 l) (by omega) (FTok.nil))))))
theorem fm_enough_53_eq : (fun (G185 : List Value → SM → OR) (G219 : List Value → SM → OR) (G218 : List Value → SM → OR) (G187 : List Value → SM → OR) (G222 : List Value → SM → OR) (G223 : List Value → SM → OR) (j29 : SM → Int32 → Int32 → Int32 → OR) (t : SM) (v1 : Int32) (v2 : Int32) (v3 : Int32) => ex clN P_251 none bytJ (mkCal rks ((185, G185) :: (219, G219) :: (218, G218) :: (187, G187) :: (222, G222) :: (223, G223) :: [])) [29] (kDisp [(29, kF 0 39 <| kI 1 fun w1 => kI 2 fun w2 => kI 3 fun w3 => kE fun t => j29 t w1 w2 w3)]) 400 53 [(3, .int v3), (2, .int v2), (1, .int v1), (0, .ref 39)] [] t) = (fun (G185 : List Value → SM → OR) (G219 : List Value → SM → OR) (G218 : List Value → SM → OR) (G187 : List Value → SM → OR) (G222 : List Value → SM → OR) (G223 : List Value → SM → OR) (j29 : SM → Int32 → Int32 → Int32 → OR) (t : SM) (v1 : Int32) (v2 : Int32) (v3 : Int32) =>
  hRecv t 11 39 <| bI (G222 [.ref 39, .int v3] t) fun allSo2 t1 =>
  hRecv t1 11 39 <| bI (G223 [.ref 39, .int v3] t1) fun noneSo4 t3 =>
  if (((allSo2 ||| noneSo4) >>> (v1 &&& 31)) &&& 1) = 1 then j29 t3 v1 v3 (v3 + 1)
  else j29 t3 v1 v2 (v3 + 1)) := by rfl
theorem fm_enough_53_ok {r29 : SM → Int32 → Int32 → Int32 → OR} (h_r29 : ∀ (t : SM) (v1 : Int32) (v2 : Int32) (v3 : Int32), r29 t v1 v2 v3 = some r → Body l 7 q_251 P_251 r 29 [(3, .int v3), (2, .int v2), (1, .int v1), (0, .ref 39)] [] t) (t : SM) (v1 : Int32) (v2 : Int32) (v3 : Int32) (h : fm_enough_53 r29 t v1 v2 v3 = some r) : Body l 7 q_251 P_251 r 53 [(3, .int v3), (2, .int v2), (1, .int v1), (0, .ref 39)] [] t :=
  blk ft_251 (by omega) rfl rows_251 (KDok.cons (KOK.f <| KOK.i fun w1 => KOK.i fun w2 => KOK.i fun w3 => KOK.e (f := fun t => r29 t w1 w2 w3) fun t h => h_r29 t w1 w2 w3 h) (KDok.nil)) ((congrFun (congrFun (congrFun (congrFun (congrFun (congrFun (congrFun (congrFun (congrFun (congrFun (congrFun (fm_enough_53_eq) F_185) F_219) F_218) F_187) F_222) F_223) (fun t u1 u2 u3 => r29 t u1 u2 u3)) t) v1) v2) v3).trans h)
theorem fm_enough_29_eq : (fun (G185 : List Value → SM → OR) (G219 : List Value → SM → OR) (G218 : List Value → SM → OR) (G187 : List Value → SM → OR) (G222 : List Value → SM → OR) (G223 : List Value → SM → OR) (j29 : SM → Int32 → Int32 → Int32 → OR) (j53 : SM → Int32 → Int32 → Int32 → OR) (t : SM) (v1 : Int32) (v2 : Int32) (v3 : Int32) => ex clN P_251 none bytJ (mkCal rks ((185, G185) :: (219, G219) :: (218, G218) :: (187, G187) :: (222, G222) :: (223, G223) :: [])) [29, 53] (kDisp [(29, kF 0 39 <| kI 1 fun w1 => kI 2 fun w2 => kI 3 fun w3 => kE fun t => j29 t w1 w2 w3), (53, kF 0 39 <| kI 1 fun w1 => kI 2 fun w2 => kI 3 fun w3 => kE fun t => j53 t w1 w2 w3)]) 400 29 [(3, .int v3), (2, .int v2), (1, .int v1), (0, .ref 39)] [] t) = (fun (G185 : List Value → SM → OR) (G219 : List Value → SM → OR) (G218 : List Value → SM → OR) (G187 : List Value → SM → OR) (G222 : List Value → SM → OR) (G223 : List Value → SM → OR) (j29 : SM → Int32 → Int32 → Int32 → OR) (j53 : SM → Int32 → Int32 → Int32 → OR) (t : SM) (v1 : Int32) (v2 : Int32) (v3 : Int32) =>
  hRecv t 11 39 <| bI (G218 [.ref 39] t) fun allMaps2 t1 =>
  if allMaps2 < v3 then rI v2 t1
  else if v2 = (-1) then j53 t1 v1 v2 v3
  else bI (G187 [.int v3] t1) fun ones4 t3 =>
  bI (G187 [.int v2] t3) fun ones6 t5 =>
  if ones6 ≤ ones4 then j29 t5 v1 v2 (v3 + 1)
  else j53 t5 v1 v2 v3) := by rfl
theorem fm_enough_29_ok {r29 : SM → Int32 → Int32 → Int32 → OR} (h_r29 : ∀ (t : SM) (v1 : Int32) (v2 : Int32) (v3 : Int32), r29 t v1 v2 v3 = some r → Body l 7 q_251 P_251 r 29 [(3, .int v3), (2, .int v2), (1, .int v1), (0, .ref 39)] [] t) (t : SM) (v1 : Int32) (v2 : Int32) (v3 : Int32) (h : fm_enough_29 r29 t v1 v2 v3 = some r) : Body l 7 q_251 P_251 r 29 [(3, .int v3), (2, .int v2), (1, .int v1), (0, .ref 39)] [] t :=
  blk ft_251 (by omega) rfl rows_251 (KDok.cons (KOK.f <| KOK.i fun w1 => KOK.i fun w2 => KOK.i fun w3 => KOK.e (f := fun t => r29 t w1 w2 w3) fun t h => h_r29 t w1 w2 w3 h) (KDok.cons (KOK.f <| KOK.i fun w1 => KOK.i fun w2 => KOK.i fun w3 => KOK.e (f := fun t => fm_enough_53 r29 t w1 w2 w3) fun t h => fm_enough_53_ok h_r29 t w1 w2 w3 h) (KDok.nil))) ((congrFun (congrFun (congrFun (congrFun (congrFun (congrFun (congrFun (congrFun (congrFun (congrFun (congrFun (congrFun (fm_enough_29_eq) F_185) F_219) F_218) F_187) F_222) F_223) (fun t u1 u2 u3 => r29 t u1 u2 u3)) (fun t u1 u2 u3 => fm_enough_53 r29 t u1 u2 u3)) t) v1) v2) v3).trans h)
theorem fm_enough_l29_ok : ∀ (n : Nat) (t : SM) (v1 : Int32) (v2 : Int32) (v3 : Int32), fm_enough_l29 n t v1 v2 v3 = some r → Body l 7 q_251 P_251 r 29 [(3, .int v3), (2, .int v2), (1, .int v1), (0, .ref 39)] [] t
  | 0, _, _, _, _, h => by cases h
  | n + 1, t, v1, v2, v3, h => fm_enough_29_ok (fm_enough_l29_ok n) t v1 v2 v3 h
theorem fm_enough_eq : (fun (G185 : List Value → SM → OR) (G219 : List Value → SM → OR) (G218 : List Value → SM → OR) (G187 : List Value → SM → OR) (G222 : List Value → SM → OR) (G223 : List Value → SM → OR) (j29 : SM → Int32 → Int32 → Int32 → OR) (t : SM) (a : Int32) => ex clN P_251 none bytJ (mkCal rks ((185, G185) :: (219, G219) :: (218, G218) :: (187, G187) :: (222, G222) :: (223, G223) :: [])) [29] (kDisp [(29, kF 0 39 <| kI 1 fun w1 => kI 2 fun w2 => kI 3 fun w3 => kE fun t => j29 t w1 w2 w3)]) 400 0 [(0, .ref 39), (1, .int a)] [] t) = (fun (G185 : List Value → SM → OR) (G219 : List Value → SM → OR) (G218 : List Value → SM → OR) (G187 : List Value → SM → OR) (G222 : List Value → SM → OR) (G223 : List Value → SM → OR) (j29 : SM → Int32 → Int32 → Int32 → OR) (t : SM) (a : Int32) =>
  hRecv t 11 39 <| bI (G185 [.ref 39, .int a] t) fun isChoice2 t1 =>
  if isChoice2 = 0 then rI (-5) t1
  else hRecv t1 11 39 <| bV (G219 [.ref 39] t1) fun t3 =>
    hGetI t3 11 39 45 fun worldMany4 =>
    if worldMany4 = 0 then rI (-3) t3
    else j29 t3 a (-1) 0) := by rfl
theorem fm_enough_ok (t : SM) (a : Int32) (h : fm_enough t a = some r) : Body l 7 q_251 P_251 r 0 [(0, .ref 39), (1, .int a)] [] t :=
  blk ft_251 (by omega) rfl rows_251 (KDok.cons (KOK.f <| KOK.i fun w1 => KOK.i fun w2 => KOK.i fun w3 => KOK.e (f := fun t => fm_enough_l29 1000000 t w1 w2 w3) fun t h => fm_enough_l29_ok 1000000 t w1 w2 w3 h) (KDok.nil)) ((congrFun (congrFun (congrFun (congrFun (congrFun (congrFun (congrFun (congrFun (congrFun (fm_enough_eq) F_185) F_219) F_218) F_187) F_222) F_223) (fun t u1 u2 u3 => fm_enough_l29 1000000 t u1 u2 u3)) t) a).trans h)
theorem ok_251 (l : Launch) : Fok l 7 mtab 251 (F_251) := by
  intro as t r h
  unfold F_251 at h
  split at h
  · rename_i z0 a
    split at h
    · rename_i hz0
      obtain rfl := Nat.eq_of_beq_eq_true hz0
      exact ⟨q_251, rfl, mok_251, con_of (P := P_251) (by decide +kernel) rfl (Nat.le_of_ble_eq_true rfl) (fm_enough_ok t a h)⟩
    · cases h
  · cases h
end
section
set_option maxRecDepth 100000
variable {l : Launch} {r : RR}
def FT_252 : FT := (216, F_216) :: (218, F_218) :: (217, F_217) :: (187, F_187) :: []
theorem ft_252 : FTok l 6 mtab FT_252 := FTok.cons (ok_216 l) (by omega) (FTok.cons (ok_218 l) (by omega) (FTok.cons (ok_217 l) (by omega) (FTok.cons (ok_187 l) (by omega) (FTok.nil))))
theorem fm_many_41_eq : (fun (G216 : List Value → SM → OR) (G218 : List Value → SM → OR) (G217 : List Value → SM → OR) (G187 : List Value → SM → OR) (j17 : SM → Int32 → Int32 → Int32 → OR) (t : SM) (v1 : Int32) (v2 : Int32) (v3 : Int32) => ex clN P_252 none bytJ (mkCal rks ((216, G216) :: (218, G218) :: (217, G217) :: (187, G187) :: [])) [17] (kDisp [(17, kF 0 39 <| kI 1 fun w1 => kI 2 fun w2 => kI 3 fun w3 => kE fun t => j17 t w1 w2 w3)]) 400 41 [(3, .int v3), (2, .int v2), (1, .int v1), (0, .ref 39)] [] t) = (fun (G216 : List Value → SM → OR) (G218 : List Value → SM → OR) (G217 : List Value → SM → OR) (G187 : List Value → SM → OR) (j17 : SM → Int32 → Int32 → Int32 → OR) (t : SM) (v1 : Int32) (v2 : Int32) (v3 : Int32) =>
  hRecv t 11 39 <| bI (G217 [.ref 39, .int v3] t) fun countBy2 t1 =>
  if countBy2 = v1 then j17 t1 v1 v3 (v3 + 1)
  else j17 t1 v1 v2 (v3 + 1)) := by rfl
theorem fm_many_41_ok {r17 : SM → Int32 → Int32 → Int32 → OR} (h_r17 : ∀ (t : SM) (v1 : Int32) (v2 : Int32) (v3 : Int32), r17 t v1 v2 v3 = some r → Body l 6 q_252 P_252 r 17 [(3, .int v3), (2, .int v2), (1, .int v1), (0, .ref 39)] [] t) (t : SM) (v1 : Int32) (v2 : Int32) (v3 : Int32) (h : fm_many_41 r17 t v1 v2 v3 = some r) : Body l 6 q_252 P_252 r 41 [(3, .int v3), (2, .int v2), (1, .int v1), (0, .ref 39)] [] t :=
  blk ft_252 (by omega) rfl rows_252 (KDok.cons (KOK.f <| KOK.i fun w1 => KOK.i fun w2 => KOK.i fun w3 => KOK.e (f := fun t => r17 t w1 w2 w3) fun t h => h_r17 t w1 w2 w3 h) (KDok.nil)) ((congrFun (congrFun (congrFun (congrFun (congrFun (congrFun (congrFun (congrFun (congrFun (fm_many_41_eq) F_216) F_218) F_217) F_187) (fun t u1 u2 u3 => r17 t u1 u2 u3)) t) v1) v2) v3).trans h)
theorem fm_many_17_eq : (fun (G216 : List Value → SM → OR) (G218 : List Value → SM → OR) (G217 : List Value → SM → OR) (G187 : List Value → SM → OR) (j17 : SM → Int32 → Int32 → Int32 → OR) (j41 : SM → Int32 → Int32 → Int32 → OR) (t : SM) (v1 : Int32) (v2 : Int32) (v3 : Int32) => ex clN P_252 none bytJ (mkCal rks ((216, G216) :: (218, G218) :: (217, G217) :: (187, G187) :: [])) [17, 41] (kDisp [(17, kF 0 39 <| kI 1 fun w1 => kI 2 fun w2 => kI 3 fun w3 => kE fun t => j17 t w1 w2 w3), (41, kF 0 39 <| kI 1 fun w1 => kI 2 fun w2 => kI 3 fun w3 => kE fun t => j41 t w1 w2 w3)]) 400 17 [(3, .int v3), (2, .int v2), (1, .int v1), (0, .ref 39)] [] t) = (fun (G216 : List Value → SM → OR) (G218 : List Value → SM → OR) (G217 : List Value → SM → OR) (G187 : List Value → SM → OR) (j17 : SM → Int32 → Int32 → Int32 → OR) (j41 : SM → Int32 → Int32 → Int32 → OR) (t : SM) (v1 : Int32) (v2 : Int32) (v3 : Int32) =>
  hRecv t 11 39 <| bI (G218 [.ref 39] t) fun allMaps2 t1 =>
  if allMaps2 < v3 then rI v2 t1
  else if v2 = (-1) then j41 t1 v1 v2 v3
  else bI (G187 [.int v3] t1) fun ones4 t3 =>
  bI (G187 [.int v2] t3) fun ones6 t5 =>
  if ones6 ≤ ones4 then j17 t5 v1 v2 (v3 + 1)
  else j41 t5 v1 v2 v3) := by rfl
theorem fm_many_17_ok {r17 : SM → Int32 → Int32 → Int32 → OR} (h_r17 : ∀ (t : SM) (v1 : Int32) (v2 : Int32) (v3 : Int32), r17 t v1 v2 v3 = some r → Body l 6 q_252 P_252 r 17 [(3, .int v3), (2, .int v2), (1, .int v1), (0, .ref 39)] [] t) (t : SM) (v1 : Int32) (v2 : Int32) (v3 : Int32) (h : fm_many_17 r17 t v1 v2 v3 = some r) : Body l 6 q_252 P_252 r 17 [(3, .int v3), (2, .int v2), (1, .int v1), (0, .ref 39)] [] t :=
  blk ft_252 (by omega) rfl rows_252 (KDok.cons (KOK.f <| KOK.i fun w1 => KOK.i fun w2 => KOK.i fun w3 => KOK.e (f := fun t => r17 t w1 w2 w3) fun t h => h_r17 t w1 w2 w3 h) (KDok.cons (KOK.f <| KOK.i fun w1 => KOK.i fun w2 => KOK.i fun w3 => KOK.e (f := fun t => fm_many_41 r17 t w1 w2 w3) fun t h => fm_many_41_ok h_r17 t w1 w2 w3 h) (KDok.nil))) ((congrFun (congrFun (congrFun (congrFun (congrFun (congrFun (congrFun (congrFun (congrFun (congrFun (fm_many_17_eq) F_216) F_218) F_217) F_187) (fun t u1 u2 u3 => r17 t u1 u2 u3)) (fun t u1 u2 u3 => fm_many_41 r17 t u1 u2 u3)) t) v1) v2) v3).trans h)
theorem fm_many_l17_ok : ∀ (n : Nat) (t : SM) (v1 : Int32) (v2 : Int32) (v3 : Int32), fm_many_l17 n t v1 v2 v3 = some r → Body l 6 q_252 P_252 r 17 [(3, .int v3), (2, .int v2), (1, .int v1), (0, .ref 39)] [] t
  | 0, _, _, _, _, h => by cases h
  | n + 1, t, v1, v2, v3, h => fm_many_17_ok (fm_many_l17_ok n) t v1 v2 v3 h
theorem fm_many_eq : (fun (G216 : List Value → SM → OR) (G218 : List Value → SM → OR) (G217 : List Value → SM → OR) (G187 : List Value → SM → OR) (j17 : SM → Int32 → Int32 → Int32 → OR) (t : SM) => ex clN P_252 none bytJ (mkCal rks ((216, G216) :: (218, G218) :: (217, G217) :: (187, G187) :: [])) [17] (kDisp [(17, kF 0 39 <| kI 1 fun w1 => kI 2 fun w2 => kI 3 fun w3 => kE fun t => j17 t w1 w2 w3)]) 400 0 [(0, .ref 39)] [] t) = (fun (G216 : List Value → SM → OR) (G218 : List Value → SM → OR) (G217 : List Value → SM → OR) (G187 : List Value → SM → OR) (j17 : SM → Int32 → Int32 → Int32 → OR) (t : SM) =>
  hRecv t 11 39 <| bV (G216 [.ref 39] t) fun t1 =>
  hRecv t1 11 39 <| bI (G218 [.ref 39] t1) fun allMaps3 t2 =>
  hRecv t2 11 39 <| bI (G217 [.ref 39, .int allMaps3] t2) fun countBy5 t4 =>
  j17 t4 countBy5 (-1) 0) := by rfl
theorem fm_many_ok (t : SM) (h : fm_many t = some r) : Body l 6 q_252 P_252 r 0 [(0, .ref 39)] [] t :=
  blk ft_252 (by omega) rfl rows_252 (KDok.cons (KOK.f <| KOK.i fun w1 => KOK.i fun w2 => KOK.i fun w3 => KOK.e (f := fun t => fm_many_l17 1000000 t w1 w2 w3) fun t h => fm_many_l17_ok 1000000 t w1 w2 w3 h) (KDok.nil)) ((congrFun (congrFun (congrFun (congrFun (congrFun (congrFun (fm_many_eq) F_216) F_218) F_217) F_187) (fun t u1 u2 u3 => fm_many_l17 1000000 t u1 u2 u3)) t).trans h)
theorem ok_252 (l : Launch) : Fok l 6 mtab 252 (F_252) := by
  intro as t r h
  unfold F_252 at h
  split at h
  · rename_i z0
    split at h
    · rename_i hz0
      obtain rfl := Nat.eq_of_beq_eq_true hz0
      exact ⟨q_252, rfl, mok_252, con_of (P := P_252) (by decide +kernel) rfl (Nat.le_of_ble_eq_true rfl) (fm_many_ok t h)⟩
    · cases h
  · cases h
end
section
set_option maxRecDepth 100000
variable {l : Launch} {r : RR}
def FT_253 : FT := (182, F_182) :: (219, F_219) :: []
theorem ft_253 : FTok l 7 mtab FT_253 := FTok.cons (ok_182 l) (by omega) (FTok.cons (ok_219 l) (by omega) (FTok.nil))
theorem fm_next_141_eq : (fun (G182 : List Value → SM → OR) (G219 : List Value → SM → OR) (t : SM) (v1 : Int32) (v2 : Int32) (v3 : Int32) => ex clN P_253 none bytJ (mkCal rks ((182, G182) :: (219, G219) :: [])) [] (kDisp []) 400 141 [(3, .int v3), (2, .int v2), (1, .int v1)] [] t) = (fun (G182 : List Value → SM → OR) (G219 : List Value → SM → OR) (t : SM) (v1 : Int32) (v2 : Int32) (v3 : Int32) =>
  if v1 = 0 then rI v2 t
  else rI v3 t) := by rfl
theorem fm_next_141_ok (t : SM) (v1 : Int32) (v2 : Int32) (v3 : Int32) (h : fm_next_141 t v1 v2 v3 = some r) : Body l 7 q_253 P_253 r 141 [(3, .int v3), (2, .int v2), (1, .int v1)] [] t :=
  blk ft_253 (by omega) rfl rows_253 (KDok.nil) ((congrFun (congrFun (congrFun (congrFun (congrFun (congrFun (fm_next_141_eq) F_182) F_219) t) v1) v2) v3).trans h)
theorem fm_next_83_eq : (fun (G182 : List Value → SM → OR) (G219 : List Value → SM → OR) (j36 : SM → Int32 → Int32 → Int32 → Int32 → OR) (t : SM) (v1 : Int32) (v2 : Int32) (v3 : Int32) (v4 : Int32) (v5 : Int32) => ex clN P_253 none bytJ (mkCal rks ((182, G182) :: (219, G219) :: [])) [36] (kDisp [(36, kF 0 39 <| kI 1 fun w1 => kI 2 fun w2 => kI 3 fun w3 => kI 4 fun w4 => kE fun t => j36 t w1 w2 w3 w4)]) 400 83 [(5, .int v5), (4, .int v4), (3, .int v3), (2, .int v2), (1, .int v1), (0, .ref 39)] [] t) = (fun (G182 : List Value → SM → OR) (G219 : List Value → SM → OR) (j36 : SM → Int32 → Int32 → Int32 → Int32 → OR) (t : SM) (v1 : Int32) (v2 : Int32) (v3 : Int32) (v4 : Int32) (v5 : Int32) =>
  hGetI t 11 39 45 fun worldMany1 =>
  if v5 ≤ (worldMany1 - v5) then hGetI t 11 39 45 fun worldMany2 =>
    if v3 ≤ (worldMany2 - v5) then if v3 ≤ (worldMany2 - v5) then j36 t v1 v2 v3 (v4 + 1)
      else j36 t v1 v2 (worldMany2 - v5) (v4 + 1)
    else if v3 ≤ (worldMany2 - v5) then j36 t v1 v4 v3 (v4 + 1)
    else j36 t v1 v4 (worldMany2 - v5) (v4 + 1)
  else if v3 ≤ v5 then if v3 ≤ v5 then j36 t v1 v2 v3 (v4 + 1)
    else j36 t v1 v2 v5 (v4 + 1)
  else if v3 ≤ v5 then j36 t v1 v4 v3 (v4 + 1)
  else j36 t v1 v4 v5 (v4 + 1)) := by rfl
theorem fm_next_83_ok {r36 : SM → Int32 → Int32 → Int32 → Int32 → OR} (h_r36 : ∀ (t : SM) (v1 : Int32) (v2 : Int32) (v3 : Int32) (v4 : Int32), r36 t v1 v2 v3 v4 = some r → Body l 7 q_253 P_253 r 36 [(4, .int v4), (3, .int v3), (2, .int v2), (1, .int v1), (0, .ref 39)] [] t) (t : SM) (v1 : Int32) (v2 : Int32) (v3 : Int32) (v4 : Int32) (v5 : Int32) (h : fm_next_83 r36 t v1 v2 v3 v4 v5 = some r) : Body l 7 q_253 P_253 r 83 [(5, .int v5), (4, .int v4), (3, .int v3), (2, .int v2), (1, .int v1), (0, .ref 39)] [] t :=
  blk ft_253 (by omega) rfl rows_253 (KDok.cons (KOK.f <| KOK.i fun w1 => KOK.i fun w2 => KOK.i fun w3 => KOK.i fun w4 => KOK.e (f := fun t => r36 t w1 w2 w3 w4) fun t h => h_r36 t w1 w2 w3 w4 h) (KDok.nil)) ((congrFun (congrFun (congrFun (congrFun (congrFun (congrFun (congrFun (congrFun (congrFun (fm_next_83_eq) F_182) F_219) (fun t u1 u2 u3 u4 => r36 t u1 u2 u3 u4)) t) v1) v2) v3) v4) v5).trans h)
theorem fm_next_51_eq : (fun (G182 : List Value → SM → OR) (G219 : List Value → SM → OR) (j51 : SM → Int32 → Int32 → Int32 → Int32 → Int32 → Int32 → OR) (j83 : SM → Int32 → Int32 → Int32 → Int32 → Int32 → OR) (t : SM) (v1 : Int32) (v2 : Int32) (v3 : Int32) (v4 : Int32) (v5 : Int32) (v6 : Int32) => ex clN P_253 none bytJ (mkCal rks ((182, G182) :: (219, G219) :: [])) [51, 83] (kDisp [(51, kF 0 39 <| kI 1 fun w1 => kI 2 fun w2 => kI 3 fun w3 => kI 4 fun w4 => kI 5 fun w5 => kI 6 fun w6 => kE fun t => j51 t w1 w2 w3 w4 w5 w6), (83, kF 0 39 <| kI 1 fun w1 => kI 2 fun w2 => kI 3 fun w3 => kI 4 fun w4 => kI 5 fun w5 => kE fun t => j83 t w1 w2 w3 w4 w5)]) 400 51 [(6, .int v6), (5, .int v5), (4, .int v4), (3, .int v3), (2, .int v2), (1, .int v1), (0, .ref 39)] [] t) = (fun (G182 : List Value → SM → OR) (G219 : List Value → SM → OR) (j51 : SM → Int32 → Int32 → Int32 → Int32 → Int32 → Int32 → OR) (j83 : SM → Int32 → Int32 → Int32 → Int32 → Int32 → OR) (t : SM) (v1 : Int32) (v2 : Int32) (v3 : Int32) (v4 : Int32) (v5 : Int32) (v6 : Int32) =>
  hGetI t 11 39 45 fun worldMany1 =>
  if worldMany1 ≤ v6 then j83 t v1 v2 v3 v4 v5
  else hGetC t 11 39 44 63 <|
  hALd t 63 v6 fun e2 =>
  j51 t v1 v2 v3 v4 (v5 + ((e2 >>> (v4 &&& 31)) &&& 1)) (v6 + 1)) := by rfl
theorem fm_next_51_ok {k83 : SM → Int32 → Int32 → Int32 → Int32 → Int32 → OR} {r51 : SM → Int32 → Int32 → Int32 → Int32 → Int32 → Int32 → OR} (h_k83 : ∀ (t : SM) (v1 : Int32) (v2 : Int32) (v3 : Int32) (v4 : Int32) (v5 : Int32), k83 t v1 v2 v3 v4 v5 = some r → Body l 7 q_253 P_253 r 83 [(5, .int v5), (4, .int v4), (3, .int v3), (2, .int v2), (1, .int v1), (0, .ref 39)] [] t) (h_r51 : ∀ (t : SM) (v1 : Int32) (v2 : Int32) (v3 : Int32) (v4 : Int32) (v5 : Int32) (v6 : Int32), r51 t v1 v2 v3 v4 v5 v6 = some r → Body l 7 q_253 P_253 r 51 [(6, .int v6), (5, .int v5), (4, .int v4), (3, .int v3), (2, .int v2), (1, .int v1), (0, .ref 39)] [] t) (t : SM) (v1 : Int32) (v2 : Int32) (v3 : Int32) (v4 : Int32) (v5 : Int32) (v6 : Int32) (h : fm_next_51 k83 r51 t v1 v2 v3 v4 v5 v6 = some r) : Body l 7 q_253 P_253 r 51 [(6, .int v6), (5, .int v5), (4, .int v4), (3, .int v3), (2, .int v2), (1, .int v1), (0, .ref 39)] [] t :=
  blk ft_253 (by omega) rfl rows_253 (KDok.cons (KOK.f <| KOK.i fun w1 => KOK.i fun w2 => KOK.i fun w3 => KOK.i fun w4 => KOK.i fun w5 => KOK.i fun w6 => KOK.e (f := fun t => r51 t w1 w2 w3 w4 w5 w6) fun t h => h_r51 t w1 w2 w3 w4 w5 w6 h) (KDok.cons (KOK.f <| KOK.i fun w1 => KOK.i fun w2 => KOK.i fun w3 => KOK.i fun w4 => KOK.i fun w5 => KOK.e (f := fun t => k83 t w1 w2 w3 w4 w5) fun t h => h_k83 t w1 w2 w3 w4 w5 h) (KDok.nil))) ((congrFun (congrFun (congrFun (congrFun (congrFun (congrFun (congrFun (congrFun (congrFun (congrFun (congrFun (fm_next_51_eq) F_182) F_219) (fun t u1 u2 u3 u4 u5 u6 => r51 t u1 u2 u3 u4 u5 u6)) (fun t u1 u2 u3 u4 u5 => k83 t u1 u2 u3 u4 u5)) t) v1) v2) v3) v4) v5) v6).trans h)
theorem fm_next_l51_ok {k83 : SM → Int32 → Int32 → Int32 → Int32 → Int32 → OR} (h_k83 : ∀ (t : SM) (v1 : Int32) (v2 : Int32) (v3 : Int32) (v4 : Int32) (v5 : Int32), k83 t v1 v2 v3 v4 v5 = some r → Body l 7 q_253 P_253 r 83 [(5, .int v5), (4, .int v4), (3, .int v3), (2, .int v2), (1, .int v1), (0, .ref 39)] [] t) : ∀ (n : Nat) (t : SM) (v1 : Int32) (v2 : Int32) (v3 : Int32) (v4 : Int32) (v5 : Int32) (v6 : Int32), fm_next_l51 k83 n t v1 v2 v3 v4 v5 v6 = some r → Body l 7 q_253 P_253 r 51 [(6, .int v6), (5, .int v5), (4, .int v4), (3, .int v3), (2, .int v2), (1, .int v1), (0, .ref 39)] [] t
  | 0, _, _, _, _, _, _, _, h => by cases h
  | n + 1, t, v1, v2, v3, v4, v5, v6, h => fm_next_51_ok h_k83 (fm_next_l51_ok h_k83 n) t v1 v2 v3 v4 v5 v6 h
theorem fm_next_36_eq : (fun (G182 : List Value → SM → OR) (G219 : List Value → SM → OR) (j51 : SM → Int32 → Int32 → Int32 → Int32 → Int32 → Int32 → OR) (j141 : SM → Int32 → Int32 → Int32 → OR) (t : SM) (v1 : Int32) (v2 : Int32) (v3 : Int32) (v4 : Int32) => ex clN P_253 none bytJ (mkCal rks ((182, G182) :: (219, G219) :: [])) [51, 141] (kDisp [(51, kF 0 39 <| kI 1 fun w1 => kI 2 fun w2 => kI 3 fun w3 => kI 4 fun w4 => kI 5 fun w5 => kI 6 fun w6 => kE fun t => j51 t w1 w2 w3 w4 w5 w6), (141, kI 1 fun w1 => kI 2 fun w2 => kI 3 fun w3 => kE fun t => j141 t w1 w2 w3)]) 400 36 [(4, .int v4), (3, .int v3), (2, .int v2), (1, .int v1), (0, .ref 39)] [] t) = (fun (G182 : List Value → SM → OR) (G219 : List Value → SM → OR) (j51 : SM → Int32 → Int32 → Int32 → Int32 → Int32 → Int32 → OR) (j141 : SM → Int32 → Int32 → Int32 → OR) (t : SM) (v1 : Int32) (v2 : Int32) (v3 : Int32) (v4 : Int32) =>
  hGetI t 11 39 0 fun choices1 =>
  if choices1 ≤ v4 then j141 t v1 v2 v3
  else j51 t v1 v2 v3 v4 0 0) := by rfl
theorem fm_next_36_ok {k141 : SM → Int32 → Int32 → Int32 → OR} {r36 : SM → Int32 → Int32 → Int32 → Int32 → OR} (h_k141 : ∀ (t : SM) (v1 : Int32) (v2 : Int32) (v3 : Int32), k141 t v1 v2 v3 = some r → Body l 7 q_253 P_253 r 141 [(3, .int v3), (2, .int v2), (1, .int v1)] [] t) (h_r36 : ∀ (t : SM) (v1 : Int32) (v2 : Int32) (v3 : Int32) (v4 : Int32), r36 t v1 v2 v3 v4 = some r → Body l 7 q_253 P_253 r 36 [(4, .int v4), (3, .int v3), (2, .int v2), (1, .int v1), (0, .ref 39)] [] t) (t : SM) (v1 : Int32) (v2 : Int32) (v3 : Int32) (v4 : Int32) (h : fm_next_36 k141 r36 t v1 v2 v3 v4 = some r) : Body l 7 q_253 P_253 r 36 [(4, .int v4), (3, .int v3), (2, .int v2), (1, .int v1), (0, .ref 39)] [] t :=
  blk ft_253 (by omega) rfl rows_253 (KDok.cons (KOK.f <| KOK.i fun w1 => KOK.i fun w2 => KOK.i fun w3 => KOK.i fun w4 => KOK.i fun w5 => KOK.i fun w6 => KOK.e (f := fun t => fm_next_l51 (fun t u1 u2 u3 u4 u5 => fm_next_83 r36 t u1 u2 u3 u4 u5) 1000000 t w1 w2 w3 w4 w5 w6) fun t h => fm_next_l51_ok (k83 := fun t u1 u2 u3 u4 u5 => fm_next_83 r36 t u1 u2 u3 u4 u5) (fun t u1 u2 u3 u4 u5 h => fm_next_83_ok h_r36 t u1 u2 u3 u4 u5 h) 1000000 t w1 w2 w3 w4 w5 w6 h) (KDok.cons (KOK.i fun w1 => KOK.i fun w2 => KOK.i fun w3 => KOK.e (f := fun t => k141 t w1 w2 w3) fun t h => h_k141 t w1 w2 w3 h) (KDok.nil))) ((congrFun (congrFun (congrFun (congrFun (congrFun (congrFun (congrFun (congrFun (congrFun (fm_next_36_eq) F_182) F_219) (fun t u1 u2 u3 u4 u5 u6 => fm_next_l51 (fun t u1 u2 u3 u4 u5 => fm_next_83 r36 t u1 u2 u3 u4 u5) 1000000 t u1 u2 u3 u4 u5 u6)) (fun t u1 u2 u3 => k141 t u1 u2 u3)) t) v1) v2) v3) v4).trans h)
theorem fm_next_l36_ok {k141 : SM → Int32 → Int32 → Int32 → OR} (h_k141 : ∀ (t : SM) (v1 : Int32) (v2 : Int32) (v3 : Int32), k141 t v1 v2 v3 = some r → Body l 7 q_253 P_253 r 141 [(3, .int v3), (2, .int v2), (1, .int v1)] [] t) : ∀ (n : Nat) (t : SM) (v1 : Int32) (v2 : Int32) (v3 : Int32) (v4 : Int32), fm_next_l36 k141 n t v1 v2 v3 v4 = some r → Body l 7 q_253 P_253 r 36 [(4, .int v4), (3, .int v3), (2, .int v2), (1, .int v1), (0, .ref 39)] [] t
  | 0, _, _, _, _, _, h => by cases h
  | n + 1, t, v1, v2, v3, v4, h => fm_next_36_ok h_k141 (fm_next_l36_ok h_k141 n) t v1 v2 v3 v4 h
theorem fm_next_eq : (fun (G182 : List Value → SM → OR) (G219 : List Value → SM → OR) (j36 : SM → Int32 → Int32 → Int32 → Int32 → OR) (t : SM) (a : Int32) => ex clN P_253 none bytJ (mkCal rks ((182, G182) :: (219, G219) :: [])) [36] (kDisp [(36, kF 0 39 <| kI 1 fun w1 => kI 2 fun w2 => kI 3 fun w3 => kI 4 fun w4 => kE fun t => j36 t w1 w2 w3 w4)]) 400 0 [(0, .ref 39), (1, .int a)] [] t) = (fun (G182 : List Value → SM → OR) (G219 : List Value → SM → OR) (j36 : SM → Int32 → Int32 → Int32 → Int32 → OR) (t : SM) (a : Int32) =>
  bI (G182 [.int a, .int 0, .int 1] t) fun in2 t1 =>
  if in2 = 0 then rI (-2) t1
  else hRecv t1 11 39 <| bV (G219 [.ref 39] t1) fun t3 =>
    hGetI t3 11 39 45 fun worldMany4 =>
    if worldMany4 = 0 then rI (-3) t3
    else hGetI t3 11 39 45 fun worldMany5 =>
      j36 t3 a (-1) worldMany5 0) := by rfl
theorem fm_next_ok (t : SM) (a : Int32) (h : fm_next t a = some r) : Body l 7 q_253 P_253 r 0 [(0, .ref 39), (1, .int a)] [] t :=
  blk ft_253 (by omega) rfl rows_253 (KDok.cons (KOK.f <| KOK.i fun w1 => KOK.i fun w2 => KOK.i fun w3 => KOK.i fun w4 => KOK.e (f := fun t => fm_next_l36 (fun t u1 u2 u3 => fm_next_141 t u1 u2 u3) 1000000 t w1 w2 w3 w4) fun t h => fm_next_l36_ok (k141 := fun t u1 u2 u3 => fm_next_141 t u1 u2 u3) (fun t u1 u2 u3 h => fm_next_141_ok t u1 u2 u3 h) 1000000 t w1 w2 w3 w4 h) (KDok.nil)) ((congrFun (congrFun (congrFun (congrFun (congrFun (fm_next_eq) F_182) F_219) (fun t u1 u2 u3 u4 => fm_next_l36 (fun t u1 u2 u3 => fm_next_141 t u1 u2 u3) 1000000 t u1 u2 u3 u4)) t) a).trans h)
theorem ok_253 (l : Launch) : Fok l 7 mtab 253 (F_253) := by
  intro as t r h
  unfold F_253 at h
  split at h
  · rename_i z0 a
    split at h
    · rename_i hz0
      obtain rfl := Nat.eq_of_beq_eq_true hz0
      exact ⟨q_253, rfl, mok_253, con_of (P := P_253) (by decide +kernel) rfl (Nat.le_of_ble_eq_true rfl) (fm_next_ok t a h)⟩
    · cases h
  · cases h
end
section
set_option maxRecDepth 100000
variable {l : Launch} {r : RR}
def FT_254 : FT := (219, F_219) :: (182, F_182) :: (187, F_187) :: []
theorem ft_254 : FTok l 7 mtab FT_254 := FTok.cons (ok_219 l) (by omega) (FTok.cons (ok_182 l) (by omega) (FTok.cons (ok_187 l) (by omega) (FTok.nil)))
theorem fm_looks_193_eq : (fun (G219 : List Value → SM → OR) (G182 : List Value → SM → OR) (G187 : List Value → SM → OR) (t : SM) => ex clN P_254 none bytJ (mkCal rks ((219, G219) :: (182, G182) :: (187, G187) :: [])) [] (kDisp []) 400 193 [(0, .ref 39)] [] t) = (fun (G219 : List Value → SM → OR) (G182 : List Value → SM → OR) (G187 : List Value → SM → OR) (t : SM) =>
  hGetC t 11 39 48 66 <|
  hGetI t 11 39 45 fun worldMany1 =>
  hALd t 66 (((1 : Int32) <<< (worldMany1 &&& 31)) - 1) fun e2 =>
  rI e2 t) := by rfl
theorem fm_looks_193_ok (t : SM) (h : fm_looks_193 t = some r) : Body l 7 q_254 P_254 r 193 [(0, .ref 39)] [] t :=
  blk ft_254 (by omega) rfl rows_254 (KDok.nil) ((congrFun (congrFun (congrFun (congrFun (fm_looks_193_eq) F_219) F_182) F_187) t).trans h)
theorem fm_looks_180_eq : (fun (G219 : List Value → SM → OR) (G182 : List Value → SM → OR) (G187 : List Value → SM → OR) (j22 : SM → Int32 → OR) (t : SM) (v1 : Int32) (v2 : Int32) => ex clN P_254 none bytJ (mkCal rks ((219, G219) :: (182, G182) :: (187, G187) :: [])) [22] (kDisp [(22, kF 0 39 <| kI 1 fun w1 => kE fun t => j22 t w1)]) 400 180 [(2, .int v2), (1, .int v1), (0, .ref 39)] [] t) = (fun (G219 : List Value → SM → OR) (G182 : List Value → SM → OR) (G187 : List Value → SM → OR) (j22 : SM → Int32 → OR) (t : SM) (v1 : Int32) (v2 : Int32) =>
  hGetC t 11 39 48 66 <|
  hASt t 66 v1 v2 fun t1 =>
  j22 t1 (v1 + 1)) := by rfl
theorem fm_looks_180_ok {r22 : SM → Int32 → OR} (h_r22 : ∀ (t : SM) (v1 : Int32), r22 t v1 = some r → Body l 7 q_254 P_254 r 22 [(1, .int v1), (0, .ref 39)] [] t) (t : SM) (v1 : Int32) (v2 : Int32) (h : fm_looks_180 r22 t v1 v2 = some r) : Body l 7 q_254 P_254 r 180 [(2, .int v2), (1, .int v1), (0, .ref 39)] [] t :=
  blk ft_254 (by omega) rfl rows_254 (KDok.cons (KOK.f <| KOK.i fun w1 => KOK.e (f := fun t => r22 t w1) fun t h => h_r22 t w1 h) (KDok.nil)) ((congrFun (congrFun (congrFun (congrFun (congrFun (congrFun (congrFun (fm_looks_180_eq) F_219) F_182) F_187) (fun t u1 => r22 t u1)) t) v1) v2).trans h)
theorem fm_looks_102_eq : (fun (G219 : List Value → SM → OR) (G182 : List Value → SM → OR) (G187 : List Value → SM → OR) (j49 : SM → Int32 → Int32 → Int32 → OR) (t : SM) (v1 : Int32) (v2 : Int32) (v3 : Int32) (v4 : Int32) => ex clN P_254 none bytJ (mkCal rks ((219, G219) :: (182, G182) :: (187, G187) :: [])) [49] (kDisp [(49, kF 0 39 <| kI 1 fun w1 => kI 2 fun w2 => kI 3 fun w3 => kE fun t => j49 t w1 w2 w3)]) 400 102 [(4, .int v4), (3, .int v3), (2, .int v2), (1, .int v1), (0, .ref 39)] [] t) = (fun (G219 : List Value → SM → OR) (G182 : List Value → SM → OR) (G187 : List Value → SM → OR) (j49 : SM → Int32 → Int32 → Int32 → OR) (t : SM) (v1 : Int32) (v2 : Int32) (v3 : Int32) (v4 : Int32) =>
  if v4 = 0 then j49 t v1 v2 (v3 + 1)
  else if v4 = v1 then j49 t v1 v2 (v3 + 1)
  else hGetC t 11 39 48 66 <|
  hALd t 66 v4 fun e1 =>
  hGetC t 11 39 48 66 <|
  hALd t 66 (v1 &&& (v4 ^^^ (-1))) fun e2 =>
  if e1 ≤ e2 then hGetC t 11 39 48 66 <|
    hALd t 66 (v1 &&& (v4 ^^^ (-1))) fun e3 =>
    if v2 ≤ (e3 + 1) then j49 t v1 v2 (v3 + 1)
    else j49 t v1 (e3 + 1) (v3 + 1)
  else hGetC t 11 39 48 66 <|
  hALd t 66 v4 fun e4 =>
  if v2 ≤ (e4 + 1) then j49 t v1 v2 (v3 + 1)
  else j49 t v1 (e4 + 1) (v3 + 1)) := by rfl
theorem fm_looks_102_ok {r49 : SM → Int32 → Int32 → Int32 → OR} (h_r49 : ∀ (t : SM) (v1 : Int32) (v2 : Int32) (v3 : Int32), r49 t v1 v2 v3 = some r → Body l 7 q_254 P_254 r 49 [(3, .int v3), (2, .int v2), (1, .int v1), (0, .ref 39)] [] t) (t : SM) (v1 : Int32) (v2 : Int32) (v3 : Int32) (v4 : Int32) (h : fm_looks_102 r49 t v1 v2 v3 v4 = some r) : Body l 7 q_254 P_254 r 102 [(4, .int v4), (3, .int v3), (2, .int v2), (1, .int v1), (0, .ref 39)] [] t :=
  blk ft_254 (by omega) rfl rows_254 (KDok.cons (KOK.f <| KOK.i fun w1 => KOK.i fun w2 => KOK.i fun w3 => KOK.e (f := fun t => r49 t w1 w2 w3) fun t h => h_r49 t w1 w2 w3 h) (KDok.nil)) ((congrFun (congrFun (congrFun (congrFun (congrFun (congrFun (congrFun (congrFun (congrFun (fm_looks_102_eq) F_219) F_182) F_187) (fun t u1 u2 u3 => r49 t u1 u2 u3)) t) v1) v2) v3) v4).trans h)
theorem fm_looks_63_eq : (fun (G219 : List Value → SM → OR) (G182 : List Value → SM → OR) (G187 : List Value → SM → OR) (j63 : SM → Int32 → Int32 → Int32 → Int32 → Int32 → OR) (j102 : SM → Int32 → Int32 → Int32 → Int32 → OR) (t : SM) (v1 : Int32) (v2 : Int32) (v3 : Int32) (v4 : Int32) (v5 : Int32) => ex clN P_254 none bytJ (mkCal rks ((219, G219) :: (182, G182) :: (187, G187) :: [])) [63, 102] (kDisp [(63, kF 0 39 <| kI 1 fun w1 => kI 2 fun w2 => kI 3 fun w3 => kI 4 fun w4 => kI 5 fun w5 => kE fun t => j63 t w1 w2 w3 w4 w5), (102, kF 0 39 <| kI 1 fun w1 => kI 2 fun w2 => kI 3 fun w3 => kI 4 fun w4 => kE fun t => j102 t w1 w2 w3 w4)]) 400 63 [(5, .int v5), (4, .int v4), (3, .int v3), (2, .int v2), (1, .int v1), (0, .ref 39)] [] t) = (fun (G219 : List Value → SM → OR) (G182 : List Value → SM → OR) (G187 : List Value → SM → OR) (j63 : SM → Int32 → Int32 → Int32 → Int32 → Int32 → OR) (j102 : SM → Int32 → Int32 → Int32 → Int32 → OR) (t : SM) (v1 : Int32) (v2 : Int32) (v3 : Int32) (v4 : Int32) (v5 : Int32) =>
  hGetI t 11 39 45 fun worldMany1 =>
  if worldMany1 ≤ v5 then j102 t v1 v2 v3 v4
  else hGetC t 11 39 44 63 <|
  hALd t 63 v5 fun e2 =>
  j63 t v1 v2 v3 (v4 ||| ((((v1 >>> (v5 &&& 31)) &&& (e2 >>> (v3 &&& 31))) &&& 1) <<< (v5 &&& 31))) (v5 + 1)) := by rfl
theorem fm_looks_63_ok {k102 : SM → Int32 → Int32 → Int32 → Int32 → OR} {r63 : SM → Int32 → Int32 → Int32 → Int32 → Int32 → OR} (h_k102 : ∀ (t : SM) (v1 : Int32) (v2 : Int32) (v3 : Int32) (v4 : Int32), k102 t v1 v2 v3 v4 = some r → Body l 7 q_254 P_254 r 102 [(4, .int v4), (3, .int v3), (2, .int v2), (1, .int v1), (0, .ref 39)] [] t) (h_r63 : ∀ (t : SM) (v1 : Int32) (v2 : Int32) (v3 : Int32) (v4 : Int32) (v5 : Int32), r63 t v1 v2 v3 v4 v5 = some r → Body l 7 q_254 P_254 r 63 [(5, .int v5), (4, .int v4), (3, .int v3), (2, .int v2), (1, .int v1), (0, .ref 39)] [] t) (t : SM) (v1 : Int32) (v2 : Int32) (v3 : Int32) (v4 : Int32) (v5 : Int32) (h : fm_looks_63 k102 r63 t v1 v2 v3 v4 v5 = some r) : Body l 7 q_254 P_254 r 63 [(5, .int v5), (4, .int v4), (3, .int v3), (2, .int v2), (1, .int v1), (0, .ref 39)] [] t :=
  blk ft_254 (by omega) rfl rows_254 (KDok.cons (KOK.f <| KOK.i fun w1 => KOK.i fun w2 => KOK.i fun w3 => KOK.i fun w4 => KOK.i fun w5 => KOK.e (f := fun t => r63 t w1 w2 w3 w4 w5) fun t h => h_r63 t w1 w2 w3 w4 w5 h) (KDok.cons (KOK.f <| KOK.i fun w1 => KOK.i fun w2 => KOK.i fun w3 => KOK.i fun w4 => KOK.e (f := fun t => k102 t w1 w2 w3 w4) fun t h => h_k102 t w1 w2 w3 w4 h) (KDok.nil))) ((congrFun (congrFun (congrFun (congrFun (congrFun (congrFun (congrFun (congrFun (congrFun (congrFun (congrFun (fm_looks_63_eq) F_219) F_182) F_187) (fun t u1 u2 u3 u4 u5 => r63 t u1 u2 u3 u4 u5)) (fun t u1 u2 u3 u4 => k102 t u1 u2 u3 u4)) t) v1) v2) v3) v4) v5).trans h)
theorem fm_looks_l63_ok {k102 : SM → Int32 → Int32 → Int32 → Int32 → OR} (h_k102 : ∀ (t : SM) (v1 : Int32) (v2 : Int32) (v3 : Int32) (v4 : Int32), k102 t v1 v2 v3 v4 = some r → Body l 7 q_254 P_254 r 102 [(4, .int v4), (3, .int v3), (2, .int v2), (1, .int v1), (0, .ref 39)] [] t) : ∀ (n : Nat) (t : SM) (v1 : Int32) (v2 : Int32) (v3 : Int32) (v4 : Int32) (v5 : Int32), fm_looks_l63 k102 n t v1 v2 v3 v4 v5 = some r → Body l 7 q_254 P_254 r 63 [(5, .int v5), (4, .int v4), (3, .int v3), (2, .int v2), (1, .int v1), (0, .ref 39)] [] t
  | 0, _, _, _, _, _, _, h => by cases h
  | n + 1, t, v1, v2, v3, v4, v5, h => fm_looks_63_ok h_k102 (fm_looks_l63_ok h_k102 n) t v1 v2 v3 v4 v5 h
theorem fm_looks_49_eq : (fun (G219 : List Value → SM → OR) (G182 : List Value → SM → OR) (G187 : List Value → SM → OR) (j63 : SM → Int32 → Int32 → Int32 → Int32 → Int32 → OR) (j180 : SM → Int32 → Int32 → OR) (t : SM) (v1 : Int32) (v2 : Int32) (v3 : Int32) => ex clN P_254 none bytJ (mkCal rks ((219, G219) :: (182, G182) :: (187, G187) :: [])) [63, 180] (kDisp [(63, kF 0 39 <| kI 1 fun w1 => kI 2 fun w2 => kI 3 fun w3 => kI 4 fun w4 => kI 5 fun w5 => kE fun t => j63 t w1 w2 w3 w4 w5), (180, kF 0 39 <| kI 1 fun w1 => kI 2 fun w2 => kE fun t => j180 t w1 w2)]) 400 49 [(3, .int v3), (2, .int v2), (1, .int v1), (0, .ref 39)] [] t) = (fun (G219 : List Value → SM → OR) (G182 : List Value → SM → OR) (G187 : List Value → SM → OR) (j63 : SM → Int32 → Int32 → Int32 → Int32 → Int32 → OR) (j180 : SM → Int32 → Int32 → OR) (t : SM) (v1 : Int32) (v2 : Int32) (v3 : Int32) =>
  hGetI t 11 39 0 fun choices1 =>
  if choices1 ≤ v3 then j180 t v1 v2
  else j63 t v1 v2 v3 0 0) := by rfl
theorem fm_looks_49_ok {k180 : SM → Int32 → Int32 → OR} {r49 : SM → Int32 → Int32 → Int32 → OR} (h_k180 : ∀ (t : SM) (v1 : Int32) (v2 : Int32), k180 t v1 v2 = some r → Body l 7 q_254 P_254 r 180 [(2, .int v2), (1, .int v1), (0, .ref 39)] [] t) (h_r49 : ∀ (t : SM) (v1 : Int32) (v2 : Int32) (v3 : Int32), r49 t v1 v2 v3 = some r → Body l 7 q_254 P_254 r 49 [(3, .int v3), (2, .int v2), (1, .int v1), (0, .ref 39)] [] t) (t : SM) (v1 : Int32) (v2 : Int32) (v3 : Int32) (h : fm_looks_49 k180 r49 t v1 v2 v3 = some r) : Body l 7 q_254 P_254 r 49 [(3, .int v3), (2, .int v2), (1, .int v1), (0, .ref 39)] [] t :=
  blk ft_254 (by omega) rfl rows_254 (KDok.cons (KOK.f <| KOK.i fun w1 => KOK.i fun w2 => KOK.i fun w3 => KOK.i fun w4 => KOK.i fun w5 => KOK.e (f := fun t => fm_looks_l63 (fun t u1 u2 u3 u4 => fm_looks_102 r49 t u1 u2 u3 u4) 1000000 t w1 w2 w3 w4 w5) fun t h => fm_looks_l63_ok (k102 := fun t u1 u2 u3 u4 => fm_looks_102 r49 t u1 u2 u3 u4) (fun t u1 u2 u3 u4 h => fm_looks_102_ok h_r49 t u1 u2 u3 u4 h) 1000000 t w1 w2 w3 w4 w5 h) (KDok.cons (KOK.f <| KOK.i fun w1 => KOK.i fun w2 => KOK.e (f := fun t => k180 t w1 w2) fun t h => h_k180 t w1 w2 h) (KDok.nil))) ((congrFun (congrFun (congrFun (congrFun (congrFun (congrFun (congrFun (congrFun (congrFun (fm_looks_49_eq) F_219) F_182) F_187) (fun t u1 u2 u3 u4 u5 => fm_looks_l63 (fun t u1 u2 u3 u4 => fm_looks_102 r49 t u1 u2 u3 u4) 1000000 t u1 u2 u3 u4 u5)) (fun t u1 u2 => k180 t u1 u2)) t) v1) v2) v3).trans h)
theorem fm_looks_l49_ok {k180 : SM → Int32 → Int32 → OR} (h_k180 : ∀ (t : SM) (v1 : Int32) (v2 : Int32), k180 t v1 v2 = some r → Body l 7 q_254 P_254 r 180 [(2, .int v2), (1, .int v1), (0, .ref 39)] [] t) : ∀ (n : Nat) (t : SM) (v1 : Int32) (v2 : Int32) (v3 : Int32), fm_looks_l49 k180 n t v1 v2 v3 = some r → Body l 7 q_254 P_254 r 49 [(3, .int v3), (2, .int v2), (1, .int v1), (0, .ref 39)] [] t
  | 0, _, _, _, _, h => by cases h
  | n + 1, t, v1, v2, v3, h => fm_looks_49_ok h_k180 (fm_looks_l49_ok h_k180 n) t v1 v2 v3 h
theorem fm_looks_22_eq : (fun (G219 : List Value → SM → OR) (G182 : List Value → SM → OR) (G187 : List Value → SM → OR) (j49 : SM → Int32 → Int32 → Int32 → OR) (j193 : SM → OR) (t : SM) (v1 : Int32) => ex clN P_254 none bytJ (mkCal rks ((219, G219) :: (182, G182) :: (187, G187) :: [])) [49, 193] (kDisp [(49, kF 0 39 <| kI 1 fun w1 => kI 2 fun w2 => kI 3 fun w3 => kE fun t => j49 t w1 w2 w3), (193, kF 0 39 <| kE fun t => j193 t)]) 400 22 [(1, .int v1), (0, .ref 39)] [] t) = (fun (G219 : List Value → SM → OR) (G182 : List Value → SM → OR) (G187 : List Value → SM → OR) (j49 : SM → Int32 → Int32 → Int32 → OR) (j193 : SM → OR) (t : SM) (v1 : Int32) =>
  hGetI t 11 39 45 fun worldMany1 =>
  if ((1 : Int32) <<< (worldMany1 &&& 31)) ≤ v1 then j193 t
  else bI (G187 [.int v1] t) fun ones3 t2 =>
  if ones3 = 1 then j49 t2 v1 0 0
  else j49 t2 v1 1000000 0) := by rfl
theorem fm_looks_22_ok {k193 : SM → OR} {r22 : SM → Int32 → OR} (h_k193 : ∀ (t : SM), k193 t = some r → Body l 7 q_254 P_254 r 193 [(0, .ref 39)] [] t) (h_r22 : ∀ (t : SM) (v1 : Int32), r22 t v1 = some r → Body l 7 q_254 P_254 r 22 [(1, .int v1), (0, .ref 39)] [] t) (t : SM) (v1 : Int32) (h : fm_looks_22 k193 r22 t v1 = some r) : Body l 7 q_254 P_254 r 22 [(1, .int v1), (0, .ref 39)] [] t :=
  blk ft_254 (by omega) rfl rows_254 (KDok.cons (KOK.f <| KOK.i fun w1 => KOK.i fun w2 => KOK.i fun w3 => KOK.e (f := fun t => fm_looks_l49 (fun t u1 u2 => fm_looks_180 r22 t u1 u2) 1000000 t w1 w2 w3) fun t h => fm_looks_l49_ok (k180 := fun t u1 u2 => fm_looks_180 r22 t u1 u2) (fun t u1 u2 h => fm_looks_180_ok h_r22 t u1 u2 h) 1000000 t w1 w2 w3 h) (KDok.cons (KOK.f <| KOK.e (f := fun t => k193 t) fun t h => h_k193 t h) (KDok.nil))) ((congrFun (congrFun (congrFun (congrFun (congrFun (congrFun (congrFun (fm_looks_22_eq) F_219) F_182) F_187) (fun t u1 u2 u3 => fm_looks_l49 (fun t u1 u2 => fm_looks_180 r22 t u1 u2) 1000000 t u1 u2 u3)) (fun t => k193 t)) t) v1).trans h)
theorem fm_looks_l22_ok {k193 : SM → OR} (h_k193 : ∀ (t : SM), k193 t = some r → Body l 7 q_254 P_254 r 193 [(0, .ref 39)] [] t) : ∀ (n : Nat) (t : SM) (v1 : Int32), fm_looks_l22 k193 n t v1 = some r → Body l 7 q_254 P_254 r 22 [(1, .int v1), (0, .ref 39)] [] t
  | 0, _, _, h => by cases h
  | n + 1, t, v1, h => fm_looks_22_ok h_k193 (fm_looks_l22_ok h_k193 n) t v1 h
theorem fm_looks_eq : (fun (G219 : List Value → SM → OR) (G182 : List Value → SM → OR) (G187 : List Value → SM → OR) (j22 : SM → Int32 → OR) (t : SM) => ex clN P_254 none bytJ (mkCal rks ((219, G219) :: (182, G182) :: (187, G187) :: [])) [22] (kDisp [(22, kF 0 39 <| kI 1 fun w1 => kE fun t => j22 t w1)]) 400 0 [(0, .ref 39)] [] t) = (fun (G219 : List Value → SM → OR) (G182 : List Value → SM → OR) (G187 : List Value → SM → OR) (j22 : SM → Int32 → OR) (t : SM) =>
  hRecv t 11 39 <| bV (G219 [.ref 39] t) fun t1 =>
  hGetI t1 11 39 45 fun worldMany2 =>
  bI (G182 [.int worldMany2, .int 1, .int 7] t1) fun in4 t3 =>
  if in4 = 0 then rI (-3) t3
  else j22 t3 1) := by rfl
theorem fm_looks_ok (t : SM) (h : fm_looks t = some r) : Body l 7 q_254 P_254 r 0 [(0, .ref 39)] [] t :=
  blk ft_254 (by omega) rfl rows_254 (KDok.cons (KOK.f <| KOK.i fun w1 => KOK.e (f := fun t => fm_looks_l22 (fun t => fm_looks_193 t) 1000000 t w1) fun t h => fm_looks_l22_ok (k193 := fun t => fm_looks_193 t) (fun t h => fm_looks_193_ok t h) 1000000 t w1 h) (KDok.nil)) ((congrFun (congrFun (congrFun (congrFun (congrFun (fm_looks_eq) F_219) F_182) F_187) (fun t u1 => fm_looks_l22 (fun t => fm_looks_193 t) 1000000 t u1)) t).trans h)
theorem ok_254 (l : Launch) : Fok l 7 mtab 254 (F_254) := by
  intro as t r h
  unfold F_254 at h
  split at h
  · rename_i z0
    split at h
    · rename_i hz0
      obtain rfl := Nat.eq_of_beq_eq_true hz0
      exact ⟨q_254, rfl, mok_254, con_of (P := P_254) (by decide +kernel) rfl (Nat.le_of_ble_eq_true rfl) (fm_looks_ok t h)⟩
    · cases h
  · cases h
end
section
set_option maxRecDepth 100000
variable {l : Launch} {r : RR}
def FT_255 : FT := (184, F_184) :: (187, F_187) :: []
theorem ft_255 : FTok l 3 mtab FT_255 := FTok.cons (ok_184 l) (by omega) (FTok.cons (ok_187 l) (by omega) (FTok.nil))
theorem fm_from_15_eq : (fun (G184 : List Value → SM → OR) (G187 : List Value → SM → OR) (j15 : SM → Int32 → Int32 → Int32 → OR) (t : SM) (v1 : Int32) (v2 : Int32) (v3 : Int32) => ex clN P_255 none bytJ (mkCal rks ((184, G184) :: (187, G187) :: [])) [15] (kDisp [(15, kF 0 39 <| kI 1 fun w1 => kI 2 fun w2 => kI 3 fun w3 => kE fun t => j15 t w1 w2 w3)]) 400 15 [(3, .int v3), (2, .int v2), (1, .int v1), (0, .ref 39)] [] t) = (fun (G184 : List Value → SM → OR) (G187 : List Value → SM → OR) (j15 : SM → Int32 → Int32 → Int32 → OR) (t : SM) (v1 : Int32) (v2 : Int32) (v3 : Int32) =>
  hGetI t 11 39 3 fun maps1 =>
  if maps1 ≤ v3 then rI v2 t
  else if v3 = v1 then j15 t v1 (v2 ||| 0) (v3 + 1)
  else hGetC t 11 39 5 41 <|
  hALd t 41 v3 fun e2 =>
  hGetC t 11 39 5 41 <|
  hALd t 41 v1 fun e3 =>
  bI (G187 [.int (e2 ^^^ e3)] t) fun ones5 t4 =>
  if ones5 = 1 then j15 t4 v1 (v2 ||| ((1 : Int32) <<< (v3 &&& 31))) (v3 + 1)
  else j15 t4 v1 (v2 ||| 0) (v3 + 1)) := by rfl
theorem fm_from_15_ok {r15 : SM → Int32 → Int32 → Int32 → OR} (h_r15 : ∀ (t : SM) (v1 : Int32) (v2 : Int32) (v3 : Int32), r15 t v1 v2 v3 = some r → Body l 3 q_255 P_255 r 15 [(3, .int v3), (2, .int v2), (1, .int v1), (0, .ref 39)] [] t) (t : SM) (v1 : Int32) (v2 : Int32) (v3 : Int32) (h : fm_from_15 r15 t v1 v2 v3 = some r) : Body l 3 q_255 P_255 r 15 [(3, .int v3), (2, .int v2), (1, .int v1), (0, .ref 39)] [] t :=
  blk ft_255 (by omega) rfl rows_255 (KDok.cons (KOK.f <| KOK.i fun w1 => KOK.i fun w2 => KOK.i fun w3 => KOK.e (f := fun t => r15 t w1 w2 w3) fun t h => h_r15 t w1 w2 w3 h) (KDok.nil)) ((congrFun (congrFun (congrFun (congrFun (congrFun (congrFun (congrFun (fm_from_15_eq) F_184) F_187) (fun t u1 u2 u3 => r15 t u1 u2 u3)) t) v1) v2) v3).trans h)
theorem fm_from_l15_ok : ∀ (n : Nat) (t : SM) (v1 : Int32) (v2 : Int32) (v3 : Int32), fm_from_l15 n t v1 v2 v3 = some r → Body l 3 q_255 P_255 r 15 [(3, .int v3), (2, .int v2), (1, .int v1), (0, .ref 39)] [] t
  | 0, _, _, _, _, h => by cases h
  | n + 1, t, v1, v2, v3, h => fm_from_15_ok (fm_from_l15_ok n) t v1 v2 v3 h
theorem fm_from_eq : (fun (G184 : List Value → SM → OR) (G187 : List Value → SM → OR) (j15 : SM → Int32 → Int32 → Int32 → OR) (t : SM) (a : Int32) => ex clN P_255 none bytJ (mkCal rks ((184, G184) :: (187, G187) :: [])) [15] (kDisp [(15, kF 0 39 <| kI 1 fun w1 => kI 2 fun w2 => kI 3 fun w3 => kE fun t => j15 t w1 w2 w3)]) 400 0 [(0, .ref 39), (1, .int a)] [] t) = (fun (G184 : List Value → SM → OR) (G187 : List Value → SM → OR) (j15 : SM → Int32 → Int32 → Int32 → OR) (t : SM) (a : Int32) =>
  hRecv t 11 39 <| bI (G184 [.ref 39, .int a] t) fun isMap2 t1 =>
  if isMap2 = 0 then rI (-5) t1
  else j15 t1 a 0 0) := by rfl
theorem fm_from_ok (t : SM) (a : Int32) (h : fm_from t a = some r) : Body l 3 q_255 P_255 r 0 [(0, .ref 39), (1, .int a)] [] t :=
  blk ft_255 (by omega) rfl rows_255 (KDok.cons (KOK.f <| KOK.i fun w1 => KOK.i fun w2 => KOK.i fun w3 => KOK.e (f := fun t => fm_from_l15 1000000 t w1 w2 w3) fun t h => fm_from_l15_ok 1000000 t w1 w2 w3 h) (KDok.nil)) ((congrFun (congrFun (congrFun (congrFun (congrFun (fm_from_eq) F_184) F_187) (fun t u1 u2 u3 => fm_from_l15 1000000 t u1 u2 u3)) t) a).trans h)
theorem ok_255 (l : Launch) : Fok l 3 mtab 255 (F_255) := by
  intro as t r h
  unfold F_255 at h
  split at h
  · rename_i z0 a
    split at h
    · rename_i hz0
      obtain rfl := Nat.eq_of_beq_eq_true hz0
      exact ⟨q_255, rfl, mok_255, con_of (P := P_255) (by decide +kernel) rfl (Nat.le_of_ble_eq_true rfl) (fm_from_ok t a h)⟩
    · cases h
  · cases h
end
section
set_option maxRecDepth 100000
variable {l : Launch} {r : RR}
def FT_256 : FT := (187, F_187) :: []
theorem ft_256 : FTok l 2 mtab FT_256 := FTok.cons (ok_187 l) (by omega) (FTok.nil)
theorem fm_drawsAll_150_eq : (fun (G187 : List Value → SM → OR) (j16 : SM → Int32 → Int32 → OR) (t : SM) (v1 : Int32) (v2 : Int32) (v3 : Int32) (v4 : Int32) (v5 : Int32) => ex clN P_256 none bytJ (mkCal rks ((187, G187) :: [])) [16] (kDisp [(16, kF 0 39 <| kI 1 fun w1 => kI 2 fun w2 => kE fun t => j16 t w1 w2)]) 400 150 [(5, .int v5), (4, .int v4), (3, .int v3), (2, .int v2), (1, .int v1), (0, .ref 39)] [] t) = (fun (G187 : List Value → SM → OR) (j16 : SM → Int32 → Int32 → OR) (t : SM) (v1 : Int32) (v2 : Int32) (v3 : Int32) (v4 : Int32) (v5 : Int32) =>
  hGetC t 11 39 49 67 <|
  hASt t 67 v3 v4 fun t1 =>
  hGetI t1 11 39 50 fun drawnAll2 =>
  hPutI t1 11 39 50 (drawnAll2 + v5) fun t3 =>
  j16 t3 (v1 ||| ((1 : Int32) <<< (v3 &&& 31))) (v2 + 1)) := by rfl
theorem fm_drawsAll_150_ok {r16 : SM → Int32 → Int32 → OR} (h_r16 : ∀ (t : SM) (v1 : Int32) (v2 : Int32), r16 t v1 v2 = some r → Body l 2 q_256 P_256 r 16 [(2, .int v2), (1, .int v1), (0, .ref 39)] [] t) (t : SM) (v1 : Int32) (v2 : Int32) (v3 : Int32) (v4 : Int32) (v5 : Int32) (h : fm_drawsAll_150 r16 t v1 v2 v3 v4 v5 = some r) : Body l 2 q_256 P_256 r 150 [(5, .int v5), (4, .int v4), (3, .int v3), (2, .int v2), (1, .int v1), (0, .ref 39)] [] t :=
  blk ft_256 (by omega) rfl rows_256 (KDok.cons (KOK.f <| KOK.i fun w1 => KOK.i fun w2 => KOK.e (f := fun t => r16 t w1 w2) fun t h => h_r16 t w1 w2 h) (KDok.nil)) ((congrFun (congrFun (congrFun (congrFun (congrFun (congrFun (congrFun (congrFun (fm_drawsAll_150_eq) F_187) (fun t u1 u2 => r16 t u1 u2)) t) v1) v2) v3) v4) v5).trans h)
theorem fm_drawsAll_144_eq : (fun (G187 : List Value → SM → OR) (j36 : SM → Int32 → Int32 → Int32 → Int32 → Int32 → Int32 → OR) (t : SM) (v1 : Int32) (v2 : Int32) (v3 : Int32) (v4 : Int32) (v5 : Int32) (v6 : Int32) => ex clN P_256 none bytJ (mkCal rks ((187, G187) :: [])) [36] (kDisp [(36, kF 0 39 <| kI 1 fun w1 => kI 2 fun w2 => kI 3 fun w3 => kI 4 fun w4 => kI 5 fun w5 => kI 6 fun w6 => kE fun t => j36 t w1 w2 w3 w4 w5 w6)]) 400 144 [(6, .int v6), (5, .int v5), (4, .int v4), (3, .int v3), (2, .int v2), (1, .int v1), (0, .ref 39)] [] t) = (fun (G187 : List Value → SM → OR) (j36 : SM → Int32 → Int32 → Int32 → Int32 → Int32 → Int32 → OR) (t : SM) (v1 : Int32) (v2 : Int32) (v3 : Int32) (v4 : Int32) (v5 : Int32) (v6 : Int32) =>
  j36 t v1 v2 v3 v4 v5 (v6 + 1)) := by rfl
theorem fm_drawsAll_144_ok {r36 : SM → Int32 → Int32 → Int32 → Int32 → Int32 → Int32 → OR} (h_r36 : ∀ (t : SM) (v1 : Int32) (v2 : Int32) (v3 : Int32) (v4 : Int32) (v5 : Int32) (v6 : Int32), r36 t v1 v2 v3 v4 v5 v6 = some r → Body l 2 q_256 P_256 r 36 [(6, .int v6), (5, .int v5), (4, .int v4), (3, .int v3), (2, .int v2), (1, .int v1), (0, .ref 39)] [] t) (t : SM) (v1 : Int32) (v2 : Int32) (v3 : Int32) (v4 : Int32) (v5 : Int32) (v6 : Int32) (h : fm_drawsAll_144 r36 t v1 v2 v3 v4 v5 v6 = some r) : Body l 2 q_256 P_256 r 144 [(6, .int v6), (5, .int v5), (4, .int v4), (3, .int v3), (2, .int v2), (1, .int v1), (0, .ref 39)] [] t :=
  blk ft_256 (by omega) rfl rows_256 (KDok.cons (KOK.f <| KOK.i fun w1 => KOK.i fun w2 => KOK.i fun w3 => KOK.i fun w4 => KOK.i fun w5 => KOK.i fun w6 => KOK.e (f := fun t => r36 t w1 w2 w3 w4 w5 w6) fun t h => h_r36 t w1 w2 w3 w4 w5 w6 h) (KDok.nil)) ((congrFun (congrFun (congrFun (congrFun (congrFun (congrFun (congrFun (congrFun (congrFun (fm_drawsAll_144_eq) F_187) (fun t u1 u2 u3 u4 u5 u6 => r36 t u1 u2 u3 u4 u5 u6)) t) v1) v2) v3) v4) v5) v6).trans h)
theorem fm_drawsAll_80_eq : (fun (G187 : List Value → SM → OR) (j48 : SM → Int32 → Int32 → Int32 → Int32 → Int32 → Int32 → Int32 → OR) (t : SM) (v1 : Int32) (v2 : Int32) (v3 : Int32) (v4 : Int32) (v5 : Int32) (v6 : Int32) (v7 : Int32) => ex clN P_256 none bytJ (mkCal rks ((187, G187) :: [])) [48] (kDisp [(48, kF 0 39 <| kI 1 fun w1 => kI 2 fun w2 => kI 3 fun w3 => kI 4 fun w4 => kI 5 fun w5 => kI 6 fun w6 => kI 7 fun w7 => kE fun t => j48 t w1 w2 w3 w4 w5 w6 w7)]) 400 80 [(7, .int v7), (6, .int v6), (5, .int v5), (4, .int v4), (3, .int v3), (2, .int v2), (1, .int v1), (0, .ref 39)] [] t) = (fun (G187 : List Value → SM → OR) (j48 : SM → Int32 → Int32 → Int32 → Int32 → Int32 → Int32 → Int32 → OR) (t : SM) (v1 : Int32) (v2 : Int32) (v3 : Int32) (v4 : Int32) (v5 : Int32) (v6 : Int32) (v7 : Int32) =>
  j48 t v1 v2 v3 v4 v5 v6 (v7 + 1)) := by rfl
theorem fm_drawsAll_80_ok {r48 : SM → Int32 → Int32 → Int32 → Int32 → Int32 → Int32 → Int32 → OR} (h_r48 : ∀ (t : SM) (v1 : Int32) (v2 : Int32) (v3 : Int32) (v4 : Int32) (v5 : Int32) (v6 : Int32) (v7 : Int32), r48 t v1 v2 v3 v4 v5 v6 v7 = some r → Body l 2 q_256 P_256 r 48 [(7, .int v7), (6, .int v6), (5, .int v5), (4, .int v4), (3, .int v3), (2, .int v2), (1, .int v1), (0, .ref 39)] [] t) (t : SM) (v1 : Int32) (v2 : Int32) (v3 : Int32) (v4 : Int32) (v5 : Int32) (v6 : Int32) (v7 : Int32) (h : fm_drawsAll_80 r48 t v1 v2 v3 v4 v5 v6 v7 = some r) : Body l 2 q_256 P_256 r 80 [(7, .int v7), (6, .int v6), (5, .int v5), (4, .int v4), (3, .int v3), (2, .int v2), (1, .int v1), (0, .ref 39)] [] t :=
  blk ft_256 (by omega) rfl rows_256 (KDok.cons (KOK.f <| KOK.i fun w1 => KOK.i fun w2 => KOK.i fun w3 => KOK.i fun w4 => KOK.i fun w5 => KOK.i fun w6 => KOK.i fun w7 => KOK.e (f := fun t => r48 t w1 w2 w3 w4 w5 w6 w7) fun t h => h_r48 t w1 w2 w3 w4 w5 w6 w7 h) (KDok.nil)) ((congrFun (congrFun (congrFun (congrFun (congrFun (congrFun (congrFun (congrFun (congrFun (congrFun (fm_drawsAll_80_eq) F_187) (fun t u1 u2 u3 u4 u5 u6 u7 => r48 t u1 u2 u3 u4 u5 u6 u7)) t) v1) v2) v3) v4) v5) v6) v7).trans h)
theorem fm_drawsAll_48_eq : (fun (G187 : List Value → SM → OR) (j48 : SM → Int32 → Int32 → Int32 → Int32 → Int32 → Int32 → Int32 → OR) (j80 : SM → Int32 → Int32 → Int32 → Int32 → Int32 → Int32 → Int32 → OR) (j144 : SM → Int32 → Int32 → Int32 → Int32 → Int32 → Int32 → OR) (t : SM) (v1 : Int32) (v2 : Int32) (v3 : Int32) (v4 : Int32) (v5 : Int32) (v6 : Int32) (v7 : Int32) => ex clN P_256 none bytJ (mkCal rks ((187, G187) :: [])) [48, 80, 144] (kDisp [(48, kF 0 39 <| kI 1 fun w1 => kI 2 fun w2 => kI 3 fun w3 => kI 4 fun w4 => kI 5 fun w5 => kI 6 fun w6 => kI 7 fun w7 => kE fun t => j48 t w1 w2 w3 w4 w5 w6 w7), (80, kF 0 39 <| kI 1 fun w1 => kI 2 fun w2 => kI 3 fun w3 => kI 4 fun w4 => kI 5 fun w5 => kI 6 fun w6 => kI 7 fun w7 => kE fun t => j80 t w1 w2 w3 w4 w5 w6 w7), (144, kF 0 39 <| kI 1 fun w1 => kI 2 fun w2 => kI 3 fun w3 => kI 4 fun w4 => kI 5 fun w5 => kI 6 fun w6 => kE fun t => j144 t w1 w2 w3 w4 w5 w6)]) 400 48 [(7, .int v7), (6, .int v6), (5, .int v5), (4, .int v4), (3, .int v3), (2, .int v2), (1, .int v1), (0, .ref 39)] [] t) = (fun (G187 : List Value → SM → OR) (j48 : SM → Int32 → Int32 → Int32 → Int32 → Int32 → Int32 → Int32 → OR) (j80 : SM → Int32 → Int32 → Int32 → Int32 → Int32 → Int32 → Int32 → OR) (j144 : SM → Int32 → Int32 → Int32 → Int32 → Int32 → Int32 → OR) (t : SM) (v1 : Int32) (v2 : Int32) (v3 : Int32) (v4 : Int32) (v5 : Int32) (v6 : Int32) (v7 : Int32) =>
  hGetI t 11 39 3 fun maps1 =>
  if maps1 ≤ v7 then j144 t v1 v2 v3 v4 v5 v6
  else if ((v1 >>> (v6 &&& 31)) &&& 1) = 0 then if ((v1 >>> (v7 &&& 31)) &&& 1) = 1 then hGetC t 11 39 5 41 <|
  hALd t 41 v6 fun e2 =>
  hGetC t 11 39 5 41 <|
  hALd t 41 v7 fun e3 =>
  bI (G187 [.int (e2 ^^^ e3)] t) fun ones5 t4 =>
  if v5 ≤ ones5 then j48 t4 v1 v2 v3 v4 v5 v6 (v7 + 1)
  else hGetC t4 11 39 5 41 <|
  hALd t4 41 v6 fun e6 =>
  hGetC t4 11 39 5 41 <|
  hALd t4 41 v7 fun e7 =>
  bI (G187 [.int (e6 ^^^ e7)] t4) fun ones9 t8 =>
  j48 t8 v1 v2 v6 v7 ones9 v6 (v7 + 1)
  else j80 t v1 v2 v3 v4 v5 v6 v7
  else j80 t v1 v2 v3 v4 v5 v6 v7) := by rfl
theorem fm_drawsAll_48_ok {k144 : SM → Int32 → Int32 → Int32 → Int32 → Int32 → Int32 → OR} {r48 : SM → Int32 → Int32 → Int32 → Int32 → Int32 → Int32 → Int32 → OR} (h_k144 : ∀ (t : SM) (v1 : Int32) (v2 : Int32) (v3 : Int32) (v4 : Int32) (v5 : Int32) (v6 : Int32), k144 t v1 v2 v3 v4 v5 v6 = some r → Body l 2 q_256 P_256 r 144 [(6, .int v6), (5, .int v5), (4, .int v4), (3, .int v3), (2, .int v2), (1, .int v1), (0, .ref 39)] [] t) (h_r48 : ∀ (t : SM) (v1 : Int32) (v2 : Int32) (v3 : Int32) (v4 : Int32) (v5 : Int32) (v6 : Int32) (v7 : Int32), r48 t v1 v2 v3 v4 v5 v6 v7 = some r → Body l 2 q_256 P_256 r 48 [(7, .int v7), (6, .int v6), (5, .int v5), (4, .int v4), (3, .int v3), (2, .int v2), (1, .int v1), (0, .ref 39)] [] t) (t : SM) (v1 : Int32) (v2 : Int32) (v3 : Int32) (v4 : Int32) (v5 : Int32) (v6 : Int32) (v7 : Int32) (h : fm_drawsAll_48 k144 r48 t v1 v2 v3 v4 v5 v6 v7 = some r) : Body l 2 q_256 P_256 r 48 [(7, .int v7), (6, .int v6), (5, .int v5), (4, .int v4), (3, .int v3), (2, .int v2), (1, .int v1), (0, .ref 39)] [] t :=
  blk ft_256 (by omega) rfl rows_256 (KDok.cons (KOK.f <| KOK.i fun w1 => KOK.i fun w2 => KOK.i fun w3 => KOK.i fun w4 => KOK.i fun w5 => KOK.i fun w6 => KOK.i fun w7 => KOK.e (f := fun t => r48 t w1 w2 w3 w4 w5 w6 w7) fun t h => h_r48 t w1 w2 w3 w4 w5 w6 w7 h) (KDok.cons (KOK.f <| KOK.i fun w1 => KOK.i fun w2 => KOK.i fun w3 => KOK.i fun w4 => KOK.i fun w5 => KOK.i fun w6 => KOK.i fun w7 => KOK.e (f := fun t => fm_drawsAll_80 r48 t w1 w2 w3 w4 w5 w6 w7) fun t h => fm_drawsAll_80_ok h_r48 t w1 w2 w3 w4 w5 w6 w7 h) (KDok.cons (KOK.f <| KOK.i fun w1 => KOK.i fun w2 => KOK.i fun w3 => KOK.i fun w4 => KOK.i fun w5 => KOK.i fun w6 => KOK.e (f := fun t => k144 t w1 w2 w3 w4 w5 w6) fun t h => h_k144 t w1 w2 w3 w4 w5 w6 h) (KDok.nil)))) ((congrFun (congrFun (congrFun (congrFun (congrFun (congrFun (congrFun (congrFun (congrFun (congrFun (congrFun (congrFun (fm_drawsAll_48_eq) F_187) (fun t u1 u2 u3 u4 u5 u6 u7 => r48 t u1 u2 u3 u4 u5 u6 u7)) (fun t u1 u2 u3 u4 u5 u6 u7 => fm_drawsAll_80 r48 t u1 u2 u3 u4 u5 u6 u7)) (fun t u1 u2 u3 u4 u5 u6 => k144 t u1 u2 u3 u4 u5 u6)) t) v1) v2) v3) v4) v5) v6) v7).trans h)
theorem fm_drawsAll_l48_ok {k144 : SM → Int32 → Int32 → Int32 → Int32 → Int32 → Int32 → OR} (h_k144 : ∀ (t : SM) (v1 : Int32) (v2 : Int32) (v3 : Int32) (v4 : Int32) (v5 : Int32) (v6 : Int32), k144 t v1 v2 v3 v4 v5 v6 = some r → Body l 2 q_256 P_256 r 144 [(6, .int v6), (5, .int v5), (4, .int v4), (3, .int v3), (2, .int v2), (1, .int v1), (0, .ref 39)] [] t) : ∀ (n : Nat) (t : SM) (v1 : Int32) (v2 : Int32) (v3 : Int32) (v4 : Int32) (v5 : Int32) (v6 : Int32) (v7 : Int32), fm_drawsAll_l48 k144 n t v1 v2 v3 v4 v5 v6 v7 = some r → Body l 2 q_256 P_256 r 48 [(7, .int v7), (6, .int v6), (5, .int v5), (4, .int v4), (3, .int v3), (2, .int v2), (1, .int v1), (0, .ref 39)] [] t
  | 0, _, _, _, _, _, _, _, _, h => by cases h
  | n + 1, t, v1, v2, v3, v4, v5, v6, v7, h => fm_drawsAll_48_ok h_k144 (fm_drawsAll_l48_ok h_k144 n) t v1 v2 v3 v4 v5 v6 v7 h
theorem fm_drawsAll_36_eq : (fun (G187 : List Value → SM → OR) (j48 : SM → Int32 → Int32 → Int32 → Int32 → Int32 → Int32 → Int32 → OR) (j150 : SM → Int32 → Int32 → Int32 → Int32 → Int32 → OR) (t : SM) (v1 : Int32) (v2 : Int32) (v3 : Int32) (v4 : Int32) (v5 : Int32) (v6 : Int32) => ex clN P_256 none bytJ (mkCal rks ((187, G187) :: [])) [48, 150] (kDisp [(48, kF 0 39 <| kI 1 fun w1 => kI 2 fun w2 => kI 3 fun w3 => kI 4 fun w4 => kI 5 fun w5 => kI 6 fun w6 => kI 7 fun w7 => kE fun t => j48 t w1 w2 w3 w4 w5 w6 w7), (150, kF 0 39 <| kI 1 fun w1 => kI 2 fun w2 => kI 3 fun w3 => kI 4 fun w4 => kI 5 fun w5 => kE fun t => j150 t w1 w2 w3 w4 w5)]) 400 36 [(6, .int v6), (5, .int v5), (4, .int v4), (3, .int v3), (2, .int v2), (1, .int v1), (0, .ref 39)] [] t) = (fun (G187 : List Value → SM → OR) (j48 : SM → Int32 → Int32 → Int32 → Int32 → Int32 → Int32 → Int32 → OR) (j150 : SM → Int32 → Int32 → Int32 → Int32 → Int32 → OR) (t : SM) (v1 : Int32) (v2 : Int32) (v3 : Int32) (v4 : Int32) (v5 : Int32) (v6 : Int32) =>
  hGetI t 11 39 3 fun maps1 =>
  if maps1 ≤ v6 then j150 t v1 v2 v3 v4 v5
  else j48 t v1 v2 v3 v4 v5 v6 0) := by rfl
theorem fm_drawsAll_36_ok {k150 : SM → Int32 → Int32 → Int32 → Int32 → Int32 → OR} {r36 : SM → Int32 → Int32 → Int32 → Int32 → Int32 → Int32 → OR} (h_k150 : ∀ (t : SM) (v1 : Int32) (v2 : Int32) (v3 : Int32) (v4 : Int32) (v5 : Int32), k150 t v1 v2 v3 v4 v5 = some r → Body l 2 q_256 P_256 r 150 [(5, .int v5), (4, .int v4), (3, .int v3), (2, .int v2), (1, .int v1), (0, .ref 39)] [] t) (h_r36 : ∀ (t : SM) (v1 : Int32) (v2 : Int32) (v3 : Int32) (v4 : Int32) (v5 : Int32) (v6 : Int32), r36 t v1 v2 v3 v4 v5 v6 = some r → Body l 2 q_256 P_256 r 36 [(6, .int v6), (5, .int v5), (4, .int v4), (3, .int v3), (2, .int v2), (1, .int v1), (0, .ref 39)] [] t) (t : SM) (v1 : Int32) (v2 : Int32) (v3 : Int32) (v4 : Int32) (v5 : Int32) (v6 : Int32) (h : fm_drawsAll_36 k150 r36 t v1 v2 v3 v4 v5 v6 = some r) : Body l 2 q_256 P_256 r 36 [(6, .int v6), (5, .int v5), (4, .int v4), (3, .int v3), (2, .int v2), (1, .int v1), (0, .ref 39)] [] t :=
  blk ft_256 (by omega) rfl rows_256 (KDok.cons (KOK.f <| KOK.i fun w1 => KOK.i fun w2 => KOK.i fun w3 => KOK.i fun w4 => KOK.i fun w5 => KOK.i fun w6 => KOK.i fun w7 => KOK.e (f := fun t => fm_drawsAll_l48 (fun t u1 u2 u3 u4 u5 u6 => fm_drawsAll_144 r36 t u1 u2 u3 u4 u5 u6) 1000000 t w1 w2 w3 w4 w5 w6 w7) fun t h => fm_drawsAll_l48_ok (k144 := fun t u1 u2 u3 u4 u5 u6 => fm_drawsAll_144 r36 t u1 u2 u3 u4 u5 u6) (fun t u1 u2 u3 u4 u5 u6 h => fm_drawsAll_144_ok h_r36 t u1 u2 u3 u4 u5 u6 h) 1000000 t w1 w2 w3 w4 w5 w6 w7 h) (KDok.cons (KOK.f <| KOK.i fun w1 => KOK.i fun w2 => KOK.i fun w3 => KOK.i fun w4 => KOK.i fun w5 => KOK.e (f := fun t => k150 t w1 w2 w3 w4 w5) fun t h => h_k150 t w1 w2 w3 w4 w5 h) (KDok.nil))) ((congrFun (congrFun (congrFun (congrFun (congrFun (congrFun (congrFun (congrFun (congrFun (congrFun (fm_drawsAll_36_eq) F_187) (fun t u1 u2 u3 u4 u5 u6 u7 => fm_drawsAll_l48 (fun t u1 u2 u3 u4 u5 u6 => fm_drawsAll_144 r36 t u1 u2 u3 u4 u5 u6) 1000000 t u1 u2 u3 u4 u5 u6 u7)) (fun t u1 u2 u3 u4 u5 => k150 t u1 u2 u3 u4 u5)) t) v1) v2) v3) v4) v5) v6).trans h)
theorem fm_drawsAll_l36_ok {k150 : SM → Int32 → Int32 → Int32 → Int32 → Int32 → OR} (h_k150 : ∀ (t : SM) (v1 : Int32) (v2 : Int32) (v3 : Int32) (v4 : Int32) (v5 : Int32), k150 t v1 v2 v3 v4 v5 = some r → Body l 2 q_256 P_256 r 150 [(5, .int v5), (4, .int v4), (3, .int v3), (2, .int v2), (1, .int v1), (0, .ref 39)] [] t) : ∀ (n : Nat) (t : SM) (v1 : Int32) (v2 : Int32) (v3 : Int32) (v4 : Int32) (v5 : Int32) (v6 : Int32), fm_drawsAll_l36 k150 n t v1 v2 v3 v4 v5 v6 = some r → Body l 2 q_256 P_256 r 36 [(6, .int v6), (5, .int v5), (4, .int v4), (3, .int v3), (2, .int v2), (1, .int v1), (0, .ref 39)] [] t
  | 0, _, _, _, _, _, _, _, h => by cases h
  | n + 1, t, v1, v2, v3, v4, v5, v6, h => fm_drawsAll_36_ok h_k150 (fm_drawsAll_l36_ok h_k150 n) t v1 v2 v3 v4 v5 v6 h
theorem fm_drawsAll_16_eq : (fun (G187 : List Value → SM → OR) (j36 : SM → Int32 → Int32 → Int32 → Int32 → Int32 → Int32 → OR) (t : SM) (v1 : Int32) (v2 : Int32) => ex clN P_256 none bytJ (mkCal rks ((187, G187) :: [])) [36] (kDisp [(36, kF 0 39 <| kI 1 fun w1 => kI 2 fun w2 => kI 3 fun w3 => kI 4 fun w4 => kI 5 fun w5 => kI 6 fun w6 => kE fun t => j36 t w1 w2 w3 w4 w5 w6)]) 400 16 [(2, .int v2), (1, .int v1), (0, .ref 39)] [] t) = (fun (G187 : List Value → SM → OR) (j36 : SM → Int32 → Int32 → Int32 → Int32 → Int32 → Int32 → OR) (t : SM) (v1 : Int32) (v2 : Int32) =>
  hGetI t 11 39 3 fun maps1 =>
  if maps1 ≤ v2 then rV t
  else j36 t v1 v2 (-1) (-1) 99 0) := by rfl
theorem fm_drawsAll_16_ok {r16 : SM → Int32 → Int32 → OR} (h_r16 : ∀ (t : SM) (v1 : Int32) (v2 : Int32), r16 t v1 v2 = some r → Body l 2 q_256 P_256 r 16 [(2, .int v2), (1, .int v1), (0, .ref 39)] [] t) (t : SM) (v1 : Int32) (v2 : Int32) (h : fm_drawsAll_16 r16 t v1 v2 = some r) : Body l 2 q_256 P_256 r 16 [(2, .int v2), (1, .int v1), (0, .ref 39)] [] t :=
  blk ft_256 (by omega) rfl rows_256 (KDok.cons (KOK.f <| KOK.i fun w1 => KOK.i fun w2 => KOK.i fun w3 => KOK.i fun w4 => KOK.i fun w5 => KOK.i fun w6 => KOK.e (f := fun t => fm_drawsAll_l36 (fun t u1 u2 u3 u4 u5 => fm_drawsAll_150 r16 t u1 u2 u3 u4 u5) 1000000 t w1 w2 w3 w4 w5 w6) fun t h => fm_drawsAll_l36_ok (k150 := fun t u1 u2 u3 u4 u5 => fm_drawsAll_150 r16 t u1 u2 u3 u4 u5) (fun t u1 u2 u3 u4 u5 h => fm_drawsAll_150_ok h_r16 t u1 u2 u3 u4 u5 h) 1000000 t w1 w2 w3 w4 w5 w6 h) (KDok.nil)) ((congrFun (congrFun (congrFun (congrFun (congrFun (fm_drawsAll_16_eq) F_187) (fun t u1 u2 u3 u4 u5 u6 => fm_drawsAll_l36 (fun t u1 u2 u3 u4 u5 => fm_drawsAll_150 r16 t u1 u2 u3 u4 u5) 1000000 t u1 u2 u3 u4 u5 u6)) t) v1) v2).trans h)
theorem fm_drawsAll_l16_ok : ∀ (n : Nat) (t : SM) (v1 : Int32) (v2 : Int32), fm_drawsAll_l16 n t v1 v2 = some r → Body l 2 q_256 P_256 r 16 [(2, .int v2), (1, .int v1), (0, .ref 39)] [] t
  | 0, _, _, _, h => by cases h
  | n + 1, t, v1, v2, h => fm_drawsAll_16_ok (fm_drawsAll_l16_ok n) t v1 v2 h
theorem fm_drawsAll_eq : (fun (G187 : List Value → SM → OR) (j16 : SM → Int32 → Int32 → OR) (t : SM) => ex clN P_256 none bytJ (mkCal rks ((187, G187) :: [])) [16] (kDisp [(16, kF 0 39 <| kI 1 fun w1 => kI 2 fun w2 => kE fun t => j16 t w1 w2)]) 400 0 [(0, .ref 39)] [] t) = (fun (G187 : List Value → SM → OR) (j16 : SM → Int32 → Int32 → OR) (t : SM) =>
  hPutI t 11 39 50 0 fun t1 =>
  hGetC t1 11 39 49 67 <|
  hASt t1 67 0 (-1) fun t2 =>
  j16 t2 1 1) := by rfl
theorem fm_drawsAll_ok (t : SM) (h : fm_drawsAll t = some r) : Body l 2 q_256 P_256 r 0 [(0, .ref 39)] [] t :=
  blk ft_256 (by omega) rfl rows_256 (KDok.cons (KOK.f <| KOK.i fun w1 => KOK.i fun w2 => KOK.e (f := fun t => fm_drawsAll_l16 1000000 t w1 w2) fun t h => fm_drawsAll_l16_ok 1000000 t w1 w2 h) (KDok.nil)) ((congrFun (congrFun (congrFun (fm_drawsAll_eq) F_187) (fun t u1 u2 => fm_drawsAll_l16 1000000 t u1 u2)) t).trans h)
theorem ok_256 (l : Launch) : Fok l 2 mtab 256 (F_256) := by
  intro as t r h
  unfold F_256 at h
  split at h
  · rename_i z0
    split at h
    · rename_i hz0
      obtain rfl := Nat.eq_of_beq_eq_true hz0
      exact ⟨q_256, rfl, mok_256, con_of (P := P_256) (by decide +kernel) rfl (Nat.le_of_ble_eq_true rfl) (fm_drawsAll_ok t h)⟩
    · cases h
  · cases h
end
section
set_option maxRecDepth 100000
variable {l : Launch} {r : RR}
def FT_257 : FT := (256, F_256) :: []
theorem ft_257 : FTok l 3 mtab FT_257 := FTok.cons (ok_256 l) (by omega) (FTok.nil)
theorem fm_tree_eq : (fun (G256 : List Value → SM → OR) (t : SM) => ex clN P_257 none bytJ (mkCal rks ((256, G256) :: [])) [] (kDisp []) 400 0 [(0, .ref 39)] [] t) = (fun (G256 : List Value → SM → OR) (t : SM) =>
  hRecv t 11 39 <| bV (G256 [.ref 39] t) fun t1 =>
  hGetI t1 11 39 50 fun drawnAll2 =>
  rI drawnAll2 t1) := by rfl
theorem fm_tree_ok (t : SM) (h : fm_tree t = some r) : Body l 3 q_257 P_257 r 0 [(0, .ref 39)] [] t :=
  blk ft_257 (by omega) rfl rows_257 (KDok.nil) ((congrFun (congrFun (fm_tree_eq) F_256) t).trans h)
theorem ok_257 (l : Launch) : Fok l 3 mtab 257 (F_257) := by
  intro as t r h
  unfold F_257 at h
  split at h
  · rename_i z0
    split at h
    · rename_i hz0
      obtain rfl := Nat.eq_of_beq_eq_true hz0
      exact ⟨q_257, rfl, mok_257, con_of (P := P_257) (by decide +kernel) rfl (Nat.le_of_ble_eq_true rfl) (fm_tree_ok t h)⟩
    · cases h
  · cases h
end
section
set_option maxRecDepth 100000
variable {l : Launch} {r : RR}
def FT_258 : FT := (184, F_184) :: (256, F_256) :: []
theorem ft_258 : FTok l 3 mtab FT_258 := FTok.cons (ok_184 l) (by omega) (FTok.cons (ok_256 l) (by omega) (FTok.nil))
theorem fm_drawnFrom_eq : (fun (G184 : List Value → SM → OR) (G256 : List Value → SM → OR) (t : SM) (a : Int32) => ex clN P_258 none bytJ (mkCal rks ((184, G184) :: (256, G256) :: [])) [] (kDisp []) 400 0 [(0, .ref 39), (1, .int a)] [] t) = (fun (G184 : List Value → SM → OR) (G256 : List Value → SM → OR) (t : SM) (a : Int32) =>
  hRecv t 11 39 <| bI (G184 [.ref 39, .int a] t) fun isMap2 t1 =>
  if isMap2 = 0 then rI (-5) t1
  else hRecv t1 11 39 <| bV (G256 [.ref 39] t1) fun t3 =>
    hGetC t3 11 39 49 67 <|
    hALd t3 67 a fun e4 =>
    rI e4 t3) := by rfl
theorem fm_drawnFrom_ok (t : SM) (a : Int32) (h : fm_drawnFrom t a = some r) : Body l 3 q_258 P_258 r 0 [(0, .ref 39), (1, .int a)] [] t :=
  blk ft_258 (by omega) rfl rows_258 (KDok.nil) ((congrFun (congrFun (congrFun (congrFun (fm_drawnFrom_eq) F_184) F_256) t) a).trans h)
theorem ok_258 (l : Launch) : Fok l 3 mtab 258 (F_258) := by
  intro as t r h
  unfold F_258 at h
  split at h
  · rename_i z0 a
    split at h
    · rename_i hz0
      obtain rfl := Nat.eq_of_beq_eq_true hz0
      exact ⟨q_258, rfl, mok_258, con_of (P := P_258) (by decide +kernel) rfl (Nat.le_of_ble_eq_true rfl) (fm_drawnFrom_ok t a h)⟩
    · cases h
  · cases h
end
section
set_option maxRecDepth 100000
variable {l : Launch} {r : RR}
def FT_259 : FT := []
theorem ft_259 : FTok l 1 mtab FT_259 := FTok.nil
theorem fm_shows_eq : (fun (t : SM) (a : Int32) => ex clN P_259 none bytJ (mkCal rks ([])) [] (kDisp []) 400 0 [(0, .ref 39), (1, .int a)] [] t) = (fun (t : SM) (a : Int32) =>
  hGetC t 11 39 4 40 <|
  hALd t 40 a fun e1 =>
  if e1 = 3 then hGetC t 11 39 6 42 <|
  hALd t 42 a fun e3 =>
  rI e3 t
  else hGetI t 11 39 0 fun choices2 =>
    rI (((1 : Int32) <<< (choices2 &&& 31)) - 1) t) := by rfl
theorem fm_shows_ok (t : SM) (a : Int32) (h : fm_shows t a = some r) : Body l 1 q_259 P_259 r 0 [(0, .ref 39), (1, .int a)] [] t :=
  blk ft_259 (by omega) rfl rows_259 (KDok.nil) ((congrFun (congrFun (fm_shows_eq) t) a).trans h)
theorem ok_259 (l : Launch) : Fok l 1 mtab 259 (F_259) := by
  intro as t r h
  unfold F_259 at h
  split at h
  · rename_i z0 a
    split at h
    · rename_i hz0
      obtain rfl := Nat.eq_of_beq_eq_true hz0
      exact ⟨q_259, rfl, mok_259, con_of (P := P_259) (by decide +kernel) rfl (Nat.le_of_ble_eq_true rfl) (fm_shows_ok t a h)⟩
    · cases h
  · cases h
end
section
set_option maxRecDepth 100000
variable {l : Launch} {r : RR}
def FT_260 : FT := (184, F_184) :: (182, F_182) :: (259, F_259) :: (187, F_187) :: []
theorem ft_260 : FTok l 3 mtab FT_260 := FTok.cons (ok_184 l) (by omega) (FTok.cons (ok_182 l) (by omega) (FTok.cons (ok_259 l) (by omega) (FTok.cons (ok_187 l) (by omega) (FTok.nil))))
theorem fm_over_eq : (fun (G184 : List Value → SM → OR) (G182 : List Value → SM → OR) (G259 : List Value → SM → OR) (G187 : List Value → SM → OR) (t : SM) (a : Int32) (b : Int32) (c : Int32) => ex clN P_260 none bytJ (mkCal rks ((184, G184) :: (182, G182) :: (259, G259) :: (187, G187) :: [])) [] (kDisp []) 400 0 [(0, .ref 39), (1, .int a), (2, .int b), (3, .int c)] [] t) = (fun (G184 : List Value → SM → OR) (G182 : List Value → SM → OR) (G259 : List Value → SM → OR) (G187 : List Value → SM → OR) (t : SM) (a : Int32) (b : Int32) (c : Int32) =>
  hRecv t 11 39 <| bI (G184 [.ref 39, .int a] t) fun isMap2 t1 =>
  if isMap2 = 0 then rI (-5) t1
  else hRecv t1 11 39 <| bI (G184 [.ref 39, .int b] t1) fun isMap4 t3 =>
  if isMap4 = 0 then rI (-5) t3
  else bI (G182 [.int c, .int 0, .int 1] t3) fun in6 t5 =>
    if in6 = 0 then rI (-7) t5
    else hRecv t5 11 39 <| bI (G259 [.ref 39, .int a] t5) fun shows8 t7 =>
      hRecv t7 11 39 <| bI (G259 [.ref 39, .int b] t7) fun shows10 t9 =>
      hGetC t9 11 39 5 41 <|
      hALd t9 41 a fun e11 =>
      hGetC t9 11 39 5 41 <|
      hALd t9 41 b fun e12 =>
      if c = 0 then rI ((shows8 &&& shows10) &&& (e11 ^^^ e12)) t9
      else bI (G187 [.int ((shows8 &&& shows10) &&& (e11 ^^^ e12))] t9) fun ones14 t13 =>
        rI ones14 t13) := by rfl
theorem fm_over_ok (t : SM) (a : Int32) (b : Int32) (c : Int32) (h : fm_over t a b c = some r) : Body l 3 q_260 P_260 r 0 [(0, .ref 39), (1, .int a), (2, .int b), (3, .int c)] [] t :=
  blk ft_260 (by omega) rfl rows_260 (KDok.nil) ((congrFun (congrFun (congrFun (congrFun (congrFun (congrFun (congrFun (congrFun (fm_over_eq) F_184) F_182) F_259) F_187) t) a) b) c).trans h)
theorem ok_260 (l : Launch) : Fok l 3 mtab 260 (F_260) := by
  intro as t r h
  unfold F_260 at h
  split at h
  · rename_i z0 a b c
    split at h
    · rename_i hz0
      obtain rfl := Nat.eq_of_beq_eq_true hz0
      exact ⟨q_260, rfl, mok_260, con_of (P := P_260) (by decide +kernel) rfl (Nat.le_of_ble_eq_true rfl) (fm_over_ok t a b c h)⟩
    · cases h
  · cases h
end
section
set_option maxRecDepth 100000
variable {l : Launch} {r : RR}
def FT_261 : FT := (216, F_216) :: (217, F_217) :: []
theorem ft_261 : FTok l 6 mtab FT_261 := FTok.cons (ok_216 l) (by omega) (FTok.cons (ok_217 l) (by omega) (FTok.nil))
theorem fm_join_42_eq : (fun (G216 : List Value → SM → OR) (G217 : List Value → SM → OR) (t : SM) (v1 : Int32) => ex clN P_261 none bytJ (mkCal rks ((216, G216) :: (217, G217) :: [])) [] (kDisp []) 400 42 [(1, .int v1), (0, .ref 39)] [] t) = (fun (G216 : List Value → SM → OR) (G217 : List Value → SM → OR) (t : SM) (v1 : Int32) =>
  hRecv t 11 39 <| bI (G217 [.ref 39, .int v1] t) fun countBy2 t1 =>
  rI countBy2 t1) := by rfl
theorem fm_join_42_ok (t : SM) (v1 : Int32) (h : fm_join_42 t v1 = some r) : Body l 6 q_261 P_261 r 42 [(1, .int v1), (0, .ref 39)] [] t :=
  blk ft_261 (by omega) rfl rows_261 (KDok.nil) ((congrFun (congrFun (congrFun (congrFun (fm_join_42_eq) F_216) F_217) t) v1).trans h)
theorem fm_join_8_eq : (fun (G216 : List Value → SM → OR) (G217 : List Value → SM → OR) (j8 : SM → Int32 → Int32 → OR) (j42 : SM → Int32 → OR) (t : SM) (v1 : Int32) (v2 : Int32) => ex clN P_261 none bytJ (mkCal rks ((216, G216) :: (217, G217) :: [])) [8, 42] (kDisp [(8, kF 0 39 <| kI 1 fun w1 => kI 2 fun w2 => kE fun t => j8 t w1 w2), (42, kF 0 39 <| kI 1 fun w1 => kE fun t => j42 t w1)]) 400 8 [(2, .int v2), (1, .int v1), (0, .ref 39)] [] t) = (fun (G216 : List Value → SM → OR) (G217 : List Value → SM → OR) (j8 : SM → Int32 → Int32 → OR) (j42 : SM → Int32 → OR) (t : SM) (v1 : Int32) (v2 : Int32) =>
  hGetI t 11 39 3 fun maps1 =>
  if maps1 ≤ v2 then j42 t v1
  else hGetC t 11 39 4 40 <|
  hALd t 40 v2 fun e2 =>
  if e2 = 3 then j8 t (v1 ||| ((1 : Int32) <<< (v2 &&& 31))) (v2 + 1)
  else j8 t (v1 ||| 0) (v2 + 1)) := by rfl
theorem fm_join_8_ok {k42 : SM → Int32 → OR} {r8 : SM → Int32 → Int32 → OR} (h_k42 : ∀ (t : SM) (v1 : Int32), k42 t v1 = some r → Body l 6 q_261 P_261 r 42 [(1, .int v1), (0, .ref 39)] [] t) (h_r8 : ∀ (t : SM) (v1 : Int32) (v2 : Int32), r8 t v1 v2 = some r → Body l 6 q_261 P_261 r 8 [(2, .int v2), (1, .int v1), (0, .ref 39)] [] t) (t : SM) (v1 : Int32) (v2 : Int32) (h : fm_join_8 k42 r8 t v1 v2 = some r) : Body l 6 q_261 P_261 r 8 [(2, .int v2), (1, .int v1), (0, .ref 39)] [] t :=
  blk ft_261 (by omega) rfl rows_261 (KDok.cons (KOK.f <| KOK.i fun w1 => KOK.i fun w2 => KOK.e (f := fun t => r8 t w1 w2) fun t h => h_r8 t w1 w2 h) (KDok.cons (KOK.f <| KOK.i fun w1 => KOK.e (f := fun t => k42 t w1) fun t h => h_k42 t w1 h) (KDok.nil))) ((congrFun (congrFun (congrFun (congrFun (congrFun (congrFun (congrFun (fm_join_8_eq) F_216) F_217) (fun t u1 u2 => r8 t u1 u2)) (fun t u1 => k42 t u1)) t) v1) v2).trans h)
theorem fm_join_l8_ok {k42 : SM → Int32 → OR} (h_k42 : ∀ (t : SM) (v1 : Int32), k42 t v1 = some r → Body l 6 q_261 P_261 r 42 [(1, .int v1), (0, .ref 39)] [] t) : ∀ (n : Nat) (t : SM) (v1 : Int32) (v2 : Int32), fm_join_l8 k42 n t v1 v2 = some r → Body l 6 q_261 P_261 r 8 [(2, .int v2), (1, .int v1), (0, .ref 39)] [] t
  | 0, _, _, _, h => by cases h
  | n + 1, t, v1, v2, h => fm_join_8_ok h_k42 (fm_join_l8_ok h_k42 n) t v1 v2 h
theorem fm_join_eq : (fun (G216 : List Value → SM → OR) (G217 : List Value → SM → OR) (j8 : SM → Int32 → Int32 → OR) (t : SM) => ex clN P_261 none bytJ (mkCal rks ((216, G216) :: (217, G217) :: [])) [8] (kDisp [(8, kF 0 39 <| kI 1 fun w1 => kI 2 fun w2 => kE fun t => j8 t w1 w2)]) 400 0 [(0, .ref 39)] [] t) = (fun (G216 : List Value → SM → OR) (G217 : List Value → SM → OR) (j8 : SM → Int32 → Int32 → OR) (t : SM) =>
  hRecv t 11 39 <| bV (G216 [.ref 39] t) fun t1 =>
  j8 t1 0 0) := by rfl
theorem fm_join_ok (t : SM) (h : fm_join t = some r) : Body l 6 q_261 P_261 r 0 [(0, .ref 39)] [] t :=
  blk ft_261 (by omega) rfl rows_261 (KDok.cons (KOK.f <| KOK.i fun w1 => KOK.i fun w2 => KOK.e (f := fun t => fm_join_l8 (fun t u1 => fm_join_42 t u1) 1000000 t w1 w2) fun t h => fm_join_l8_ok (k42 := fun t u1 => fm_join_42 t u1) (fun t u1 h => fm_join_42_ok t u1 h) 1000000 t w1 w2 h) (KDok.nil)) ((congrFun (congrFun (congrFun (congrFun (fm_join_eq) F_216) F_217) (fun t u1 u2 => fm_join_l8 (fun t u1 => fm_join_42 t u1) 1000000 t u1 u2)) t).trans h)
theorem ok_261 (l : Launch) : Fok l 6 mtab 261 (F_261) := by
  intro as t r h
  unfold F_261 at h
  split at h
  · rename_i z0
    split at h
    · rename_i hz0
      obtain rfl := Nat.eq_of_beq_eq_true hz0
      exact ⟨q_261, rfl, mok_261, con_of (P := P_261) (by decide +kernel) rfl (Nat.le_of_ble_eq_true rfl) (fm_join_ok t h)⟩
    · cases h
  · cases h
end
section
set_option maxRecDepth 100000
variable {l : Launch} {r : RR}
def FT_262 : FT := (184, F_184) :: (182, F_182) :: (216, F_216) :: (218, F_218) :: (187, F_187) :: []
theorem ft_262 : FTok l 6 mtab FT_262 := FTok.cons (ok_184 l) (by omega) (FTok.cons (ok_182 l) (by omega) (FTok.cons (ok_216 l) (by omega) (FTok.cons (ok_218 l) (by omega) (FTok.cons (ok_187 l) (by omega) (FTok.nil)))))
theorem fm_years_44_eq : (fun (G184 : List Value → SM → OR) (G182 : List Value → SM → OR) (G216 : List Value → SM → OR) (G218 : List Value → SM → OR) (G187 : List Value → SM → OR) (j44 : SM → Int32 → Int32 → Int32 → Int32 → Int32 → OR) (t : SM) (v1 : Int32) (v2 : Int32) (v3 : Int32) (v4 : Int32) (v5 : Int32) => ex clN P_262 none bytJ (mkCal rks ((184, G184) :: (182, G182) :: (216, G216) :: (218, G218) :: (187, G187) :: [])) [44] (kDisp [(44, kF 0 39 <| kI 1 fun w1 => kI 2 fun w2 => kI 3 fun w3 => kI 4 fun w4 => kI 5 fun w5 => kE fun t => j44 t w1 w2 w3 w4 w5)]) 400 44 [(5, .int v5), (4, .int v4), (3, .int v3), (2, .int v2), (1, .int v1), (0, .ref 39)] [] t) = (fun (G184 : List Value → SM → OR) (G182 : List Value → SM → OR) (G216 : List Value → SM → OR) (G218 : List Value → SM → OR) (G187 : List Value → SM → OR) (j44 : SM → Int32 → Int32 → Int32 → Int32 → Int32 → OR) (t : SM) (v1 : Int32) (v2 : Int32) (v3 : Int32) (v4 : Int32) (v5 : Int32) =>
  hGetI t 11 39 0 fun choices1 =>
  if ((1 : Int32) <<< (choices1 &&& 31)) ≤ v5 then rI v4 t
  else hGetC t 11 39 43 62 <|
  hALd t 62 v5 fun e2 =>
  if e2 < 0 then j44 t v1 v2 v3 v4 (v5 + 1)
  else hGetC t 11 39 43 62 <|
  hALd t 62 v5 fun e3 =>
  if (e3 &&& v3) = v3 then hGetC t 11 39 5 41 <|
  hALd t 41 v1 fun e4 =>
  bI (G187 [.int (e4 ^^^ v5)] t) fun ones6 t5 =>
  if 0 ≤ (ones6 - 1) then if v4 = (-1) then j44 t5 v1 v2 v3 (ones6 - 1) (v5 + 1)
    else if v2 = 0 then if v4 ≤ (ones6 - 1) then j44 t5 v1 v2 v3 v4 (v5 + 1)
    else j44 t5 v1 v2 v3 (ones6 - 1) (v5 + 1)
    else if (ones6 - 1) ≤ v4 then j44 t5 v1 v2 v3 v4 (v5 + 1)
      else j44 t5 v1 v2 v3 (ones6 - 1) (v5 + 1)
  else if v4 = (-1) then j44 t5 v1 v2 v3 0 (v5 + 1)
  else if v2 = 0 then if v4 ≤ 0 then j44 t5 v1 v2 v3 v4 (v5 + 1)
  else j44 t5 v1 v2 v3 0 (v5 + 1)
  else if 0 ≤ v4 then j44 t5 v1 v2 v3 v4 (v5 + 1)
    else j44 t5 v1 v2 v3 0 (v5 + 1)
  else j44 t v1 v2 v3 v4 (v5 + 1)) := by rfl
theorem fm_years_44_ok {r44 : SM → Int32 → Int32 → Int32 → Int32 → Int32 → OR} (h_r44 : ∀ (t : SM) (v1 : Int32) (v2 : Int32) (v3 : Int32) (v4 : Int32) (v5 : Int32), r44 t v1 v2 v3 v4 v5 = some r → Body l 6 q_262 P_262 r 44 [(5, .int v5), (4, .int v4), (3, .int v3), (2, .int v2), (1, .int v1), (0, .ref 39)] [] t) (t : SM) (v1 : Int32) (v2 : Int32) (v3 : Int32) (v4 : Int32) (v5 : Int32) (h : fm_years_44 r44 t v1 v2 v3 v4 v5 = some r) : Body l 6 q_262 P_262 r 44 [(5, .int v5), (4, .int v4), (3, .int v3), (2, .int v2), (1, .int v1), (0, .ref 39)] [] t :=
  blk ft_262 (by omega) rfl rows_262 (KDok.cons (KOK.f <| KOK.i fun w1 => KOK.i fun w2 => KOK.i fun w3 => KOK.i fun w4 => KOK.i fun w5 => KOK.e (f := fun t => r44 t w1 w2 w3 w4 w5) fun t h => h_r44 t w1 w2 w3 w4 w5 h) (KDok.nil)) ((congrFun (congrFun (congrFun (congrFun (congrFun (congrFun (congrFun (congrFun (congrFun (congrFun (congrFun (congrFun (fm_years_44_eq) F_184) F_182) F_216) F_218) F_187) (fun t u1 u2 u3 u4 u5 => r44 t u1 u2 u3 u4 u5)) t) v1) v2) v3) v4) v5).trans h)
theorem fm_years_l44_ok : ∀ (n : Nat) (t : SM) (v1 : Int32) (v2 : Int32) (v3 : Int32) (v4 : Int32) (v5 : Int32), fm_years_l44 n t v1 v2 v3 v4 v5 = some r → Body l 6 q_262 P_262 r 44 [(5, .int v5), (4, .int v4), (3, .int v3), (2, .int v2), (1, .int v1), (0, .ref 39)] [] t
  | 0, _, _, _, _, _, _, h => by cases h
  | n + 1, t, v1, v2, v3, v4, v5, h => fm_years_44_ok (fm_years_l44_ok n) t v1 v2 v3 v4 v5 h
theorem fm_years_eq : (fun (G184 : List Value → SM → OR) (G182 : List Value → SM → OR) (G216 : List Value → SM → OR) (G218 : List Value → SM → OR) (G187 : List Value → SM → OR) (j44 : SM → Int32 → Int32 → Int32 → Int32 → Int32 → OR) (t : SM) (a : Int32) (b : Int32) => ex clN P_262 none bytJ (mkCal rks ((184, G184) :: (182, G182) :: (216, G216) :: (218, G218) :: (187, G187) :: [])) [44] (kDisp [(44, kF 0 39 <| kI 1 fun w1 => kI 2 fun w2 => kI 3 fun w3 => kI 4 fun w4 => kI 5 fun w5 => kE fun t => j44 t w1 w2 w3 w4 w5)]) 400 0 [(0, .ref 39), (1, .int a), (2, .int b)] [] t) = (fun (G184 : List Value → SM → OR) (G182 : List Value → SM → OR) (G216 : List Value → SM → OR) (G218 : List Value → SM → OR) (G187 : List Value → SM → OR) (j44 : SM → Int32 → Int32 → Int32 → Int32 → Int32 → OR) (t : SM) (a : Int32) (b : Int32) =>
  hRecv t 11 39 <| bI (G184 [.ref 39, .int a] t) fun isMap2 t1 =>
  if isMap2 = 0 then rI (-5) t1
  else bI (G182 [.int b, .int 0, .int 1] t1) fun in4 t3 =>
    if in4 = 0 then rI (-7) t3
    else hRecv t3 11 39 <| bV (G216 [.ref 39] t3) fun t5 =>
      hRecv t5 11 39 <| bI (G218 [.ref 39] t5) fun allMaps7 t6 =>
      j44 t6 a b (allMaps7 &&& (((1 : Int32) <<< (a &&& 31)) ^^^ (-1))) (-1) 0) := by rfl
theorem fm_years_ok (t : SM) (a : Int32) (b : Int32) (h : fm_years t a b = some r) : Body l 6 q_262 P_262 r 0 [(0, .ref 39), (1, .int a), (2, .int b)] [] t :=
  blk ft_262 (by omega) rfl rows_262 (KDok.cons (KOK.f <| KOK.i fun w1 => KOK.i fun w2 => KOK.i fun w3 => KOK.i fun w4 => KOK.i fun w5 => KOK.e (f := fun t => fm_years_l44 1000000 t w1 w2 w3 w4 w5) fun t h => fm_years_l44_ok 1000000 t w1 w2 w3 w4 w5 h) (KDok.nil)) ((congrFun (congrFun (congrFun (congrFun (congrFun (congrFun (congrFun (congrFun (congrFun (fm_years_eq) F_184) F_182) F_216) F_218) F_187) (fun t u1 u2 u3 u4 u5 => fm_years_l44 1000000 t u1 u2 u3 u4 u5)) t) a) b).trans h)
theorem ok_262 (l : Launch) : Fok l 6 mtab 262 (F_262) := by
  intro as t r h
  unfold F_262 at h
  split at h
  · rename_i z0 a b
    split at h
    · rename_i hz0
      obtain rfl := Nat.eq_of_beq_eq_true hz0
      exact ⟨q_262, rfl, mok_262, con_of (P := P_262) (by decide +kernel) rfl (Nat.le_of_ble_eq_true rfl) (fm_years_ok t a b h)⟩
    · cases h
  · cases h
end
section
set_option maxRecDepth 100000
variable {l : Launch} {r : RR}
def FT_263 : FT := []
theorem ft_263 : FTok l 1 mtab FT_263 := FTok.nil
theorem fm_costOf_4_eq : (fun (j4 : SM → Int32 → Int32 → Int32 → OR) (t : SM) (v1 : Int32) (v2 : Int32) (v3 : Int32) => ex clN P_263 none bytJ (mkCal rks ([])) [4] (kDisp [(4, kF 0 39 <| kI 1 fun w1 => kI 2 fun w2 => kI 3 fun w3 => kE fun t => j4 t w1 w2 w3)]) 400 4 [(3, .int v3), (2, .int v2), (1, .int v1), (0, .ref 39)] [] t) = (fun (j4 : SM → Int32 → Int32 → Int32 → OR) (t : SM) (v1 : Int32) (v2 : Int32) (v3 : Int32) =>
  hGetI t 11 39 3 fun maps1 =>
  if maps1 ≤ v3 then rI v2 t
  else if ((v1 >>> (v3 &&& 31)) &&& 1) = 1 then hGetC t 11 39 8 44 <|
  hALd t 44 v3 fun e2 =>
  j4 t v1 (v2 + e2) (v3 + 1)
  else j4 t v1 (v2 + 0) (v3 + 1)) := by rfl
theorem fm_costOf_4_ok {r4 : SM → Int32 → Int32 → Int32 → OR} (h_r4 : ∀ (t : SM) (v1 : Int32) (v2 : Int32) (v3 : Int32), r4 t v1 v2 v3 = some r → Body l 1 q_263 P_263 r 4 [(3, .int v3), (2, .int v2), (1, .int v1), (0, .ref 39)] [] t) (t : SM) (v1 : Int32) (v2 : Int32) (v3 : Int32) (h : fm_costOf_4 r4 t v1 v2 v3 = some r) : Body l 1 q_263 P_263 r 4 [(3, .int v3), (2, .int v2), (1, .int v1), (0, .ref 39)] [] t :=
  blk ft_263 (by omega) rfl rows_263 (KDok.cons (KOK.f <| KOK.i fun w1 => KOK.i fun w2 => KOK.i fun w3 => KOK.e (f := fun t => r4 t w1 w2 w3) fun t h => h_r4 t w1 w2 w3 h) (KDok.nil)) ((congrFun (congrFun (congrFun (congrFun (congrFun (fm_costOf_4_eq) (fun t u1 u2 u3 => r4 t u1 u2 u3)) t) v1) v2) v3).trans h)
theorem fm_costOf_l4_ok : ∀ (n : Nat) (t : SM) (v1 : Int32) (v2 : Int32) (v3 : Int32), fm_costOf_l4 n t v1 v2 v3 = some r → Body l 1 q_263 P_263 r 4 [(3, .int v3), (2, .int v2), (1, .int v1), (0, .ref 39)] [] t
  | 0, _, _, _, _, h => by cases h
  | n + 1, t, v1, v2, v3, h => fm_costOf_4_ok (fm_costOf_l4_ok n) t v1 v2 v3 h
theorem fm_costOf_eq : (fun (j4 : SM → Int32 → Int32 → Int32 → OR) (t : SM) (a : Int32) => ex clN P_263 none bytJ (mkCal rks ([])) [4] (kDisp [(4, kF 0 39 <| kI 1 fun w1 => kI 2 fun w2 => kI 3 fun w3 => kE fun t => j4 t w1 w2 w3)]) 400 0 [(0, .ref 39), (1, .int a)] [] t) = (fun (j4 : SM → Int32 → Int32 → Int32 → OR) (t : SM) (a : Int32) =>
  j4 t a 0 0) := by rfl
theorem fm_costOf_ok (t : SM) (a : Int32) (h : fm_costOf t a = some r) : Body l 1 q_263 P_263 r 0 [(0, .ref 39), (1, .int a)] [] t :=
  blk ft_263 (by omega) rfl rows_263 (KDok.cons (KOK.f <| KOK.i fun w1 => KOK.i fun w2 => KOK.i fun w3 => KOK.e (f := fun t => fm_costOf_l4 1000000 t w1 w2 w3) fun t h => fm_costOf_l4_ok 1000000 t w1 w2 w3 h) (KDok.nil)) ((congrFun (congrFun (congrFun (fm_costOf_eq) (fun t u1 u2 u3 => fm_costOf_l4 1000000 t u1 u2 u3)) t) a).trans h)
theorem ok_263 (l : Launch) : Fok l 1 mtab 263 (F_263) := by
  intro as t r h
  unfold F_263 at h
  split at h
  · rename_i z0 a
    split at h
    · rename_i hz0
      obtain rfl := Nat.eq_of_beq_eq_true hz0
      exact ⟨q_263, rfl, mok_263, con_of (P := P_263) (by decide +kernel) rfl (Nat.le_of_ble_eq_true rfl) (fm_costOf_ok t a h)⟩
    · cases h
  · cases h
end
section
set_option maxRecDepth 100000
variable {l : Launch} {r : RR}
def FT_264 : FT := (182, F_182) :: (216, F_216) :: (217, F_217) :: (218, F_218) :: (263, F_263) :: []
theorem ft_264 : FTok l 6 mtab FT_264 := FTok.cons (ok_182 l) (by omega) (FTok.cons (ok_216 l) (by omega) (FTok.cons (ok_217 l) (by omega) (FTok.cons (ok_218 l) (by omega) (FTok.cons (ok_263 l) (by omega) (FTok.nil)))))
theorem fm_buy_107_eq : (fun (G182 : List Value → SM → OR) (G216 : List Value → SM → OR) (G217 : List Value → SM → OR) (G218 : List Value → SM → OR) (G263 : List Value → SM → OR) (t : SM) (v2 : Int32) (v3 : Int32) (v4 : Int32) => ex clN P_264 none bytJ (mkCal rks ((182, G182) :: (216, G216) :: (217, G217) :: (218, G218) :: (263, G263) :: [])) [] (kDisp []) 400 107 [(4, .int v4), (3, .int v3), (2, .int v2)] [] t) = (fun (G182 : List Value → SM → OR) (G216 : List Value → SM → OR) (G217 : List Value → SM → OR) (G218 : List Value → SM → OR) (G263 : List Value → SM → OR) (t : SM) (v2 : Int32) (v3 : Int32) (v4 : Int32) =>
  if v2 = 0 then rI v3 t
  else rI v4 t) := by rfl
theorem fm_buy_107_ok (t : SM) (v2 : Int32) (v3 : Int32) (v4 : Int32) (h : fm_buy_107 t v2 v3 v4 = some r) : Body l 6 q_264 P_264 r 107 [(4, .int v4), (3, .int v3), (2, .int v2)] [] t :=
  blk ft_264 (by omega) rfl rows_264 (KDok.nil) ((congrFun (congrFun (congrFun (congrFun (congrFun (congrFun (congrFun (congrFun (congrFun (fm_buy_107_eq) F_182) F_216) F_217) F_218) F_263) t) v2) v3) v4).trans h)
theorem fm_buy_39_eq : (fun (G182 : List Value → SM → OR) (G216 : List Value → SM → OR) (G217 : List Value → SM → OR) (G218 : List Value → SM → OR) (G263 : List Value → SM → OR) (j39 : SM → Int32 → Int32 → Int32 → Int32 → Int32 → OR) (j107 : SM → Int32 → Int32 → Int32 → OR) (t : SM) (v1 : Int32) (v2 : Int32) (v3 : Int32) (v4 : Int32) (v5 : Int32) => ex clN P_264 none bytJ (mkCal rks ((182, G182) :: (216, G216) :: (217, G217) :: (218, G218) :: (263, G263) :: [])) [39, 107] (kDisp [(39, kF 0 39 <| kI 1 fun w1 => kI 2 fun w2 => kI 3 fun w3 => kI 4 fun w4 => kI 5 fun w5 => kE fun t => j39 t w1 w2 w3 w4 w5), (107, kI 2 fun w2 => kI 3 fun w3 => kI 4 fun w4 => kE fun t => j107 t w2 w3 w4)]) 400 39 [(5, .int v5), (4, .int v4), (3, .int v3), (2, .int v2), (1, .int v1), (0, .ref 39)] [] t) = (fun (G182 : List Value → SM → OR) (G216 : List Value → SM → OR) (G217 : List Value → SM → OR) (G218 : List Value → SM → OR) (G263 : List Value → SM → OR) (j39 : SM → Int32 → Int32 → Int32 → Int32 → Int32 → OR) (j107 : SM → Int32 → Int32 → Int32 → OR) (t : SM) (v1 : Int32) (v2 : Int32) (v3 : Int32) (v4 : Int32) (v5 : Int32) =>
  hRecv t 11 39 <| bI (G218 [.ref 39] t) fun allMaps2 t1 =>
  if allMaps2 < v5 then j107 t1 v2 v3 v4
  else hRecv t1 11 39 <| bI (G263 [.ref 39, .int v5] t1) fun costOf4 t3 =>
  if v1 < costOf4 then j39 t3 v1 v2 v3 v4 (v5 + 1)
  else hRecv t3 11 39 <| bI (G217 [.ref 39, .int v5] t3) fun countBy6 t5 =>
  if countBy6 < v4 then j39 t5 v1 v2 v5 countBy6 (v5 + 1)
  else if countBy6 = v4 then hRecv t5 11 39 <| bI (G263 [.ref 39, .int v5] t5) fun costOf8 t7 =>
  hRecv t7 11 39 <| bI (G263 [.ref 39, .int v3] t7) fun costOf10 t9 =>
  if costOf10 ≤ costOf8 then j39 t9 v1 v2 v3 v4 (v5 + 1)
  else j39 t9 v1 v2 v5 countBy6 (v5 + 1)
  else j39 t5 v1 v2 v3 v4 (v5 + 1)) := by rfl
theorem fm_buy_39_ok {k107 : SM → Int32 → Int32 → Int32 → OR} {r39 : SM → Int32 → Int32 → Int32 → Int32 → Int32 → OR} (h_k107 : ∀ (t : SM) (v2 : Int32) (v3 : Int32) (v4 : Int32), k107 t v2 v3 v4 = some r → Body l 6 q_264 P_264 r 107 [(4, .int v4), (3, .int v3), (2, .int v2)] [] t) (h_r39 : ∀ (t : SM) (v1 : Int32) (v2 : Int32) (v3 : Int32) (v4 : Int32) (v5 : Int32), r39 t v1 v2 v3 v4 v5 = some r → Body l 6 q_264 P_264 r 39 [(5, .int v5), (4, .int v4), (3, .int v3), (2, .int v2), (1, .int v1), (0, .ref 39)] [] t) (t : SM) (v1 : Int32) (v2 : Int32) (v3 : Int32) (v4 : Int32) (v5 : Int32) (h : fm_buy_39 k107 r39 t v1 v2 v3 v4 v5 = some r) : Body l 6 q_264 P_264 r 39 [(5, .int v5), (4, .int v4), (3, .int v3), (2, .int v2), (1, .int v1), (0, .ref 39)] [] t :=
  blk ft_264 (by omega) rfl rows_264 (KDok.cons (KOK.f <| KOK.i fun w1 => KOK.i fun w2 => KOK.i fun w3 => KOK.i fun w4 => KOK.i fun w5 => KOK.e (f := fun t => r39 t w1 w2 w3 w4 w5) fun t h => h_r39 t w1 w2 w3 w4 w5 h) (KDok.cons (KOK.i fun w2 => KOK.i fun w3 => KOK.i fun w4 => KOK.e (f := fun t => k107 t w2 w3 w4) fun t h => h_k107 t w2 w3 w4 h) (KDok.nil))) ((congrFun (congrFun (congrFun (congrFun (congrFun (congrFun (congrFun (congrFun (congrFun (congrFun (congrFun (congrFun (congrFun (fm_buy_39_eq) F_182) F_216) F_217) F_218) F_263) (fun t u1 u2 u3 u4 u5 => r39 t u1 u2 u3 u4 u5)) (fun t u2 u3 u4 => k107 t u2 u3 u4)) t) v1) v2) v3) v4) v5).trans h)
theorem fm_buy_l39_ok {k107 : SM → Int32 → Int32 → Int32 → OR} (h_k107 : ∀ (t : SM) (v2 : Int32) (v3 : Int32) (v4 : Int32), k107 t v2 v3 v4 = some r → Body l 6 q_264 P_264 r 107 [(4, .int v4), (3, .int v3), (2, .int v2)] [] t) : ∀ (n : Nat) (t : SM) (v1 : Int32) (v2 : Int32) (v3 : Int32) (v4 : Int32) (v5 : Int32), fm_buy_l39 k107 n t v1 v2 v3 v4 v5 = some r → Body l 6 q_264 P_264 r 39 [(5, .int v5), (4, .int v4), (3, .int v3), (2, .int v2), (1, .int v1), (0, .ref 39)] [] t
  | 0, _, _, _, _, _, _, h => by cases h
  | n + 1, t, v1, v2, v3, v4, v5, h => fm_buy_39_ok h_k107 (fm_buy_l39_ok h_k107 n) t v1 v2 v3 v4 v5 h
theorem fm_buy_eq : (fun (G182 : List Value → SM → OR) (G216 : List Value → SM → OR) (G217 : List Value → SM → OR) (G218 : List Value → SM → OR) (G263 : List Value → SM → OR) (j39 : SM → Int32 → Int32 → Int32 → Int32 → Int32 → OR) (t : SM) (a : Int32) (b : Int32) => ex clN P_264 none bytJ (mkCal rks ((182, G182) :: (216, G216) :: (217, G217) :: (218, G218) :: (263, G263) :: [])) [39] (kDisp [(39, kF 0 39 <| kI 1 fun w1 => kI 2 fun w2 => kI 3 fun w3 => kI 4 fun w4 => kI 5 fun w5 => kE fun t => j39 t w1 w2 w3 w4 w5)]) 400 0 [(0, .ref 39), (1, .int a), (2, .int b)] [] t) = (fun (G182 : List Value → SM → OR) (G216 : List Value → SM → OR) (G217 : List Value → SM → OR) (G218 : List Value → SM → OR) (G263 : List Value → SM → OR) (j39 : SM → Int32 → Int32 → Int32 → Int32 → Int32 → OR) (t : SM) (a : Int32) (b : Int32) =>
  bI (G182 [.int a, .int 0, .int 9999] t) fun in2 t1 =>
  if in2 = 0 then rI (-2) t1
  else bI (G182 [.int b, .int 0, .int 1] t1) fun in4 t3 =>
  if in4 = 0 then rI (-2) t3
  else hRecv t3 11 39 <| bV (G216 [.ref 39] t3) fun t5 =>
    hRecv t5 11 39 <| bI (G217 [.ref 39, .int 0] t5) fun countBy7 t6 =>
    j39 t6 a b 0 countBy7 1) := by rfl
theorem fm_buy_ok (t : SM) (a : Int32) (b : Int32) (h : fm_buy t a b = some r) : Body l 6 q_264 P_264 r 0 [(0, .ref 39), (1, .int a), (2, .int b)] [] t :=
  blk ft_264 (by omega) rfl rows_264 (KDok.cons (KOK.f <| KOK.i fun w1 => KOK.i fun w2 => KOK.i fun w3 => KOK.i fun w4 => KOK.i fun w5 => KOK.e (f := fun t => fm_buy_l39 (fun t u2 u3 u4 => fm_buy_107 t u2 u3 u4) 1000000 t w1 w2 w3 w4 w5) fun t h => fm_buy_l39_ok (k107 := fun t u2 u3 u4 => fm_buy_107 t u2 u3 u4) (fun t u2 u3 u4 h => fm_buy_107_ok t u2 u3 u4 h) 1000000 t w1 w2 w3 w4 w5 h) (KDok.nil)) ((congrFun (congrFun (congrFun (congrFun (congrFun (congrFun (congrFun (congrFun (congrFun (fm_buy_eq) F_182) F_216) F_217) F_218) F_263) (fun t u1 u2 u3 u4 u5 => fm_buy_l39 (fun t u2 u3 u4 => fm_buy_107 t u2 u3 u4) 1000000 t u1 u2 u3 u4 u5)) t) a) b).trans h)
theorem ok_264 (l : Launch) : Fok l 6 mtab 264 (F_264) := by
  intro as t r h
  unfold F_264 at h
  split at h
  · rename_i z0 a b
    split at h
    · rename_i hz0
      obtain rfl := Nat.eq_of_beq_eq_true hz0
      exact ⟨q_264, rfl, mok_264, con_of (P := P_264) (by decide +kernel) rfl (Nat.le_of_ble_eq_true rfl) (fm_buy_ok t a b h)⟩
    · cases h
  · cases h
end
section
set_option maxRecDepth 100000
variable {l : Launch} {r : RR}
def FT_265 : FT := (184, F_184) :: (216, F_216) :: (218, F_218) :: (217, F_217) :: (204, F_204) :: []
theorem ft_265 : FTok l 6 mtab FT_265 := FTok.cons (ok_184 l) (by omega) (FTok.cons (ok_216 l) (by omega) (FTok.cons (ok_218 l) (by omega) (FTok.cons (ok_217 l) (by omega) (FTok.cons (ok_204 l) (by omega) (FTok.nil)))))
theorem fm_worth_eq : (fun (G184 : List Value → SM → OR) (G216 : List Value → SM → OR) (G218 : List Value → SM → OR) (G217 : List Value → SM → OR) (G204 : List Value → SM → OR) (t : SM) (a : Int32) => ex clN P_265 none bytJ (mkCal rks ((184, G184) :: (216, G216) :: (218, G218) :: (217, G217) :: (204, G204) :: [])) [] (kDisp []) 400 0 [(0, .ref 39), (1, .int a)] [] t) = (fun (G184 : List Value → SM → OR) (G216 : List Value → SM → OR) (G218 : List Value → SM → OR) (G217 : List Value → SM → OR) (G204 : List Value → SM → OR) (t : SM) (a : Int32) =>
  hRecv t 11 39 <| bI (G184 [.ref 39, .int a] t) fun isMap2 t1 =>
  if isMap2 = 0 then rI (-5) t1
  else hRecv t1 11 39 <| bV (G216 [.ref 39] t1) fun t3 =>
    hRecv t3 11 39 <| bI (G218 [.ref 39] t3) fun allMaps5 t4 =>
    hRecv t4 11 39 <| bI (G217 [.ref 39, .int (allMaps5 &&& (((1 : Int32) <<< (a &&& 31)) ^^^ (-1)))] t4) fun countBy7 t6 =>
    hRecv t6 11 39 <| bI (G218 [.ref 39] t6) fun allMaps9 t8 =>
    hRecv t8 11 39 <| bI (G217 [.ref 39, .int allMaps9] t8) fun countBy11 t10 =>
    hGetC t10 11 39 5 41 <|
    hALd t10 41 a fun e12 =>
    hRecv t10 11 39 <| bI (G204 [.ref 39, .int 2, .int e12, .int 0, .int (countBy7 - countBy11)] t10) fun asksOf14 t13 =>
    rI asksOf14 t13) := by rfl
theorem fm_worth_ok (t : SM) (a : Int32) (h : fm_worth t a = some r) : Body l 6 q_265 P_265 r 0 [(0, .ref 39), (1, .int a)] [] t :=
  blk ft_265 (by omega) rfl rows_265 (KDok.nil) ((congrFun (congrFun (congrFun (congrFun (congrFun (congrFun (congrFun (fm_worth_eq) F_184) F_216) F_218) F_217) F_204) t) a).trans h)
theorem ok_265 (l : Launch) : Fok l 6 mtab 265 (F_265) := by
  intro as t r h
  unfold F_265 at h
  split at h
  · rename_i z0 a
    split at h
    · rename_i hz0
      obtain rfl := Nat.eq_of_beq_eq_true hz0
      exact ⟨q_265, rfl, mok_265, con_of (P := P_265) (by decide +kernel) rfl (Nat.le_of_ble_eq_true rfl) (fm_worth_ok t a h)⟩
    · cases h
  · cases h
end
section
set_option maxRecDepth 100000
variable {l : Launch} {r : RR}
def FT_266 : FT := (182, F_182) :: (219, F_219) :: []
theorem ft_266 : FTok l 7 mtab FT_266 := FTok.cons (ok_182 l) (by omega) (FTok.cons (ok_219 l) (by omega) (FTok.nil))
theorem fm_drawn_eq : (fun (G182 : List Value → SM → OR) (G219 : List Value → SM → OR) (t : SM) (a : Int32) (b : Int32) => ex clN P_266 none bytJ (mkCal rks ((182, G182) :: (219, G219) :: [])) [] (kDisp []) 400 0 [(0, .ref 39), (1, .int a), (2, .int b)] [] t) = (fun (G182 : List Value → SM → OR) (G219 : List Value → SM → OR) (t : SM) (a : Int32) (b : Int32) =>
  bI (G182 [.int a, .int 0, .int 99999] t) fun in2 t1 =>
  if in2 = 0 then rI (-2) t1
  else bI (G182 [.int b, .int 0, .int 2] t1) fun in4 t3 =>
  if in4 = 0 then rI (-2) t3
  else hRecv t3 11 39 <| bV (G219 [.ref 39] t3) fun t5 =>
    hGetI t5 11 39 45 fun worldMany6 =>
    if worldMany6 = 0 then rI (-3) t5
    else hGetC t5 11 39 44 63 <|
      hGetI t5 11 39 45 fun worldMany7 =>
      hNZL (Int32.toInt64 worldMany7) (hALd t5 63 (Int64.toInt32 (((((Int32.toInt64 a) + 1) * 48271) - (((Int32.toInt64 a) + 1) * 48271) / 2147483647 * 2147483647) - ((((Int32.toInt64 a) + 1) * 48271) - (((Int32.toInt64 a) + 1) * 48271) / 2147483647 * 2147483647) / (Int32.toInt64 worldMany7) * (Int32.toInt64 worldMany7))) fun e8 =>
      hGetI t5 11 39 0 fun choices9 =>
      hNZL (Int32.toInt64 choices9) (if b = 0 then rI e8 t5
      else if b = 1 then rI (e8 ^^^ ((1 : Int32) <<< ((Int64.toInt32 (((((((Int32.toInt64 a) + 1) * 48271) - (((Int32.toInt64 a) + 1) * 48271) / 2147483647 * 2147483647) * 48271) - (((((Int32.toInt64 a) + 1) * 48271) - (((Int32.toInt64 a) + 1) * 48271) / 2147483647 * 2147483647) * 48271) / 2147483647 * 2147483647) - ((((((Int32.toInt64 a) + 1) * 48271) - (((Int32.toInt64 a) + 1) * 48271) / 2147483647 * 2147483647) * 48271) - (((((Int32.toInt64 a) + 1) * 48271) - (((Int32.toInt64 a) + 1) * 48271) / 2147483647 * 2147483647) * 48271) / 2147483647 * 2147483647) / (Int32.toInt64 choices9) * (Int32.toInt64 choices9))) &&& 31))) t5
        else rI (Int64.toInt32 (((((((Int32.toInt64 a) + 1) * 48271) - (((Int32.toInt64 a) + 1) * 48271) / 2147483647 * 2147483647) * 48271) - (((((Int32.toInt64 a) + 1) * 48271) - (((Int32.toInt64 a) + 1) * 48271) / 2147483647 * 2147483647) * 48271) / 2147483647 * 2147483647) - ((((((Int32.toInt64 a) + 1) * 48271) - (((Int32.toInt64 a) + 1) * 48271) / 2147483647 * 2147483647) * 48271) - (((((Int32.toInt64 a) + 1) * 48271) - (((Int32.toInt64 a) + 1) * 48271) / 2147483647 * 2147483647) * 48271) / 2147483647 * 2147483647) / (Int32.toInt64 choices9) * (Int32.toInt64 choices9))) t5))) := by rfl
theorem fm_drawn_ok (t : SM) (a : Int32) (b : Int32) (h : fm_drawn t a b = some r) : Body l 7 q_266 P_266 r 0 [(0, .ref 39), (1, .int a), (2, .int b)] [] t :=
  blk ft_266 (by omega) rfl rows_266 (KDok.nil) ((congrFun (congrFun (congrFun (congrFun (congrFun (fm_drawn_eq) F_182) F_219) t) a) b).trans h)
theorem ok_266 (l : Launch) : Fok l 7 mtab 266 (F_266) := by
  intro as t r h
  unfold F_266 at h
  split at h
  · rename_i z0 a b
    split at h
    · rename_i hz0
      obtain rfl := Nat.eq_of_beq_eq_true hz0
      exact ⟨q_266, rfl, mok_266, con_of (P := P_266) (by decide +kernel) rfl (Nat.le_of_ble_eq_true rfl) (fm_drawn_ok t a b h)⟩
    · cases h
  · cases h
end
section
set_option maxRecDepth 100000
variable {l : Launch} {r : RR}
def FT_267 : FT := []
theorem ft_267 : FTok l 1 mtab FT_267 := FTok.nil
theorem fm_image_63_eq : (fun (t : SM) => ex clN P_267 none bytJ (mkCal rks ([])) [] (kDisp []) 400 63 [(0, .ref 39)] [] t) = (fun (t : SM) =>
  hGetI t 11 39 3 fun maps1 =>
  rI maps1 t) := by rfl
theorem fm_image_63_ok (t : SM) (h : fm_image_63 t = some r) : Body l 1 q_267 P_267 r 63 [(0, .ref 39)] [] t :=
  blk ft_267 (by omega) rfl rows_267 (KDok.nil) ((congrFun (fm_image_63_eq) t).trans h)
theorem fm_image_39_eq : (fun (j39 : SM → Int32 → OR) (j63 : SM → OR) (t : SM) (v1 : Int32) => ex clN P_267 none bytJ (mkCal rks ([])) [39, 63] (kDisp [(39, kF 0 39 <| kI 1 fun w1 => kE fun t => j39 t w1), (63, kF 0 39 <| kE fun t => j63 t)]) 400 39 [(1, .int v1), (0, .ref 39)] [] t) = (fun (j39 : SM → Int32 → OR) (j63 : SM → OR) (t : SM) (v1 : Int32) =>
  if 8 ≤ v1 then j63 t
  else hGetC t 11 39 27 53 <|
  hGetC t 11 39 8 44 <|
  hALd t 44 v1 fun e1 =>
  hASt t 53 v1 e1 fun t2 =>
  j39 t2 (v1 + 1)) := by rfl
theorem fm_image_39_ok {k63 : SM → OR} {r39 : SM → Int32 → OR} (h_k63 : ∀ (t : SM), k63 t = some r → Body l 1 q_267 P_267 r 63 [(0, .ref 39)] [] t) (h_r39 : ∀ (t : SM) (v1 : Int32), r39 t v1 = some r → Body l 1 q_267 P_267 r 39 [(1, .int v1), (0, .ref 39)] [] t) (t : SM) (v1 : Int32) (h : fm_image_39 k63 r39 t v1 = some r) : Body l 1 q_267 P_267 r 39 [(1, .int v1), (0, .ref 39)] [] t :=
  blk ft_267 (by omega) rfl rows_267 (KDok.cons (KOK.f <| KOK.i fun w1 => KOK.e (f := fun t => r39 t w1) fun t h => h_r39 t w1 h) (KDok.cons (KOK.f <| KOK.e (f := fun t => k63 t) fun t h => h_k63 t h) (KDok.nil))) ((congrFun (congrFun (congrFun (congrFun (fm_image_39_eq) (fun t u1 => r39 t u1)) (fun t => k63 t)) t) v1).trans h)
theorem fm_image_l39_ok {k63 : SM → OR} (h_k63 : ∀ (t : SM), k63 t = some r → Body l 1 q_267 P_267 r 63 [(0, .ref 39)] [] t) : ∀ (n : Nat) (t : SM) (v1 : Int32), fm_image_l39 k63 n t v1 = some r → Body l 1 q_267 P_267 r 39 [(1, .int v1), (0, .ref 39)] [] t
  | 0, _, _, h => by cases h
  | n + 1, t, v1, h => fm_image_39_ok h_k63 (fm_image_l39_ok h_k63 n) t v1 h
theorem fm_image_eq : (fun (j39 : SM → Int32 → OR) (t : SM) => ex clN P_267 none bytJ (mkCal rks ([])) [39] (kDisp [(39, kF 0 39 <| kI 1 fun w1 => kE fun t => j39 t w1)]) 400 0 [(0, .ref 39)] [] t) = (fun (j39 : SM → Int32 → OR) (t : SM) =>
  hPutI t 11 39 22 1 fun t1 =>
  hGetI t1 11 39 1 fun seen2 =>
  hPutI t1 11 39 23 seen2 fun t3 =>
  hGetI t3 11 39 2 fun seenSo4 =>
  hPutI t3 11 39 24 seenSo4 fun t5 =>
  hGetI t5 11 39 3 fun maps6 =>
  hPutI t5 11 39 25 maps6 fun t7 =>
  hGetI t7 11 39 21 fun rule8 =>
  hPutI t7 11 39 26 rule8 fun t9 =>
  j39 t9 0) := by rfl
theorem fm_image_ok (t : SM) (h : fm_image t = some r) : Body l 1 q_267 P_267 r 0 [(0, .ref 39)] [] t :=
  blk ft_267 (by omega) rfl rows_267 (KDok.cons (KOK.f <| KOK.i fun w1 => KOK.e (f := fun t => fm_image_l39 (fun t => fm_image_63 t) 1000000 t w1) fun t h => fm_image_l39_ok (k63 := fun t => fm_image_63 t) (fun t h => fm_image_63_ok t h) 1000000 t w1 h) (KDok.nil)) ((congrFun (congrFun (fm_image_eq) (fun t u1 => fm_image_l39 (fun t => fm_image_63 t) 1000000 t u1)) t).trans h)
theorem ok_267 (l : Launch) : Fok l 1 mtab 267 (F_267) := by
  intro as t r h
  unfold F_267 at h
  split at h
  · rename_i z0
    split at h
    · rename_i hz0
      obtain rfl := Nat.eq_of_beq_eq_true hz0
      exact ⟨q_267, rfl, mok_267, con_of (P := P_267) (by decide +kernel) rfl (Nat.le_of_ble_eq_true rfl) (fm_image_ok t h)⟩
    · cases h
  · cases h
end
section
set_option maxRecDepth 100000
variable {l : Launch} {r : RR}
def FT_268 : FT := []
theorem ft_268 : FTok l 1 mtab FT_268 := FTok.nil
theorem fm_back_70_eq : (fun (t : SM) => ex clN P_268 none bytJ (mkCal rks ([])) [] (kDisp []) 400 70 [(0, .ref 39)] [] t) = (fun (t : SM) =>
  hGetI t 11 39 3 fun maps1 =>
  rI maps1 t) := by rfl
theorem fm_back_70_ok (t : SM) (h : fm_back_70 t = some r) : Body l 1 q_268 P_268 r 70 [(0, .ref 39)] [] t :=
  blk ft_268 (by omega) rfl rows_268 (KDok.nil) ((congrFun (fm_back_70_eq) t).trans h)
theorem fm_back_44_eq : (fun (j44 : SM → Int32 → OR) (j70 : SM → OR) (t : SM) (v1 : Int32) => ex clN P_268 none bytJ (mkCal rks ([])) [44, 70] (kDisp [(44, kF 0 39 <| kI 1 fun w1 => kE fun t => j44 t w1), (70, kF 0 39 <| kE fun t => j70 t)]) 400 44 [(1, .int v1), (0, .ref 39)] [] t) = (fun (j44 : SM → Int32 → OR) (j70 : SM → OR) (t : SM) (v1 : Int32) =>
  hGetI t 11 39 3 fun maps1 =>
  if maps1 ≤ v1 then j70 t
  else hGetC t 11 39 8 44 <|
  hGetC t 11 39 27 53 <|
  hALd t 53 v1 fun e2 =>
  hASt t 44 v1 e2 fun t3 =>
  j44 t3 (v1 + 1)) := by rfl
theorem fm_back_44_ok {k70 : SM → OR} {r44 : SM → Int32 → OR} (h_k70 : ∀ (t : SM), k70 t = some r → Body l 1 q_268 P_268 r 70 [(0, .ref 39)] [] t) (h_r44 : ∀ (t : SM) (v1 : Int32), r44 t v1 = some r → Body l 1 q_268 P_268 r 44 [(1, .int v1), (0, .ref 39)] [] t) (t : SM) (v1 : Int32) (h : fm_back_44 k70 r44 t v1 = some r) : Body l 1 q_268 P_268 r 44 [(1, .int v1), (0, .ref 39)] [] t :=
  blk ft_268 (by omega) rfl rows_268 (KDok.cons (KOK.f <| KOK.i fun w1 => KOK.e (f := fun t => r44 t w1) fun t h => h_r44 t w1 h) (KDok.cons (KOK.f <| KOK.e (f := fun t => k70 t) fun t h => h_k70 t h) (KDok.nil))) ((congrFun (congrFun (congrFun (congrFun (fm_back_44_eq) (fun t u1 => r44 t u1)) (fun t => k70 t)) t) v1).trans h)
theorem fm_back_l44_ok {k70 : SM → OR} (h_k70 : ∀ (t : SM), k70 t = some r → Body l 1 q_268 P_268 r 70 [(0, .ref 39)] [] t) : ∀ (n : Nat) (t : SM) (v1 : Int32), fm_back_l44 k70 n t v1 = some r → Body l 1 q_268 P_268 r 44 [(1, .int v1), (0, .ref 39)] [] t
  | 0, _, _, h => by cases h
  | n + 1, t, v1, h => fm_back_44_ok h_k70 (fm_back_l44_ok h_k70 n) t v1 h
theorem fm_back_eq : (fun (j44 : SM → Int32 → OR) (t : SM) => ex clN P_268 none bytJ (mkCal rks ([])) [44] (kDisp [(44, kF 0 39 <| kI 1 fun w1 => kE fun t => j44 t w1)]) 400 0 [(0, .ref 39)] [] t) = (fun (j44 : SM → Int32 → OR) (t : SM) =>
  hGetI t 11 39 22 fun hasImage1 =>
  if hasImage1 = 0 then rI (-3) t
  else hGetI t 11 39 23 fun imageSeen2 =>
    hPutI t 11 39 1 imageSeen2 fun t3 =>
    hGetI t3 11 39 24 fun imageSo4 =>
    hPutI t3 11 39 2 imageSo4 fun t5 =>
    hGetI t5 11 39 25 fun imageMaps6 =>
    hPutI t5 11 39 3 imageMaps6 fun t7 =>
    hGetI t7 11 39 26 fun imageRule8 =>
    hPutI t7 11 39 21 imageRule8 fun t9 =>
    j44 t9 0) := by rfl
theorem fm_back_ok (t : SM) (h : fm_back t = some r) : Body l 1 q_268 P_268 r 0 [(0, .ref 39)] [] t :=
  blk ft_268 (by omega) rfl rows_268 (KDok.cons (KOK.f <| KOK.i fun w1 => KOK.e (f := fun t => fm_back_l44 (fun t => fm_back_70 t) 1000000 t w1) fun t h => fm_back_l44_ok (k70 := fun t => fm_back_70 t) (fun t h => fm_back_70_ok t h) 1000000 t w1 h) (KDok.nil)) ((congrFun (congrFun (fm_back_eq) (fun t u1 => fm_back_l44 (fun t => fm_back_70 t) 1000000 t u1)) t).trans h)
theorem ok_268 (l : Launch) : Fok l 1 mtab 268 (F_268) := by
  intro as t r h
  unfold F_268 at h
  split at h
  · rename_i z0
    split at h
    · rename_i hz0
      obtain rfl := Nat.eq_of_beq_eq_true hz0
      exact ⟨q_268, rfl, mok_268, con_of (P := P_268) (by decide +kernel) rfl (Nat.le_of_ble_eq_true rfl) (fm_back_ok t h)⟩
    · cases h
  · cases h
end
section
set_option maxRecDepth 100000
variable {l : Launch} {r : RR}
def FT_269 : FT := (182, F_182) :: []
theorem ft_269 : FTok l 2 mtab FT_269 := FTok.cons (ok_182 l) (by omega) (FTok.nil)
theorem fm_sheet_70_eq : (fun (G182 : List Value → SM → OR) (j70 : SM → Int32 → Int32 → OR) (t : SM) (v1 : Int32) (v4 : Int32) => ex clN P_269 none bytJ (mkCal rks ((182, G182) :: [])) [70] (kDisp [(70, kF 0 39 <| kI 1 fun w1 => kI 4 fun w4 => kE fun t => j70 t w1 w4)]) 400 70 [(4, .int v4), (1, .int v1), (0, .ref 39)] [] t) = (fun (G182 : List Value → SM → OR) (j70 : SM → Int32 → Int32 → OR) (t : SM) (v1 : Int32) (v4 : Int32) =>
  if 40 ≤ v4 then rI 1 t
  else hGetC t 11 39 30 56 <|
  hASt t 56 ((40 * v1) + v4) 0 fun t1 =>
  j70 t1 v1 (v4 + 1)) := by rfl
theorem fm_sheet_70_ok {r70 : SM → Int32 → Int32 → OR} (h_r70 : ∀ (t : SM) (v1 : Int32) (v4 : Int32), r70 t v1 v4 = some r → Body l 2 q_269 P_269 r 70 [(4, .int v4), (1, .int v1), (0, .ref 39)] [] t) (t : SM) (v1 : Int32) (v4 : Int32) (h : fm_sheet_70 r70 t v1 v4 = some r) : Body l 2 q_269 P_269 r 70 [(4, .int v4), (1, .int v1), (0, .ref 39)] [] t :=
  blk ft_269 (by omega) rfl rows_269 (KDok.cons (KOK.f <| KOK.i fun w1 => KOK.i fun w4 => KOK.e (f := fun t => r70 t w1 w4) fun t h => h_r70 t w1 w4 h) (KDok.nil)) ((congrFun (congrFun (congrFun (congrFun (congrFun (fm_sheet_70_eq) F_182) (fun t u1 u4 => r70 t u1 u4)) t) v1) v4).trans h)
theorem fm_sheet_l70_ok : ∀ (n : Nat) (t : SM) (v1 : Int32) (v4 : Int32), fm_sheet_l70 n t v1 v4 = some r → Body l 2 q_269 P_269 r 70 [(4, .int v4), (1, .int v1), (0, .ref 39)] [] t
  | 0, _, _, _, h => by cases h
  | n + 1, t, v1, v4, h => fm_sheet_70_ok (fm_sheet_l70_ok n) t v1 v4 h
theorem fm_sheet_44_eq : (fun (G182 : List Value → SM → OR) (j70 : SM → Int32 → Int32 → OR) (t : SM) (v1 : Int32) (v2 : Int32) (v3 : Int32) => ex clN P_269 none bytJ (mkCal rks ((182, G182) :: [])) [70] (kDisp [(70, kF 0 39 <| kI 1 fun w1 => kI 4 fun w4 => kE fun t => j70 t w1 w4)]) 400 44 [(3, .int v3), (2, .int v2), (1, .int v1), (0, .ref 39)] [] t) = (fun (G182 : List Value → SM → OR) (j70 : SM → Int32 → Int32 → OR) (t : SM) (v1 : Int32) (v2 : Int32) (v3 : Int32) =>
  hGetC t 11 39 28 54 <|
  hASt t 54 v1 v2 fun t1 =>
  hGetC t1 11 39 29 55 <|
  if v2 = (-1) then hASt t1 55 v1 0 fun t3 =>
  j70 t3 v1 0
  else hASt t1 55 v1 v3 fun t2 =>
    j70 t2 v1 0) := by rfl
theorem fm_sheet_44_ok (t : SM) (v1 : Int32) (v2 : Int32) (v3 : Int32) (h : fm_sheet_44 t v1 v2 v3 = some r) : Body l 2 q_269 P_269 r 44 [(3, .int v3), (2, .int v2), (1, .int v1), (0, .ref 39)] [] t :=
  blk ft_269 (by omega) rfl rows_269 (KDok.cons (KOK.f <| KOK.i fun w1 => KOK.i fun w4 => KOK.e (f := fun t => fm_sheet_l70 1000000 t w1 w4) fun t h => fm_sheet_l70_ok 1000000 t w1 w4 h) (KDok.nil)) ((congrFun (congrFun (congrFun (congrFun (congrFun (congrFun (fm_sheet_44_eq) F_182) (fun t u1 u4 => fm_sheet_l70 1000000 t u1 u4)) t) v1) v2) v3).trans h)
theorem fm_sheet_32_eq : (fun (G182 : List Value → SM → OR) (j44 : SM → Int32 → Int32 → Int32 → OR) (t : SM) (v1 : Int32) (v2 : Int32) (v3 : Int32) => ex clN P_269 none bytJ (mkCal rks ((182, G182) :: [])) [44] (kDisp [(44, kF 0 39 <| kI 1 fun w1 => kI 2 fun w2 => kI 3 fun w3 => kE fun t => j44 t w1 w2 w3)]) 400 32 [(3, .int v3), (2, .int v2), (1, .int v1), (0, .ref 39)] [] t) = (fun (G182 : List Value → SM → OR) (j44 : SM → Int32 → Int32 → Int32 → OR) (t : SM) (v1 : Int32) (v2 : Int32) (v3 : Int32) =>
  if v2 = (-1) then j44 t v1 v2 v3
  else if 0 ≤ v3 then j44 t v1 v2 v3
  else rI (-14) t) := by rfl
theorem fm_sheet_32_ok (t : SM) (v1 : Int32) (v2 : Int32) (v3 : Int32) (h : fm_sheet_32 t v1 v2 v3 = some r) : Body l 2 q_269 P_269 r 32 [(3, .int v3), (2, .int v2), (1, .int v1), (0, .ref 39)] [] t :=
  blk ft_269 (by omega) rfl rows_269 (KDok.cons (KOK.f <| KOK.i fun w1 => KOK.i fun w2 => KOK.i fun w3 => KOK.e (f := fun t => fm_sheet_44 t w1 w2 w3) fun t h => fm_sheet_44_ok t w1 w2 w3 h) (KDok.nil)) ((congrFun (congrFun (congrFun (congrFun (congrFun (congrFun (fm_sheet_32_eq) F_182) (fun t u1 u2 u3 => fm_sheet_44 t u1 u2 u3)) t) v1) v2) v3).trans h)
theorem fm_sheet_eq : (fun (G182 : List Value → SM → OR) (j32 : SM → Int32 → Int32 → Int32 → OR) (t : SM) (a : Int32) (b : Int32) (c : Int32) => ex clN P_269 none bytJ (mkCal rks ((182, G182) :: [])) [32] (kDisp [(32, kF 0 39 <| kI 1 fun w1 => kI 2 fun w2 => kI 3 fun w3 => kE fun t => j32 t w1 w2 w3)]) 400 0 [(0, .ref 39), (1, .int a), (2, .int b), (3, .int c)] [] t) = (fun (G182 : List Value → SM → OR) (j32 : SM → Int32 → Int32 → Int32 → OR) (t : SM) (a : Int32) (b : Int32) (c : Int32) =>
  bI (G182 [.int a, .int 0, .int 3] t) fun in2 t1 =>
  if in2 = 0 then rI (-2) t1
  else bI (G182 [.int b, .int (-1), .int 2] t1) fun in4 t3 =>
  if in4 = 0 then rI (-2) t3
  else if b = (-1) then j32 t3 a b c
  else if c ≤ 40 then j32 t3 a b c
  else rI (-2) t3) := by rfl
theorem fm_sheet_ok (t : SM) (a : Int32) (b : Int32) (c : Int32) (h : fm_sheet t a b c = some r) : Body l 2 q_269 P_269 r 0 [(0, .ref 39), (1, .int a), (2, .int b), (3, .int c)] [] t :=
  blk ft_269 (by omega) rfl rows_269 (KDok.cons (KOK.f <| KOK.i fun w1 => KOK.i fun w2 => KOK.i fun w3 => KOK.e (f := fun t => fm_sheet_32 t w1 w2 w3) fun t h => fm_sheet_32_ok t w1 w2 w3 h) (KDok.nil)) ((congrFun (congrFun (congrFun (congrFun (congrFun (congrFun (fm_sheet_eq) F_182) (fun t u1 u2 u3 => fm_sheet_32 t u1 u2 u3)) t) a) b) c).trans h)
theorem ok_269 (l : Launch) : Fok l 2 mtab 269 (F_269) := by
  intro as t r h
  unfold F_269 at h
  split at h
  · rename_i z0 a b c
    split at h
    · rename_i hz0
      obtain rfl := Nat.eq_of_beq_eq_true hz0
      exact ⟨q_269, rfl, mok_269, con_of (P := P_269) (by decide +kernel) rfl (Nat.le_of_ble_eq_true rfl) (fm_sheet_ok t a b c h)⟩
    · cases h
  · cases h
end
section
set_option maxRecDepth 100000
variable {l : Launch} {r : RR}
def FT_270 : FT := (182, F_182) :: []
theorem ft_270 : FTok l 2 mtab FT_270 := FTok.cons (ok_182 l) (by omega) (FTok.nil)
theorem fm_cell_eq : (fun (G182 : List Value → SM → OR) (t : SM) (a : Int32) (b : Int32) (c : Int32) => ex clN P_270 none bytJ (mkCal rks ((182, G182) :: [])) [] (kDisp []) 400 0 [(0, .ref 39), (1, .int a), (2, .int b), (3, .int c)] [] t) = (fun (G182 : List Value → SM → OR) (t : SM) (a : Int32) (b : Int32) (c : Int32) =>
  bI (G182 [.int a, .int 0, .int 3] t) fun in2 t1 =>
  if in2 = 0 then rI (-2) t1
  else hGetC t1 11 39 28 54 <|
    hALd t1 54 a fun e3 =>
    if e3 = (-1) then rI (-11) t1
    else hGetC t1 11 39 29 55 <|
      hALd t1 55 a fun e4 =>
      bI (G182 [.int b, .int 0, .int (e4 - 1)] t1) fun in6 t5 =>
      if in6 = 0 then rI (-12) t5
      else hGetC t5 11 39 30 56 <|
        hGetC t5 11 39 28 54 <|
        hALd t5 54 a fun e7 =>
        if e7 = 0 then hASt t5 56 ((40 * a) + b) (Int8.toInt32 (Int32.toInt8 c)) fun t11 =>
        rI 1 t11
        else hGetC t5 11 39 28 54 <|
          hALd t5 54 a fun e8 =>
          if e8 = 1 then hASt t5 56 ((40 * a) + b) (Int16.toInt32 (Int32.toInt16 c)) fun t10 =>
          rI 1 t10
          else hASt t5 56 ((40 * a) + b) c fun t9 =>
            rI 1 t9) := by rfl
theorem fm_cell_ok (t : SM) (a : Int32) (b : Int32) (c : Int32) (h : fm_cell t a b c = some r) : Body l 2 q_270 P_270 r 0 [(0, .ref 39), (1, .int a), (2, .int b), (3, .int c)] [] t :=
  blk ft_270 (by omega) rfl rows_270 (KDok.nil) ((congrFun (congrFun (congrFun (congrFun (congrFun (fm_cell_eq) F_182) t) a) b) c).trans h)
theorem ok_270 (l : Launch) : Fok l 2 mtab 270 (F_270) := by
  intro as t r h
  unfold F_270 at h
  split at h
  · rename_i z0 a b c
    split at h
    · rename_i hz0
      obtain rfl := Nat.eq_of_beq_eq_true hz0
      exact ⟨q_270, rfl, mok_270, con_of (P := P_270) (by decide +kernel) rfl (Nat.le_of_ble_eq_true rfl) (fm_cell_ok t a b c h)⟩
    · cases h
  · cases h
end
section
set_option maxRecDepth 100000
variable {l : Launch} {r : RR}
def FT_271 : FT := (182, F_182) :: []
theorem ft_271 : FTok l 2 mtab FT_271 := FTok.cons (ok_182 l) (by omega) (FTok.nil)
theorem fm_copy_147_eq : (fun (G182 : List Value → SM → OR) (j147 : SM → Int32 → Int32 → Int32 → Int32 → OR) (t : SM) (v5 : Int32) (v6 : Int32) (v7 : Int32) (v8 : Int32) => ex clN P_271 none bytJ (mkCal rks ((182, G182) :: [])) [147] (kDisp [(147, kF 0 39 <| kI 5 fun w5 => kI 6 fun w6 => kI 7 fun w7 => kI 8 fun w8 => kE fun t => j147 t w5 w6 w7 w8)]) 400 147 [(8, .int v8), (7, .int v7), (6, .int v6), (5, .int v5), (0, .ref 39)] [] t) = (fun (G182 : List Value → SM → OR) (j147 : SM → Int32 → Int32 → Int32 → Int32 → OR) (t : SM) (v5 : Int32) (v6 : Int32) (v7 : Int32) (v8 : Int32) =>
  if v5 ≤ v8 then rI v5 t
  else if v7 ≤ v6 then hGetC t 11 39 30 56 <|
    hGetC t 11 39 30 56 <|
    hALd t 56 (v6 + v8) fun e1 =>
    hASt t 56 (v7 + v8) e1 fun t2 =>
    j147 t2 v5 v6 v7 (v8 + 1)
  else hGetC t 11 39 30 56 <|
  hGetC t 11 39 30 56 <|
  hALd t 56 (v6 + ((v5 - 1) - v8)) fun e3 =>
  hASt t 56 (v7 + ((v5 - 1) - v8)) e3 fun t4 =>
  j147 t4 v5 v6 v7 (v8 + 1)) := by rfl
theorem fm_copy_147_ok {r147 : SM → Int32 → Int32 → Int32 → Int32 → OR} (h_r147 : ∀ (t : SM) (v5 : Int32) (v6 : Int32) (v7 : Int32) (v8 : Int32), r147 t v5 v6 v7 v8 = some r → Body l 2 q_271 P_271 r 147 [(8, .int v8), (7, .int v7), (6, .int v6), (5, .int v5), (0, .ref 39)] [] t) (t : SM) (v5 : Int32) (v6 : Int32) (v7 : Int32) (v8 : Int32) (h : fm_copy_147 r147 t v5 v6 v7 v8 = some r) : Body l 2 q_271 P_271 r 147 [(8, .int v8), (7, .int v7), (6, .int v6), (5, .int v5), (0, .ref 39)] [] t :=
  blk ft_271 (by omega) rfl rows_271 (KDok.cons (KOK.f <| KOK.i fun w5 => KOK.i fun w6 => KOK.i fun w7 => KOK.i fun w8 => KOK.e (f := fun t => r147 t w5 w6 w7 w8) fun t h => h_r147 t w5 w6 w7 w8 h) (KDok.nil)) ((congrFun (congrFun (congrFun (congrFun (congrFun (congrFun (congrFun (fm_copy_147_eq) F_182) (fun t u5 u6 u7 u8 => r147 t u5 u6 u7 u8)) t) v5) v6) v7) v8).trans h)
theorem fm_copy_l147_ok : ∀ (n : Nat) (t : SM) (v5 : Int32) (v6 : Int32) (v7 : Int32) (v8 : Int32), fm_copy_l147 n t v5 v6 v7 v8 = some r → Body l 2 q_271 P_271 r 147 [(8, .int v8), (7, .int v7), (6, .int v6), (5, .int v5), (0, .ref 39)] [] t
  | 0, _, _, _, _, _, h => by cases h
  | n + 1, t, v5, v6, v7, v8, h => fm_copy_147_ok (fm_copy_l147_ok n) t v5 v6 v7 v8 h
theorem fm_copy_eq : (fun (G182 : List Value → SM → OR) (j147 : SM → Int32 → Int32 → Int32 → Int32 → OR) (t : SM) (a : Int32) (b : Int32) (c : Int32) (d : Int32) (e : Int32) => ex clN P_271 none bytJ (mkCal rks ((182, G182) :: [])) [147] (kDisp [(147, kF 0 39 <| kI 5 fun w5 => kI 6 fun w6 => kI 7 fun w7 => kI 8 fun w8 => kE fun t => j147 t w5 w6 w7 w8)]) 400 0 [(0, .ref 39), (1, .int a), (2, .int b), (3, .int c), (4, .int d), (5, .int e)] [] t) = (fun (G182 : List Value → SM → OR) (j147 : SM → Int32 → Int32 → Int32 → Int32 → OR) (t : SM) (a : Int32) (b : Int32) (c : Int32) (d : Int32) (e : Int32) =>
  bI (G182 [.int a, .int 0, .int 3] t) fun in2 t1 =>
  if in2 = 0 then rI (-2) t1
  else bI (G182 [.int c, .int 0, .int 3] t1) fun in4 t3 =>
  if in4 = 0 then rI (-2) t3
  else hGetC t3 11 39 28 54 <|
    hALd t3 54 a fun e5 =>
    if e5 = (-1) then rI (-11) t3
    else hGetC t3 11 39 28 54 <|
    hALd t3 54 c fun e6 =>
    if e6 = (-1) then rI (-11) t3
    else hGetC t3 11 39 28 54 <|
      hALd t3 54 a fun e7 =>
      hGetC t3 11 39 28 54 <|
      hALd t3 54 c fun e8 =>
      if e7 = e8 then if e < 0 then rI (-12) t3
        else if b < 0 then rI (-12) t3
        else if d < 0 then rI (-12) t3
        else hGetC t3 11 39 29 55 <|
        hALd t3 55 a fun e9 =>
        if e9 < b then rI (-12) t3
        else hGetC t3 11 39 29 55 <|
        hALd t3 55 c fun e10 =>
        if e10 < d then rI (-12) t3
        else hGetC t3 11 39 29 55 <|
        hALd t3 55 a fun e11 =>
        if (e11 - b) < e then rI (-12) t3
        else hGetC t3 11 39 29 55 <|
        hALd t3 55 c fun e12 =>
        if e ≤ (e12 - d) then j147 t3 e ((40 * a) + b) ((40 * c) + d) 0
        else rI (-12) t3
      else rI (-13) t3) := by rfl
theorem fm_copy_ok (t : SM) (a : Int32) (b : Int32) (c : Int32) (d : Int32) (e : Int32) (h : fm_copy t a b c d e = some r) : Body l 2 q_271 P_271 r 0 [(0, .ref 39), (1, .int a), (2, .int b), (3, .int c), (4, .int d), (5, .int e)] [] t :=
  blk ft_271 (by omega) rfl rows_271 (KDok.cons (KOK.f <| KOK.i fun w5 => KOK.i fun w6 => KOK.i fun w7 => KOK.i fun w8 => KOK.e (f := fun t => fm_copy_l147 1000000 t w5 w6 w7 w8) fun t h => fm_copy_l147_ok 1000000 t w5 w6 w7 w8 h) (KDok.nil)) ((congrFun (congrFun (congrFun (congrFun (congrFun (congrFun (congrFun (congrFun (fm_copy_eq) F_182) (fun t u5 u6 u7 u8 => fm_copy_l147 1000000 t u5 u6 u7 u8)) t) a) b) c) d) e).trans h)
theorem ok_271 (l : Launch) : Fok l 2 mtab 271 (F_271) := by
  intro as t r h
  unfold F_271 at h
  split at h
  · rename_i z0 a b c d e
    split at h
    · rename_i hz0
      obtain rfl := Nat.eq_of_beq_eq_true hz0
      exact ⟨q_271, rfl, mok_271, con_of (P := P_271) (by decide +kernel) rfl (Nat.le_of_ble_eq_true rfl) (fm_copy_ok t a b c d e h)⟩
    · cases h
  · cases h
end
section
set_option maxRecDepth 100000
variable {l : Launch} {r : RR}
def FT_272 : FT := (182, F_182) :: (208, F_208) :: []
theorem ft_272 : FTok l 4 mtab FT_272 := FTok.cons (ok_182 l) (by omega) (FTok.cons (ok_208 l) (by omega) (FTok.nil))
theorem fm_mapsBy_64_eq : (fun (G182 : List Value → SM → OR) (G208 : List Value → SM → OR) (j64 : SM → Int32 → Int32 → Int32 → Int32 → Int32 → OR) (t : SM) (v1 : Int32) (v3 : Int32) (v4 : Int32) (v5 : Int32) (v6 : Int32) => ex clN P_272 none bytJ (mkCal rks ((182, G182) :: (208, G208) :: [])) [64] (kDisp [(64, kF 0 39 <| kI 1 fun w1 => kI 3 fun w3 => kI 4 fun w4 => kI 5 fun w5 => kI 6 fun w6 => kE fun t => j64 t w1 w3 w4 w5 w6)]) 400 64 [(6, .int v6), (5, .int v5), (4, .int v4), (3, .int v3), (1, .int v1), (0, .ref 39)] [] t) = (fun (G182 : List Value → SM → OR) (G208 : List Value → SM → OR) (j64 : SM → Int32 → Int32 → Int32 → Int32 → Int32 → OR) (t : SM) (v1 : Int32) (v3 : Int32) (v4 : Int32) (v5 : Int32) (v6 : Int32) =>
  if v4 ≤ v6 then rI v5 t
  else if v3 < 0 then rI (-12) t
  else if (v3 + (4 * v6)) < v3 then rI (-12) t
  else hGetC t 11 39 29 55 <|
  hALd t 55 v1 fun e1 =>
  if (v3 + (4 * v6)) ≤ (e1 - 4) then hGetC t 11 39 30 56 <|
    hALd t 56 ((40 * v1) + (v3 + (4 * v6))) fun e2 =>
    hGetC t 11 39 30 56 <|
    hALd t 56 (((40 * v1) + (v3 + (4 * v6))) + 1) fun e3 =>
    hGetC t 11 39 30 56 <|
    hALd t 56 (((40 * v1) + (v3 + (4 * v6))) + 2) fun e4 =>
    hGetC t 11 39 30 56 <|
    hALd t 56 (((40 * v1) + (v3 + (4 * v6))) + 3) fun e5 =>
    hRecv t 11 39 <| bI (G208 [.ref 39, .int e2, .int e3, .int e4, .int e5] t) fun map7 t6 =>
    if map7 < 0 then j64 t6 v1 v3 v4 (v5 + 0) (v6 + 1)
    else j64 t6 v1 v3 v4 (v5 + 1) (v6 + 1)
  else rI (-12) t) := by rfl
theorem fm_mapsBy_64_ok {r64 : SM → Int32 → Int32 → Int32 → Int32 → Int32 → OR} (h_r64 : ∀ (t : SM) (v1 : Int32) (v3 : Int32) (v4 : Int32) (v5 : Int32) (v6 : Int32), r64 t v1 v3 v4 v5 v6 = some r → Body l 4 q_272 P_272 r 64 [(6, .int v6), (5, .int v5), (4, .int v4), (3, .int v3), (1, .int v1), (0, .ref 39)] [] t) (t : SM) (v1 : Int32) (v3 : Int32) (v4 : Int32) (v5 : Int32) (v6 : Int32) (h : fm_mapsBy_64 r64 t v1 v3 v4 v5 v6 = some r) : Body l 4 q_272 P_272 r 64 [(6, .int v6), (5, .int v5), (4, .int v4), (3, .int v3), (1, .int v1), (0, .ref 39)] [] t :=
  blk ft_272 (by omega) rfl rows_272 (KDok.cons (KOK.f <| KOK.i fun w1 => KOK.i fun w3 => KOK.i fun w4 => KOK.i fun w5 => KOK.i fun w6 => KOK.e (f := fun t => r64 t w1 w3 w4 w5 w6) fun t h => h_r64 t w1 w3 w4 w5 w6 h) (KDok.nil)) ((congrFun (congrFun (congrFun (congrFun (congrFun (congrFun (congrFun (congrFun (congrFun (fm_mapsBy_64_eq) F_182) F_208) (fun t u1 u3 u4 u5 u6 => r64 t u1 u3 u4 u5 u6)) t) v1) v3) v4) v5) v6).trans h)
theorem fm_mapsBy_l64_ok : ∀ (n : Nat) (t : SM) (v1 : Int32) (v3 : Int32) (v4 : Int32) (v5 : Int32) (v6 : Int32), fm_mapsBy_l64 n t v1 v3 v4 v5 v6 = some r → Body l 4 q_272 P_272 r 64 [(6, .int v6), (5, .int v5), (4, .int v4), (3, .int v3), (1, .int v1), (0, .ref 39)] [] t
  | 0, _, _, _, _, _, _, h => by cases h
  | n + 1, t, v1, v3, v4, v5, v6, h => fm_mapsBy_64_ok (fm_mapsBy_l64_ok n) t v1 v3 v4 v5 v6 h
theorem fm_mapsBy_eq : (fun (G182 : List Value → SM → OR) (G208 : List Value → SM → OR) (j64 : SM → Int32 → Int32 → Int32 → Int32 → Int32 → OR) (t : SM) (a : Int32) (b : Int32) (c : Int32) (d : Int32) => ex clN P_272 none bytJ (mkCal rks ((182, G182) :: (208, G208) :: [])) [64] (kDisp [(64, kF 0 39 <| kI 1 fun w1 => kI 3 fun w3 => kI 4 fun w4 => kI 5 fun w5 => kI 6 fun w6 => kE fun t => j64 t w1 w3 w4 w5 w6)]) 400 0 [(0, .ref 39), (1, .int a), (2, .int b), (3, .int c), (4, .int d)] [] t) = (fun (G182 : List Value → SM → OR) (G208 : List Value → SM → OR) (j64 : SM → Int32 → Int32 → Int32 → Int32 → Int32 → OR) (t : SM) (a : Int32) (b : Int32) (c : Int32) (d : Int32) =>
  bI (G182 [.int a, .int 0, .int 3] t) fun in2 t1 =>
  if in2 = 0 then rI (-2) t1
  else bI (G182 [.int b, .int 0, .int 2] t1) fun in4 t3 =>
  if in4 = 0 then rI (-2) t3
  else bI (G182 [.int d, .int 0, .int 8] t3) fun in6 t5 =>
  if in6 = 0 then rI (-2) t5
  else hGetC t5 11 39 28 54 <|
    hALd t5 54 a fun e7 =>
    if e7 = (-1) then rI (-11) t5
    else hGetC t5 11 39 28 54 <|
      hALd t5 54 a fun e8 =>
      if e8 = b then j64 t5 a c d 0 0
      else rI (-13) t5) := by rfl
theorem fm_mapsBy_ok (t : SM) (a : Int32) (b : Int32) (c : Int32) (d : Int32) (h : fm_mapsBy t a b c d = some r) : Body l 4 q_272 P_272 r 0 [(0, .ref 39), (1, .int a), (2, .int b), (3, .int c), (4, .int d)] [] t :=
  blk ft_272 (by omega) rfl rows_272 (KDok.cons (KOK.f <| KOK.i fun w1 => KOK.i fun w3 => KOK.i fun w4 => KOK.i fun w5 => KOK.i fun w6 => KOK.e (f := fun t => fm_mapsBy_l64 1000000 t w1 w3 w4 w5 w6) fun t h => fm_mapsBy_l64_ok 1000000 t w1 w3 w4 w5 w6 h) (KDok.nil)) ((congrFun (congrFun (congrFun (congrFun (congrFun (congrFun (congrFun (congrFun (fm_mapsBy_eq) F_182) F_208) (fun t u1 u3 u4 u5 u6 => fm_mapsBy_l64 1000000 t u1 u3 u4 u5 u6)) t) a) b) c) d).trans h)
theorem ok_272 (l : Launch) : Fok l 4 mtab 272 (F_272) := by
  intro as t r h
  unfold F_272 at h
  split at h
  · rename_i z0 a b c d
    split at h
    · rename_i hz0
      obtain rfl := Nat.eq_of_beq_eq_true hz0
      exact ⟨q_272, rfl, mok_272, con_of (P := P_272) (by decide +kernel) rfl (Nat.le_of_ble_eq_true rfl) (fm_mapsBy_ok t a b c d h)⟩
    · cases h
  · cases h
end
section
set_option maxRecDepth 100000
variable {l : Launch} {r : RR}
def FT_273 : FT := []
theorem ft_273 : FTok l 1 mtab FT_273 := FTok.nil
theorem fm_isUnder_eq : (fun (t : SM) (a : Int32) (b : Int32) => ex clN P_273 none bytJ (mkCal rks ([])) [] (kDisp []) 400 0 [(0, .int a), (1, .int b)] [] t) = (fun (t : SM) (a : Int32) (b : Int32) =>
  if b = 0 then rI 1 t
  else if a = b then rI 1 t
  else if b = 2 then if a = 3 then rI 1 t
  else rI 0 t
  else rI 0 t) := by rfl
theorem fm_isUnder_ok (t : SM) (a : Int32) (b : Int32) (h : fm_isUnder t a b = some r) : Body l 1 q_273 P_273 r 0 [(0, .int a), (1, .int b)] [] t :=
  blk ft_273 (by omega) rfl rows_273 (KDok.nil) ((congrFun (congrFun (congrFun (fm_isUnder_eq) t) a) b).trans h)
theorem ok_273 (l : Launch) : Fok l 1 mtab 273 (F_273) := by
  intro as t r h
  unfold F_273 at h
  split at h
  · rename_i a b
    exact ⟨q_273, rfl, mok_273, con_of (P := P_273) (by decide +kernel) rfl (Nat.le_of_ble_eq_true rfl) (fm_isUnder_ok t a b h)⟩
  · cases h
end
section
set_option maxRecDepth 100000
variable {l : Launch} {r : RR}
def FT_274 : FT := (182, F_182) :: (273, F_273) :: []
theorem ft_274 : FTok l 2 mtab FT_274 := FTok.cons (ok_182 l) (by omega) (FTok.cons (ok_273 l) (by omega) (FTok.nil))
theorem fm_taken_eq : (fun (G182 : List Value → SM → OR) (G273 : List Value → SM → OR) (t : SM) (a : Int32) (b : Int32) => ex clN P_274 none bytJ (mkCal rks ((182, G182) :: (273, G273) :: [])) [] (kDisp []) 400 0 [(0, .ref 39), (1, .int a), (2, .int b)] [] t) = (fun (G182 : List Value → SM → OR) (G273 : List Value → SM → OR) (t : SM) (a : Int32) (b : Int32) =>
  bI (G182 [.int b, .int 0, .int 6] t) fun in2 t1 =>
  if in2 = 0 then rI (-2) t1
  else bI (G182 [.int a, .int 0, .int 19] t1) fun in4 t3 =>
    if in4 = 0 then rI (-12) t3
    else if 12 ≤ a then hGetI t3 11 39 3 fun maps5 =>
        if (a - 12) < maps5 then if 6 ≤ b then rI (-13) t3
          else hGetC t3 11 39 4 40 <|
          hALd t3 40 (a - 12) fun e6 =>
          bI (G273 [.int e6, .int b] t3) fun isUnder8 t7 =>
          if isUnder8 = 0 then rI (-13) t7
          else rI (a - 12) t7
        else rI (-11) t3
      else hGetI t3 11 39 9 fun streets9 =>
      if a < streets9 then if b = 6 then hGetC t3 11 39 13 48 <|
        hALd t3 48 a fun e10 =>
        rI e10 t3
        else rI (-13) t3
      else rI (-11) t3) := by rfl
theorem fm_taken_ok (t : SM) (a : Int32) (b : Int32) (h : fm_taken t a b = some r) : Body l 2 q_274 P_274 r 0 [(0, .ref 39), (1, .int a), (2, .int b)] [] t :=
  blk ft_274 (by omega) rfl rows_274 (KDok.nil) ((congrFun (congrFun (congrFun (congrFun (congrFun (fm_taken_eq) F_182) F_273) t) a) b).trans h)
theorem ok_274 (l : Launch) : Fok l 2 mtab 274 (F_274) := by
  intro as t r h
  unfold F_274 at h
  split at h
  · rename_i z0 a b
    split at h
    · rename_i hz0
      obtain rfl := Nat.eq_of_beq_eq_true hz0
      exact ⟨q_274, rfl, mok_274, con_of (P := P_274) (by decide +kernel) rfl (Nat.le_of_ble_eq_true rfl) (fm_taken_ok t a b h)⟩
    · cases h
  · cases h
end
