section
set_option maxRecDepth 100000
variable {l : Launch} {r : RR}
def FT_182 : FT := []
theorem ft_182 : FTok l 1 mtab FT_182 := FTok.nil
theorem fm_in_eq : (fun (t : SM) (a : Int32) (b : Int32) (c : Int32) => ex clN P_182 none bytJ (mkCal rks ([])) [] (kDisp []) 400 0 [(0, .int a), (1, .int b), (2, .int c)] [] t) = (fun (t : SM) (a : Int32) (b : Int32) (c : Int32) =>
  if a < b then rI 0 t
  else if c < a then rI 0 t
  else rI 1 t) := by rfl
theorem fm_in_ok (t : SM) (a : Int32) (b : Int32) (c : Int32) (h : fm_in t a b c = some r) : Body l 1 q_182 P_182 r 0 [(0, .int a), (1, .int b), (2, .int c)] [] t :=
  blk ft_182 (by omega) rfl rows_182 (KDok.nil) ((congrFun (congrFun (congrFun (congrFun (fm_in_eq) t) a) b) c).trans h)
theorem ok_182 (l : Launch) : Fok l 1 mtab 182 (F_182) := by
  intro as t r h
  unfold F_182 at h
  split at h
  · rename_i a b c
    exact ⟨q_182, rfl, mok_182, con_of (P := P_182) (by decide +kernel) rfl (Nat.le_of_ble_eq_true rfl) (fm_in_ok t a b c h)⟩
  · cases h
end
section
set_option maxRecDepth 100000
variable {l : Launch} {r : RR}
def FT_191 : FT := []
theorem ft_191 : FTok l 1 mtab FT_191 := FTok.nil
theorem fm_wordFrom_88_eq : (fun (j2 : SM → Int32 → Int32 → Int32 → OR) (t : SM) (v1 : Int32) (v2 : Int32) (v3 : Int32) (v4 : Int32) => ex clN P_191 none bytJ (mkCal rks ([])) [2] (kDisp [(2, kF 0 39 <| kI 1 fun w1 => kI 2 fun w2 => kI 3 fun w3 => kE fun t => j2 t w1 w2 w3)]) 400 88 [(4, .int v4), (3, .int v3), (2, .int v2), (1, .int v1), (0, .ref 39)] [] t) = (fun (j2 : SM → Int32 → Int32 → Int32 → OR) (t : SM) (v1 : Int32) (v2 : Int32) (v3 : Int32) (v4 : Int32) =>
  if v4 = 0 then j2 t v1 v2 (v3 + 1)
  else rI v3 t) := by rfl
theorem fm_wordFrom_88_ok {r2 : SM → Int32 → Int32 → Int32 → OR} (h_r2 : ∀ (t : SM) (v1 : Int32) (v2 : Int32) (v3 : Int32), r2 t v1 v2 v3 = some r → Body l 1 q_191 P_191 r 2 [(3, .int v3), (2, .int v2), (1, .int v1), (0, .ref 39)] [] t) (t : SM) (v1 : Int32) (v2 : Int32) (v3 : Int32) (v4 : Int32) (h : fm_wordFrom_88 r2 t v1 v2 v3 v4 = some r) : Body l 1 q_191 P_191 r 88 [(4, .int v4), (3, .int v3), (2, .int v2), (1, .int v1), (0, .ref 39)] [] t :=
  blk ft_191 (by omega) rfl rows_191 (KDok.cons (KOK.f <| KOK.i fun w1 => KOK.i fun w2 => KOK.i fun w3 => KOK.e (f := fun t => r2 t w1 w2 w3) fun t h => h_r2 t w1 w2 w3 h) (KDok.nil)) ((congrFun (congrFun (congrFun (congrFun (congrFun (congrFun (fm_wordFrom_88_eq) (fun t u1 u2 u3 => r2 t u1 u2 u3)) t) v1) v2) v3) v4).trans h)
theorem fm_wordFrom_26_eq : (fun (j26 : SM → Int32 → Int32 → Int32 → Int32 → Int32 → OR) (j88 : SM → Int32 → Int32 → Int32 → Int32 → OR) (t : SM) (v1 : Int32) (v2 : Int32) (v3 : Int32) (v4 : Int32) (v5 : Int32) => ex clN P_191 none bytJ (mkCal rks ([])) [26, 88] (kDisp [(26, kF 0 39 <| kI 1 fun w1 => kI 2 fun w2 => kI 3 fun w3 => kI 4 fun w4 => kI 5 fun w5 => kE fun t => j26 t w1 w2 w3 w4 w5), (88, kF 0 39 <| kI 1 fun w1 => kI 2 fun w2 => kI 3 fun w3 => kI 4 fun w4 => kE fun t => j88 t w1 w2 w3 w4)]) 400 26 [(5, .int v5), (4, .int v4), (3, .int v3), (2, .int v2), (1, .int v1), (0, .ref 39)] [] t) = (fun (j26 : SM → Int32 → Int32 → Int32 → Int32 → Int32 → OR) (j88 : SM → Int32 → Int32 → Int32 → Int32 → OR) (t : SM) (v1 : Int32) (v2 : Int32) (v3 : Int32) (v4 : Int32) (v5 : Int32) =>
  if 8 ≤ v5 then j88 t v1 v2 v3 v4
  else if v4 = 0 then j88 t v1 v2 v3 v4
  else hGetC t 11 39 36 58 <|
  hALd t 58 ((8 * v3) + v5) fun e1 =>
  if v2 ≤ (v1 + v5) then if e1 = 32 then j26 t v1 v2 v3 1 (v5 + 1)
    else j26 t v1 v2 v3 0 (v5 + 1)
  else hGetC t 11 39 16 50 <|
  hALd t 50 (v1 + v5) fun e2 =>
  if e1 = e2 then j26 t v1 v2 v3 1 (v5 + 1)
  else j26 t v1 v2 v3 0 (v5 + 1)) := by rfl
theorem fm_wordFrom_26_ok {k88 : SM → Int32 → Int32 → Int32 → Int32 → OR} {r26 : SM → Int32 → Int32 → Int32 → Int32 → Int32 → OR} (h_k88 : ∀ (t : SM) (v1 : Int32) (v2 : Int32) (v3 : Int32) (v4 : Int32), k88 t v1 v2 v3 v4 = some r → Body l 1 q_191 P_191 r 88 [(4, .int v4), (3, .int v3), (2, .int v2), (1, .int v1), (0, .ref 39)] [] t) (h_r26 : ∀ (t : SM) (v1 : Int32) (v2 : Int32) (v3 : Int32) (v4 : Int32) (v5 : Int32), r26 t v1 v2 v3 v4 v5 = some r → Body l 1 q_191 P_191 r 26 [(5, .int v5), (4, .int v4), (3, .int v3), (2, .int v2), (1, .int v1), (0, .ref 39)] [] t) (t : SM) (v1 : Int32) (v2 : Int32) (v3 : Int32) (v4 : Int32) (v5 : Int32) (h : fm_wordFrom_26 k88 r26 t v1 v2 v3 v4 v5 = some r) : Body l 1 q_191 P_191 r 26 [(5, .int v5), (4, .int v4), (3, .int v3), (2, .int v2), (1, .int v1), (0, .ref 39)] [] t :=
  blk ft_191 (by omega) rfl rows_191 (KDok.cons (KOK.f <| KOK.i fun w1 => KOK.i fun w2 => KOK.i fun w3 => KOK.i fun w4 => KOK.i fun w5 => KOK.e (f := fun t => r26 t w1 w2 w3 w4 w5) fun t h => h_r26 t w1 w2 w3 w4 w5 h) (KDok.cons (KOK.f <| KOK.i fun w1 => KOK.i fun w2 => KOK.i fun w3 => KOK.i fun w4 => KOK.e (f := fun t => k88 t w1 w2 w3 w4) fun t h => h_k88 t w1 w2 w3 w4 h) (KDok.nil))) ((congrFun (congrFun (congrFun (congrFun (congrFun (congrFun (congrFun (congrFun (fm_wordFrom_26_eq) (fun t u1 u2 u3 u4 u5 => r26 t u1 u2 u3 u4 u5)) (fun t u1 u2 u3 u4 => k88 t u1 u2 u3 u4)) t) v1) v2) v3) v4) v5).trans h)
theorem fm_wordFrom_l26_ok {k88 : SM → Int32 → Int32 → Int32 → Int32 → OR} (h_k88 : ∀ (t : SM) (v1 : Int32) (v2 : Int32) (v3 : Int32) (v4 : Int32), k88 t v1 v2 v3 v4 = some r → Body l 1 q_191 P_191 r 88 [(4, .int v4), (3, .int v3), (2, .int v2), (1, .int v1), (0, .ref 39)] [] t) : ∀ (n : Nat) (t : SM) (v1 : Int32) (v2 : Int32) (v3 : Int32) (v4 : Int32) (v5 : Int32), fm_wordFrom_l26 k88 n t v1 v2 v3 v4 v5 = some r → Body l 1 q_191 P_191 r 26 [(5, .int v5), (4, .int v4), (3, .int v3), (2, .int v2), (1, .int v1), (0, .ref 39)] [] t
  | 0, _, _, _, _, _, _, h => by cases h
  | n + 1, t, v1, v2, v3, v4, v5, h => fm_wordFrom_26_ok h_k88 (fm_wordFrom_l26_ok h_k88 n) t v1 v2 v3 v4 v5 h
theorem fm_wordFrom_2_eq : (fun (j26 : SM → Int32 → Int32 → Int32 → Int32 → Int32 → OR) (t : SM) (v1 : Int32) (v2 : Int32) (v3 : Int32) => ex clN P_191 none bytJ (mkCal rks ([])) [26] (kDisp [(26, kF 0 39 <| kI 1 fun w1 => kI 2 fun w2 => kI 3 fun w3 => kI 4 fun w4 => kI 5 fun w5 => kE fun t => j26 t w1 w2 w3 w4 w5)]) 400 2 [(3, .int v3), (2, .int v2), (1, .int v1), (0, .ref 39)] [] t) = (fun (j26 : SM → Int32 → Int32 → Int32 → Int32 → Int32 → OR) (t : SM) (v1 : Int32) (v2 : Int32) (v3 : Int32) =>
  if 12 ≤ v3 then rI 12 t
  else if 8 < (v2 - v1) then j26 t v1 v2 v3 0 0
  else j26 t v1 v2 v3 1 0) := by rfl
theorem fm_wordFrom_2_ok {r2 : SM → Int32 → Int32 → Int32 → OR} (h_r2 : ∀ (t : SM) (v1 : Int32) (v2 : Int32) (v3 : Int32), r2 t v1 v2 v3 = some r → Body l 1 q_191 P_191 r 2 [(3, .int v3), (2, .int v2), (1, .int v1), (0, .ref 39)] [] t) (t : SM) (v1 : Int32) (v2 : Int32) (v3 : Int32) (h : fm_wordFrom_2 r2 t v1 v2 v3 = some r) : Body l 1 q_191 P_191 r 2 [(3, .int v3), (2, .int v2), (1, .int v1), (0, .ref 39)] [] t :=
  blk ft_191 (by omega) rfl rows_191 (KDok.cons (KOK.f <| KOK.i fun w1 => KOK.i fun w2 => KOK.i fun w3 => KOK.i fun w4 => KOK.i fun w5 => KOK.e (f := fun t => fm_wordFrom_l26 (fun t u1 u2 u3 u4 => fm_wordFrom_88 r2 t u1 u2 u3 u4) 1000000 t w1 w2 w3 w4 w5) fun t h => fm_wordFrom_l26_ok (k88 := fun t u1 u2 u3 u4 => fm_wordFrom_88 r2 t u1 u2 u3 u4) (fun t u1 u2 u3 u4 h => fm_wordFrom_88_ok h_r2 t u1 u2 u3 u4 h) 1000000 t w1 w2 w3 w4 w5 h) (KDok.nil)) ((congrFun (congrFun (congrFun (congrFun (congrFun (fm_wordFrom_2_eq) (fun t u1 u2 u3 u4 u5 => fm_wordFrom_l26 (fun t u1 u2 u3 u4 => fm_wordFrom_88 r2 t u1 u2 u3 u4) 1000000 t u1 u2 u3 u4 u5)) t) v1) v2) v3).trans h)
theorem fm_wordFrom_l2_ok : ∀ (n : Nat) (t : SM) (v1 : Int32) (v2 : Int32) (v3 : Int32), fm_wordFrom_l2 n t v1 v2 v3 = some r → Body l 1 q_191 P_191 r 2 [(3, .int v3), (2, .int v2), (1, .int v1), (0, .ref 39)] [] t
  | 0, _, _, _, _, h => by cases h
  | n + 1, t, v1, v2, v3, h => fm_wordFrom_2_ok (fm_wordFrom_l2_ok n) t v1 v2 v3 h
theorem fm_wordFrom_eq : (fun (j2 : SM → Int32 → Int32 → Int32 → OR) (t : SM) (a : Int32) (b : Int32) => ex clN P_191 none bytJ (mkCal rks ([])) [2] (kDisp [(2, kF 0 39 <| kI 1 fun w1 => kI 2 fun w2 => kI 3 fun w3 => kE fun t => j2 t w1 w2 w3)]) 400 0 [(0, .ref 39), (1, .int a), (2, .int b)] [] t) = (fun (j2 : SM → Int32 → Int32 → Int32 → OR) (t : SM) (a : Int32) (b : Int32) =>
  j2 t a b 0) := by rfl
theorem fm_wordFrom_ok (t : SM) (a : Int32) (b : Int32) (h : fm_wordFrom t a b = some r) : Body l 1 q_191 P_191 r 0 [(0, .ref 39), (1, .int a), (2, .int b)] [] t :=
  blk ft_191 (by omega) rfl rows_191 (KDok.cons (KOK.f <| KOK.i fun w1 => KOK.i fun w2 => KOK.i fun w3 => KOK.e (f := fun t => fm_wordFrom_l2 1000000 t w1 w2 w3) fun t h => fm_wordFrom_l2_ok 1000000 t w1 w2 w3 h) (KDok.nil)) ((congrFun (congrFun (congrFun (congrFun (fm_wordFrom_eq) (fun t u1 u2 u3 => fm_wordFrom_l2 1000000 t u1 u2 u3)) t) a) b).trans h)
theorem ok_191 (l : Launch) : Fok l 1 mtab 191 (F_191) := by
  intro as t r h
  unfold F_191 at h
  split at h
  · rename_i z0 a b
    split at h
    · rename_i hz0
      obtain rfl := Nat.eq_of_beq_eq_true hz0
      exact ⟨q_191, rfl, mok_191, con_of (P := P_191) (by decide +kernel) rfl (Nat.le_of_ble_eq_true rfl) (fm_wordFrom_ok t a b h)⟩
    · cases h
  · cases h
end
section
set_option maxRecDepth 100000
variable {l : Launch} {r : RR}
def FT_192 : FT := (182, F_182) :: (191, F_191) :: []
theorem ft_192 : FTok l 2 mtab FT_192 := FTok.cons (ok_182 l) (by omega) (FTok.cons (ok_191 l) (by omega) (FTok.nil))
theorem fm_nextToken_374_eq : (fun (G182 : List Value → SM → OR) (G191 : List Value → SM → OR) (t : SM) (v1 : Int32) => ex clN P_192 none bytJ (mkCal rks ((182, G182) :: (191, G191) :: [])) [] (kDisp []) 400 374 [(1, .int v1), (0, .ref 39)] [] t) = (fun (G182 : List Value → SM → OR) (G191 : List Value → SM → OR) (t : SM) (v1 : Int32) =>
  hPutI t 11 39 34 v1 fun t1 =>
  hGetI t1 11 39 32 fun at2 =>
  hPutI t1 11 39 32 (at2 + 1) fun t3 =>
  rV t3) := by rfl
theorem fm_nextToken_374_ok (t : SM) (v1 : Int32) (h : fm_nextToken_374 t v1 = some r) : Body l 2 q_192 P_192 r 374 [(1, .int v1), (0, .ref 39)] [] t :=
  blk ft_192 (by omega) rfl rows_192 (KDok.nil) ((congrFun (congrFun (congrFun (congrFun (fm_nextToken_374_eq) F_182) F_191) t) v1).trans h)
theorem fm_nextToken_309_eq : (fun (G182 : List Value → SM → OR) (G191 : List Value → SM → OR) (t : SM) (v2 : Int32) => ex clN P_192 none bytJ (mkCal rks ((182, G182) :: (191, G191) :: [])) [] (kDisp []) 400 309 [(2, .int v2), (0, .ref 39)] [] t) = (fun (G182 : List Value → SM → OR) (G191 : List Value → SM → OR) (t : SM) (v2 : Int32) =>
  if v2 ≤ 4 then hPutI t 11 39 34 1 fun t1 =>
    rV t1
  else hPutI t 11 39 34 (-1) fun t2 =>
  rV t2) := by rfl
theorem fm_nextToken_309_ok (t : SM) (v2 : Int32) (h : fm_nextToken_309 t v2 = some r) : Body l 2 q_192 P_192 r 309 [(2, .int v2), (0, .ref 39)] [] t :=
  blk ft_192 (by omega) rfl rows_192 (KDok.nil) ((congrFun (congrFun (congrFun (congrFun (fm_nextToken_309_eq) F_182) F_191) t) v2).trans h)
theorem fm_nextToken_230_eq : (fun (G182 : List Value → SM → OR) (G191 : List Value → SM → OR) (j230 : SM → Int32 → OR) (j309 : SM → Int32 → OR) (t : SM) (v2 : Int32) => ex clN P_192 none bytJ (mkCal rks ((182, G182) :: (191, G191) :: [])) [230, 309] (kDisp [(230, kF 0 39 <| kI 2 fun w2 => kE fun t => j230 t w2), (309, kF 0 39 <| kI 2 fun w2 => kE fun t => j309 t w2)]) 400 230 [(2, .int v2), (0, .ref 39)] [] t) = (fun (G182 : List Value → SM → OR) (G191 : List Value → SM → OR) (j230 : SM → Int32 → OR) (j309 : SM → Int32 → OR) (t : SM) (v2 : Int32) =>
  hGetI t 11 39 32 fun at1 =>
  hGetI t 11 39 17 fun taped2 =>
  if taped2 ≤ at1 then j309 t v2
  else hGetC t 11 39 16 50 <|
  hGetI t 11 39 32 fun at3 =>
  hALd t 50 at3 fun e4 =>
  bI (G182 [.int e4, .int 48, .int 57] t) fun in6 t5 =>
  if in6 = 0 then j309 t5 v2
  else if 4 ≤ v2 then hPutI t5 11 39 35 0 fun t7 =>
    hGetI t7 11 39 32 fun at8 =>
    hPutI t7 11 39 32 (at8 + 1) fun t9 =>
    j230 t9 (v2 + 1)
  else hGetI t5 11 39 35 fun value10 =>
  hGetC t5 11 39 16 50 <|
  hGetI t5 11 39 32 fun at11 =>
  hALd t5 50 at11 fun e12 =>
  hPutI t5 11 39 35 (((10 * value10) + e12) - 48) fun t13 =>
  hGetI t13 11 39 32 fun at14 =>
  hPutI t13 11 39 32 (at14 + 1) fun t15 =>
  j230 t15 (v2 + 1)) := by rfl
theorem fm_nextToken_230_ok {k309 : SM → Int32 → OR} {r230 : SM → Int32 → OR} (h_k309 : ∀ (t : SM) (v2 : Int32), k309 t v2 = some r → Body l 2 q_192 P_192 r 309 [(2, .int v2), (0, .ref 39)] [] t) (h_r230 : ∀ (t : SM) (v2 : Int32), r230 t v2 = some r → Body l 2 q_192 P_192 r 230 [(2, .int v2), (0, .ref 39)] [] t) (t : SM) (v2 : Int32) (h : fm_nextToken_230 k309 r230 t v2 = some r) : Body l 2 q_192 P_192 r 230 [(2, .int v2), (0, .ref 39)] [] t :=
  blk ft_192 (by omega) rfl rows_192 (KDok.cons (KOK.f <| KOK.i fun w2 => KOK.e (f := fun t => r230 t w2) fun t h => h_r230 t w2 h) (KDok.cons (KOK.f <| KOK.i fun w2 => KOK.e (f := fun t => k309 t w2) fun t h => h_k309 t w2 h) (KDok.nil))) ((congrFun (congrFun (congrFun (congrFun (congrFun (congrFun (fm_nextToken_230_eq) F_182) F_191) (fun t u2 => r230 t u2)) (fun t u2 => k309 t u2)) t) v2).trans h)
theorem fm_nextToken_l230_ok {k309 : SM → Int32 → OR} (h_k309 : ∀ (t : SM) (v2 : Int32), k309 t v2 = some r → Body l 2 q_192 P_192 r 309 [(2, .int v2), (0, .ref 39)] [] t) : ∀ (n : Nat) (t : SM) (v2 : Int32), fm_nextToken_l230 k309 n t v2 = some r → Body l 2 q_192 P_192 r 230 [(2, .int v2), (0, .ref 39)] [] t
  | 0, _, _, h => by cases h
  | n + 1, t, v2, h => fm_nextToken_230_ok h_k309 (fm_nextToken_l230_ok h_k309 n) t v2 h
theorem fm_nextToken_146_eq : (fun (G182 : List Value → SM → OR) (G191 : List Value → SM → OR) (t : SM) => ex clN P_192 none bytJ (mkCal rks ((182, G182) :: (191, G191) :: [])) [] (kDisp []) 400 146 [(0, .ref 39)] [] t) = (fun (G182 : List Value → SM → OR) (G191 : List Value → SM → OR) (t : SM) =>
  hGetI t 11 39 33 fun begun1 =>
  hGetI t 11 39 32 fun at2 =>
  hRecv t 11 39 <| bI (G191 [.ref 39, .int begun1, .int at2] t) fun wordFrom4 t3 =>
  if 3 ≤ wordFrom4 then if 9 ≤ wordFrom4 then if wordFrom4 = 12 then hPutI t3 11 39 34 (-1) fun t8 =>
      if 3 ≤ wordFrom4 then hPutI t8 11 39 35 (wordFrom4 - 3) fun t9 =>
        rV t9
      else hPutI t8 11 39 35 wordFrom4 fun t10 =>
      rV t10
      else hPutI t3 11 39 34 ((4 + wordFrom4) - 9) fun t5 =>
        if 3 ≤ wordFrom4 then hPutI t5 11 39 35 (wordFrom4 - 3) fun t6 =>
          rV t6
        else hPutI t5 11 39 35 wordFrom4 fun t7 =>
        rV t7
    else hPutI t3 11 39 34 2 fun t11 =>
    if 3 ≤ wordFrom4 then hPutI t11 11 39 35 (wordFrom4 - 3) fun t12 =>
      rV t12
    else hPutI t11 11 39 35 wordFrom4 fun t13 =>
    rV t13
  else hPutI t3 11 39 34 3 fun t14 =>
  if 3 ≤ wordFrom4 then hPutI t14 11 39 35 (wordFrom4 - 3) fun t15 =>
    rV t15
  else hPutI t14 11 39 35 wordFrom4 fun t16 =>
  rV t16) := by rfl
theorem fm_nextToken_146_ok (t : SM) (h : fm_nextToken_146 t = some r) : Body l 2 q_192 P_192 r 146 [(0, .ref 39)] [] t :=
  blk ft_192 (by omega) rfl rows_192 (KDok.nil) ((congrFun (congrFun (congrFun (fm_nextToken_146_eq) F_182) F_191) t).trans h)
theorem fm_nextToken_103_eq : (fun (G182 : List Value → SM → OR) (G191 : List Value → SM → OR) (j103 : SM → OR) (j146 : SM → OR) (t : SM) => ex clN P_192 none bytJ (mkCal rks ((182, G182) :: (191, G191) :: [])) [103, 146] (kDisp [(103, kF 0 39 <| kE fun t => j103 t), (146, kF 0 39 <| kE fun t => j146 t)]) 400 103 [(0, .ref 39)] [] t) = (fun (G182 : List Value → SM → OR) (G191 : List Value → SM → OR) (j103 : SM → OR) (j146 : SM → OR) (t : SM) =>
  hGetI t 11 39 32 fun at1 =>
  hGetI t 11 39 17 fun taped2 =>
  if taped2 ≤ at1 then j146 t
  else hGetC t 11 39 16 50 <|
  hGetI t 11 39 32 fun at3 =>
  hALd t 50 at3 fun e4 =>
  bI (G182 [.int e4, .int 97, .int 122] t) fun in6 t5 =>
  if in6 = 0 then j146 t5
  else hGetI t5 11 39 32 fun at7 =>
  hPutI t5 11 39 32 (at7 + 1) fun t8 =>
  j103 t8) := by rfl
theorem fm_nextToken_103_ok {k146 : SM → OR} {r103 : SM → OR} (h_k146 : ∀ (t : SM), k146 t = some r → Body l 2 q_192 P_192 r 146 [(0, .ref 39)] [] t) (h_r103 : ∀ (t : SM), r103 t = some r → Body l 2 q_192 P_192 r 103 [(0, .ref 39)] [] t) (t : SM) (h : fm_nextToken_103 k146 r103 t = some r) : Body l 2 q_192 P_192 r 103 [(0, .ref 39)] [] t :=
  blk ft_192 (by omega) rfl rows_192 (KDok.cons (KOK.f <| KOK.e (f := fun t => r103 t) fun t h => h_r103 t h) (KDok.cons (KOK.f <| KOK.e (f := fun t => k146 t) fun t h => h_k146 t h) (KDok.nil))) ((congrFun (congrFun (congrFun (congrFun (congrFun (fm_nextToken_103_eq) F_182) F_191) (fun t => r103 t)) (fun t => k146 t)) t).trans h)
theorem fm_nextToken_l103_ok {k146 : SM → OR} (h_k146 : ∀ (t : SM), k146 t = some r → Body l 2 q_192 P_192 r 146 [(0, .ref 39)] [] t) : ∀ (n : Nat) (t : SM), fm_nextToken_l103 k146 n t = some r → Body l 2 q_192 P_192 r 103 [(0, .ref 39)] [] t
  | 0, _, h => by cases h
  | n + 1, t, h => fm_nextToken_103_ok h_k146 (fm_nextToken_l103_ok h_k146 n) t h
theorem fm_nextToken_52_eq : (fun (G182 : List Value → SM → OR) (G191 : List Value → SM → OR) (j103 : SM → OR) (j230 : SM → Int32 → OR) (j374 : SM → Int32 → OR) (t : SM) => ex clN P_192 none bytJ (mkCal rks ((182, G182) :: (191, G191) :: [])) [103, 230, 374] (kDisp [(103, kF 0 39 <| kE fun t => j103 t), (230, kF 0 39 <| kI 2 fun w2 => kE fun t => j230 t w2), (374, kF 0 39 <| kI 1 fun w1 => kE fun t => j374 t w1)]) 400 52 [(0, .ref 39)] [] t) = (fun (G182 : List Value → SM → OR) (G191 : List Value → SM → OR) (j103 : SM → OR) (j230 : SM → Int32 → OR) (j374 : SM → Int32 → OR) (t : SM) =>
  hGetI t 11 39 32 fun at1 =>
  hPutI t 11 39 33 at1 fun t2 =>
  hPutI t2 11 39 34 0 fun t3 =>
  hPutI t3 11 39 35 0 fun t4 =>
  hGetI t4 11 39 32 fun at5 =>
  hGetI t4 11 39 17 fun taped6 =>
  if at5 = taped6 then rV t4
  else hGetC t4 11 39 16 50 <|
    hGetI t4 11 39 32 fun at7 =>
    hALd t4 50 at7 fun e8 =>
    bI (G182 [.int e8, .int 97, .int 122] t4) fun in10 t9 =>
    if in10 = 0 then bI (G182 [.int e8, .int 48, .int 57] t9) fun in12 t11 =>
      if in12 = 0 then if e8 = 40 then j374 t11 e8
        else if e8 = 41 then j374 t11 e8
        else if e8 = 59 then j374 t11 e8
        else if e8 = 43 then j374 t11 e8
        else if e8 = 45 then j374 t11 e8
        else if e8 = 42 then j374 t11 e8
        else if e8 = 60 then j374 t11 e8
        else if e8 = 61 then j374 t11 e8
        else hPutI t11 11 39 34 (-1) fun t13 =>
          hGetI t13 11 39 32 fun at14 =>
          hPutI t13 11 39 32 (at14 + 1) fun t15 =>
          rV t15
      else j230 t11 0
    else j103 t9) := by rfl
theorem fm_nextToken_52_ok (t : SM) (h : fm_nextToken_52 t = some r) : Body l 2 q_192 P_192 r 52 [(0, .ref 39)] [] t :=
  blk ft_192 (by omega) rfl rows_192 (KDok.cons (KOK.f <| KOK.e (f := fun t => fm_nextToken_l103 (fun t => fm_nextToken_146 t) 1000000 t) fun t h => fm_nextToken_l103_ok (k146 := fun t => fm_nextToken_146 t) (fun t h => fm_nextToken_146_ok t h) 1000000 t h) (KDok.cons (KOK.f <| KOK.i fun w2 => KOK.e (f := fun t => fm_nextToken_l230 (fun t u2 => fm_nextToken_309 t u2) 1000000 t w2) fun t h => fm_nextToken_l230_ok (k309 := fun t u2 => fm_nextToken_309 t u2) (fun t u2 h => fm_nextToken_309_ok t u2 h) 1000000 t w2 h) (KDok.cons (KOK.f <| KOK.i fun w1 => KOK.e (f := fun t => fm_nextToken_374 t w1) fun t h => fm_nextToken_374_ok t w1 h) (KDok.nil)))) ((congrFun (congrFun (congrFun (congrFun (congrFun (congrFun (fm_nextToken_52_eq) F_182) F_191) (fun t => fm_nextToken_l103 (fun t => fm_nextToken_146 t) 1000000 t)) (fun t u2 => fm_nextToken_l230 (fun t u2 => fm_nextToken_309 t u2) 1000000 t u2)) (fun t u1 => fm_nextToken_374 t u1)) t).trans h)
theorem fm_nextToken_0_eq : (fun (G182 : List Value → SM → OR) (G191 : List Value → SM → OR) (j0 : SM → OR) (j52 : SM → OR) (t : SM) => ex clN P_192 none bytJ (mkCal rks ((182, G182) :: (191, G191) :: [])) [0, 52] (kDisp [(0, kF 0 39 <| kE fun t => j0 t), (52, kF 0 39 <| kE fun t => j52 t)]) 400 0 [(0, .ref 39)] [] t) = (fun (G182 : List Value → SM → OR) (G191 : List Value → SM → OR) (j0 : SM → OR) (j52 : SM → OR) (t : SM) =>
  hGetI t 11 39 32 fun at1 =>
  hGetI t 11 39 17 fun taped2 =>
  if taped2 ≤ at1 then j52 t
  else hGetC t 11 39 16 50 <|
  hGetI t 11 39 32 fun at3 =>
  hALd t 50 at3 fun e4 =>
  if e4 = 32 then hGetI t 11 39 32 fun at5 =>
    hPutI t 11 39 32 (at5 + 1) fun t6 =>
    j0 t6
  else hGetC t 11 39 16 50 <|
  hGetI t 11 39 32 fun at7 =>
  hALd t 50 at7 fun e8 =>
  if e8 = 10 then hGetI t 11 39 32 fun at9 =>
  hPutI t 11 39 32 (at9 + 1) fun t10 =>
  j0 t10
  else j52 t) := by rfl
theorem fm_nextToken_0_ok {k52 : SM → OR} {r0 : SM → OR} (h_k52 : ∀ (t : SM), k52 t = some r → Body l 2 q_192 P_192 r 52 [(0, .ref 39)] [] t) (h_r0 : ∀ (t : SM), r0 t = some r → Body l 2 q_192 P_192 r 0 [(0, .ref 39)] [] t) (t : SM) (h : fm_nextToken_0 k52 r0 t = some r) : Body l 2 q_192 P_192 r 0 [(0, .ref 39)] [] t :=
  blk ft_192 (by omega) rfl rows_192 (KDok.cons (KOK.f <| KOK.e (f := fun t => r0 t) fun t h => h_r0 t h) (KDok.cons (KOK.f <| KOK.e (f := fun t => k52 t) fun t h => h_k52 t h) (KDok.nil))) ((congrFun (congrFun (congrFun (congrFun (congrFun (fm_nextToken_0_eq) F_182) F_191) (fun t => r0 t)) (fun t => k52 t)) t).trans h)
theorem fm_nextToken_l0_ok {k52 : SM → OR} (h_k52 : ∀ (t : SM), k52 t = some r → Body l 2 q_192 P_192 r 52 [(0, .ref 39)] [] t) : ∀ (n : Nat) (t : SM), fm_nextToken_l0 k52 n t = some r → Body l 2 q_192 P_192 r 0 [(0, .ref 39)] [] t
  | 0, _, h => by cases h
  | n + 1, t, h => fm_nextToken_0_ok h_k52 (fm_nextToken_l0_ok h_k52 n) t h
theorem fm_nextToken_ok (t : SM) (h : fm_nextToken t = some r) : Body l 2 q_192 P_192 r 0 [(0, .ref 39)] [] t :=
  Body.less (L0 := [(0, .ref 39)]) (fm_nextToken_l0_ok (k52 := fun t => fm_nextToken_52 t) (fun t h => fm_nextToken_52_ok t h) 1000000 t h) (by intro z hz; simp only [List.mem_cons, List.not_mem_nil, or_false] at hz; rcases hz with rfl <;> rfl)
theorem ok_192 (l : Launch) : Fok l 2 mtab 192 (F_192) := by
  intro as t r h
  unfold F_192 at h
  split at h
  · rename_i z0
    split at h
    · rename_i hz0
      obtain rfl := Nat.eq_of_beq_eq_true hz0
      exact ⟨q_192, rfl, mok_192, con_of (P := P_192) (by decide +kernel) rfl (Nat.le_of_ble_eq_true rfl) (fm_nextToken_ok t h)⟩
    · cases h
  · cases h
end
section
set_option maxRecDepth 100000
variable {l : Launch} {r : RR}
def FT_194 : FT := []
theorem ft_194 : FTok l 1 mtab FT_194 := FTok.nil
theorem fm_puts_eq : (fun (t : SM) (a : Int32) => ex clN P_194 none bytJ (mkCal rks ([])) [] (kDisp []) 400 0 [(0, .ref 39), (1, .int a)] [] t) = (fun (t : SM) (a : Int32) =>
  hGetC t 11 39 18 51 <|
  hGetI t 11 39 20 fun texts1 =>
  hGetI t 11 39 40 fun out2 =>
  hASt t 51 ((200 * texts1) + out2) a fun t3 =>
  hGetI t3 11 39 40 fun out4 =>
  hPutI t3 11 39 40 (out4 + 1) fun t5 =>
  rV t5) := by rfl
theorem fm_puts_ok (t : SM) (a : Int32) (h : fm_puts t a = some r) : Body l 1 q_194 P_194 r 0 [(0, .ref 39), (1, .int a)] [] t :=
  blk ft_194 (by omega) rfl rows_194 (KDok.nil) ((congrFun (congrFun (fm_puts_eq) t) a).trans h)
theorem ok_194 (l : Launch) : Fok l 1 mtab 194 (F_194) := by
  intro as t r h
  unfold F_194 at h
  split at h
  · rename_i z0 a
    split at h
    · rename_i hz0
      obtain rfl := Nat.eq_of_beq_eq_true hz0
      exact ⟨q_194, rfl, mok_194, con_of (P := P_194) (by decide +kernel) rfl (Nat.le_of_ble_eq_true rfl) (fm_puts_ok t a h)⟩
    · cases h
  · cases h
end
section
set_option maxRecDepth 100000
variable {l : Launch} {r : RR}
def FT_193 : FT := []
theorem ft_193 : FTok l 1 mtab FT_193 := FTok.nil
theorem fm_rank_eq : (fun (t : SM) (a : Int32) => ex clN P_193 none bytJ (mkCal rks ([])) [] (kDisp []) 400 0 [(0, .int a)] [] t) = (fun (t : SM) (a : Int32) =>
  if a = 0 then rI 0 t
  else if a = 11 then rI 1 t
    else if a = 12 then rI 2 t
      else if a = 13 then rI 3 t
        else if 15 < a then if 17 < a then if a = 18 then rI 6 t
              else rI 7 t
            else rI 5 t
          else rI 4 t) := by rfl
theorem fm_rank_ok (t : SM) (a : Int32) (h : fm_rank t a = some r) : Body l 1 q_193 P_193 r 0 [(0, .int a)] [] t :=
  blk ft_193 (by omega) rfl rows_193 (KDok.nil) ((congrFun (congrFun (fm_rank_eq) t) a).trans h)
theorem ok_193 (l : Launch) : Fok l 1 mtab 193 (F_193) := by
  intro as t r h
  unfold F_193 at h
  split at h
  · rename_i a
    exact ⟨q_193, rfl, mok_193, con_of (P := P_193) (by decide +kernel) rfl (Nat.le_of_ble_eq_true rfl) (fm_rank_ok t a h)⟩
  · cases h
end
section
set_option maxRecDepth 100000
variable {l : Launch} {r : RR}
def FT_195 : FT := (193, F_193) :: (194, F_194) :: []
theorem ft_195 : FTok l 2 mtab FT_195 := FTok.cons (ok_193 l) (by omega) (FTok.cons (ok_194 l) (by omega) (FTok.nil))
theorem fm_unwinds_0_eq : (fun (G193 : List Value → SM → OR) (G194 : List Value → SM → OR) (j0 : SM → Int32 → OR) (t : SM) (v1 : Int32) => ex clN P_195 none bytJ (mkCal rks ((193, G193) :: (194, G194) :: [])) [0] (kDisp [(0, kF 0 39 <| kI 1 fun w1 => kE fun t => j0 t w1)]) 400 0 [(1, .int v1), (0, .ref 39)] [] t) = (fun (G193 : List Value → SM → OR) (G194 : List Value → SM → OR) (j0 : SM → Int32 → OR) (t : SM) (v1 : Int32) =>
  hGetI t 11 39 38 fun heldMany1 =>
  if heldMany1 ≤ 0 then rV t
  else hGetC t 11 39 37 59 <|
  hGetI t 11 39 38 fun heldMany2 =>
  hALd t 59 (heldMany2 - 1) fun e3 =>
  bI (G193 [.int e3] t) fun rank5 t4 =>
  if rank5 < v1 then rV t4
  else hGetI t4 11 39 38 fun heldMany6 =>
  hPutI t4 11 39 38 (heldMany6 - 1) fun t7 =>
  hGetC t7 11 39 37 59 <|
  hGetI t7 11 39 38 fun heldMany8 =>
  hALd t7 59 heldMany8 fun e9 =>
  hGetI t7 11 39 39 fun opens10 =>
  if e9 = 13 then hPutI t7 11 39 39 (opens10 - 1) fun t11 =>
    hRecv t11 11 39 <| bV (G194 [.ref 39, .int e9] t11) fun t12 =>
    j0 t12 v1
  else if e9 = 19 then hPutI t7 11 39 39 (opens10 - 1) fun t15 =>
  hRecv t15 11 39 <| bV (G194 [.ref 39, .int e9] t15) fun t16 =>
  j0 t16 v1
  else hPutI t7 11 39 39 (opens10 - 0) fun t13 =>
    hRecv t13 11 39 <| bV (G194 [.ref 39, .int e9] t13) fun t14 =>
    j0 t14 v1) := by rfl
theorem fm_unwinds_0_ok {r0 : SM → Int32 → OR} (h_r0 : ∀ (t : SM) (v1 : Int32), r0 t v1 = some r → Body l 2 q_195 P_195 r 0 [(1, .int v1), (0, .ref 39)] [] t) (t : SM) (v1 : Int32) (h : fm_unwinds_0 r0 t v1 = some r) : Body l 2 q_195 P_195 r 0 [(1, .int v1), (0, .ref 39)] [] t :=
  blk ft_195 (by omega) rfl rows_195 (KDok.cons (KOK.f <| KOK.i fun w1 => KOK.e (f := fun t => r0 t w1) fun t h => h_r0 t w1 h) (KDok.nil)) ((congrFun (congrFun (congrFun (congrFun (congrFun (fm_unwinds_0_eq) F_193) F_194) (fun t u1 => r0 t u1)) t) v1).trans h)
theorem fm_unwinds_l0_ok : ∀ (n : Nat) (t : SM) (v1 : Int32), fm_unwinds_l0 n t v1 = some r → Body l 2 q_195 P_195 r 0 [(1, .int v1), (0, .ref 39)] [] t
  | 0, _, _, h => by cases h
  | n + 1, t, v1, h => fm_unwinds_0_ok (fm_unwinds_l0_ok n) t v1 h
theorem fm_unwinds_ok (t : SM) (a : Int32) (h : fm_unwinds t a = some r) : Body l 2 q_195 P_195 r 0 [(0, .ref 39), (1, .int a)] [] t :=
  Body.less (L0 := [(1, .int a), (0, .ref 39)]) (fm_unwinds_l0_ok 1000000 t a h) (by intro z hz; simp only [List.mem_cons, List.not_mem_nil, or_false] at hz; rcases hz with rfl | rfl <;> rfl)
theorem ok_195 (l : Launch) : Fok l 2 mtab 195 (F_195) := by
  intro as t r h
  unfold F_195 at h
  split at h
  · rename_i z0 a
    split at h
    · rename_i hz0
      obtain rfl := Nat.eq_of_beq_eq_true hz0
      exact ⟨q_195, rfl, mok_195, con_of (P := P_195) (by decide +kernel) rfl (Nat.le_of_ble_eq_true rfl) (fm_unwinds_ok t a h)⟩
    · cases h
  · cases h
end
section
set_option maxRecDepth 100000
variable {l : Launch} {r : RR}
def FT_196 : FT := []
theorem ft_196 : FTok l 1 mtab FT_196 := FTok.nil
theorem fm_holds_eq : (fun (t : SM) (a : Int32) => ex clN P_196 none bytJ (mkCal rks ([])) [] (kDisp []) 400 0 [(0, .ref 39), (1, .int a)] [] t) = (fun (t : SM) (a : Int32) =>
  hGetC t 11 39 37 59 <|
  hGetI t 11 39 38 fun heldMany1 =>
  hASt t 59 heldMany1 a fun t2 =>
  hGetI t2 11 39 38 fun heldMany3 =>
  hPutI t2 11 39 38 (heldMany3 + 1) fun t4 =>
  rV t4) := by rfl
theorem fm_holds_ok (t : SM) (a : Int32) (h : fm_holds t a = some r) : Body l 1 q_196 P_196 r 0 [(0, .ref 39), (1, .int a)] [] t :=
  blk ft_196 (by omega) rfl rows_196 (KDok.nil) ((congrFun (congrFun (fm_holds_eq) t) a).trans h)
theorem ok_196 (l : Launch) : Fok l 1 mtab 196 (F_196) := by
  intro as t r h
  unfold F_196 at h
  split at h
  · rename_i z0 a
    split at h
    · rename_i hz0
      obtain rfl := Nat.eq_of_beq_eq_true hz0
      exact ⟨q_196, rfl, mok_196, con_of (P := P_196) (by decide +kernel) rfl (Nat.le_of_ble_eq_true rfl) (fm_holds_ok t a h)⟩
    · cases h
  · cases h
end
section
set_option maxRecDepth 100000
variable {l : Launch} {r : RR}
def FT_197 : FT := (196, F_196) :: []
theorem ft_197 : FTok l 2 mtab FT_197 := FTok.cons (ok_196 l) (by omega) (FTok.nil)
theorem fm_opensOne_eq : (fun (G196 : List Value → SM → OR) (t : SM) (a : Int32) => ex clN P_197 none bytJ (mkCal rks ((196, G196) :: [])) [] (kDisp []) 400 0 [(0, .ref 39), (1, .int a)] [] t) = (fun (G196 : List Value → SM → OR) (t : SM) (a : Int32) =>
  hGetI t 11 39 39 fun opens1 =>
  if opens1 = 5 then rI 0 t
  else hGetI t 11 39 39 fun opens2 =>
    hPutI t 11 39 39 (opens2 + 1) fun t3 =>
    hRecv t3 11 39 <| bV (G196 [.ref 39, .int a] t3) fun t4 =>
    rI 1 t4) := by rfl
theorem fm_opensOne_ok (t : SM) (a : Int32) (h : fm_opensOne t a = some r) : Body l 2 q_197 P_197 r 0 [(0, .ref 39), (1, .int a)] [] t :=
  blk ft_197 (by omega) rfl rows_197 (KDok.nil) ((congrFun (congrFun (congrFun (fm_opensOne_eq) F_196) t) a).trans h)
theorem ok_197 (l : Launch) : Fok l 2 mtab 197 (F_197) := by
  intro as t r h
  unfold F_197 at h
  split at h
  · rename_i z0 a
    split at h
    · rename_i hz0
      obtain rfl := Nat.eq_of_beq_eq_true hz0
      exact ⟨q_197, rfl, mok_197, con_of (P := P_197) (by decide +kernel) rfl (Nat.le_of_ble_eq_true rfl) (fm_opensOne_ok t a h)⟩
    · cases h
  · cases h
end
section
set_option maxRecDepth 100000
variable {l : Launch} {r : RR}
def FT_199 : FT := []
theorem ft_199 : FTok l 1 mtab FT_199 := FTok.nil
theorem fm_signOf_eq : (fun (t : SM) => ex clN P_199 none bytJ (mkCal rks ([])) [] (kDisp []) 400 0 [(0, .ref 39)] [] t) = (fun (t : SM) =>
  hGetI t 11 39 34 fun token1 =>
  if token1 = 4 then rI 11 t
  else hGetI t 11 39 34 fun token2 =>
    if token2 = 5 then rI 12 t
    else hGetI t 11 39 34 fun token3 =>
      if token3 = 60 then rI 14 t
      else hGetI t 11 39 34 fun token4 =>
        if token4 = 61 then rI 15 t
        else hGetI t 11 39 34 fun token5 =>
          if token5 = 43 then rI 16 t
          else hGetI t 11 39 34 fun token6 =>
            if token6 = 45 then rI 17 t
            else hGetI t 11 39 34 fun token7 =>
              if token7 = 42 then rI 18 t
              else rI (-1) t) := by rfl
theorem fm_signOf_ok (t : SM) (h : fm_signOf t = some r) : Body l 1 q_199 P_199 r 0 [(0, .ref 39)] [] t :=
  blk ft_199 (by omega) rfl rows_199 (KDok.nil) ((congrFun (fm_signOf_eq) t).trans h)
theorem ok_199 (l : Launch) : Fok l 1 mtab 199 (F_199) := by
  intro as t r h
  unfold F_199 at h
  split at h
  · rename_i z0
    split at h
    · rename_i hz0
      obtain rfl := Nat.eq_of_beq_eq_true hz0
      exact ⟨q_199, rfl, mok_199, con_of (P := P_199) (by decide +kernel) rfl (Nat.le_of_ble_eq_true rfl) (fm_signOf_ok t h)⟩
    · cases h
  · cases h
end
section
set_option maxRecDepth 100000
variable {l : Launch} {r : RR}
def FT_198 : FT := (193, F_193) :: (195, F_195) :: (196, F_196) :: []
theorem ft_198 : FTok l 3 mtab FT_198 := FTok.cons (ok_193 l) (by omega) (FTok.cons (ok_195 l) (by omega) (FTok.cons (ok_196 l) (by omega) (FTok.nil)))
theorem fm_between_eq : (fun (G193 : List Value → SM → OR) (G195 : List Value → SM → OR) (G196 : List Value → SM → OR) (t : SM) (a : Int32) => ex clN P_198 none bytJ (mkCal rks ((193, G193) :: (195, G195) :: (196, G196) :: [])) [] (kDisp []) 400 0 [(0, .ref 39), (1, .int a)] [] t) = (fun (G193 : List Value → SM → OR) (G195 : List Value → SM → OR) (G196 : List Value → SM → OR) (t : SM) (a : Int32) =>
  bI (G193 [.int a] t) fun rank2 t1 =>
  if rank2 = 4 then hRecv t1 11 39 <| bV (G195 [.ref 39, .int 5] t1) fun t16 =>
  bI (G193 [.int a] t16) fun rank18 t17 =>
  if rank18 = 4 then hGetI t17 11 39 38 fun heldMany20 =>
  if heldMany20 ≤ 0 then hRecv t17 11 39 <| bV (G196 [.ref 39, .int a] t17) fun t21 =>
    rI 1 t21
  else hGetC t17 11 39 37 59 <|
  hGetI t17 11 39 38 fun heldMany22 =>
  hALd t17 59 (heldMany22 - 1) fun e23 =>
  bI (G193 [.int e23] t17) fun rank25 t24 =>
  if rank25 = 4 then rI 0 t24
  else hRecv t24 11 39 <| bV (G196 [.ref 39, .int a] t24) fun t26 =>
    rI 1 t26
  else hRecv t17 11 39 <| bV (G196 [.ref 39, .int a] t17) fun t19 =>
    rI 1 t19
  else bI (G193 [.int a] t1) fun rank4 t3 =>
    hRecv t3 11 39 <| bV (G195 [.ref 39, .int rank4] t3) fun t5 =>
    bI (G193 [.int a] t5) fun rank7 t6 =>
    if rank7 = 4 then hGetI t6 11 39 38 fun heldMany9 =>
    if heldMany9 ≤ 0 then hRecv t6 11 39 <| bV (G196 [.ref 39, .int a] t6) fun t10 =>
      rI 1 t10
    else hGetC t6 11 39 37 59 <|
    hGetI t6 11 39 38 fun heldMany11 =>
    hALd t6 59 (heldMany11 - 1) fun e12 =>
    bI (G193 [.int e12] t6) fun rank14 t13 =>
    if rank14 = 4 then rI 0 t13
    else hRecv t13 11 39 <| bV (G196 [.ref 39, .int a] t13) fun t15 =>
      rI 1 t15
    else hRecv t6 11 39 <| bV (G196 [.ref 39, .int a] t6) fun t8 =>
      rI 1 t8) := by rfl
theorem fm_between_ok (t : SM) (a : Int32) (h : fm_between t a = some r) : Body l 3 q_198 P_198 r 0 [(0, .ref 39), (1, .int a)] [] t :=
  blk ft_198 (by omega) rfl rows_198 (KDok.nil) ((congrFun (congrFun (congrFun (congrFun (congrFun (fm_between_eq) F_193) F_195) F_196) t) a).trans h)
theorem ok_198 (l : Launch) : Fok l 3 mtab 198 (F_198) := by
  intro as t r h
  unfold F_198 at h
  split at h
  · rename_i z0 a
    split at h
    · rename_i hz0
      obtain rfl := Nat.eq_of_beq_eq_true hz0
      exact ⟨q_198, rfl, mok_198, con_of (P := P_198) (by decide +kernel) rfl (Nat.le_of_ble_eq_true rfl) (fm_between_ok t a h)⟩
    · cases h
  · cases h
end
section
set_option maxRecDepth 100000
variable {l : Launch} {r : RR}
def FT_200 : FT := (192, F_192) :: (194, F_194) :: (195, F_195) :: (197, F_197) :: (199, F_199) :: (198, F_198) :: []
theorem ft_200 : FTok l 4 mtab FT_200 := FTok.cons (ok_192 l) (by omega) (FTok.cons (ok_194 l) (by omega) (FTok.cons (ok_195 l) (by omega) (FTok.cons (ok_197 l) (by omega) (FTok.cons (ok_199 l) (by omega) (FTok.cons (ok_198 l) (by omega) (FTok.nil))))))
theorem fm_eRead_159_eq : (fun (G192 : List Value → SM → OR) (G194 : List Value → SM → OR) (G195 : List Value → SM → OR) (G197 : List Value → SM → OR) (G199 : List Value → SM → OR) (G198 : List Value → SM → OR) (t : SM) => ex clN P_200 none bytJ (mkCal rks ((192, G192) :: (194, G194) :: (195, G195) :: (197, G197) :: (199, G199) :: (198, G198) :: [])) [] (kDisp []) 400 159 [(0, .ref 39)] [] t) = (fun (G192 : List Value → SM → OR) (G194 : List Value → SM → OR) (G195 : List Value → SM → OR) (G197 : List Value → SM → OR) (G199 : List Value → SM → OR) (G198 : List Value → SM → OR) (t : SM) =>
  hRecv t 11 39 <| bV (G195 [.ref 39, .int 1] t) fun t1 =>
  hGetI t1 11 39 38 fun heldMany2 =>
  if heldMany2 = 0 then rI 1 t1
  else rI 0 t1) := by rfl
theorem fm_eRead_159_ok (t : SM) (h : fm_eRead_159 t = some r) : Body l 4 q_200 P_200 r 159 [(0, .ref 39)] [] t :=
  blk ft_200 (by omega) rfl rows_200 (KDok.nil) ((congrFun (congrFun (congrFun (congrFun (congrFun (congrFun (congrFun (fm_eRead_159_eq) F_192) F_194) F_195) F_197) F_199) F_198) t).trans h)
theorem fm_eRead_99_eq : (fun (G192 : List Value → SM → OR) (G194 : List Value → SM → OR) (G195 : List Value → SM → OR) (G197 : List Value → SM → OR) (G199 : List Value → SM → OR) (G198 : List Value → SM → OR) (j14 : SM → Int32 → Int32 → OR) (t : SM) (v1 : Int32) => ex clN P_200 none bytJ (mkCal rks ((192, G192) :: (194, G194) :: (195, G195) :: (197, G197) :: (199, G199) :: (198, G198) :: [])) [14] (kDisp [(14, kF 0 39 <| kI 1 fun w1 => kI 2 fun w2 => kE fun t => j14 t w1 w2)]) 400 99 [(1, .int v1), (0, .ref 39)] [] t) = (fun (G192 : List Value → SM → OR) (G194 : List Value → SM → OR) (G195 : List Value → SM → OR) (G197 : List Value → SM → OR) (G199 : List Value → SM → OR) (G198 : List Value → SM → OR) (j14 : SM → Int32 → Int32 → OR) (t : SM) (v1 : Int32) =>
  hGetI t 11 39 34 fun token1 =>
  if token1 = 45 then hRecv t 11 39 <| bI (G197 [.ref 39, .int 19] t) fun opensOne6 t5 =>
  if opensOne6 = 0 then rI 0 t5
  else j14 t5 v1 0
  else hGetI t 11 39 34 fun token2 =>
    if token2 = 40 then hRecv t 11 39 <| bI (G197 [.ref 39, .int 0] t) fun opensOne4 t3 =>
    if opensOne4 = 0 then rI 0 t3
    else j14 t3 v1 1
    else rI 0 t) := by rfl
theorem fm_eRead_99_ok {r14 : SM → Int32 → Int32 → OR} (h_r14 : ∀ (t : SM) (v1 : Int32) (v2 : Int32), r14 t v1 v2 = some r → Body l 4 q_200 P_200 r 14 [(2, .int v2), (1, .int v1), (0, .ref 39)] [] t) (t : SM) (v1 : Int32) (h : fm_eRead_99 r14 t v1 = some r) : Body l 4 q_200 P_200 r 99 [(1, .int v1), (0, .ref 39)] [] t :=
  blk ft_200 (by omega) rfl rows_200 (KDok.cons (KOK.f <| KOK.i fun w1 => KOK.i fun w2 => KOK.e (f := fun t => r14 t w1 w2) fun t h => h_r14 t w1 w2 h) (KDok.nil)) ((congrFun (congrFun (congrFun (congrFun (congrFun (congrFun (congrFun (congrFun (congrFun (fm_eRead_99_eq) F_192) F_194) F_195) F_197) F_199) F_198) (fun t u1 u2 => r14 t u1 u2)) t) v1).trans h)
theorem fm_eRead_38_eq : (fun (G192 : List Value → SM → OR) (G194 : List Value → SM → OR) (G195 : List Value → SM → OR) (G197 : List Value → SM → OR) (G199 : List Value → SM → OR) (G198 : List Value → SM → OR) (j14 : SM → Int32 → Int32 → OR) (t : SM) (v2 : Int32) => ex clN P_200 none bytJ (mkCal rks ((192, G192) :: (194, G194) :: (195, G195) :: (197, G197) :: (199, G199) :: (198, G198) :: [])) [14] (kDisp [(14, kF 0 39 <| kI 1 fun w1 => kI 2 fun w2 => kE fun t => j14 t w1 w2)]) 400 38 [(2, .int v2), (0, .ref 39)] [] t) = (fun (G192 : List Value → SM → OR) (G194 : List Value → SM → OR) (G195 : List Value → SM → OR) (G197 : List Value → SM → OR) (G199 : List Value → SM → OR) (G198 : List Value → SM → OR) (j14 : SM → Int32 → Int32 → OR) (t : SM) (v2 : Int32) =>
  hGetI t 11 39 34 fun token1 =>
  if token1 = 1 then hGetI t 11 39 35 fun value5 =>
  hRecv t 11 39 <| bV (G194 [.ref 39, .int (100000 + value5)] t) fun t6 =>
  hRecv t6 11 39 <| bV (G195 [.ref 39, .int 7] t6) fun t7 =>
  j14 t7 0 v2
  else hGetI t 11 39 35 fun value2 =>
    hRecv t 11 39 <| bV (G194 [.ref 39, .int value2] t) fun t3 =>
    hRecv t3 11 39 <| bV (G195 [.ref 39, .int 7] t3) fun t4 =>
    j14 t4 0 v2) := by rfl
theorem fm_eRead_38_ok {r14 : SM → Int32 → Int32 → OR} (h_r14 : ∀ (t : SM) (v1 : Int32) (v2 : Int32), r14 t v1 v2 = some r → Body l 4 q_200 P_200 r 14 [(2, .int v2), (1, .int v1), (0, .ref 39)] [] t) (t : SM) (v2 : Int32) (h : fm_eRead_38 r14 t v2 = some r) : Body l 4 q_200 P_200 r 38 [(2, .int v2), (0, .ref 39)] [] t :=
  blk ft_200 (by omega) rfl rows_200 (KDok.cons (KOK.f <| KOK.i fun w1 => KOK.i fun w2 => KOK.e (f := fun t => r14 t w1 w2) fun t h => h_r14 t w1 w2 h) (KDok.nil)) ((congrFun (congrFun (congrFun (congrFun (congrFun (congrFun (congrFun (congrFun (congrFun (fm_eRead_38_eq) F_192) F_194) F_195) F_197) F_199) F_198) (fun t u1 u2 => r14 t u1 u2)) t) v2).trans h)
theorem fm_eRead_14_eq : (fun (G192 : List Value → SM → OR) (G194 : List Value → SM → OR) (G195 : List Value → SM → OR) (G197 : List Value → SM → OR) (G199 : List Value → SM → OR) (G198 : List Value → SM → OR) (j14 : SM → Int32 → Int32 → OR) (j38 : SM → Int32 → OR) (j99 : SM → Int32 → OR) (j159 : SM → OR) (t : SM) (v1 : Int32) (v2 : Int32) => ex clN P_200 none bytJ (mkCal rks ((192, G192) :: (194, G194) :: (195, G195) :: (197, G197) :: (199, G199) :: (198, G198) :: [])) [14, 38, 99, 159] (kDisp [(14, kF 0 39 <| kI 1 fun w1 => kI 2 fun w2 => kE fun t => j14 t w1 w2), (38, kF 0 39 <| kI 2 fun w2 => kE fun t => j38 t w2), (99, kF 0 39 <| kI 1 fun w1 => kE fun t => j99 t w1), (159, kF 0 39 <| kE fun t => j159 t)]) 400 14 [(2, .int v2), (1, .int v1), (0, .ref 39)] [] t) = (fun (G192 : List Value → SM → OR) (G194 : List Value → SM → OR) (G195 : List Value → SM → OR) (G197 : List Value → SM → OR) (G199 : List Value → SM → OR) (G198 : List Value → SM → OR) (j14 : SM → Int32 → Int32 → OR) (j38 : SM → Int32 → OR) (j99 : SM → Int32 → OR) (j159 : SM → OR) (t : SM) (v1 : Int32) (v2 : Int32) =>
  hRecv t 11 39 <| bV (G192 [.ref 39] t) fun t1 =>
  if v1 = 0 then hGetI t1 11 39 34 fun token2 =>
    if token2 = 59 then j159 t1
    else hGetI t1 11 39 34 fun token3 =>
      if token3 = 41 then hRecv t1 11 39 <| bV (G195 [.ref 39, .int 1] t1) fun t8 =>
      hGetI t8 11 39 38 fun heldMany9 =>
      if heldMany9 = 0 then rI 0 t8
      else hGetI t8 11 39 38 fun heldMany10 =>
        hPutI t8 11 39 38 (heldMany10 - 1) fun t11 =>
        hGetI t11 11 39 39 fun opens12 =>
        hPutI t11 11 39 39 (opens12 - 1) fun t13 =>
        hRecv t13 11 39 <| bV (G195 [.ref 39, .int 7] t13) fun t14 =>
        j14 t14 v1 v2
      else hRecv t1 11 39 <| bI (G199 [.ref 39] t1) fun signOf5 t4 =>
        if signOf5 = (-1) then rI 0 t4
        else hRecv t4 11 39 <| bI (G198 [.ref 39, .int signOf5] t4) fun between7 t6 =>
        if between7 = 0 then rI 0 t6
        else if 12 < signOf5 then j14 t6 1 0
          else j14 t6 1 1
  else hGetI t1 11 39 34 fun token15 =>
  if token15 = 1 then j38 t1 v2
  else hGetI t1 11 39 34 fun token16 =>
  if token16 = 2 then j38 t1 v2
  else hGetI t1 11 39 34 fun token17 =>
    if token17 = 6 then if v2 = 0 then j99 t1 v1
    else hRecv t1 11 39 <| bI (G197 [.ref 39, .int 13] t1) fun opensOne19 t18 =>
    if opensOne19 = 0 then rI 0 t18
    else j14 t18 v1 v2
    else j99 t1 v1) := by rfl
theorem fm_eRead_14_ok {k159 : SM → OR} {r14 : SM → Int32 → Int32 → OR} (h_k159 : ∀ (t : SM), k159 t = some r → Body l 4 q_200 P_200 r 159 [(0, .ref 39)] [] t) (h_r14 : ∀ (t : SM) (v1 : Int32) (v2 : Int32), r14 t v1 v2 = some r → Body l 4 q_200 P_200 r 14 [(2, .int v2), (1, .int v1), (0, .ref 39)] [] t) (t : SM) (v1 : Int32) (v2 : Int32) (h : fm_eRead_14 k159 r14 t v1 v2 = some r) : Body l 4 q_200 P_200 r 14 [(2, .int v2), (1, .int v1), (0, .ref 39)] [] t :=
  blk ft_200 (by omega) rfl rows_200 (KDok.cons (KOK.f <| KOK.i fun w1 => KOK.i fun w2 => KOK.e (f := fun t => r14 t w1 w2) fun t h => h_r14 t w1 w2 h) (KDok.cons (KOK.f <| KOK.i fun w2 => KOK.e (f := fun t => fm_eRead_38 r14 t w2) fun t h => fm_eRead_38_ok h_r14 t w2 h) (KDok.cons (KOK.f <| KOK.i fun w1 => KOK.e (f := fun t => fm_eRead_99 r14 t w1) fun t h => fm_eRead_99_ok h_r14 t w1 h) (KDok.cons (KOK.f <| KOK.e (f := fun t => k159 t) fun t h => h_k159 t h) (KDok.nil))))) ((congrFun (congrFun (congrFun (congrFun (congrFun (congrFun (congrFun (congrFun (congrFun (congrFun (congrFun (congrFun (congrFun (fm_eRead_14_eq) F_192) F_194) F_195) F_197) F_199) F_198) (fun t u1 u2 => r14 t u1 u2)) (fun t u2 => fm_eRead_38 r14 t u2)) (fun t u1 => fm_eRead_99 r14 t u1)) (fun t => k159 t)) t) v1) v2).trans h)
theorem fm_eRead_l14_ok {k159 : SM → OR} (h_k159 : ∀ (t : SM), k159 t = some r → Body l 4 q_200 P_200 r 159 [(0, .ref 39)] [] t) : ∀ (n : Nat) (t : SM) (v1 : Int32) (v2 : Int32), fm_eRead_l14 k159 n t v1 v2 = some r → Body l 4 q_200 P_200 r 14 [(2, .int v2), (1, .int v1), (0, .ref 39)] [] t
  | 0, _, _, _, h => by cases h
  | n + 1, t, v1, v2, h => fm_eRead_14_ok h_k159 (fm_eRead_l14_ok h_k159 n) t v1 v2 h
theorem fm_eRead_eq : (fun (G192 : List Value → SM → OR) (G194 : List Value → SM → OR) (G195 : List Value → SM → OR) (G197 : List Value → SM → OR) (G199 : List Value → SM → OR) (G198 : List Value → SM → OR) (j14 : SM → Int32 → Int32 → OR) (t : SM) => ex clN P_200 none bytJ (mkCal rks ((192, G192) :: (194, G194) :: (195, G195) :: (197, G197) :: (199, G199) :: (198, G198) :: [])) [14] (kDisp [(14, kF 0 39 <| kI 1 fun w1 => kI 2 fun w2 => kE fun t => j14 t w1 w2)]) 400 0 [(0, .ref 39)] [] t) = (fun (G192 : List Value → SM → OR) (G194 : List Value → SM → OR) (G195 : List Value → SM → OR) (G197 : List Value → SM → OR) (G199 : List Value → SM → OR) (G198 : List Value → SM → OR) (j14 : SM → Int32 → Int32 → OR) (t : SM) =>
  hPutI t 11 39 38 0 fun t1 =>
  hPutI t1 11 39 39 0 fun t2 =>
  j14 t2 1 1) := by rfl
theorem fm_eRead_ok (t : SM) (h : fm_eRead t = some r) : Body l 4 q_200 P_200 r 0 [(0, .ref 39)] [] t :=
  blk ft_200 (by omega) rfl rows_200 (KDok.cons (KOK.f <| KOK.i fun w1 => KOK.i fun w2 => KOK.e (f := fun t => fm_eRead_l14 (fun t => fm_eRead_159 t) 1000000 t w1 w2) fun t h => fm_eRead_l14_ok (k159 := fun t => fm_eRead_159 t) (fun t h => fm_eRead_159_ok t h) 1000000 t w1 w2 h) (KDok.nil)) ((congrFun (congrFun (congrFun (congrFun (congrFun (congrFun (congrFun (congrFun (fm_eRead_eq) F_192) F_194) F_195) F_197) F_199) F_198) (fun t u1 u2 => fm_eRead_l14 (fun t => fm_eRead_159 t) 1000000 t u1 u2)) t).trans h)
theorem ok_200 (l : Launch) : Fok l 4 mtab 200 (F_200) := by
  intro as t r h
  unfold F_200 at h
  split at h
  · rename_i z0
    split at h
    · rename_i hz0
      obtain rfl := Nat.eq_of_beq_eq_true hz0
      exact ⟨q_200, rfl, mok_200, con_of (P := P_200) (by decide +kernel) rfl (Nat.le_of_ble_eq_true rfl) (fm_eRead_ok t h)⟩
    · cases h
  · cases h
end
section
set_option maxRecDepth 100000
variable {l : Launch} {r : RR}
def FT_201 : FT := (192, F_192) :: (200, F_200) :: []
theorem ft_201 : FTok l 5 mtab FT_201 := FTok.cons (ok_192 l) (by omega) (FTok.cons (ok_200 l) (by omega) (FTok.nil))
theorem fm_text_122_eq : (fun (G192 : List Value → SM → OR) (G200 : List Value → SM → OR) (t : SM) (v1 : Int32) => ex clN P_201 none bytJ (mkCal rks ((192, G192) :: (200, G200) :: [])) [] (kDisp []) 400 122 [(1, .int v1), (0, .ref 39)] [] t) = (fun (G192 : List Value → SM → OR) (G200 : List Value → SM → OR) (t : SM) (v1 : Int32) =>
  hGetC t 11 39 19 52 <|
  hGetI t 11 39 20 fun texts1 =>
  hGetI t 11 39 40 fun out2 =>
  hASt t 52 ((4 * texts1) + 3) out2 fun t3 =>
  hPutI t3 11 39 17 0 fun t4 =>
  if v1 = 0 then hGetI t4 11 39 33 fun begun8 =>
  rI ((-100) - begun8) t4
  else hGetI t4 11 39 20 fun texts5 =>
    hPutI t4 11 39 20 (texts5 + 1) fun t6 =>
    hGetI t6 11 39 20 fun texts7 =>
    rI (texts7 - 1) t6) := by rfl
theorem fm_text_122_ok (t : SM) (v1 : Int32) (h : fm_text_122 t v1 = some r) : Body l 5 q_201 P_201 r 122 [(1, .int v1), (0, .ref 39)] [] t :=
  blk ft_201 (by omega) rfl rows_201 (KDok.nil) ((congrFun (congrFun (congrFun (congrFun (fm_text_122_eq) F_192) F_200) t) v1).trans h)
theorem fm_text_101_eq : (fun (G192 : List Value → SM → OR) (G200 : List Value → SM → OR) (j122 : SM → Int32 → OR) (t : SM) (v1 : Int32) => ex clN P_201 none bytJ (mkCal rks ((192, G192) :: (200, G200) :: [])) [122] (kDisp [(122, kF 0 39 <| kI 1 fun w1 => kE fun t => j122 t w1)]) 400 101 [(1, .int v1), (0, .ref 39)] [] t) = (fun (G192 : List Value → SM → OR) (G200 : List Value → SM → OR) (j122 : SM → Int32 → OR) (t : SM) (v1 : Int32) =>
  if v1 = 0 then j122 t v1
  else hRecv t 11 39 <| bV (G192 [.ref 39] t) fun t1 =>
  hGetI t1 11 39 34 fun token2 =>
  if token2 = 0 then j122 t1 1
  else j122 t1 0) := by rfl
theorem fm_text_101_ok (t : SM) (v1 : Int32) (h : fm_text_101 t v1 = some r) : Body l 5 q_201 P_201 r 101 [(1, .int v1), (0, .ref 39)] [] t :=
  blk ft_201 (by omega) rfl rows_201 (KDok.cons (KOK.f <| KOK.i fun w1 => KOK.e (f := fun t => fm_text_122 t w1) fun t h => fm_text_122_ok t w1 h) (KDok.nil)) ((congrFun (congrFun (congrFun (congrFun (congrFun (fm_text_101_eq) F_192) F_200) (fun t u1 => fm_text_122 t u1)) t) v1).trans h)
theorem fm_text_59_eq : (fun (G192 : List Value → SM → OR) (G200 : List Value → SM → OR) (j26 : SM → Int32 → Int32 → OR) (t : SM) (v2 : Int32) => ex clN P_201 none bytJ (mkCal rks ((192, G192) :: (200, G200) :: [])) [26] (kDisp [(26, kF 0 39 <| kI 1 fun w1 => kI 2 fun w2 => kE fun t => j26 t w1 w2)]) 400 59 [(2, .int v2), (0, .ref 39)] [] t) = (fun (G192 : List Value → SM → OR) (G200 : List Value → SM → OR) (j26 : SM → Int32 → Int32 → OR) (t : SM) (v2 : Int32) =>
  hGetC t 11 39 19 52 <|
  hGetI t 11 39 20 fun texts1 =>
  hGetI t 11 39 40 fun out2 =>
  hASt t 52 ((4 * texts1) + v2) out2 fun t3 =>
  j26 t3 0 (v2 + 1)) := by rfl
theorem fm_text_59_ok {r26 : SM → Int32 → Int32 → OR} (h_r26 : ∀ (t : SM) (v1 : Int32) (v2 : Int32), r26 t v1 v2 = some r → Body l 5 q_201 P_201 r 26 [(2, .int v2), (1, .int v1), (0, .ref 39)] [] t) (t : SM) (v2 : Int32) (h : fm_text_59 r26 t v2 = some r) : Body l 5 q_201 P_201 r 59 [(2, .int v2), (0, .ref 39)] [] t :=
  blk ft_201 (by omega) rfl rows_201 (KDok.cons (KOK.f <| KOK.i fun w1 => KOK.i fun w2 => KOK.e (f := fun t => r26 t w1 w2) fun t h => h_r26 t w1 w2 h) (KDok.nil)) ((congrFun (congrFun (congrFun (congrFun (congrFun (fm_text_59_eq) F_192) F_200) (fun t u1 u2 => r26 t u1 u2)) t) v2).trans h)
theorem fm_text_26_eq : (fun (G192 : List Value → SM → OR) (G200 : List Value → SM → OR) (j26 : SM → Int32 → Int32 → OR) (j59 : SM → Int32 → OR) (j101 : SM → Int32 → OR) (t : SM) (v1 : Int32) (v2 : Int32) => ex clN P_201 none bytJ (mkCal rks ((192, G192) :: (200, G200) :: [])) [26, 59, 101] (kDisp [(26, kF 0 39 <| kI 1 fun w1 => kI 2 fun w2 => kE fun t => j26 t w1 w2), (59, kF 0 39 <| kI 2 fun w2 => kE fun t => j59 t w2), (101, kF 0 39 <| kI 1 fun w1 => kE fun t => j101 t w1)]) 400 26 [(2, .int v2), (1, .int v1), (0, .ref 39)] [] t) = (fun (G192 : List Value → SM → OR) (G200 : List Value → SM → OR) (j26 : SM → Int32 → Int32 → OR) (j59 : SM → Int32 → OR) (j101 : SM → Int32 → OR) (t : SM) (v1 : Int32) (v2 : Int32) =>
  if 3 ≤ v2 then j101 t v1
  else if v1 = 0 then j101 t v1
  else hRecv t 11 39 <| bV (G192 [.ref 39] t) fun t1 =>
  hGetI t1 11 39 34 fun token2 =>
  if token2 = 3 then hGetI t1 11 39 35 fun value3 =>
  if value3 = v2 then hGetC t1 11 39 19 52 <|
  hGetI t1 11 39 20 fun texts4 =>
  hGetI t1 11 39 40 fun out5 =>
  hASt t1 52 ((4 * texts4) + v2) out5 fun t6 =>
  hRecv t6 11 39 <| bI (G200 [.ref 39] t6) fun eRead8 t7 =>
  if eRead8 = 0 then j26 t7 0 (v2 + 1)
  else j26 t7 1 (v2 + 1)
  else j59 t1 v2
  else j59 t1 v2) := by rfl
theorem fm_text_26_ok {k101 : SM → Int32 → OR} {r26 : SM → Int32 → Int32 → OR} (h_k101 : ∀ (t : SM) (v1 : Int32), k101 t v1 = some r → Body l 5 q_201 P_201 r 101 [(1, .int v1), (0, .ref 39)] [] t) (h_r26 : ∀ (t : SM) (v1 : Int32) (v2 : Int32), r26 t v1 v2 = some r → Body l 5 q_201 P_201 r 26 [(2, .int v2), (1, .int v1), (0, .ref 39)] [] t) (t : SM) (v1 : Int32) (v2 : Int32) (h : fm_text_26 k101 r26 t v1 v2 = some r) : Body l 5 q_201 P_201 r 26 [(2, .int v2), (1, .int v1), (0, .ref 39)] [] t :=
  blk ft_201 (by omega) rfl rows_201 (KDok.cons (KOK.f <| KOK.i fun w1 => KOK.i fun w2 => KOK.e (f := fun t => r26 t w1 w2) fun t h => h_r26 t w1 w2 h) (KDok.cons (KOK.f <| KOK.i fun w2 => KOK.e (f := fun t => fm_text_59 r26 t w2) fun t h => fm_text_59_ok h_r26 t w2 h) (KDok.cons (KOK.f <| KOK.i fun w1 => KOK.e (f := fun t => k101 t w1) fun t h => h_k101 t w1 h) (KDok.nil)))) ((congrFun (congrFun (congrFun (congrFun (congrFun (congrFun (congrFun (congrFun (fm_text_26_eq) F_192) F_200) (fun t u1 u2 => r26 t u1 u2)) (fun t u2 => fm_text_59 r26 t u2)) (fun t u1 => k101 t u1)) t) v1) v2).trans h)
theorem fm_text_l26_ok {k101 : SM → Int32 → OR} (h_k101 : ∀ (t : SM) (v1 : Int32), k101 t v1 = some r → Body l 5 q_201 P_201 r 101 [(1, .int v1), (0, .ref 39)] [] t) : ∀ (n : Nat) (t : SM) (v1 : Int32) (v2 : Int32), fm_text_l26 k101 n t v1 v2 = some r → Body l 5 q_201 P_201 r 26 [(2, .int v2), (1, .int v1), (0, .ref 39)] [] t
  | 0, _, _, _, h => by cases h
  | n + 1, t, v1, v2, h => fm_text_26_ok h_k101 (fm_text_l26_ok h_k101 n) t v1 v2 h
theorem fm_text_eq : (fun (G192 : List Value → SM → OR) (G200 : List Value → SM → OR) (j26 : SM → Int32 → Int32 → OR) (t : SM) => ex clN P_201 none bytJ (mkCal rks ((192, G192) :: (200, G200) :: [])) [26] (kDisp [(26, kF 0 39 <| kI 1 fun w1 => kI 2 fun w2 => kE fun t => j26 t w1 w2)]) 400 0 [(0, .ref 39)] [] t) = (fun (G192 : List Value → SM → OR) (G200 : List Value → SM → OR) (j26 : SM → Int32 → Int32 → OR) (t : SM) =>
  hGetI t 11 39 20 fun texts1 =>
  if texts1 = 6 then rI (-4) t
  else hPutI t 11 39 32 0 fun t2 =>
    hPutI t2 11 39 40 0 fun t3 =>
    j26 t3 1 0) := by rfl
theorem fm_text_ok (t : SM) (h : fm_text t = some r) : Body l 5 q_201 P_201 r 0 [(0, .ref 39)] [] t :=
  blk ft_201 (by omega) rfl rows_201 (KDok.cons (KOK.f <| KOK.i fun w1 => KOK.i fun w2 => KOK.e (f := fun t => fm_text_l26 (fun t u1 => fm_text_101 t u1) 1000000 t w1 w2) fun t h => fm_text_l26_ok (k101 := fun t u1 => fm_text_101 t u1) (fun t u1 h => fm_text_101_ok t u1 h) 1000000 t w1 w2 h) (KDok.nil)) ((congrFun (congrFun (congrFun (congrFun (fm_text_eq) F_192) F_200) (fun t u1 u2 => fm_text_l26 (fun t u1 => fm_text_101 t u1) 1000000 t u1 u2)) t).trans h)
theorem ok_201 (l : Launch) : Fok l 5 mtab 201 (F_201) := by
  intro as t r h
  unfold F_201 at h
  split at h
  · rename_i z0
    split at h
    · rename_i hz0
      obtain rfl := Nat.eq_of_beq_eq_true hz0
      exact ⟨q_201, rfl, mok_201, con_of (P := P_201) (by decide +kernel) rfl (Nat.le_of_ble_eq_true rfl) (fm_text_ok t h)⟩
    · cases h
  · cases h
end
section
set_option maxRecDepth 100000
variable {l : Launch} {r : RR}
def FT_181 : FT := (201, F_201) :: []
theorem ft_181 : FTok l 6 mtab FT_181 := FTok.cons (ok_201 l) (by omega) (FTok.nil)
theorem fm_init_1069_eq : (fun (G201 : List Value → SM → OR) (t : SM) => ex clN P_181 none bytJ (mkCal rks ((201, G201) :: [])) [] (kDisp []) 1500 1069 [(0, .ref 39)] [] t) = (fun (G201 : List Value → SM → OR) (t : SM) =>
  hPutI t 11 39 17 37 fun t1 =>
  hRecv t1 11 39 <| bI (G201 [.ref 39] t1) fun text3 t2 =>
  rV t2) := by rfl
theorem fm_init_1069_ok (t : SM) (h : fm_init_1069 t = some r) : Body l 6 q_181 P_181 r 1069 [(0, .ref 39)] [] t :=
  blk ft_181 (by omega) rfl rows_181 (KDok.nil) ((congrFun (congrFun (fm_init_1069_eq) F_201) t).trans h)
theorem fm_init_1045_eq : (fun (G201 : List Value → SM → OR) (j1045 : SM → Int32 → OR) (j1069 : SM → OR) (t : SM) (v1 : Int32) => ex clN P_181 none bytJ (mkCal rks ((201, G201) :: [])) [1045, 1069] (kDisp [(1045, kF 0 39 <| kI 1 fun w1 => kE fun t => j1045 t w1), (1069, kF 0 39 <| kE fun t => j1069 t)]) 1500 1045 [(1, .int v1), (0, .ref 39)] [] t) = (fun (G201 : List Value → SM → OR) (j1045 : SM → Int32 → OR) (j1069 : SM → OR) (t : SM) (v1 : Int32) =>
  if 37 ≤ v1 then j1069 t
  else hGetC t 11 39 16 50 <|
  hGetC t 11 39 31 57 <|
  hALd t 57 v1 fun e1 =>
  hASt t 50 v1 e1 fun t2 =>
  j1045 t2 (v1 + 1)) := by rfl
theorem fm_init_1045_ok {k1069 : SM → OR} {r1045 : SM → Int32 → OR} (h_k1069 : ∀ (t : SM), k1069 t = some r → Body l 6 q_181 P_181 r 1069 [(0, .ref 39)] [] t) (h_r1045 : ∀ (t : SM) (v1 : Int32), r1045 t v1 = some r → Body l 6 q_181 P_181 r 1045 [(1, .int v1), (0, .ref 39)] [] t) (t : SM) (v1 : Int32) (h : fm_init_1045 k1069 r1045 t v1 = some r) : Body l 6 q_181 P_181 r 1045 [(1, .int v1), (0, .ref 39)] [] t :=
  blk ft_181 (by omega) rfl rows_181 (KDok.cons (KOK.f <| KOK.i fun w1 => KOK.e (f := fun t => r1045 t w1) fun t h => h_r1045 t w1 h) (KDok.cons (KOK.f <| KOK.e (f := fun t => k1069 t) fun t h => h_k1069 t h) (KDok.nil))) ((congrFun (congrFun (congrFun (congrFun (congrFun (fm_init_1045_eq) F_201) (fun t u1 => r1045 t u1)) (fun t => k1069 t)) t) v1).trans h)
theorem fm_init_l1045_ok {k1069 : SM → OR} (h_k1069 : ∀ (t : SM), k1069 t = some r → Body l 6 q_181 P_181 r 1069 [(0, .ref 39)] [] t) : ∀ (n : Nat) (t : SM) (v1 : Int32), fm_init_l1045 k1069 n t v1 = some r → Body l 6 q_181 P_181 r 1045 [(1, .int v1), (0, .ref 39)] [] t
  | 0, _, _, h => by cases h
  | n + 1, t, v1, h => fm_init_1045_ok h_k1069 (fm_init_l1045_ok h_k1069 n) t v1 h
theorem fm_init_eq : (fun (G201 : List Value → SM → OR) (j1045 : SM → Int32 → OR) (t : SM) => ex clN P_181 none bytJ (mkCal rks ((201, G201) :: [])) [1045] (kDisp [(1045, kF 0 39 <| kI 1 fun w1 => kE fun t => j1045 t w1)]) 1500 0 [(0, .ref 39)] [] t) = (fun (G201 : List Value → SM → OR) (j1045 : SM → Int32 → OR) (t : SM) =>
  hPutI t 11 39 0 6 fun t1 =>
  hNewA t1 20 8 fun q2 t3 =>
  hPutR t3 11 39 4 (some q2) fun t4 =>
  hNewA t4 20 8 fun q5 t6 =>
  hPutR t6 11 39 5 (some q5) fun t7 =>
  hNewA t7 20 8 fun q8 t9 =>
  hPutR t9 11 39 6 (some q8) fun t10 =>
  hNewA t10 20 8 fun q11 t12 =>
  hPutR t12 11 39 7 (some q11) fun t13 =>
  hNewA t13 20 8 fun q14 t15 =>
  hPutR t15 11 39 8 (some q14) fun t16 =>
  hNewA t16 20 12 fun q17 t18 =>
  hPutR t18 11 39 10 (some q17) fun t19 =>
  hNewA t19 20 12 fun q20 t21 =>
  hPutR t21 11 39 11 (some q20) fun t22 =>
  hNewA t22 20 12 fun q23 t24 =>
  hPutR t24 11 39 12 (some q23) fun t25 =>
  hNewA t25 20 12 fun q26 t27 =>
  hPutR t27 11 39 13 (some q26) fun t28 =>
  hNewA t28 20 6 fun q29 t30 =>
  hPutR t30 11 39 15 (some q29) fun t31 =>
  hNewA t31 20 160 fun q32 t33 =>
  hPutR t33 11 39 16 (some q32) fun t34 =>
  hNewA t34 20 1200 fun q35 t36 =>
  hPutR t36 11 39 18 (some q35) fun t37 =>
  hNewA t37 20 24 fun q38 t39 =>
  hPutR t39 11 39 19 (some q38) fun t40 =>
  hNewA t40 20 8 fun q41 t42 =>
  hPutR t42 11 39 27 (some q41) fun t43 =>
  hNewA t43 20 4 fun q44 t45 =>
  hASt t45 q44 0 (-1) fun t46 =>
  hASt t46 q44 1 (-1) fun t47 =>
  hASt t47 q44 2 (-1) fun t48 =>
  hASt t48 q44 3 (-1) fun t49 =>
  hPutR t49 11 39 28 (some q44) fun t50 =>
  hNewA t50 20 4 fun q51 t52 =>
  hPutR t52 11 39 29 (some q51) fun t53 =>
  hNewA t53 20 160 fun q54 t55 =>
  hPutR t55 11 39 30 (some q54) fun t56 =>
  hNewA t56 20 37 fun q57 t58 =>
  hASt t58 q57 0 109 fun t59 =>
  hASt t59 q57 1 97 fun t60 =>
  hASt t60 q57 2 121 fun t61 =>
  hASt t61 q57 3 32 fun t62 =>
  hASt t62 q57 4 49 fun t63 =>
  hASt t63 q57 5 32 fun t64 =>
  hASt t64 q57 6 59 fun t65 =>
  hASt t65 q57 7 32 fun t66 =>
  hASt t66 q57 8 104 fun t67 =>
  hASt t67 q57 9 97 fun t68 =>
  hASt t68 q57 10 114 fun t69 =>
  hASt t69 q57 11 109 fun t70 =>
  hASt t70 q57 12 32 fun t71 =>
  hASt t71 q57 13 102 fun t72 =>
  hASt t72 q57 14 97 fun t73 =>
  hASt t73 q57 15 114 fun t74 =>
  hASt t74 q57 16 32 fun t75 =>
  hASt t75 q57 17 59 fun t76 =>
  hASt t76 q57 18 32 fun t77 =>
  hASt t77 q57 19 112 fun t78 =>
  hASt t78 q57 20 114 fun t79 =>
  hASt t79 q57 21 105 fun t80 =>
  hASt t80 q57 22 99 fun t81 =>
  hASt t81 q57 23 101 fun t82 =>
  hASt t82 q57 24 32 fun t83 =>
  hASt t83 q57 25 51 fun t84 =>
  hASt t84 q57 26 32 fun t85 =>
  hASt t85 q57 27 43 fun t86 =>
  hASt t86 q57 28 32 fun t87 =>
  hASt t87 q57 29 119 fun t88 =>
  hASt t88 q57 30 111 fun t89 =>
  hASt t89 q57 31 114 fun t90 =>
  hASt t90 q57 32 108 fun t91 =>
  hASt t91 q57 33 100 fun t92 =>
  hASt t92 q57 34 115 fun t93 =>
  hASt t93 q57 35 32 fun t94 =>
  hASt t94 q57 36 59 fun t95 =>
  hPutR t95 11 39 31 (some q57) fun t96 =>
  hNewA t96 20 96 fun q97 t98 =>
  hASt t98 q97 0 109 fun t99 =>
  hASt t99 q97 1 97 fun t100 =>
  hASt t100 q97 2 121 fun t101 =>
  hASt t101 q97 3 32 fun t102 =>
  hASt t102 q97 4 32 fun t103 =>
  hASt t103 q97 5 32 fun t104 =>
  hASt t104 q97 6 32 fun t105 =>
  hASt t105 q97 7 32 fun t106 =>
  hASt t106 q97 8 104 fun t107 =>
  hASt t107 q97 9 97 fun t108 =>
  hASt t108 q97 10 114 fun t109 =>
  hASt t109 q97 11 109 fun t110 =>
  hASt t110 q97 12 32 fun t111 =>
  hASt t111 q97 13 32 fun t112 =>
  hASt t112 q97 14 32 fun t113 =>
  hASt t113 q97 15 32 fun t114 =>
  hASt t114 q97 16 112 fun t115 =>
  hASt t115 q97 17 114 fun t116 =>
  hASt t116 q97 18 105 fun t117 =>
  hASt t117 q97 19 99 fun t118 =>
  hASt t118 q97 20 101 fun t119 =>
  hASt t119 q97 21 32 fun t120 =>
  hASt t120 q97 22 32 fun t121 =>
  hASt t121 q97 23 32 fun t122 =>
  hASt t122 q97 24 97 fun t123 =>
  hASt t123 q97 25 32 fun t124 =>
  hASt t124 q97 26 32 fun t125 =>
  hASt t125 q97 27 32 fun t126 =>
  hASt t126 q97 28 32 fun t127 =>
  hASt t127 q97 29 32 fun t128 =>
  hASt t128 q97 30 32 fun t129 =>
  hASt t129 q97 31 32 fun t130 =>
  hASt t130 q97 32 98 fun t131 =>
  hASt t131 q97 33 32 fun t132 =>
  hASt t132 q97 34 32 fun t133 =>
  hASt t133 q97 35 32 fun t134 =>
  hASt t134 q97 36 32 fun t135 =>
  hASt t135 q97 37 32 fun t136 =>
  hASt t136 q97 38 32 fun t137 =>
  hASt t137 q97 39 32 fun t138 =>
  hASt t138 q97 40 99 fun t139 =>
  hASt t139 q97 41 32 fun t140 =>
  hASt t140 q97 42 32 fun t141 =>
  hASt t141 q97 43 32 fun t142 =>
  hASt t142 q97 44 32 fun t143 =>
  hASt t143 q97 45 32 fun t144 =>
  hASt t144 q97 46 32 fun t145 =>
  hASt t145 q97 47 32 fun t146 =>
  hASt t146 q97 48 100 fun t147 =>
  hASt t147 q97 49 32 fun t148 =>
  hASt t148 q97 50 32 fun t149 =>
  hASt t149 q97 51 32 fun t150 =>
  hASt t150 q97 52 32 fun t151 =>
  hASt t151 q97 53 32 fun t152 =>
  hASt t152 q97 54 32 fun t153 =>
  hASt t153 q97 55 32 fun t154 =>
  hASt t154 q97 56 102 fun t155 =>
  hASt t155 q97 57 97 fun t156 =>
  hASt t156 q97 58 114 fun t157 =>
  hASt t157 q97 59 32 fun t158 =>
  hASt t158 q97 60 32 fun t159 =>
  hASt t159 q97 61 32 fun t160 =>
  hASt t160 q97 62 32 fun t161 =>
  hASt t161 q97 63 32 fun t162 =>
  hASt t162 q97 64 119 fun t163 =>
  hASt t163 q97 65 111 fun t164 =>
  hASt t164 q97 66 114 fun t165 =>
  hASt t165 q97 67 108 fun t166 =>
  hASt t166 q97 68 100 fun t167 =>
  hASt t167 q97 69 115 fun t168 =>
  hASt t168 q97 70 32 fun t169 =>
  hASt t169 q97 71 32 fun t170 =>
  hASt t170 q97 72 111 fun t171 =>
  hASt t171 q97 73 114 fun t172 =>
  hASt t172 q97 74 32 fun t173 =>
  hASt t173 q97 75 32 fun t174 =>
  hASt t174 q97 76 32 fun t175 =>
  hASt t175 q97 77 32 fun t176 =>
  hASt t176 q97 78 32 fun t177 =>
  hASt t177 q97 79 32 fun t178 =>
  hASt t178 q97 80 97 fun t179 =>
  hASt t179 q97 81 110 fun t180 =>
  hASt t180 q97 82 100 fun t181 =>
  hASt t181 q97 83 32 fun t182 =>
  hASt t182 q97 84 32 fun t183 =>
  hASt t183 q97 85 32 fun t184 =>
  hASt t184 q97 86 32 fun t185 =>
  hASt t185 q97 87 32 fun t186 =>
  hASt t186 q97 88 110 fun t187 =>
  hASt t187 q97 89 111 fun t188 =>
  hASt t188 q97 90 116 fun t189 =>
  hASt t189 q97 91 32 fun t190 =>
  hASt t190 q97 92 32 fun t191 =>
  hASt t191 q97 93 32 fun t192 =>
  hASt t192 q97 94 32 fun t193 =>
  hASt t193 q97 95 32 fun t194 =>
  hPutR t194 11 39 36 (some q97) fun t195 =>
  hNewA t195 20 200 fun q196 t197 =>
  hPutR t197 11 39 37 (some q196) fun t198 =>
  hNewA t198 20 200 fun q199 t200 =>
  hPutR t200 11 39 41 (some q199) fun t201 =>
  hNewA t201 20 6 fun q202 t203 =>
  hPutR t203 11 39 42 (some q202) fun t204 =>
  hNewA t204 20 512 fun q205 t206 =>
  hPutR t206 11 39 43 (some q205) fun t207 =>
  hNewA t207 20 512 fun q208 t209 =>
  hPutR t209 11 39 44 (some q208) fun t210 =>
  hNewA t210 20 6 fun q211 t212 =>
  hPutR t212 11 39 46 (some q211) fun t213 =>
  hNewA t213 20 768 fun q214 t215 =>
  hPutR t215 11 39 47 (some q214) fun t216 =>
  hNewA t216 20 128 fun q217 t218 =>
  hPutR t218 11 39 48 (some q217) fun t219 =>
  hNewA t219 20 8 fun q220 t221 =>
  hPutR t221 11 39 49 (some q220) fun t222 =>
  j1045 t222 0) := by rfl
theorem fm_init_ok (t : SM) (h : fm_init t = some r) : Body l 6 q_181 P_181 r 0 [(0, .ref 39)] [] t :=
  blk ft_181 (by omega) rfl rows_181 (KDok.cons (KOK.f <| KOK.i fun w1 => KOK.e (f := fun t => fm_init_l1045 (fun t => fm_init_1069 t) 1000000 t w1) fun t h => fm_init_l1045_ok (k1069 := fun t => fm_init_1069 t) (fun t h => fm_init_1069_ok t h) 1000000 t w1 h) (KDok.nil)) ((congrFun (congrFun (congrFun (fm_init_eq) F_201) (fun t u1 => fm_init_l1045 (fun t => fm_init_1069 t) 1000000 t u1)) t).trans h)
theorem ok_181 (l : Launch) : Fok l 6 mtab 181 (F_181) := by
  intro as t r h
  unfold F_181 at h
  split at h
  · rename_i z0
    split at h
    · rename_i hz0
      obtain rfl := Nat.eq_of_beq_eq_true hz0
      exact ⟨q_181, rfl, mok_181, con_of (P := P_181) (by decide +kernel) rfl (Nat.le_of_ble_eq_true rfl) (fm_init_ok t h)⟩
    · cases h
  · cases h
end
section
set_option maxRecDepth 100000
variable {l : Launch} {r : RR}
def FT_183 : FT := (182, F_182) :: []
theorem ft_183 : FTok l 2 mtab FT_183 := FTok.cons (ok_182 l) (by omega) (FTok.nil)
theorem fm_isTown_eq : (fun (G182 : List Value → SM → OR) (t : SM) (a : Int32) => ex clN P_183 none bytJ (mkCal rks ((182, G182) :: [])) [] (kDisp []) 400 0 [(0, .ref 39), (1, .int a)] [] t) = (fun (G182 : List Value → SM → OR) (t : SM) (a : Int32) =>
  hGetI t 11 39 0 fun choices1 =>
  bI (G182 [.int a, .int 0, .int (((1 : Int32) <<< (choices1 &&& 31)) - 1)] t) fun in3 t2 =>
  hZ in3 (rI in3 t2)) := by rfl
theorem fm_isTown_ok (t : SM) (a : Int32) (h : fm_isTown t a = some r) : Body l 2 q_183 P_183 r 0 [(0, .ref 39), (1, .int a)] [] t :=
  blk ft_183 (by omega) rfl rows_183 (KDok.nil) ((congrFun (congrFun (congrFun (fm_isTown_eq) F_182) t) a).trans h)
theorem ok_183 (l : Launch) : Fok l 2 mtab 183 (F_183) := by
  intro as t r h
  unfold F_183 at h
  split at h
  · rename_i z0 a
    split at h
    · rename_i hz0
      obtain rfl := Nat.eq_of_beq_eq_true hz0
      exact ⟨q_183, rfl, mok_183, con_of (P := P_183) (by decide +kernel) rfl (Nat.le_of_ble_eq_true rfl) (fm_isTown_ok t a h)⟩
    · cases h
  · cases h
end
section
set_option maxRecDepth 100000
variable {l : Launch} {r : RR}
def FT_184 : FT := (182, F_182) :: []
theorem ft_184 : FTok l 2 mtab FT_184 := FTok.cons (ok_182 l) (by omega) (FTok.nil)
theorem fm_isMap_eq : (fun (G182 : List Value → SM → OR) (t : SM) (a : Int32) => ex clN P_184 none bytJ (mkCal rks ((182, G182) :: [])) [] (kDisp []) 400 0 [(0, .ref 39), (1, .int a)] [] t) = (fun (G182 : List Value → SM → OR) (t : SM) (a : Int32) =>
  hGetI t 11 39 3 fun maps1 =>
  bI (G182 [.int a, .int 0, .int (maps1 - 1)] t) fun in3 t2 =>
  hZ in3 (rI in3 t2)) := by rfl
theorem fm_isMap_ok (t : SM) (a : Int32) (h : fm_isMap t a = some r) : Body l 2 q_184 P_184 r 0 [(0, .ref 39), (1, .int a)] [] t :=
  blk ft_184 (by omega) rfl rows_184 (KDok.nil) ((congrFun (congrFun (congrFun (fm_isMap_eq) F_182) t) a).trans h)
theorem ok_184 (l : Launch) : Fok l 2 mtab 184 (F_184) := by
  intro as t r h
  unfold F_184 at h
  split at h
  · rename_i z0 a
    split at h
    · rename_i hz0
      obtain rfl := Nat.eq_of_beq_eq_true hz0
      exact ⟨q_184, rfl, mok_184, con_of (P := P_184) (by decide +kernel) rfl (Nat.le_of_ble_eq_true rfl) (fm_isMap_ok t a h)⟩
    · cases h
  · cases h
end
section
set_option maxRecDepth 100000
variable {l : Launch} {r : RR}
def FT_185 : FT := (182, F_182) :: []
theorem ft_185 : FTok l 2 mtab FT_185 := FTok.cons (ok_182 l) (by omega) (FTok.nil)
theorem fm_isChoice_eq : (fun (G182 : List Value → SM → OR) (t : SM) (a : Int32) => ex clN P_185 none bytJ (mkCal rks ((182, G182) :: [])) [] (kDisp []) 400 0 [(0, .ref 39), (1, .int a)] [] t) = (fun (G182 : List Value → SM → OR) (t : SM) (a : Int32) =>
  hGetI t 11 39 0 fun choices1 =>
  bI (G182 [.int a, .int 0, .int (choices1 - 1)] t) fun in3 t2 =>
  hZ in3 (rI in3 t2)) := by rfl
theorem fm_isChoice_ok (t : SM) (a : Int32) (h : fm_isChoice t a = some r) : Body l 2 q_185 P_185 r 0 [(0, .ref 39), (1, .int a)] [] t :=
  blk ft_185 (by omega) rfl rows_185 (KDok.nil) ((congrFun (congrFun (congrFun (fm_isChoice_eq) F_182) t) a).trans h)
theorem ok_185 (l : Launch) : Fok l 2 mtab 185 (F_185) := by
  intro as t r h
  unfold F_185 at h
  split at h
  · rename_i z0 a
    split at h
    · rename_i hz0
      obtain rfl := Nat.eq_of_beq_eq_true hz0
      exact ⟨q_185, rfl, mok_185, con_of (P := P_185) (by decide +kernel) rfl (Nat.le_of_ble_eq_true rfl) (fm_isChoice_ok t a h)⟩
    · cases h
  · cases h
end
section
set_option maxRecDepth 100000
variable {l : Launch} {r : RR}
def FT_186 : FT := (182, F_182) :: []
theorem ft_186 : FTok l 2 mtab FT_186 := FTok.cons (ok_182 l) (by omega) (FTok.nil)
theorem fm_areTwo_eq : (fun (G182 : List Value → SM → OR) (t : SM) (a : Int32) => ex clN P_186 none bytJ (mkCal rks ((182, G182) :: [])) [] (kDisp []) 400 0 [(0, .int a)] [] t) = (fun (G182 : List Value → SM → OR) (t : SM) (a : Int32) =>
  bI (G182 [.int a, .int 0, .int 55] t) fun in2 t1 =>
  if in2 = 0 then rI 0 t1
  else if 5 < (a - a / 10 * 10) then rI 0 t1
  else rI 1 t1) := by rfl
theorem fm_areTwo_ok (t : SM) (a : Int32) (h : fm_areTwo t a = some r) : Body l 2 q_186 P_186 r 0 [(0, .int a)] [] t :=
  blk ft_186 (by omega) rfl rows_186 (KDok.nil) ((congrFun (congrFun (congrFun (fm_areTwo_eq) F_182) t) a).trans h)
theorem ok_186 (l : Launch) : Fok l 2 mtab 186 (F_186) := by
  intro as t r h
  unfold F_186 at h
  split at h
  · rename_i a
    exact ⟨q_186, rfl, mok_186, con_of (P := P_186) (by decide +kernel) rfl (Nat.le_of_ble_eq_true rfl) (fm_areTwo_ok t a h)⟩
  · cases h
end
section
set_option maxRecDepth 100000
variable {l : Launch} {r : RR}
def FT_187 : FT := []
theorem ft_187 : FTok l 1 mtab FT_187 := FTok.nil
theorem fm_ones_4_eq : (fun (j4 : SM → Int32 → Int32 → Int32 → OR) (t : SM) (v0 : Int32) (v1 : Int32) (v2 : Int32) => ex clN P_187 none bytJ (mkCal rks ([])) [4] (kDisp [(4, kI 0 fun w0 => kI 1 fun w1 => kI 2 fun w2 => kE fun t => j4 t w0 w1 w2)]) 400 4 [(2, .int v2), (1, .int v1), (0, .int v0)] [] t) = (fun (j4 : SM → Int32 → Int32 → Int32 → OR) (t : SM) (v0 : Int32) (v1 : Int32) (v2 : Int32) =>
  if 9 ≤ v2 then rI v1 t
  else j4 t v0 (v1 + ((v0 >>> (v2 &&& 31)) &&& 1)) (v2 + 1)) := by rfl
theorem fm_ones_4_ok {r4 : SM → Int32 → Int32 → Int32 → OR} (h_r4 : ∀ (t : SM) (v0 : Int32) (v1 : Int32) (v2 : Int32), r4 t v0 v1 v2 = some r → Body l 1 q_187 P_187 r 4 [(2, .int v2), (1, .int v1), (0, .int v0)] [] t) (t : SM) (v0 : Int32) (v1 : Int32) (v2 : Int32) (h : fm_ones_4 r4 t v0 v1 v2 = some r) : Body l 1 q_187 P_187 r 4 [(2, .int v2), (1, .int v1), (0, .int v0)] [] t :=
  blk ft_187 (by omega) rfl rows_187 (KDok.cons (KOK.i fun w0 => KOK.i fun w1 => KOK.i fun w2 => KOK.e (f := fun t => r4 t w0 w1 w2) fun t h => h_r4 t w0 w1 w2 h) (KDok.nil)) ((congrFun (congrFun (congrFun (congrFun (congrFun (fm_ones_4_eq) (fun t u0 u1 u2 => r4 t u0 u1 u2)) t) v0) v1) v2).trans h)
theorem fm_ones_l4_ok : ∀ (n : Nat) (t : SM) (v0 : Int32) (v1 : Int32) (v2 : Int32), fm_ones_l4 n t v0 v1 v2 = some r → Body l 1 q_187 P_187 r 4 [(2, .int v2), (1, .int v1), (0, .int v0)] [] t
  | 0, _, _, _, _, h => by cases h
  | n + 1, t, v0, v1, v2, h => fm_ones_4_ok (fm_ones_l4_ok n) t v0 v1 v2 h
theorem fm_ones_eq : (fun (j4 : SM → Int32 → Int32 → Int32 → OR) (t : SM) (a : Int32) => ex clN P_187 none bytJ (mkCal rks ([])) [4] (kDisp [(4, kI 0 fun w0 => kI 1 fun w1 => kI 2 fun w2 => kE fun t => j4 t w0 w1 w2)]) 400 0 [(0, .int a)] [] t) = (fun (j4 : SM → Int32 → Int32 → Int32 → OR) (t : SM) (a : Int32) =>
  j4 t a 0 0) := by rfl
theorem fm_ones_ok (t : SM) (a : Int32) (h : fm_ones t a = some r) : Body l 1 q_187 P_187 r 0 [(0, .int a)] [] t :=
  blk ft_187 (by omega) rfl rows_187 (KDok.cons (KOK.i fun w0 => KOK.i fun w1 => KOK.i fun w2 => KOK.e (f := fun t => fm_ones_l4 1000000 t w0 w1 w2) fun t h => fm_ones_l4_ok 1000000 t w0 w1 w2 h) (KDok.nil)) ((congrFun (congrFun (congrFun (fm_ones_eq) (fun t u0 u1 u2 => fm_ones_l4 1000000 t u0 u1 u2)) t) a).trans h)
theorem ok_187 (l : Launch) : Fok l 1 mtab 187 (F_187) := by
  intro as t r h
  unfold F_187 at h
  split at h
  · rename_i a
    exact ⟨q_187, rfl, mok_187, con_of (P := P_187) (by decide +kernel) rfl (Nat.le_of_ble_eq_true rfl) (fm_ones_ok t a h)⟩
  · cases h
end
section
set_option maxRecDepth 100000
variable {l : Launch} {r : RR}
def FT_188 : FT := (182, F_182) :: []
theorem ft_188 : FTok l 2 mtab FT_188 := FTok.cons (ok_182 l) (by omega) (FTok.nil)
theorem fm_town_eq : (fun (G182 : List Value → SM → OR) (t : SM) (a : Int32) => ex clN P_188 none bytJ (mkCal rks ((182, G182) :: [])) [] (kDisp []) 400 0 [(0, .ref 39), (1, .int a)] [] t) = (fun (G182 : List Value → SM → OR) (t : SM) (a : Int32) =>
  bI (G182 [.int a, .int 1, .int 9] t) fun in2 t1 =>
  if in2 = 0 then rI (-2) t1
  else hGetI t1 11 39 3 fun maps3 =>
    if 0 < maps3 then rI (-3) t1
    else hGetI t1 11 39 9 fun streets4 =>
    if streets4 ≤ 0 then hGetI t1 11 39 0 fun choices5 =>
      hPutI t1 11 39 0 a fun t6 =>
      hPutI t6 11 39 1 0 fun t7 =>
      hPutI t7 11 39 2 0 fun t8 =>
      hPutI t8 11 39 22 0 fun t9 =>
      rI choices5 t9
    else rI (-3) t1) := by rfl
theorem fm_town_ok (t : SM) (a : Int32) (h : fm_town t a = some r) : Body l 2 q_188 P_188 r 0 [(0, .ref 39), (1, .int a)] [] t :=
  blk ft_188 (by omega) rfl rows_188 (KDok.nil) ((congrFun (congrFun (congrFun (fm_town_eq) F_182) t) a).trans h)
theorem ok_188 (l : Launch) : Fok l 2 mtab 188 (F_188) := by
  intro as t r h
  unfold F_188 at h
  split at h
  · rename_i z0 a
    split at h
    · rename_i hz0
      obtain rfl := Nat.eq_of_beq_eq_true hz0
      exact ⟨q_188, rfl, mok_188, con_of (P := P_188) (by decide +kernel) rfl (Nat.le_of_ble_eq_true rfl) (fm_town_ok t a h)⟩
    · cases h
  · cases h
end
section
set_option maxRecDepth 100000
variable {l : Launch} {r : RR}
def FT_189 : FT := []
theorem ft_189 : FTok l 1 mtab FT_189 := FTok.nil
theorem fm_count_eq : (fun (t : SM) (a : Int32) => ex clN P_189 none bytJ (mkCal rks ([])) [] (kDisp []) 400 0 [(0, .ref 39), (1, .int a)] [] t) = (fun (t : SM) (a : Int32) =>
  if a = 0 then hGetI t 11 39 0 fun choices1 =>
    rI choices1 t
  else if a = 1 then hGetI t 11 39 3 fun maps2 =>
    rI maps2 t
  else if a = 2 then hGetI t 11 39 9 fun streets3 =>
    rI streets3 t
  else if a = 3 then hGetI t 11 39 14 fun goers4 =>
    rI goers4 t
  else if a = 4 then hGetI t 11 39 20 fun texts5 =>
    rI texts5 t
  else if a = 5 then hGetI t 11 39 21 fun rule6 =>
    rI rule6 t
  else if a = 6 then hGetI t 11 39 17 fun taped7 =>
    rI taped7 t
  else if a = 7 then hGetI t 11 39 1 fun seen8 =>
    rI seen8 t
  else if a = 8 then hGetI t 11 39 2 fun seenSo9 =>
    rI seenSo9 t
  else rI (-2) t) := by rfl
theorem fm_count_ok (t : SM) (a : Int32) (h : fm_count t a = some r) : Body l 1 q_189 P_189 r 0 [(0, .ref 39), (1, .int a)] [] t :=
  blk ft_189 (by omega) rfl rows_189 (KDok.nil) ((congrFun (congrFun (fm_count_eq) t) a).trans h)
theorem ok_189 (l : Launch) : Fok l 1 mtab 189 (F_189) := by
  intro as t r h
  unfold F_189 at h
  split at h
  · rename_i z0 a
    split at h
    · rename_i hz0
      obtain rfl := Nat.eq_of_beq_eq_true hz0
      exact ⟨q_189, rfl, mok_189, con_of (P := P_189) (by decide +kernel) rfl (Nat.le_of_ble_eq_true rfl) (fm_count_ok t a h)⟩
    · cases h
  · cases h
end
section
set_option maxRecDepth 100000
variable {l : Launch} {r : RR}
def FT_190 : FT := (182, F_182) :: []
theorem ft_190 : FTok l 2 mtab FT_190 := FTok.cons (ok_182 l) (by omega) (FTok.nil)
theorem fm_feed_75_eq : (fun (G182 : List Value → SM → OR) (t : SM) => ex clN P_190 none bytJ (mkCal rks ((182, G182) :: [])) [] (kDisp []) 400 75 [(0, .ref 39)] [] t) = (fun (G182 : List Value → SM → OR) (t : SM) =>
  hGetI t 11 39 17 fun taped1 =>
  rI taped1 t) := by rfl
theorem fm_feed_75_ok (t : SM) (h : fm_feed_75 t = some r) : Body l 2 q_190 P_190 r 75 [(0, .ref 39)] [] t :=
  blk ft_190 (by omega) rfl rows_190 (KDok.nil) ((congrFun (congrFun (fm_feed_75_eq) F_182) t).trans h)
theorem fm_feed_33_eq : (fun (G182 : List Value → SM → OR) (j33 : SM → Int64 → Int32 → OR) (j75 : SM → OR) (t : SM) (v1 : Int64) (v4 : Int32) => ex clN P_190 none bytJ (mkCal rks ((182, G182) :: [])) [33, 75] (kDisp [(33, kF 0 39 <| kL 1 fun w1 => kI 4 fun w4 => kE fun t => j33 t w1 w4), (75, kF 0 39 <| kE fun t => j75 t)]) 400 33 [(4, .int v4), (1, .long v1), (0, .ref 39)] [] t) = (fun (G182 : List Value → SM → OR) (j33 : SM → Int64 → Int32 → OR) (j75 : SM → OR) (t : SM) (v1 : Int64) (v4 : Int32) =>
  if v4 < 0 then j75 t
  else hGetC t 11 39 16 50 <|
  hGetI t 11 39 17 fun taped1 =>
  hASt t 50 taped1 (Int64.toInt32 ((v1 >>> (Int32.toInt64 (8 * v4) &&& 63)) &&& 255)) fun t2 =>
  hGetI t2 11 39 17 fun taped3 =>
  hPutI t2 11 39 17 (taped3 + 1) fun t4 =>
  j33 t4 v1 (v4 + (-1))) := by rfl
theorem fm_feed_33_ok {k75 : SM → OR} {r33 : SM → Int64 → Int32 → OR} (h_k75 : ∀ (t : SM), k75 t = some r → Body l 2 q_190 P_190 r 75 [(0, .ref 39)] [] t) (h_r33 : ∀ (t : SM) (v1 : Int64) (v4 : Int32), r33 t v1 v4 = some r → Body l 2 q_190 P_190 r 33 [(4, .int v4), (1, .long v1), (0, .ref 39)] [] t) (t : SM) (v1 : Int64) (v4 : Int32) (h : fm_feed_33 k75 r33 t v1 v4 = some r) : Body l 2 q_190 P_190 r 33 [(4, .int v4), (1, .long v1), (0, .ref 39)] [] t :=
  blk ft_190 (by omega) rfl rows_190 (KDok.cons (KOK.f <| KOK.lg fun w1 => KOK.i fun w4 => KOK.e (f := fun t => r33 t w1 w4) fun t h => h_r33 t w1 w4 h) (KDok.cons (KOK.f <| KOK.e (f := fun t => k75 t) fun t h => h_k75 t h) (KDok.nil))) ((congrFun (congrFun (congrFun (congrFun (congrFun (congrFun (fm_feed_33_eq) F_182) (fun t u1 u4 => r33 t u1 u4)) (fun t => k75 t)) t) v1) v4).trans h)
theorem fm_feed_l33_ok {k75 : SM → OR} (h_k75 : ∀ (t : SM), k75 t = some r → Body l 2 q_190 P_190 r 75 [(0, .ref 39)] [] t) : ∀ (n : Nat) (t : SM) (v1 : Int64) (v4 : Int32), fm_feed_l33 k75 n t v1 v4 = some r → Body l 2 q_190 P_190 r 33 [(4, .int v4), (1, .long v1), (0, .ref 39)] [] t
  | 0, _, _, _, h => by cases h
  | n + 1, t, v1, v4, h => fm_feed_33_ok h_k75 (fm_feed_l33_ok h_k75 n) t v1 v4 h
theorem fm_feed_eq : (fun (G182 : List Value → SM → OR) (j33 : SM → Int64 → Int32 → OR) (t : SM) (a : Int64) (b : Int32) => ex clN P_190 none bytJ (mkCal rks ((182, G182) :: [])) [33] (kDisp [(33, kF 0 39 <| kL 1 fun w1 => kI 4 fun w4 => kE fun t => j33 t w1 w4)]) 400 0 [(0, .ref 39), (1, .long a), (3, .int b)] [] t) = (fun (G182 : List Value → SM → OR) (j33 : SM → Int64 → Int32 → OR) (t : SM) (a : Int64) (b : Int32) =>
  bI (G182 [.int b, .int 1, .int 8] t) fun in2 t1 =>
  if in2 = 0 then rI (-2) t1
  else hGetI t1 11 39 17 fun taped3 =>
    if (taped3 + b) ≤ 160 then j33 t1 a (b - 1)
    else rI (-4) t1) := by rfl
theorem fm_feed_ok (t : SM) (a : Int64) (b : Int32) (h : fm_feed t a b = some r) : Body l 2 q_190 P_190 r 0 [(0, .ref 39), (1, .long a), (3, .int b)] [] t :=
  blk ft_190 (by omega) rfl rows_190 (KDok.cons (KOK.f <| KOK.lg fun w1 => KOK.i fun w4 => KOK.e (f := fun t => fm_feed_l33 (fun t => fm_feed_75 t) 1000000 t w1 w4) fun t h => fm_feed_l33_ok (k75 := fun t => fm_feed_75 t) (fun t h => fm_feed_75_ok t h) 1000000 t w1 w4 h) (KDok.nil)) ((congrFun (congrFun (congrFun (congrFun (congrFun (fm_feed_eq) F_182) (fun t u1 u4 => fm_feed_l33 (fun t => fm_feed_75 t) 1000000 t u1 u4)) t) a) b).trans h)
theorem ok_190 (l : Launch) : Fok l 2 mtab 190 (F_190) := by
  intro as t r h
  unfold F_190 at h
  split at h
  · rename_i z0 a b
    split at h
    · rename_i hz0
      obtain rfl := Nat.eq_of_beq_eq_true hz0
      exact ⟨q_190, rfl, mok_190, con_of (P := P_190) (by decide +kernel) rfl (Nat.le_of_ble_eq_true rfl) (fm_feed_ok t a b h)⟩
    · cases h
  · cases h
end
section
set_option maxRecDepth 100000
variable {l : Launch} {r : RR}
def FT_202 : FT := []
theorem ft_202 : FTok l 1 mtab FT_202 := FTok.nil
theorem fm_two_eq : (fun (t : SM) (a : Int32) (b : Int32) (c : Int32) => ex clN P_202 none bytJ (mkCal rks ([])) [] (kDisp []) 400 0 [(0, .int a), (1, .int b), (2, .int c)] [] t) = (fun (t : SM) (a : Int32) (b : Int32) (c : Int32) =>
  if a = 11 then if b = 0 then if c = 0 then rI 0 t
    else rI 1 t
    else rI 1 t
  else if a = 12 then if b = 0 then rI 0 t
    else if c = 0 then rI 0 t
    else rI 1 t
  else if a = 13 then rI (b * c) t
  else if a = 14 then if c ≤ b then rI 0 t
    else rI 1 t
  else if a = 15 then if b = c then rI 1 t
    else rI 0 t
  else if a = 16 then rI (b + c) t
  else if a = 17 then rI (b - c) t
  else rI (b * c) t) := by rfl
theorem fm_two_ok (t : SM) (a : Int32) (b : Int32) (c : Int32) (h : fm_two t a b c = some r) : Body l 1 q_202 P_202 r 0 [(0, .int a), (1, .int b), (2, .int c)] [] t :=
  blk ft_202 (by omega) rfl rows_202 (KDok.nil) ((congrFun (congrFun (congrFun (congrFun (fm_two_eq) t) a) b) c).trans h)
theorem ok_202 (l : Launch) : Fok l 1 mtab 202 (F_202) := by
  intro as t r h
  unfold F_202 at h
  split at h
  · rename_i a b c
    exact ⟨q_202, rfl, mok_202, con_of (P := P_202) (by decide +kernel) rfl (Nat.le_of_ble_eq_true rfl) (fm_two_ok t a b c h)⟩
  · cases h
end
section
set_option maxRecDepth 100000
variable {l : Launch} {r : RR}
def FT_203 : FT := (202, F_202) :: []
theorem ft_203 : FTok l 2 mtab FT_203 := FTok.cons (ok_202 l) (by omega) (FTok.nil)
theorem fm_worthOf_197_eq : (fun (G202 : List Value → SM → OR) (t : SM) => ex clN P_203 none bytJ (mkCal rks ((202, G202) :: [])) [] (kDisp []) 400 197 [(0, .ref 39)] [] t) = (fun (G202 : List Value → SM → OR) (t : SM) =>
  hGetC t 11 39 41 60 <|
  hALd t 60 0 fun e1 =>
  rI e1 t) := by rfl
theorem fm_worthOf_197_ok (t : SM) (h : fm_worthOf_197 t = some r) : Body l 2 q_203 P_203 r 197 [(0, .ref 39)] [] t :=
  blk ft_203 (by omega) rfl rows_203 (KDok.nil) ((congrFun (congrFun (fm_worthOf_197_eq) F_202) t).trans h)
theorem fm_worthOf_66_eq : (fun (G202 : List Value → SM → OR) (j16 : SM → Int32 → Int32 → Int32 → OR) (t : SM) (v1 : Int32) (v2 : Int32) (v3 : Int32) (v4 : Int32) => ex clN P_203 none bytJ (mkCal rks ((202, G202) :: [])) [16] (kDisp [(16, kF 0 39 <| kI 1 fun w1 => kI 2 fun w2 => kI 3 fun w3 => kE fun t => j16 t w1 w2 w3)]) 400 66 [(4, .int v4), (3, .int v3), (2, .int v2), (1, .int v1), (0, .ref 39)] [] t) = (fun (G202 : List Value → SM → OR) (j16 : SM → Int32 → Int32 → Int32 → OR) (t : SM) (v1 : Int32) (v2 : Int32) (v3 : Int32) (v4 : Int32) =>
  hGetC t 11 39 41 60 <|
  if 11 ≤ v4 then hASt t 60 v2 (v4 - 100000) fun t1 =>
    j16 t1 v1 (v2 + 1) (v3 + 1)
  else hGetC t 11 39 42 61 <|
  hALd t 61 v4 fun e2 =>
  hASt t 60 v2 e2 fun t3 =>
  j16 t3 v1 (v2 + 1) (v3 + 1)) := by rfl
theorem fm_worthOf_66_ok {r16 : SM → Int32 → Int32 → Int32 → OR} (h_r16 : ∀ (t : SM) (v1 : Int32) (v2 : Int32) (v3 : Int32), r16 t v1 v2 v3 = some r → Body l 2 q_203 P_203 r 16 [(3, .int v3), (2, .int v2), (1, .int v1), (0, .ref 39)] [] t) (t : SM) (v1 : Int32) (v2 : Int32) (v3 : Int32) (v4 : Int32) (h : fm_worthOf_66 r16 t v1 v2 v3 v4 = some r) : Body l 2 q_203 P_203 r 66 [(4, .int v4), (3, .int v3), (2, .int v2), (1, .int v1), (0, .ref 39)] [] t :=
  blk ft_203 (by omega) rfl rows_203 (KDok.cons (KOK.f <| KOK.i fun w1 => KOK.i fun w2 => KOK.i fun w3 => KOK.e (f := fun t => r16 t w1 w2 w3) fun t h => h_r16 t w1 w2 w3 h) (KDok.nil)) ((congrFun (congrFun (congrFun (congrFun (congrFun (congrFun (congrFun (fm_worthOf_66_eq) F_202) (fun t u1 u2 u3 => r16 t u1 u2 u3)) t) v1) v2) v3) v4).trans h)
theorem fm_worthOf_16_eq : (fun (G202 : List Value → SM → OR) (j16 : SM → Int32 → Int32 → Int32 → OR) (j66 : SM → Int32 → Int32 → Int32 → Int32 → OR) (j197 : SM → OR) (t : SM) (v1 : Int32) (v2 : Int32) (v3 : Int32) => ex clN P_203 none bytJ (mkCal rks ((202, G202) :: [])) [16, 66, 197] (kDisp [(16, kF 0 39 <| kI 1 fun w1 => kI 2 fun w2 => kI 3 fun w3 => kE fun t => j16 t w1 w2 w3), (66, kF 0 39 <| kI 1 fun w1 => kI 2 fun w2 => kI 3 fun w3 => kI 4 fun w4 => kE fun t => j66 t w1 w2 w3 w4), (197, kF 0 39 <| kE fun t => j197 t)]) 400 16 [(3, .int v3), (2, .int v2), (1, .int v1), (0, .ref 39)] [] t) = (fun (G202 : List Value → SM → OR) (j16 : SM → Int32 → Int32 → Int32 → OR) (j66 : SM → Int32 → Int32 → Int32 → Int32 → OR) (j197 : SM → OR) (t : SM) (v1 : Int32) (v2 : Int32) (v3 : Int32) =>
  hGetC t 11 39 19 52 <|
  hGetI t 11 39 21 fun rule1 =>
  hALd t 52 (((4 * rule1) + v1) + 1) fun e2 =>
  if e2 ≤ v3 then j197 t
  else hGetC t 11 39 18 51 <|
  hGetI t 11 39 21 fun rule3 =>
  hALd t 51 ((200 * rule3) + v3) fun e4 =>
  if 100000 ≤ e4 then j66 t v1 v2 v3 e4
  else if 11 ≤ e4 then if e4 = 13 then hGetC t 11 39 41 60 <|
    hGetC t 11 39 41 60 <|
    hALd t 60 (v2 - 1) fun e12 =>
    if e12 = 0 then hASt t 60 (v2 - 1) 1 fun t14 =>
    j16 t14 v1 v2 (v3 + 1)
    else hASt t 60 (v2 - 1) 0 fun t13 =>
      j16 t13 v1 v2 (v3 + 1)
    else if e4 = 19 then hGetC t 11 39 41 60 <|
      hGetC t 11 39 41 60 <|
      hALd t 60 (v2 - 1) fun e10 =>
      hASt t 60 (v2 - 1) (-e10) fun t11 =>
      j16 t11 v1 v2 (v3 + 1)
      else hGetC t 11 39 41 60 <|
        hGetC t 11 39 41 60 <|
        hALd t 60 ((v2 + (-1)) - 1) fun e5 =>
        hGetC t 11 39 41 60 <|
        hALd t 60 (v2 + (-1)) fun e6 =>
        bI (G202 [.int e4, .int e5, .int e6] t) fun two8 t7 =>
        hASt t7 60 ((v2 + (-1)) - 1) two8 fun t9 =>
        j16 t9 v1 (v2 + (-1)) (v3 + 1)
  else j66 t v1 v2 v3 e4) := by rfl
theorem fm_worthOf_16_ok {k197 : SM → OR} {r16 : SM → Int32 → Int32 → Int32 → OR} (h_k197 : ∀ (t : SM), k197 t = some r → Body l 2 q_203 P_203 r 197 [(0, .ref 39)] [] t) (h_r16 : ∀ (t : SM) (v1 : Int32) (v2 : Int32) (v3 : Int32), r16 t v1 v2 v3 = some r → Body l 2 q_203 P_203 r 16 [(3, .int v3), (2, .int v2), (1, .int v1), (0, .ref 39)] [] t) (t : SM) (v1 : Int32) (v2 : Int32) (v3 : Int32) (h : fm_worthOf_16 k197 r16 t v1 v2 v3 = some r) : Body l 2 q_203 P_203 r 16 [(3, .int v3), (2, .int v2), (1, .int v1), (0, .ref 39)] [] t :=
  blk ft_203 (by omega) rfl rows_203 (KDok.cons (KOK.f <| KOK.i fun w1 => KOK.i fun w2 => KOK.i fun w3 => KOK.e (f := fun t => r16 t w1 w2 w3) fun t h => h_r16 t w1 w2 w3 h) (KDok.cons (KOK.f <| KOK.i fun w1 => KOK.i fun w2 => KOK.i fun w3 => KOK.i fun w4 => KOK.e (f := fun t => fm_worthOf_66 r16 t w1 w2 w3 w4) fun t h => fm_worthOf_66_ok h_r16 t w1 w2 w3 w4 h) (KDok.cons (KOK.f <| KOK.e (f := fun t => k197 t) fun t h => h_k197 t h) (KDok.nil)))) ((congrFun (congrFun (congrFun (congrFun (congrFun (congrFun (congrFun (congrFun (fm_worthOf_16_eq) F_202) (fun t u1 u2 u3 => r16 t u1 u2 u3)) (fun t u1 u2 u3 u4 => fm_worthOf_66 r16 t u1 u2 u3 u4)) (fun t => k197 t)) t) v1) v2) v3).trans h)
theorem fm_worthOf_l16_ok {k197 : SM → OR} (h_k197 : ∀ (t : SM), k197 t = some r → Body l 2 q_203 P_203 r 197 [(0, .ref 39)] [] t) : ∀ (n : Nat) (t : SM) (v1 : Int32) (v2 : Int32) (v3 : Int32), fm_worthOf_l16 k197 n t v1 v2 v3 = some r → Body l 2 q_203 P_203 r 16 [(3, .int v3), (2, .int v2), (1, .int v1), (0, .ref 39)] [] t
  | 0, _, _, _, _, h => by cases h
  | n + 1, t, v1, v2, v3, h => fm_worthOf_16_ok h_k197 (fm_worthOf_l16_ok h_k197 n) t v1 v2 v3 h
theorem fm_worthOf_eq : (fun (G202 : List Value → SM → OR) (j16 : SM → Int32 → Int32 → Int32 → OR) (t : SM) (a : Int32) => ex clN P_203 none bytJ (mkCal rks ((202, G202) :: [])) [16] (kDisp [(16, kF 0 39 <| kI 1 fun w1 => kI 2 fun w2 => kI 3 fun w3 => kE fun t => j16 t w1 w2 w3)]) 400 0 [(0, .ref 39), (1, .int a)] [] t) = (fun (G202 : List Value → SM → OR) (j16 : SM → Int32 → Int32 → Int32 → OR) (t : SM) (a : Int32) =>
  hGetC t 11 39 19 52 <|
  hGetI t 11 39 21 fun rule1 =>
  hALd t 52 ((4 * rule1) + a) fun e2 =>
  j16 t a 0 e2) := by rfl
theorem fm_worthOf_ok (t : SM) (a : Int32) (h : fm_worthOf t a = some r) : Body l 2 q_203 P_203 r 0 [(0, .ref 39), (1, .int a)] [] t :=
  blk ft_203 (by omega) rfl rows_203 (KDok.cons (KOK.f <| KOK.i fun w1 => KOK.i fun w2 => KOK.i fun w3 => KOK.e (f := fun t => fm_worthOf_l16 (fun t => fm_worthOf_197 t) 1000000 t w1 w2 w3) fun t h => fm_worthOf_l16_ok (k197 := fun t => fm_worthOf_197 t) (fun t h => fm_worthOf_197_ok t h) 1000000 t w1 w2 w3 h) (KDok.nil)) ((congrFun (congrFun (congrFun (congrFun (fm_worthOf_eq) F_202) (fun t u1 u2 u3 => fm_worthOf_l16 (fun t => fm_worthOf_197 t) 1000000 t u1 u2 u3)) t) a).trans h)
theorem ok_203 (l : Launch) : Fok l 2 mtab 203 (F_203) := by
  intro as t r h
  unfold F_203 at h
  split at h
  · rename_i z0 a
    split at h
    · rename_i hz0
      obtain rfl := Nat.eq_of_beq_eq_true hz0
      exact ⟨q_203, rfl, mok_203, con_of (P := P_203) (by decide +kernel) rfl (Nat.le_of_ble_eq_true rfl) (fm_worthOf_ok t a h)⟩
    · cases h
  · cases h
end
section
set_option maxRecDepth 100000
variable {l : Launch} {r : RR}
def FT_204 : FT := (203, F_203) :: []
theorem ft_204 : FTok l 3 mtab FT_204 := FTok.cons (ok_203 l) (by omega) (FTok.nil)
theorem fm_asksOf_41_eq : (fun (G203 : List Value → SM → OR) (t : SM) (v1 : Int32) (v3 : Int32) (v4 : Int32) => ex clN P_204 none bytJ (mkCal rks ((203, G203) :: [])) [] (kDisp []) 400 41 [(4, .int v4), (3, .int v3), (1, .int v1), (0, .ref 39)] [] t) = (fun (G203 : List Value → SM → OR) (t : SM) (v1 : Int32) (v3 : Int32) (v4 : Int32) =>
  hGetC t 11 39 42 61 <|
  hASt t 61 4 v3 fun t1 =>
  hGetC t1 11 39 42 61 <|
  hASt t1 61 5 v4 fun t2 =>
  hRecv t2 11 39 <| bI (G203 [.ref 39, .int v1] t2) fun worthOf4 t3 =>
  if v1 = 0 then rI worthOf4 t3
  else if 0 ≤ worthOf4 then if worthOf4 ≤ 999 then rI worthOf4 t3
      else rI 999 t3
    else rI 0 t3) := by rfl
theorem fm_asksOf_41_ok (t : SM) (v1 : Int32) (v3 : Int32) (v4 : Int32) (h : fm_asksOf_41 t v1 v3 v4 = some r) : Body l 3 q_204 P_204 r 41 [(4, .int v4), (3, .int v3), (1, .int v1), (0, .ref 39)] [] t :=
  blk ft_204 (by omega) rfl rows_204 (KDok.nil) ((congrFun (congrFun (congrFun (congrFun (congrFun (fm_asksOf_41_eq) F_203) t) v1) v3) v4).trans h)
theorem fm_asksOf_3_eq : (fun (G203 : List Value → SM → OR) (j3 : SM → Int32 → Int32 → Int32 → Int32 → Int32 → OR) (j41 : SM → Int32 → Int32 → Int32 → OR) (t : SM) (v1 : Int32) (v2 : Int32) (v3 : Int32) (v4 : Int32) (v5 : Int32) => ex clN P_204 none bytJ (mkCal rks ((203, G203) :: [])) [3, 41] (kDisp [(3, kF 0 39 <| kI 1 fun w1 => kI 2 fun w2 => kI 3 fun w3 => kI 4 fun w4 => kI 5 fun w5 => kE fun t => j3 t w1 w2 w3 w4 w5), (41, kF 0 39 <| kI 1 fun w1 => kI 3 fun w3 => kI 4 fun w4 => kE fun t => j41 t w1 w3 w4)]) 400 3 [(5, .int v5), (4, .int v4), (3, .int v3), (2, .int v2), (1, .int v1), (0, .ref 39)] [] t) = (fun (G203 : List Value → SM → OR) (j3 : SM → Int32 → Int32 → Int32 → Int32 → Int32 → OR) (j41 : SM → Int32 → Int32 → Int32 → OR) (t : SM) (v1 : Int32) (v2 : Int32) (v3 : Int32) (v4 : Int32) (v5 : Int32) =>
  if 4 ≤ v5 then j41 t v1 v3 v4
  else hGetC t 11 39 42 61 <|
  hGetI t 11 39 0 fun choices1 =>
  if choices1 ≤ v5 then hASt t 61 v5 0 fun t2 =>
    j3 t2 v1 v2 v3 v4 (v5 + 1)
  else hASt t 61 v5 ((v2 >>> (v5 &&& 31)) &&& 1) fun t3 =>
  j3 t3 v1 v2 v3 v4 (v5 + 1)) := by rfl
theorem fm_asksOf_3_ok {k41 : SM → Int32 → Int32 → Int32 → OR} {r3 : SM → Int32 → Int32 → Int32 → Int32 → Int32 → OR} (h_k41 : ∀ (t : SM) (v1 : Int32) (v3 : Int32) (v4 : Int32), k41 t v1 v3 v4 = some r → Body l 3 q_204 P_204 r 41 [(4, .int v4), (3, .int v3), (1, .int v1), (0, .ref 39)] [] t) (h_r3 : ∀ (t : SM) (v1 : Int32) (v2 : Int32) (v3 : Int32) (v4 : Int32) (v5 : Int32), r3 t v1 v2 v3 v4 v5 = some r → Body l 3 q_204 P_204 r 3 [(5, .int v5), (4, .int v4), (3, .int v3), (2, .int v2), (1, .int v1), (0, .ref 39)] [] t) (t : SM) (v1 : Int32) (v2 : Int32) (v3 : Int32) (v4 : Int32) (v5 : Int32) (h : fm_asksOf_3 k41 r3 t v1 v2 v3 v4 v5 = some r) : Body l 3 q_204 P_204 r 3 [(5, .int v5), (4, .int v4), (3, .int v3), (2, .int v2), (1, .int v1), (0, .ref 39)] [] t :=
  blk ft_204 (by omega) rfl rows_204 (KDok.cons (KOK.f <| KOK.i fun w1 => KOK.i fun w2 => KOK.i fun w3 => KOK.i fun w4 => KOK.i fun w5 => KOK.e (f := fun t => r3 t w1 w2 w3 w4 w5) fun t h => h_r3 t w1 w2 w3 w4 w5 h) (KDok.cons (KOK.f <| KOK.i fun w1 => KOK.i fun w3 => KOK.i fun w4 => KOK.e (f := fun t => k41 t w1 w3 w4) fun t h => h_k41 t w1 w3 w4 h) (KDok.nil))) ((congrFun (congrFun (congrFun (congrFun (congrFun (congrFun (congrFun (congrFun (congrFun (fm_asksOf_3_eq) F_203) (fun t u1 u2 u3 u4 u5 => r3 t u1 u2 u3 u4 u5)) (fun t u1 u3 u4 => k41 t u1 u3 u4)) t) v1) v2) v3) v4) v5).trans h)
theorem fm_asksOf_l3_ok {k41 : SM → Int32 → Int32 → Int32 → OR} (h_k41 : ∀ (t : SM) (v1 : Int32) (v3 : Int32) (v4 : Int32), k41 t v1 v3 v4 = some r → Body l 3 q_204 P_204 r 41 [(4, .int v4), (3, .int v3), (1, .int v1), (0, .ref 39)] [] t) : ∀ (n : Nat) (t : SM) (v1 : Int32) (v2 : Int32) (v3 : Int32) (v4 : Int32) (v5 : Int32), fm_asksOf_l3 k41 n t v1 v2 v3 v4 v5 = some r → Body l 3 q_204 P_204 r 3 [(5, .int v5), (4, .int v4), (3, .int v3), (2, .int v2), (1, .int v1), (0, .ref 39)] [] t
  | 0, _, _, _, _, _, _, h => by cases h
  | n + 1, t, v1, v2, v3, v4, v5, h => fm_asksOf_3_ok h_k41 (fm_asksOf_l3_ok h_k41 n) t v1 v2 v3 v4 v5 h
theorem fm_asksOf_eq : (fun (G203 : List Value → SM → OR) (j3 : SM → Int32 → Int32 → Int32 → Int32 → Int32 → OR) (t : SM) (a : Int32) (b : Int32) (c : Int32) (d : Int32) => ex clN P_204 none bytJ (mkCal rks ((203, G203) :: [])) [3] (kDisp [(3, kF 0 39 <| kI 1 fun w1 => kI 2 fun w2 => kI 3 fun w3 => kI 4 fun w4 => kI 5 fun w5 => kE fun t => j3 t w1 w2 w3 w4 w5)]) 400 0 [(0, .ref 39), (1, .int a), (2, .int b), (3, .int c), (4, .int d)] [] t) = (fun (G203 : List Value → SM → OR) (j3 : SM → Int32 → Int32 → Int32 → Int32 → Int32 → OR) (t : SM) (a : Int32) (b : Int32) (c : Int32) (d : Int32) =>
  j3 t a b c d 0) := by rfl
theorem fm_asksOf_ok (t : SM) (a : Int32) (b : Int32) (c : Int32) (d : Int32) (h : fm_asksOf t a b c d = some r) : Body l 3 q_204 P_204 r 0 [(0, .ref 39), (1, .int a), (2, .int b), (3, .int c), (4, .int d)] [] t :=
  blk ft_204 (by omega) rfl rows_204 (KDok.cons (KOK.f <| KOK.i fun w1 => KOK.i fun w2 => KOK.i fun w3 => KOK.i fun w4 => KOK.i fun w5 => KOK.e (f := fun t => fm_asksOf_l3 (fun t u1 u3 u4 => fm_asksOf_41 t u1 u3 u4) 1000000 t w1 w2 w3 w4 w5) fun t h => fm_asksOf_l3_ok (k41 := fun t u1 u3 u4 => fm_asksOf_41 t u1 u3 u4) (fun t u1 u3 u4 h => fm_asksOf_41_ok t u1 u3 u4 h) 1000000 t w1 w2 w3 w4 w5 h) (KDok.nil)) ((congrFun (congrFun (congrFun (congrFun (congrFun (congrFun (congrFun (fm_asksOf_eq) F_203) (fun t u1 u2 u3 u4 u5 => fm_asksOf_l3 (fun t u1 u3 u4 => fm_asksOf_41 t u1 u3 u4) 1000000 t u1 u2 u3 u4 u5)) t) a) b) c) d).trans h)
theorem ok_204 (l : Launch) : Fok l 3 mtab 204 (F_204) := by
  intro as t r h
  unfold F_204 at h
  split at h
  · rename_i z0 a b c d
    split at h
    · rename_i hz0
      obtain rfl := Nat.eq_of_beq_eq_true hz0
      exact ⟨q_204, rfl, mok_204, con_of (P := P_204) (by decide +kernel) rfl (Nat.le_of_ble_eq_true rfl) (fm_asksOf_ok t a b c d h)⟩
    · cases h
  · cases h
end
section
set_option maxRecDepth 100000
variable {l : Launch} {r : RR}
def FT_205 : FT := (182, F_182) :: []
theorem ft_205 : FTok l 2 mtab FT_205 := FTok.cons (ok_182 l) (by omega) (FTok.nil)
theorem fm_force_eq : (fun (G182 : List Value → SM → OR) (t : SM) (a : Int32) => ex clN P_205 none bytJ (mkCal rks ((182, G182) :: [])) [] (kDisp []) 400 0 [(0, .ref 39), (1, .int a)] [] t) = (fun (G182 : List Value → SM → OR) (t : SM) (a : Int32) =>
  hGetI t 11 39 20 fun texts1 =>
  bI (G182 [.int a, .int 0, .int (texts1 - 1)] t) fun in3 t2 =>
  if in3 = 0 then rI (-2) t2
  else hGetI t2 11 39 21 fun rule4 =>
    hPutI t2 11 39 21 a fun t5 =>
    rI rule4 t5) := by rfl
theorem fm_force_ok (t : SM) (a : Int32) (h : fm_force t a = some r) : Body l 2 q_205 P_205 r 0 [(0, .ref 39), (1, .int a)] [] t :=
  blk ft_205 (by omega) rfl rows_205 (KDok.nil) ((congrFun (congrFun (congrFun (fm_force_eq) F_182) t) a).trans h)
theorem ok_205 (l : Launch) : Fok l 2 mtab 205 (F_205) := by
  intro as t r h
  unfold F_205 at h
  split at h
  · rename_i z0 a
    split at h
    · rename_i hz0
      obtain rfl := Nat.eq_of_beq_eq_true hz0
      exact ⟨q_205, rfl, mok_205, con_of (P := P_205) (by decide +kernel) rfl (Nat.le_of_ble_eq_true rfl) (fm_force_ok t a h)⟩
    · cases h
  · cases h
end
section
set_option maxRecDepth 100000
variable {l : Launch} {r : RR}
def FT_206 : FT := (204, F_204) :: []
theorem ft_206 : FTok l 4 mtab FT_206 := FTok.cons (ok_204 l) (by omega) (FTok.nil)
theorem fm_mayBe_eq : (fun (G204 : List Value → SM → OR) (t : SM) (a : Int32) => ex clN P_206 none bytJ (mkCal rks ((204, G204) :: [])) [] (kDisp []) 400 0 [(0, .ref 39), (1, .int a)] [] t) = (fun (G204 : List Value → SM → OR) (t : SM) (a : Int32) =>
  hRecv t 11 39 <| bI (G204 [.ref 39, .int 0, .int a, .int 0, .int 0] t) fun asksOf2 t1 =>
  if asksOf2 = 0 then rI 0 t1
  else rI 1 t1) := by rfl
theorem fm_mayBe_ok (t : SM) (a : Int32) (h : fm_mayBe t a = some r) : Body l 4 q_206 P_206 r 0 [(0, .ref 39), (1, .int a)] [] t :=
  blk ft_206 (by omega) rfl rows_206 (KDok.nil) ((congrFun (congrFun (congrFun (fm_mayBe_eq) F_204) t) a).trans h)
theorem ok_206 (l : Launch) : Fok l 4 mtab 206 (F_206) := by
  intro as t r h
  unfold F_206 at h
  split at h
  · rename_i z0 a
    split at h
    · rename_i hz0
      obtain rfl := Nat.eq_of_beq_eq_true hz0
      exact ⟨q_206, rfl, mok_206, con_of (P := P_206) (by decide +kernel) rfl (Nat.le_of_ble_eq_true rfl) (fm_mayBe_ok t a h)⟩
    · cases h
  · cases h
end
section
set_option maxRecDepth 100000
variable {l : Launch} {r : RR}
def FT_207 : FT := (183, F_183) :: (206, F_206) :: []
theorem ft_207 : FTok l 5 mtab FT_207 := FTok.cons (ok_183 l) (by omega) (FTok.cons (ok_206 l) (by omega) (FTok.nil))
theorem fm_may_eq : (fun (G183 : List Value → SM → OR) (G206 : List Value → SM → OR) (t : SM) (a : Int32) => ex clN P_207 none bytJ (mkCal rks ((183, G183) :: (206, G206) :: [])) [] (kDisp []) 400 0 [(0, .ref 39), (1, .int a)] [] t) = (fun (G183 : List Value → SM → OR) (G206 : List Value → SM → OR) (t : SM) (a : Int32) =>
  hRecv t 11 39 <| bI (G183 [.ref 39, .int a] t) fun isTown2 t1 =>
  if isTown2 = 0 then rI (-2) t1
  else hRecv t1 11 39 <| bI (G206 [.ref 39, .int a] t1) fun mayBe4 t3 =>
  if mayBe4 = 0 then rI 0 t3
  else rI 1 t3) := by rfl
theorem fm_may_ok (t : SM) (a : Int32) (h : fm_may t a = some r) : Body l 5 q_207 P_207 r 0 [(0, .ref 39), (1, .int a)] [] t :=
  blk ft_207 (by omega) rfl rows_207 (KDok.nil) ((congrFun (congrFun (congrFun (congrFun (fm_may_eq) F_183) F_206) t) a).trans h)
theorem ok_207 (l : Launch) : Fok l 5 mtab 207 (F_207) := by
  intro as t r h
  unfold F_207 at h
  split at h
  · rename_i z0 a
    split at h
    · rename_i hz0
      obtain rfl := Nat.eq_of_beq_eq_true hz0
      exact ⟨q_207, rfl, mok_207, con_of (P := P_207) (by decide +kernel) rfl (Nat.le_of_ble_eq_true rfl) (fm_may_ok t a h)⟩
    · cases h
  · cases h
end
section
set_option maxRecDepth 100000
variable {l : Launch} {r : RR}
def FT_208 : FT := (182, F_182) :: (183, F_183) :: (184, F_184) :: []
theorem ft_208 : FTok l 3 mtab FT_208 := FTok.cons (ok_182 l) (by omega) (FTok.cons (ok_183 l) (by omega) (FTok.cons (ok_184 l) (by omega) (FTok.nil)))
theorem fm_map_53_eq : (fun (G182 : List Value → SM → OR) (G183 : List Value → SM → OR) (G184 : List Value → SM → OR) (t : SM) (v1 : Int32) (v2 : Int32) (v3 : Int32) (v4 : Int32) => ex clN P_208 none bytJ (mkCal rks ((182, G182) :: (183, G183) :: (184, G184) :: [])) [] (kDisp []) 400 53 [(4, .int v4), (3, .int v3), (2, .int v2), (1, .int v1), (0, .ref 39)] [] t) = (fun (G182 : List Value → SM → OR) (G183 : List Value → SM → OR) (G184 : List Value → SM → OR) (t : SM) (v1 : Int32) (v2 : Int32) (v3 : Int32) (v4 : Int32) =>
  hGetI t 11 39 3 fun maps1 =>
  if maps1 = 8 then rI (-4) t
  else hGetC t 11 39 4 40 <|
    hGetI t 11 39 3 fun maps2 =>
    hASt t 40 maps2 v1 fun t3 =>
    hGetC t3 11 39 5 41 <|
    hGetI t3 11 39 3 fun maps4 =>
    hASt t3 41 maps4 v2 fun t5 =>
    hGetC t5 11 39 6 42 <|
    hGetI t5 11 39 3 fun maps6 =>
    hASt t5 42 maps6 v3 fun t7 =>
    hGetC t7 11 39 7 43 <|
    hGetI t7 11 39 3 fun maps8 =>
    hASt t7 43 maps8 v4 fun t9 =>
    hGetC t9 11 39 8 44 <|
    hGetI t9 11 39 3 fun maps10 =>
    hASt t9 44 maps10 1 fun t11 =>
    hGetI t11 11 39 3 fun maps12 =>
    hPutI t11 11 39 3 (maps12 + 1) fun t13 =>
    hGetI t13 11 39 3 fun maps14 =>
    rI (maps14 - 1) t13) := by rfl
theorem fm_map_53_ok (t : SM) (v1 : Int32) (v2 : Int32) (v3 : Int32) (v4 : Int32) (h : fm_map_53 t v1 v2 v3 v4 = some r) : Body l 3 q_208 P_208 r 53 [(4, .int v4), (3, .int v3), (2, .int v2), (1, .int v1), (0, .ref 39)] [] t :=
  blk ft_208 (by omega) rfl rows_208 (KDok.nil) ((congrFun (congrFun (congrFun (congrFun (congrFun (congrFun (congrFun (congrFun (fm_map_53_eq) F_182) F_183) F_184) t) v1) v2) v3) v4).trans h)
theorem fm_map_eq : (fun (G182 : List Value → SM → OR) (G183 : List Value → SM → OR) (G184 : List Value → SM → OR) (j53 : SM → Int32 → Int32 → Int32 → Int32 → OR) (t : SM) (a : Int32) (b : Int32) (c : Int32) (d : Int32) => ex clN P_208 none bytJ (mkCal rks ((182, G182) :: (183, G183) :: (184, G184) :: [])) [53] (kDisp [(53, kF 0 39 <| kI 1 fun w1 => kI 2 fun w2 => kI 3 fun w3 => kI 4 fun w4 => kE fun t => j53 t w1 w2 w3 w4)]) 400 0 [(0, .ref 39), (1, .int a), (2, .int b), (3, .int c), (4, .int d)] [] t) = (fun (G182 : List Value → SM → OR) (G183 : List Value → SM → OR) (G184 : List Value → SM → OR) (j53 : SM → Int32 → Int32 → Int32 → Int32 → OR) (t : SM) (a : Int32) (b : Int32) (c : Int32) (d : Int32) =>
  bI (G182 [.int a, .int 0, .int 5] t) fun in2 t1 =>
  if in2 = 0 then rI (-2) t1
  else hRecv t1 11 39 <| bI (G183 [.ref 39, .int b] t1) fun isTown4 t3 =>
  if isTown4 = 0 then rI (-2) t3
  else hRecv t3 11 39 <| bI (G183 [.ref 39, .int c] t3) fun isTown6 t5 =>
  if isTown6 = 0 then rI (-2) t5
  else bI (G182 [.int d, .int 0, .int 9] t5) fun in8 t7 =>
  if in8 = 0 then rI (-2) t7
  else if a = 1 then hRecv t7 11 39 <| bI (G184 [.ref 39, .int d] t7) fun isMap10 t9 =>
  if isMap10 = 0 then rI (-2) t9
  else j53 t9 a b c d
  else j53 t7 a b c d) := by rfl
theorem fm_map_ok (t : SM) (a : Int32) (b : Int32) (c : Int32) (d : Int32) (h : fm_map t a b c d = some r) : Body l 3 q_208 P_208 r 0 [(0, .ref 39), (1, .int a), (2, .int b), (3, .int c), (4, .int d)] [] t :=
  blk ft_208 (by omega) rfl rows_208 (KDok.cons (KOK.f <| KOK.i fun w1 => KOK.i fun w2 => KOK.i fun w3 => KOK.i fun w4 => KOK.e (f := fun t => fm_map_53 t w1 w2 w3 w4) fun t h => fm_map_53_ok t w1 w2 w3 w4 h) (KDok.nil)) ((congrFun (congrFun (congrFun (congrFun (congrFun (congrFun (congrFun (congrFun (congrFun (fm_map_eq) F_182) F_183) F_184) (fun t u1 u2 u3 u4 => fm_map_53 t u1 u2 u3 u4)) t) a) b) c) d).trans h)
theorem ok_208 (l : Launch) : Fok l 3 mtab 208 (F_208) := by
  intro as t r h
  unfold F_208 at h
  split at h
  · rename_i z0 a b c d
    split at h
    · rename_i hz0
      obtain rfl := Nat.eq_of_beq_eq_true hz0
      exact ⟨q_208, rfl, mok_208, con_of (P := P_208) (by decide +kernel) rfl (Nat.le_of_ble_eq_true rfl) (fm_map_ok t a b c d h)⟩
    · cases h
  · cases h
end
section
set_option maxRecDepth 100000
variable {l : Launch} {r : RR}
def FT_209 : FT := []
theorem ft_209 : FTok l 1 mtab FT_209 := FTok.nil
theorem fm_drop_eq : (fun (t : SM) => ex clN P_209 none bytJ (mkCal rks ([])) [] (kDisp []) 400 0 [(0, .ref 39)] [] t) = (fun (t : SM) =>
  hGetI t 11 39 3 fun maps1 =>
  if maps1 = 0 then rI (-3) t
  else hGetI t 11 39 3 fun maps2 =>
    hPutI t 11 39 3 (maps2 - 1) fun t3 =>
    hGetI t3 11 39 22 fun hasImage4 =>
    if hasImage4 = 0 then hPutI t3 11 39 22 0 fun t5 =>
      hGetI t5 11 39 3 fun maps6 =>
      rI maps6 t5
    else hGetI t3 11 39 25 fun imageMaps7 =>
    hGetI t3 11 39 3 fun maps8 =>
    if maps8 < imageMaps7 then hPutI t3 11 39 22 0 fun t9 =>
      hGetI t9 11 39 3 fun maps10 =>
      rI maps10 t9
    else hPutI t3 11 39 22 1 fun t11 =>
    hGetI t11 11 39 3 fun maps12 =>
    rI maps12 t11) := by rfl
theorem fm_drop_ok (t : SM) (h : fm_drop t = some r) : Body l 1 q_209 P_209 r 0 [(0, .ref 39)] [] t :=
  blk ft_209 (by omega) rfl rows_209 (KDok.nil) ((congrFun (fm_drop_eq) t).trans h)
theorem ok_209 (l : Launch) : Fok l 1 mtab 209 (F_209) := by
  intro as t r h
  unfold F_209 at h
  split at h
  · rename_i z0
    split at h
    · rename_i hz0
      obtain rfl := Nat.eq_of_beq_eq_true hz0
      exact ⟨q_209, rfl, mok_209, con_of (P := P_209) (by decide +kernel) rfl (Nat.le_of_ble_eq_true rfl) (fm_drop_ok t h)⟩
    · cases h
  · cases h
end
section
set_option maxRecDepth 100000
variable {l : Launch} {r : RR}
def FT_210 : FT := (184, F_184) :: (182, F_182) :: []
theorem ft_210 : FTok l 3 mtab FT_210 := FTok.cons (ok_184 l) (by omega) (FTok.cons (ok_182 l) (by omega) (FTok.nil))
theorem fm_price_eq : (fun (G184 : List Value → SM → OR) (G182 : List Value → SM → OR) (t : SM) (a : Int32) (b : Int32) => ex clN P_210 none bytJ (mkCal rks ((184, G184) :: (182, G182) :: [])) [] (kDisp []) 400 0 [(0, .ref 39), (1, .int a), (2, .int b)] [] t) = (fun (G184 : List Value → SM → OR) (G182 : List Value → SM → OR) (t : SM) (a : Int32) (b : Int32) =>
  hRecv t 11 39 <| bI (G184 [.ref 39, .int a] t) fun isMap2 t1 =>
  if isMap2 = 0 then rI (-1) t1
  else bI (G182 [.int b, .int 0, .int 99] t1) fun in4 t3 =>
    if in4 = 0 then rI (-2) t3
    else hGetC t3 11 39 8 44 <|
      hALd t3 44 a fun e5 =>
      hGetC t3 11 39 8 44 <|
      hASt t3 44 a b fun t6 =>
      rI e5 t6) := by rfl
theorem fm_price_ok (t : SM) (a : Int32) (b : Int32) (h : fm_price t a b = some r) : Body l 3 q_210 P_210 r 0 [(0, .ref 39), (1, .int a), (2, .int b)] [] t :=
  blk ft_210 (by omega) rfl rows_210 (KDok.nil) ((congrFun (congrFun (congrFun (congrFun (congrFun (fm_price_eq) F_184) F_182) t) a) b).trans h)
theorem ok_210 (l : Launch) : Fok l 3 mtab 210 (F_210) := by
  intro as t r h
  unfold F_210 at h
  split at h
  · rename_i z0 a b
    split at h
    · rename_i hz0
      obtain rfl := Nat.eq_of_beq_eq_true hz0
      exact ⟨q_210, rfl, mok_210, con_of (P := P_210) (by decide +kernel) rfl (Nat.le_of_ble_eq_true rfl) (fm_price_ok t a b h)⟩
    · cases h
  · cases h
end
section
set_option maxRecDepth 100000
variable {l : Launch} {r : RR}
def FT_211 : FT := (184, F_184) :: []
theorem ft_211 : FTok l 3 mtab FT_211 := FTok.cons (ok_184 l) (by omega) (FTok.nil)
theorem fm_told_eq : (fun (G184 : List Value → SM → OR) (t : SM) (a : Int32) (b : Int32) => ex clN P_211 none bytJ (mkCal rks ((184, G184) :: [])) [] (kDisp []) 400 0 [(0, .ref 39), (1, .int a), (2, .int b)] [] t) = (fun (G184 : List Value → SM → OR) (t : SM) (a : Int32) (b : Int32) =>
  hRecv t 11 39 <| bI (G184 [.ref 39, .int a] t) fun isMap2 t1 =>
  if isMap2 = 0 then rI (-5) t1
  else if b = 0 then hGetC t1 11 39 4 40 <|
      hALd t1 40 a fun e3 =>
      rI e3 t1
    else if b = 1 then hGetC t1 11 39 5 41 <|
      hALd t1 41 a fun e4 =>
      rI e4 t1
    else if b = 2 then hGetC t1 11 39 6 42 <|
      hALd t1 42 a fun e5 =>
      rI e5 t1
    else if b = 3 then hGetC t1 11 39 7 43 <|
      hALd t1 43 a fun e6 =>
      rI e6 t1
    else if b = 4 then hGetC t1 11 39 8 44 <|
      hALd t1 44 a fun e7 =>
      rI e7 t1
    else rI (-7) t1) := by rfl
theorem fm_told_ok (t : SM) (a : Int32) (b : Int32) (h : fm_told t a b = some r) : Body l 3 q_211 P_211 r 0 [(0, .ref 39), (1, .int a), (2, .int b)] [] t :=
  blk ft_211 (by omega) rfl rows_211 (KDok.nil) ((congrFun (congrFun (congrFun (congrFun (fm_told_eq) F_184) t) a) b).trans h)
theorem ok_211 (l : Launch) : Fok l 3 mtab 211 (F_211) := by
  intro as t r h
  unfold F_211 at h
  split at h
  · rename_i z0 a b
    split at h
    · rename_i hz0
      obtain rfl := Nat.eq_of_beq_eq_true hz0
      exact ⟨q_211, rfl, mok_211, con_of (P := P_211) (by decide +kernel) rfl (Nat.le_of_ble_eq_true rfl) (fm_told_ok t a b h)⟩
    · cases h
  · cases h
end
section
set_option maxRecDepth 100000
variable {l : Launch} {r : RR}
def FT_212 : FT := []
theorem ft_212 : FTok l 1 mtab FT_212 := FTok.nil
theorem fm_slipsOf_eq : (fun (t : SM) (a : Int32) (b : Int32) => ex clN P_212 none bytJ (mkCal rks ([])) [] (kDisp []) 400 0 [(0, .ref 39), (1, .int a), (2, .int b)] [] t) = (fun (t : SM) (a : Int32) (b : Int32) =>
  hGetC t 11 39 5 41 <|
  hALd t 41 a fun e1 =>
  hGetC t 11 39 4 40 <|
  hALd t 40 a fun e2 =>
  if e2 = 3 then hGetC t 11 39 6 42 <|
  hALd t 42 a fun e3 =>
  rI ((e1 ^^^ b) &&& e3) t
  else rI (e1 ^^^ b) t) := by rfl
theorem fm_slipsOf_ok (t : SM) (a : Int32) (b : Int32) (h : fm_slipsOf t a b = some r) : Body l 1 q_212 P_212 r 0 [(0, .ref 39), (1, .int a), (2, .int b)] [] t :=
  blk ft_212 (by omega) rfl rows_212 (KDok.nil) ((congrFun (congrFun (congrFun (fm_slipsOf_eq) t) a) b).trans h)
theorem ok_212 (l : Launch) : Fok l 1 mtab 212 (F_212) := by
  intro as t r h
  unfold F_212 at h
  split at h
  · rename_i z0 a b
    split at h
    · rename_i hz0
      obtain rfl := Nat.eq_of_beq_eq_true hz0
      exact ⟨q_212, rfl, mok_212, con_of (P := P_212) (by decide +kernel) rfl (Nat.le_of_ble_eq_true rfl) (fm_slipsOf_ok t a b h)⟩
    · cases h
  · cases h
end
section
set_option maxRecDepth 100000
variable {l : Launch} {r : RR}
def FT_213 : FT := (187, F_187) :: (212, F_212) :: []
theorem ft_213 : FTok l 2 mtab FT_213 := FTok.cons (ok_187 l) (by omega) (FTok.cons (ok_212 l) (by omega) (FTok.nil))
theorem fm_agrees_49_eq : (fun (G187 : List Value → SM → OR) (G212 : List Value → SM → OR) (t : SM) (v2 : Int32) (v3 : Int32) => ex clN P_213 none bytJ (mkCal rks ((187, G187) :: (212, G212) :: [])) [] (kDisp []) 400 49 [(3, .int v3), (2, .int v2), (0, .ref 39)] [] t) = (fun (G187 : List Value → SM → OR) (G212 : List Value → SM → OR) (t : SM) (v2 : Int32) (v3 : Int32) =>
  hRecv t 11 39 <| bI (G212 [.ref 39, .int v3, .int v2] t) fun slipsOf2 t1 =>
  bI (G187 [.int slipsOf2] t1) fun ones4 t3 =>
  hGetC t3 11 39 4 40 <|
  hALd t3 40 v3 fun e5 =>
  if e5 = 2 then if 1 < ones4 then rI 0 t3
    else rI 1 t3
  else if e5 = 3 then if 1 < ones4 then rI 0 t3
    else rI 1 t3
  else if e5 = 4 then hGetC t3 11 39 7 43 <|
    hALd t3 43 v3 fun e6 =>
    if (e6 + 1) < ones4 then rI 0 t3
    else rI 1 t3
  else if e5 = 5 then if ones4 = 2 then if (slipsOf2 &&& (slipsOf2 <<< ((1 : Int32) &&& 31))) = 0 then rI 0 t3
    else bI (G187 [.int (slipsOf2 &&& v2)] t3) fun ones8 t7 =>
    if ones8 = 1 then rI 1 t7
    else rI 0 t7
    else rI 0 t3
  else if ones4 = 1 then rI 1 t3
  else rI 0 t3) := by rfl
theorem fm_agrees_49_ok (t : SM) (v2 : Int32) (v3 : Int32) (h : fm_agrees_49 t v2 v3 = some r) : Body l 2 q_213 P_213 r 49 [(3, .int v3), (2, .int v2), (0, .ref 39)] [] t :=
  blk ft_213 (by omega) rfl rows_213 (KDok.nil) ((congrFun (congrFun (congrFun (congrFun (congrFun (fm_agrees_49_eq) F_187) F_212) t) v2) v3).trans h)
theorem fm_agrees_2_eq : (fun (G187 : List Value → SM → OR) (G212 : List Value → SM → OR) (j2 : SM → Int32 → Int32 → OR) (j49 : SM → Int32 → Int32 → OR) (t : SM) (v2 : Int32) (v3 : Int32) => ex clN P_213 none bytJ (mkCal rks ((187, G187) :: (212, G212) :: [])) [2, 49] (kDisp [(2, kF 0 39 <| kI 2 fun w2 => kI 3 fun w3 => kE fun t => j2 t w2 w3), (49, kF 0 39 <| kI 2 fun w2 => kI 3 fun w3 => kE fun t => j49 t w2 w3)]) 400 2 [(3, .int v3), (2, .int v2), (0, .ref 39)] [] t) = (fun (G187 : List Value → SM → OR) (G212 : List Value → SM → OR) (j2 : SM → Int32 → Int32 → OR) (j49 : SM → Int32 → Int32 → OR) (t : SM) (v2 : Int32) (v3 : Int32) =>
  hGetC t 11 39 4 40 <|
  hALd t 40 v3 fun e1 =>
  if e1 = 1 then hGetC t 11 39 5 41 <|
  hALd t 41 v3 fun e2 =>
  hGetC t 11 39 5 41 <|
  hGetC t 11 39 7 43 <|
  hALd t 43 v3 fun e3 =>
  hALd t 41 e3 fun e4 =>
  bI (G187 [.int (e2 ^^^ e4)] t) fun ones6 t5 =>
  if ones6 = 1 then hGetC t5 11 39 7 43 <|
    hALd t5 43 v3 fun e7 =>
    j2 t5 v2 e7
  else rI 0 t5
  else j49 t v2 v3) := by rfl
theorem fm_agrees_2_ok {k49 : SM → Int32 → Int32 → OR} {r2 : SM → Int32 → Int32 → OR} (h_k49 : ∀ (t : SM) (v2 : Int32) (v3 : Int32), k49 t v2 v3 = some r → Body l 2 q_213 P_213 r 49 [(3, .int v3), (2, .int v2), (0, .ref 39)] [] t) (h_r2 : ∀ (t : SM) (v2 : Int32) (v3 : Int32), r2 t v2 v3 = some r → Body l 2 q_213 P_213 r 2 [(3, .int v3), (2, .int v2), (0, .ref 39)] [] t) (t : SM) (v2 : Int32) (v3 : Int32) (h : fm_agrees_2 k49 r2 t v2 v3 = some r) : Body l 2 q_213 P_213 r 2 [(3, .int v3), (2, .int v2), (0, .ref 39)] [] t :=
  blk ft_213 (by omega) rfl rows_213 (KDok.cons (KOK.f <| KOK.i fun w2 => KOK.i fun w3 => KOK.e (f := fun t => r2 t w2 w3) fun t h => h_r2 t w2 w3 h) (KDok.cons (KOK.f <| KOK.i fun w2 => KOK.i fun w3 => KOK.e (f := fun t => k49 t w2 w3) fun t h => h_k49 t w2 w3 h) (KDok.nil))) ((congrFun (congrFun (congrFun (congrFun (congrFun (congrFun (congrFun (fm_agrees_2_eq) F_187) F_212) (fun t u2 u3 => r2 t u2 u3)) (fun t u2 u3 => k49 t u2 u3)) t) v2) v3).trans h)
theorem fm_agrees_l2_ok {k49 : SM → Int32 → Int32 → OR} (h_k49 : ∀ (t : SM) (v2 : Int32) (v3 : Int32), k49 t v2 v3 = some r → Body l 2 q_213 P_213 r 49 [(3, .int v3), (2, .int v2), (0, .ref 39)] [] t) : ∀ (n : Nat) (t : SM) (v2 : Int32) (v3 : Int32), fm_agrees_l2 k49 n t v2 v3 = some r → Body l 2 q_213 P_213 r 2 [(3, .int v3), (2, .int v2), (0, .ref 39)] [] t
  | 0, _, _, _, h => by cases h
  | n + 1, t, v2, v3, h => fm_agrees_2_ok h_k49 (fm_agrees_l2_ok h_k49 n) t v2 v3 h
theorem fm_agrees_eq : (fun (G187 : List Value → SM → OR) (G212 : List Value → SM → OR) (j2 : SM → Int32 → Int32 → OR) (t : SM) (a : Int32) (b : Int32) => ex clN P_213 none bytJ (mkCal rks ((187, G187) :: (212, G212) :: [])) [2] (kDisp [(2, kF 0 39 <| kI 2 fun w2 => kI 3 fun w3 => kE fun t => j2 t w2 w3)]) 400 0 [(0, .ref 39), (1, .int a), (2, .int b)] [] t) = (fun (G187 : List Value → SM → OR) (G212 : List Value → SM → OR) (j2 : SM → Int32 → Int32 → OR) (t : SM) (a : Int32) (b : Int32) =>
  j2 t b a) := by rfl
theorem fm_agrees_ok (t : SM) (a : Int32) (b : Int32) (h : fm_agrees t a b = some r) : Body l 2 q_213 P_213 r 0 [(0, .ref 39), (1, .int a), (2, .int b)] [] t :=
  blk ft_213 (by omega) rfl rows_213 (KDok.cons (KOK.f <| KOK.i fun w2 => KOK.i fun w3 => KOK.e (f := fun t => fm_agrees_l2 (fun t u2 u3 => fm_agrees_49 t u2 u3) 1000000 t w2 w3) fun t h => fm_agrees_l2_ok (k49 := fun t u2 u3 => fm_agrees_49 t u2 u3) (fun t u2 u3 h => fm_agrees_49_ok t u2 u3 h) 1000000 t w2 w3 h) (KDok.nil)) ((congrFun (congrFun (congrFun (congrFun (congrFun (congrFun (fm_agrees_eq) F_187) F_212) (fun t u2 u3 => fm_agrees_l2 (fun t u2 u3 => fm_agrees_49 t u2 u3) 1000000 t u2 u3)) t) a) b).trans h)
theorem ok_213 (l : Launch) : Fok l 2 mtab 213 (F_213) := by
  intro as t r h
  unfold F_213 at h
  split at h
  · rename_i z0 a b
    split at h
    · rename_i hz0
      obtain rfl := Nat.eq_of_beq_eq_true hz0
      exact ⟨q_213, rfl, mok_213, con_of (P := P_213) (by decide +kernel) rfl (Nat.le_of_ble_eq_true rfl) (fm_agrees_ok t a b h)⟩
    · cases h
  · cases h
end
section
set_option maxRecDepth 100000
variable {l : Launch} {r : RR}
def FT_214 : FT := (184, F_184) :: (183, F_183) :: (182, F_182) :: (212, F_212) :: (213, F_213) :: []
theorem ft_214 : FTok l 3 mtab FT_214 := FTok.cons (ok_184 l) (by omega) (FTok.cons (ok_183 l) (by omega) (FTok.cons (ok_182 l) (by omega) (FTok.cons (ok_212 l) (by omega) (FTok.cons (ok_213 l) (by omega) (FTok.nil)))))
theorem fm_slips_eq : (fun (G184 : List Value → SM → OR) (G183 : List Value → SM → OR) (G182 : List Value → SM → OR) (G212 : List Value → SM → OR) (G213 : List Value → SM → OR) (t : SM) (a : Int32) (b : Int32) (c : Int32) => ex clN P_214 none bytJ (mkCal rks ((184, G184) :: (183, G183) :: (182, G182) :: (212, G212) :: (213, G213) :: [])) [] (kDisp []) 400 0 [(0, .ref 39), (1, .int a), (2, .int b), (3, .int c)] [] t) = (fun (G184 : List Value → SM → OR) (G183 : List Value → SM → OR) (G182 : List Value → SM → OR) (G212 : List Value → SM → OR) (G213 : List Value → SM → OR) (t : SM) (a : Int32) (b : Int32) (c : Int32) =>
  hRecv t 11 39 <| bI (G184 [.ref 39, .int a] t) fun isMap2 t1 =>
  if isMap2 = 0 then rI (-5) t1
  else hRecv t1 11 39 <| bI (G183 [.ref 39, .int b] t1) fun isTown4 t3 =>
    if isTown4 = 0 then rI (-7) t3
    else bI (G182 [.int c, .int 0, .int 1] t3) fun in6 t5 =>
    if in6 = 0 then rI (-7) t5
    else if c = 0 then hRecv t5 11 39 <| bI (G212 [.ref 39, .int a, .int b] t5) fun slipsOf10 t9 =>
      rI slipsOf10 t9
      else hRecv t5 11 39 <| bI (G213 [.ref 39, .int a, .int b] t5) fun agrees8 t7 =>
        if agrees8 = 0 then rI 0 t7
        else rI 1 t7) := by rfl
theorem fm_slips_ok (t : SM) (a : Int32) (b : Int32) (c : Int32) (h : fm_slips t a b c = some r) : Body l 3 q_214 P_214 r 0 [(0, .ref 39), (1, .int a), (2, .int b), (3, .int c)] [] t :=
  blk ft_214 (by omega) rfl rows_214 (KDok.nil) ((congrFun (congrFun (congrFun (congrFun (congrFun (congrFun (congrFun (congrFun (congrFun (fm_slips_eq) F_184) F_183) F_182) F_212) F_213) t) a) b) c).trans h)
theorem ok_214 (l : Launch) : Fok l 3 mtab 214 (F_214) := by
  intro as t r h
  unfold F_214 at h
  split at h
  · rename_i z0 a b c
    split at h
    · rename_i hz0
      obtain rfl := Nat.eq_of_beq_eq_true hz0
      exact ⟨q_214, rfl, mok_214, con_of (P := P_214) (by decide +kernel) rfl (Nat.le_of_ble_eq_true rfl) (fm_slips_ok t a b c h)⟩
    · cases h
  · cases h
end
section
set_option maxRecDepth 100000
variable {l : Launch} {r : RR}
def FT_215 : FT := (185, F_185) :: (182, F_182) :: []
theorem ft_215 : FTok l 3 mtab FT_215 := FTok.cons (ok_185 l) (by omega) (FTok.cons (ok_182 l) (by omega) (FTok.nil))
theorem fm_look_eq : (fun (G185 : List Value → SM → OR) (G182 : List Value → SM → OR) (t : SM) (a : Int32) (b : Int32) => ex clN P_215 none bytJ (mkCal rks ((185, G185) :: (182, G182) :: [])) [] (kDisp []) 400 0 [(0, .ref 39), (1, .int a), (2, .int b)] [] t) = (fun (G185 : List Value → SM → OR) (G182 : List Value → SM → OR) (t : SM) (a : Int32) (b : Int32) =>
  hRecv t 11 39 <| bI (G185 [.ref 39, .int a] t) fun isChoice2 t1 =>
  if isChoice2 = 0 then rI (-5) t1
  else bI (G182 [.int b, .int (-1), .int 1] t1) fun in4 t3 =>
    if in4 = 0 then rI (-7) t3
    else hGetI t3 11 39 1 fun seen5 =>
      if ((seen5 >>> (a &&& 31)) &&& 1) = 0 then if 0 ≤ b then hGetI t3 11 39 1 fun seen19 =>
        hPutI t3 11 39 1 (seen19 ||| ((1 : Int32) <<< (a &&& 31))) fun t20 =>
        if b = 1 then hGetI t20 11 39 2 fun seenSo23 =>
        hPutI t20 11 39 2 (seenSo23 ||| ((1 : Int32) <<< (a &&& 31))) fun t24 =>
        rI (-1) t24
        else hGetI t20 11 39 2 fun seenSo21 =>
          hPutI t20 11 39 2 (seenSo21 &&& (((1 : Int32) <<< (a &&& 31)) ^^^ (-1))) fun t22 =>
          rI (-1) t22
      else hGetI t3 11 39 1 fun seen25 =>
      hPutI t3 11 39 1 (seen25 &&& (((1 : Int32) <<< (a &&& 31)) ^^^ (-1))) fun t26 =>
      if b = 1 then hGetI t26 11 39 2 fun seenSo29 =>
      hPutI t26 11 39 2 (seenSo29 ||| ((1 : Int32) <<< (a &&& 31))) fun t30 =>
      rI (-1) t30
      else hGetI t26 11 39 2 fun seenSo27 =>
        hPutI t26 11 39 2 (seenSo27 &&& (((1 : Int32) <<< (a &&& 31)) ^^^ (-1))) fun t28 =>
        rI (-1) t28
      else hGetI t3 11 39 2 fun seenSo6 =>
        if 0 ≤ b then hGetI t3 11 39 1 fun seen7 =>
          hPutI t3 11 39 1 (seen7 ||| ((1 : Int32) <<< (a &&& 31))) fun t8 =>
          if b = 1 then hGetI t8 11 39 2 fun seenSo11 =>
          hPutI t8 11 39 2 (seenSo11 ||| ((1 : Int32) <<< (a &&& 31))) fun t12 =>
          rI ((seenSo6 >>> (a &&& 31)) &&& 1) t12
          else hGetI t8 11 39 2 fun seenSo9 =>
            hPutI t8 11 39 2 (seenSo9 &&& (((1 : Int32) <<< (a &&& 31)) ^^^ (-1))) fun t10 =>
            rI ((seenSo6 >>> (a &&& 31)) &&& 1) t10
        else hGetI t3 11 39 1 fun seen13 =>
        hPutI t3 11 39 1 (seen13 &&& (((1 : Int32) <<< (a &&& 31)) ^^^ (-1))) fun t14 =>
        if b = 1 then hGetI t14 11 39 2 fun seenSo17 =>
        hPutI t14 11 39 2 (seenSo17 ||| ((1 : Int32) <<< (a &&& 31))) fun t18 =>
        rI ((seenSo6 >>> (a &&& 31)) &&& 1) t18
        else hGetI t14 11 39 2 fun seenSo15 =>
          hPutI t14 11 39 2 (seenSo15 &&& (((1 : Int32) <<< (a &&& 31)) ^^^ (-1))) fun t16 =>
          rI ((seenSo6 >>> (a &&& 31)) &&& 1) t16) := by rfl
theorem fm_look_ok (t : SM) (a : Int32) (b : Int32) (h : fm_look t a b = some r) : Body l 3 q_215 P_215 r 0 [(0, .ref 39), (1, .int a), (2, .int b)] [] t :=
  blk ft_215 (by omega) rfl rows_215 (KDok.nil) ((congrFun (congrFun (congrFun (congrFun (congrFun (fm_look_eq) F_185) F_182) t) a) b).trans h)
theorem ok_215 (l : Launch) : Fok l 3 mtab 215 (F_215) := by
  intro as t r h
  unfold F_215 at h
  split at h
  · rename_i z0 a b
    split at h
    · rename_i hz0
      obtain rfl := Nat.eq_of_beq_eq_true hz0
      exact ⟨q_215, rfl, mok_215, con_of (P := P_215) (by decide +kernel) rfl (Nat.le_of_ble_eq_true rfl) (fm_look_ok t a b h)⟩
    · cases h
  · cases h
end
section
set_option maxRecDepth 100000
variable {l : Launch} {r : RR}
def FT_216 : FT := (206, F_206) :: (213, F_213) :: []
theorem ft_216 : FTok l 5 mtab FT_216 := FTok.cons (ok_206 l) (by omega) (FTok.cons (ok_213 l) (by omega) (FTok.nil))
theorem fm_agree_88_eq : (fun (G206 : List Value → SM → OR) (G213 : List Value → SM → OR) (j2 : SM → Int32 → OR) (t : SM) (v1 : Int32) => ex clN P_216 none bytJ (mkCal rks ((206, G206) :: (213, G213) :: [])) [2] (kDisp [(2, kF 0 39 <| kI 1 fun w1 => kE fun t => j2 t w1)]) 400 88 [(1, .int v1), (0, .ref 39)] [] t) = (fun (G206 : List Value → SM → OR) (G213 : List Value → SM → OR) (j2 : SM → Int32 → OR) (t : SM) (v1 : Int32) =>
  j2 t (v1 + 1)) := by rfl
theorem fm_agree_88_ok {r2 : SM → Int32 → OR} (h_r2 : ∀ (t : SM) (v1 : Int32), r2 t v1 = some r → Body l 5 q_216 P_216 r 2 [(1, .int v1), (0, .ref 39)] [] t) (t : SM) (v1 : Int32) (h : fm_agree_88 r2 t v1 = some r) : Body l 5 q_216 P_216 r 88 [(1, .int v1), (0, .ref 39)] [] t :=
  blk ft_216 (by omega) rfl rows_216 (KDok.cons (KOK.f <| KOK.i fun w1 => KOK.e (f := fun t => r2 t w1) fun t h => h_r2 t w1 h) (KDok.nil)) ((congrFun (congrFun (congrFun (congrFun (congrFun (fm_agree_88_eq) F_206) F_213) (fun t u1 => r2 t u1)) t) v1).trans h)
theorem fm_agree_49_eq : (fun (G206 : List Value → SM → OR) (G213 : List Value → SM → OR) (j49 : SM → Int32 → Int32 → OR) (j88 : SM → Int32 → OR) (t : SM) (v1 : Int32) (v2 : Int32) => ex clN P_216 none bytJ (mkCal rks ((206, G206) :: (213, G213) :: [])) [49, 88] (kDisp [(49, kF 0 39 <| kI 1 fun w1 => kI 2 fun w2 => kE fun t => j49 t w1 w2), (88, kF 0 39 <| kI 1 fun w1 => kE fun t => j88 t w1)]) 400 49 [(2, .int v2), (1, .int v1), (0, .ref 39)] [] t) = (fun (G206 : List Value → SM → OR) (G213 : List Value → SM → OR) (j49 : SM → Int32 → Int32 → OR) (j88 : SM → Int32 → OR) (t : SM) (v1 : Int32) (v2 : Int32) =>
  hGetI t 11 39 3 fun maps1 =>
  if maps1 ≤ v2 then j88 t v1
  else hGetC t 11 39 43 62 <|
  hALd t 62 v1 fun e2 =>
  hRecv t 11 39 <| bI (G213 [.ref 39, .int v2, .int v1] t) fun agrees4 t3 =>
  if agrees4 = 0 then hASt t3 62 v1 (e2 ||| 0) fun t5 =>
    j49 t5 v1 (v2 + 1)
  else hASt t3 62 v1 (e2 ||| ((1 : Int32) <<< (v2 &&& 31))) fun t6 =>
  j49 t6 v1 (v2 + 1)) := by rfl
theorem fm_agree_49_ok {k88 : SM → Int32 → OR} {r49 : SM → Int32 → Int32 → OR} (h_k88 : ∀ (t : SM) (v1 : Int32), k88 t v1 = some r → Body l 5 q_216 P_216 r 88 [(1, .int v1), (0, .ref 39)] [] t) (h_r49 : ∀ (t : SM) (v1 : Int32) (v2 : Int32), r49 t v1 v2 = some r → Body l 5 q_216 P_216 r 49 [(2, .int v2), (1, .int v1), (0, .ref 39)] [] t) (t : SM) (v1 : Int32) (v2 : Int32) (h : fm_agree_49 k88 r49 t v1 v2 = some r) : Body l 5 q_216 P_216 r 49 [(2, .int v2), (1, .int v1), (0, .ref 39)] [] t :=
  blk ft_216 (by omega) rfl rows_216 (KDok.cons (KOK.f <| KOK.i fun w1 => KOK.i fun w2 => KOK.e (f := fun t => r49 t w1 w2) fun t h => h_r49 t w1 w2 h) (KDok.cons (KOK.f <| KOK.i fun w1 => KOK.e (f := fun t => k88 t w1) fun t h => h_k88 t w1 h) (KDok.nil))) ((congrFun (congrFun (congrFun (congrFun (congrFun (congrFun (congrFun (fm_agree_49_eq) F_206) F_213) (fun t u1 u2 => r49 t u1 u2)) (fun t u1 => k88 t u1)) t) v1) v2).trans h)
theorem fm_agree_l49_ok {k88 : SM → Int32 → OR} (h_k88 : ∀ (t : SM) (v1 : Int32), k88 t v1 = some r → Body l 5 q_216 P_216 r 88 [(1, .int v1), (0, .ref 39)] [] t) : ∀ (n : Nat) (t : SM) (v1 : Int32) (v2 : Int32), fm_agree_l49 k88 n t v1 v2 = some r → Body l 5 q_216 P_216 r 49 [(2, .int v2), (1, .int v1), (0, .ref 39)] [] t
  | 0, _, _, _, h => by cases h
  | n + 1, t, v1, v2, h => fm_agree_49_ok h_k88 (fm_agree_l49_ok h_k88 n) t v1 v2 h
theorem fm_agree_2_eq : (fun (G206 : List Value → SM → OR) (G213 : List Value → SM → OR) (j49 : SM → Int32 → Int32 → OR) (j88 : SM → Int32 → OR) (t : SM) (v1 : Int32) => ex clN P_216 none bytJ (mkCal rks ((206, G206) :: (213, G213) :: [])) [49, 88] (kDisp [(49, kF 0 39 <| kI 1 fun w1 => kI 2 fun w2 => kE fun t => j49 t w1 w2), (88, kF 0 39 <| kI 1 fun w1 => kE fun t => j88 t w1)]) 400 2 [(1, .int v1), (0, .ref 39)] [] t) = (fun (G206 : List Value → SM → OR) (G213 : List Value → SM → OR) (j49 : SM → Int32 → Int32 → OR) (j88 : SM → Int32 → OR) (t : SM) (v1 : Int32) =>
  hGetI t 11 39 0 fun choices1 =>
  if ((1 : Int32) <<< (choices1 &&& 31)) ≤ v1 then rV t
  else hGetC t 11 39 43 62 <|
  hASt t 62 v1 (-1) fun t2 =>
  hGetI t2 11 39 1 fun seen3 =>
  hGetI t2 11 39 2 fun seenSo4 =>
  if (v1 &&& seen3) = seenSo4 then hRecv t2 11 39 <| bI (G206 [.ref 39, .int v1] t2) fun mayBe6 t5 =>
  if mayBe6 = 0 then j88 t5 v1
  else hGetC t5 11 39 43 62 <|
  hASt t5 62 v1 0 fun t7 =>
  j49 t7 v1 0
  else j88 t2 v1) := by rfl
theorem fm_agree_2_ok {r2 : SM → Int32 → OR} (h_r2 : ∀ (t : SM) (v1 : Int32), r2 t v1 = some r → Body l 5 q_216 P_216 r 2 [(1, .int v1), (0, .ref 39)] [] t) (t : SM) (v1 : Int32) (h : fm_agree_2 r2 t v1 = some r) : Body l 5 q_216 P_216 r 2 [(1, .int v1), (0, .ref 39)] [] t :=
  blk ft_216 (by omega) rfl rows_216 (KDok.cons (KOK.f <| KOK.i fun w1 => KOK.i fun w2 => KOK.e (f := fun t => fm_agree_l49 (fun t u1 => fm_agree_88 r2 t u1) 1000000 t w1 w2) fun t h => fm_agree_l49_ok (k88 := fun t u1 => fm_agree_88 r2 t u1) (fun t u1 h => fm_agree_88_ok h_r2 t u1 h) 1000000 t w1 w2 h) (KDok.cons (KOK.f <| KOK.i fun w1 => KOK.e (f := fun t => fm_agree_88 r2 t w1) fun t h => fm_agree_88_ok h_r2 t w1 h) (KDok.nil))) ((congrFun (congrFun (congrFun (congrFun (congrFun (congrFun (fm_agree_2_eq) F_206) F_213) (fun t u1 u2 => fm_agree_l49 (fun t u1 => fm_agree_88 r2 t u1) 1000000 t u1 u2)) (fun t u1 => fm_agree_88 r2 t u1)) t) v1).trans h)
theorem fm_agree_l2_ok : ∀ (n : Nat) (t : SM) (v1 : Int32), fm_agree_l2 n t v1 = some r → Body l 5 q_216 P_216 r 2 [(1, .int v1), (0, .ref 39)] [] t
  | 0, _, _, h => by cases h
  | n + 1, t, v1, h => fm_agree_2_ok (fm_agree_l2_ok n) t v1 h
theorem fm_agree_eq : (fun (G206 : List Value → SM → OR) (G213 : List Value → SM → OR) (j2 : SM → Int32 → OR) (t : SM) => ex clN P_216 none bytJ (mkCal rks ((206, G206) :: (213, G213) :: [])) [2] (kDisp [(2, kF 0 39 <| kI 1 fun w1 => kE fun t => j2 t w1)]) 400 0 [(0, .ref 39)] [] t) = (fun (G206 : List Value → SM → OR) (G213 : List Value → SM → OR) (j2 : SM → Int32 → OR) (t : SM) =>
  j2 t 0) := by rfl
theorem fm_agree_ok (t : SM) (h : fm_agree t = some r) : Body l 5 q_216 P_216 r 0 [(0, .ref 39)] [] t :=
  blk ft_216 (by omega) rfl rows_216 (KDok.cons (KOK.f <| KOK.i fun w1 => KOK.e (f := fun t => fm_agree_l2 1000000 t w1) fun t h => fm_agree_l2_ok 1000000 t w1 h) (KDok.nil)) ((congrFun (congrFun (congrFun (congrFun (fm_agree_eq) F_206) F_213) (fun t u1 => fm_agree_l2 1000000 t u1)) t).trans h)
theorem ok_216 (l : Launch) : Fok l 5 mtab 216 (F_216) := by
  intro as t r h
  unfold F_216 at h
  split at h
  · rename_i z0
    split at h
    · rename_i hz0
      obtain rfl := Nat.eq_of_beq_eq_true hz0
      exact ⟨q_216, rfl, mok_216, con_of (P := P_216) (by decide +kernel) rfl (Nat.le_of_ble_eq_true rfl) (fm_agree_ok t h)⟩
    · cases h
  · cases h
end
section
set_option maxRecDepth 100000
variable {l : Launch} {r : RR}
def FT_217 : FT := []
theorem ft_217 : FTok l 1 mtab FT_217 := FTok.nil
theorem fm_countBy_4_eq : (fun (j4 : SM → Int32 → Int32 → Int32 → OR) (t : SM) (v1 : Int32) (v2 : Int32) (v3 : Int32) => ex clN P_217 none bytJ (mkCal rks ([])) [4] (kDisp [(4, kF 0 39 <| kI 1 fun w1 => kI 2 fun w2 => kI 3 fun w3 => kE fun t => j4 t w1 w2 w3)]) 400 4 [(3, .int v3), (2, .int v2), (1, .int v1), (0, .ref 39)] [] t) = (fun (j4 : SM → Int32 → Int32 → Int32 → OR) (t : SM) (v1 : Int32) (v2 : Int32) (v3 : Int32) =>
  hGetI t 11 39 0 fun choices1 =>
  if ((1 : Int32) <<< (choices1 &&& 31)) ≤ v3 then rI v2 t
  else hGetC t 11 39 43 62 <|
  hALd t 62 v3 fun e2 =>
  if e2 < 0 then j4 t v1 (v2 + 0) (v3 + 1)
  else hGetC t 11 39 43 62 <|
  hALd t 62 v3 fun e3 =>
  if (e3 &&& v1) = v1 then j4 t v1 (v2 + 1) (v3 + 1)
  else j4 t v1 (v2 + 0) (v3 + 1)) := by rfl
theorem fm_countBy_4_ok {r4 : SM → Int32 → Int32 → Int32 → OR} (h_r4 : ∀ (t : SM) (v1 : Int32) (v2 : Int32) (v3 : Int32), r4 t v1 v2 v3 = some r → Body l 1 q_217 P_217 r 4 [(3, .int v3), (2, .int v2), (1, .int v1), (0, .ref 39)] [] t) (t : SM) (v1 : Int32) (v2 : Int32) (v3 : Int32) (h : fm_countBy_4 r4 t v1 v2 v3 = some r) : Body l 1 q_217 P_217 r 4 [(3, .int v3), (2, .int v2), (1, .int v1), (0, .ref 39)] [] t :=
  blk ft_217 (by omega) rfl rows_217 (KDok.cons (KOK.f <| KOK.i fun w1 => KOK.i fun w2 => KOK.i fun w3 => KOK.e (f := fun t => r4 t w1 w2 w3) fun t h => h_r4 t w1 w2 w3 h) (KDok.nil)) ((congrFun (congrFun (congrFun (congrFun (congrFun (fm_countBy_4_eq) (fun t u1 u2 u3 => r4 t u1 u2 u3)) t) v1) v2) v3).trans h)
theorem fm_countBy_l4_ok : ∀ (n : Nat) (t : SM) (v1 : Int32) (v2 : Int32) (v3 : Int32), fm_countBy_l4 n t v1 v2 v3 = some r → Body l 1 q_217 P_217 r 4 [(3, .int v3), (2, .int v2), (1, .int v1), (0, .ref 39)] [] t
  | 0, _, _, _, _, h => by cases h
  | n + 1, t, v1, v2, v3, h => fm_countBy_4_ok (fm_countBy_l4_ok n) t v1 v2 v3 h
theorem fm_countBy_eq : (fun (j4 : SM → Int32 → Int32 → Int32 → OR) (t : SM) (a : Int32) => ex clN P_217 none bytJ (mkCal rks ([])) [4] (kDisp [(4, kF 0 39 <| kI 1 fun w1 => kI 2 fun w2 => kI 3 fun w3 => kE fun t => j4 t w1 w2 w3)]) 400 0 [(0, .ref 39), (1, .int a)] [] t) = (fun (j4 : SM → Int32 → Int32 → Int32 → OR) (t : SM) (a : Int32) =>
  j4 t a 0 0) := by rfl
theorem fm_countBy_ok (t : SM) (a : Int32) (h : fm_countBy t a = some r) : Body l 1 q_217 P_217 r 0 [(0, .ref 39), (1, .int a)] [] t :=
  blk ft_217 (by omega) rfl rows_217 (KDok.cons (KOK.f <| KOK.i fun w1 => KOK.i fun w2 => KOK.i fun w3 => KOK.e (f := fun t => fm_countBy_l4 1000000 t w1 w2 w3) fun t h => fm_countBy_l4_ok 1000000 t w1 w2 w3 h) (KDok.nil)) ((congrFun (congrFun (congrFun (fm_countBy_eq) (fun t u1 u2 u3 => fm_countBy_l4 1000000 t u1 u2 u3)) t) a).trans h)
theorem ok_217 (l : Launch) : Fok l 1 mtab 217 (F_217) := by
  intro as t r h
  unfold F_217 at h
  split at h
  · rename_i z0 a
    split at h
    · rename_i hz0
      obtain rfl := Nat.eq_of_beq_eq_true hz0
      exact ⟨q_217, rfl, mok_217, con_of (P := P_217) (by decide +kernel) rfl (Nat.le_of_ble_eq_true rfl) (fm_countBy_ok t a h)⟩
    · cases h
  · cases h
end
section
set_option maxRecDepth 100000
variable {l : Launch} {r : RR}
def FT_218 : FT := []
theorem ft_218 : FTok l 1 mtab FT_218 := FTok.nil
theorem fm_allMaps_eq : (fun (t : SM) => ex clN P_218 none bytJ (mkCal rks ([])) [] (kDisp []) 400 0 [(0, .ref 39)] [] t) = (fun (t : SM) =>
  hGetI t 11 39 3 fun maps1 =>
  rI (((1 : Int32) <<< (maps1 &&& 31)) - 1) t) := by rfl
theorem fm_allMaps_ok (t : SM) (h : fm_allMaps t = some r) : Body l 1 q_218 P_218 r 0 [(0, .ref 39)] [] t :=
  blk ft_218 (by omega) rfl rows_218 (KDok.nil) ((congrFun (fm_allMaps_eq) t).trans h)
theorem ok_218 (l : Launch) : Fok l 1 mtab 218 (F_218) := by
  intro as t r h
  unfold F_218 at h
  split at h
  · rename_i z0
    split at h
    · rename_i hz0
      obtain rfl := Nat.eq_of_beq_eq_true hz0
      exact ⟨q_218, rfl, mok_218, con_of (P := P_218) (by decide +kernel) rfl (Nat.le_of_ble_eq_true rfl) (fm_allMaps_ok t h)⟩
    · cases h
  · cases h
end
section
set_option maxRecDepth 100000
variable {l : Launch} {r : RR}
def FT_219 : FT := (216, F_216) :: (218, F_218) :: []
theorem ft_219 : FTok l 6 mtab FT_219 := FTok.cons (ok_216 l) (by omega) (FTok.cons (ok_218 l) (by omega) (FTok.nil))
theorem fm_findsWorlds_11_eq : (fun (G216 : List Value → SM → OR) (G218 : List Value → SM → OR) (j11 : SM → Int32 → OR) (t : SM) (v1 : Int32) => ex clN P_219 none bytJ (mkCal rks ((216, G216) :: (218, G218) :: [])) [11] (kDisp [(11, kF 0 39 <| kI 1 fun w1 => kE fun t => j11 t w1)]) 400 11 [(1, .int v1), (0, .ref 39)] [] t) = (fun (G216 : List Value → SM → OR) (G218 : List Value → SM → OR) (j11 : SM → Int32 → OR) (t : SM) (v1 : Int32) =>
  hGetI t 11 39 0 fun choices1 =>
  if ((1 : Int32) <<< (choices1 &&& 31)) ≤ v1 then rV t
  else hGetC t 11 39 43 62 <|
  hALd t 62 v1 fun e2 =>
  hRecv t 11 39 <| bI (G218 [.ref 39] t) fun allMaps4 t3 =>
  if e2 = allMaps4 then hGetC t3 11 39 44 63 <|
  hGetI t3 11 39 45 fun worldMany5 =>
  hASt t3 63 worldMany5 v1 fun t6 =>
  hGetI t6 11 39 45 fun worldMany7 =>
  hPutI t6 11 39 45 (worldMany7 + 1) fun t8 =>
  j11 t8 (v1 + 1)
  else j11 t3 (v1 + 1)) := by rfl
theorem fm_findsWorlds_11_ok {r11 : SM → Int32 → OR} (h_r11 : ∀ (t : SM) (v1 : Int32), r11 t v1 = some r → Body l 6 q_219 P_219 r 11 [(1, .int v1), (0, .ref 39)] [] t) (t : SM) (v1 : Int32) (h : fm_findsWorlds_11 r11 t v1 = some r) : Body l 6 q_219 P_219 r 11 [(1, .int v1), (0, .ref 39)] [] t :=
  blk ft_219 (by omega) rfl rows_219 (KDok.cons (KOK.f <| KOK.i fun w1 => KOK.e (f := fun t => r11 t w1) fun t h => h_r11 t w1 h) (KDok.nil)) ((congrFun (congrFun (congrFun (congrFun (congrFun (fm_findsWorlds_11_eq) F_216) F_218) (fun t u1 => r11 t u1)) t) v1).trans h)
theorem fm_findsWorlds_l11_ok : ∀ (n : Nat) (t : SM) (v1 : Int32), fm_findsWorlds_l11 n t v1 = some r → Body l 6 q_219 P_219 r 11 [(1, .int v1), (0, .ref 39)] [] t
  | 0, _, _, h => by cases h
  | n + 1, t, v1, h => fm_findsWorlds_11_ok (fm_findsWorlds_l11_ok n) t v1 h
theorem fm_findsWorlds_eq : (fun (G216 : List Value → SM → OR) (G218 : List Value → SM → OR) (j11 : SM → Int32 → OR) (t : SM) => ex clN P_219 none bytJ (mkCal rks ((216, G216) :: (218, G218) :: [])) [11] (kDisp [(11, kF 0 39 <| kI 1 fun w1 => kE fun t => j11 t w1)]) 400 0 [(0, .ref 39)] [] t) = (fun (G216 : List Value → SM → OR) (G218 : List Value → SM → OR) (j11 : SM → Int32 → OR) (t : SM) =>
  hRecv t 11 39 <| bV (G216 [.ref 39] t) fun t1 =>
  hPutI t1 11 39 45 0 fun t2 =>
  j11 t2 0) := by rfl
theorem fm_findsWorlds_ok (t : SM) (h : fm_findsWorlds t = some r) : Body l 6 q_219 P_219 r 0 [(0, .ref 39)] [] t :=
  blk ft_219 (by omega) rfl rows_219 (KDok.cons (KOK.f <| KOK.i fun w1 => KOK.e (f := fun t => fm_findsWorlds_l11 1000000 t w1) fun t h => fm_findsWorlds_l11_ok 1000000 t w1 h) (KDok.nil)) ((congrFun (congrFun (congrFun (congrFun (fm_findsWorlds_eq) F_216) F_218) (fun t u1 => fm_findsWorlds_l11 1000000 t u1)) t).trans h)
theorem ok_219 (l : Launch) : Fok l 6 mtab 219 (F_219) := by
  intro as t r h
  unfold F_219 at h
  split at h
  · rename_i z0
    split at h
    · rename_i hz0
      obtain rfl := Nat.eq_of_beq_eq_true hz0
      exact ⟨q_219, rfl, mok_219, con_of (P := P_219) (by decide +kernel) rfl (Nat.le_of_ble_eq_true rfl) (fm_findsWorlds_ok t h)⟩
    · cases h
  · cases h
end
section
set_option maxRecDepth 100000
variable {l : Launch} {r : RR}
def FT_220 : FT := (218, F_218) :: (182, F_182) :: (216, F_216) :: (217, F_217) :: []
theorem ft_220 : FTok l 6 mtab FT_220 := FTok.cons (ok_218 l) (by omega) (FTok.cons (ok_182 l) (by omega) (FTok.cons (ok_216 l) (by omega) (FTok.cons (ok_217 l) (by omega) (FTok.nil))))
theorem fm_worlds_eq : (fun (G218 : List Value → SM → OR) (G182 : List Value → SM → OR) (G216 : List Value → SM → OR) (G217 : List Value → SM → OR) (t : SM) (a : Int32) => ex clN P_220 none bytJ (mkCal rks ((218, G218) :: (182, G182) :: (216, G216) :: (217, G217) :: [])) [] (kDisp []) 400 0 [(0, .ref 39), (1, .int a)] [] t) = (fun (G218 : List Value → SM → OR) (G182 : List Value → SM → OR) (G216 : List Value → SM → OR) (G217 : List Value → SM → OR) (t : SM) (a : Int32) =>
  hRecv t 11 39 <| bI (G218 [.ref 39] t) fun allMaps2 t1 =>
  bI (G182 [.int a, .int 0, .int allMaps2] t1) fun in4 t3 =>
  if in4 = 0 then rI (-2) t3
  else hRecv t3 11 39 <| bV (G216 [.ref 39] t3) fun t5 =>
    hRecv t5 11 39 <| bI (G217 [.ref 39, .int a] t5) fun countBy7 t6 =>
    rI countBy7 t6) := by rfl
theorem fm_worlds_ok (t : SM) (a : Int32) (h : fm_worlds t a = some r) : Body l 6 q_220 P_220 r 0 [(0, .ref 39), (1, .int a)] [] t :=
  blk ft_220 (by omega) rfl rows_220 (KDok.nil) ((congrFun (congrFun (congrFun (congrFun (congrFun (congrFun (fm_worlds_eq) F_218) F_182) F_216) F_217) t) a).trans h)
theorem ok_220 (l : Launch) : Fok l 6 mtab 220 (F_220) := by
  intro as t r h
  unfold F_220 at h
  split at h
  · rename_i z0 a
    split at h
    · rename_i hz0
      obtain rfl := Nat.eq_of_beq_eq_true hz0
      exact ⟨q_220, rfl, mok_220, con_of (P := P_220) (by decide +kernel) rfl (Nat.le_of_ble_eq_true rfl) (fm_worlds_ok t a h)⟩
    · cases h
  · cases h
end
section
set_option maxRecDepth 100000
variable {l : Launch} {r : RR}
def FT_221 : FT := (219, F_219) :: (182, F_182) :: []
theorem ft_221 : FTok l 7 mtab FT_221 := FTok.cons (ok_219 l) (by omega) (FTok.cons (ok_182 l) (by omega) (FTok.nil))
theorem fm_world_eq : (fun (G219 : List Value → SM → OR) (G182 : List Value → SM → OR) (t : SM) (a : Int32) => ex clN P_221 none bytJ (mkCal rks ((219, G219) :: (182, G182) :: [])) [] (kDisp []) 400 0 [(0, .ref 39), (1, .int a)] [] t) = (fun (G219 : List Value → SM → OR) (G182 : List Value → SM → OR) (t : SM) (a : Int32) =>
  hRecv t 11 39 <| bV (G219 [.ref 39] t) fun t1 =>
  hGetI t1 11 39 45 fun worldMany2 =>
  bI (G182 [.int a, .int 0, .int (worldMany2 - 1)] t1) fun in4 t3 =>
  if in4 = 0 then rI (-1) t3
  else hGetC t3 11 39 44 63 <|
  hALd t3 63 a fun e5 =>
  rI e5 t3) := by rfl
theorem fm_world_ok (t : SM) (a : Int32) (h : fm_world t a = some r) : Body l 7 q_221 P_221 r 0 [(0, .ref 39), (1, .int a)] [] t :=
  blk ft_221 (by omega) rfl rows_221 (KDok.nil) ((congrFun (congrFun (congrFun (congrFun (fm_world_eq) F_219) F_182) t) a).trans h)
theorem ok_221 (l : Launch) : Fok l 7 mtab 221 (F_221) := by
  intro as t r h
  unfold F_221 at h
  split at h
  · rename_i z0 a
    split at h
    · rename_i hz0
      obtain rfl := Nat.eq_of_beq_eq_true hz0
      exact ⟨q_221, rfl, mok_221, con_of (P := P_221) (by decide +kernel) rfl (Nat.le_of_ble_eq_true rfl) (fm_world_ok t a h)⟩
    · cases h
  · cases h
end
section
set_option maxRecDepth 100000
variable {l : Launch} {r : RR}
def FT_222 : FT := []
theorem ft_222 : FTok l 1 mtab FT_222 := FTok.nil
theorem fm_allSo_11_eq : (fun (j11 : SM → Int32 → Int32 → Int32 → OR) (t : SM) (v1 : Int32) (v2 : Int32) (v3 : Int32) => ex clN P_222 none bytJ (mkCal rks ([])) [11] (kDisp [(11, kF 0 39 <| kI 1 fun w1 => kI 2 fun w2 => kI 3 fun w3 => kE fun t => j11 t w1 w2 w3)]) 400 11 [(3, .int v3), (2, .int v2), (1, .int v1), (0, .ref 39)] [] t) = (fun (j11 : SM → Int32 → Int32 → Int32 → OR) (t : SM) (v1 : Int32) (v2 : Int32) (v3 : Int32) =>
  hGetI t 11 39 0 fun choices1 =>
  if ((1 : Int32) <<< (choices1 &&& 31)) ≤ v3 then rI v2 t
  else hGetC t 11 39 43 62 <|
  hALd t 62 v3 fun e2 =>
  if e2 < 0 then j11 t v1 (v2 &&& v2) (v3 + 1)
  else hGetC t 11 39 43 62 <|
  hALd t 62 v3 fun e3 =>
  if (e3 &&& v1) = v1 then j11 t v1 (v2 &&& v3) (v3 + 1)
  else j11 t v1 (v2 &&& v2) (v3 + 1)) := by rfl
theorem fm_allSo_11_ok {r11 : SM → Int32 → Int32 → Int32 → OR} (h_r11 : ∀ (t : SM) (v1 : Int32) (v2 : Int32) (v3 : Int32), r11 t v1 v2 v3 = some r → Body l 1 q_222 P_222 r 11 [(3, .int v3), (2, .int v2), (1, .int v1), (0, .ref 39)] [] t) (t : SM) (v1 : Int32) (v2 : Int32) (v3 : Int32) (h : fm_allSo_11 r11 t v1 v2 v3 = some r) : Body l 1 q_222 P_222 r 11 [(3, .int v3), (2, .int v2), (1, .int v1), (0, .ref 39)] [] t :=
  blk ft_222 (by omega) rfl rows_222 (KDok.cons (KOK.f <| KOK.i fun w1 => KOK.i fun w2 => KOK.i fun w3 => KOK.e (f := fun t => r11 t w1 w2 w3) fun t h => h_r11 t w1 w2 w3 h) (KDok.nil)) ((congrFun (congrFun (congrFun (congrFun (congrFun (fm_allSo_11_eq) (fun t u1 u2 u3 => r11 t u1 u2 u3)) t) v1) v2) v3).trans h)
theorem fm_allSo_l11_ok : ∀ (n : Nat) (t : SM) (v1 : Int32) (v2 : Int32) (v3 : Int32), fm_allSo_l11 n t v1 v2 v3 = some r → Body l 1 q_222 P_222 r 11 [(3, .int v3), (2, .int v2), (1, .int v1), (0, .ref 39)] [] t
  | 0, _, _, _, _, h => by cases h
  | n + 1, t, v1, v2, v3, h => fm_allSo_11_ok (fm_allSo_l11_ok n) t v1 v2 v3 h
theorem fm_allSo_eq : (fun (j11 : SM → Int32 → Int32 → Int32 → OR) (t : SM) (a : Int32) => ex clN P_222 none bytJ (mkCal rks ([])) [11] (kDisp [(11, kF 0 39 <| kI 1 fun w1 => kI 2 fun w2 => kI 3 fun w3 => kE fun t => j11 t w1 w2 w3)]) 400 0 [(0, .ref 39), (1, .int a)] [] t) = (fun (j11 : SM → Int32 → Int32 → Int32 → OR) (t : SM) (a : Int32) =>
  hGetI t 11 39 0 fun choices1 =>
  j11 t a (((1 : Int32) <<< (choices1 &&& 31)) - 1) 0) := by rfl
theorem fm_allSo_ok (t : SM) (a : Int32) (h : fm_allSo t a = some r) : Body l 1 q_222 P_222 r 0 [(0, .ref 39), (1, .int a)] [] t :=
  blk ft_222 (by omega) rfl rows_222 (KDok.cons (KOK.f <| KOK.i fun w1 => KOK.i fun w2 => KOK.i fun w3 => KOK.e (f := fun t => fm_allSo_l11 1000000 t w1 w2 w3) fun t h => fm_allSo_l11_ok 1000000 t w1 w2 w3 h) (KDok.nil)) ((congrFun (congrFun (congrFun (fm_allSo_eq) (fun t u1 u2 u3 => fm_allSo_l11 1000000 t u1 u2 u3)) t) a).trans h)
theorem ok_222 (l : Launch) : Fok l 1 mtab 222 (F_222) := by
  intro as t r h
  unfold F_222 at h
  split at h
  · rename_i z0 a
    split at h
    · rename_i hz0
      obtain rfl := Nat.eq_of_beq_eq_true hz0
      exact ⟨q_222, rfl, mok_222, con_of (P := P_222) (by decide +kernel) rfl (Nat.le_of_ble_eq_true rfl) (fm_allSo_ok t a h)⟩
    · cases h
  · cases h
end
section
set_option maxRecDepth 100000
variable {l : Launch} {r : RR}
def FT_223 : FT := []
theorem ft_223 : FTok l 1 mtab FT_223 := FTok.nil
theorem fm_noneSo_11_eq : (fun (j11 : SM → Int32 → Int32 → Int32 → OR) (t : SM) (v1 : Int32) (v2 : Int32) (v3 : Int32) => ex clN P_223 none bytJ (mkCal rks ([])) [11] (kDisp [(11, kF 0 39 <| kI 1 fun w1 => kI 2 fun w2 => kI 3 fun w3 => kE fun t => j11 t w1 w2 w3)]) 400 11 [(3, .int v3), (2, .int v2), (1, .int v1), (0, .ref 39)] [] t) = (fun (j11 : SM → Int32 → Int32 → Int32 → OR) (t : SM) (v1 : Int32) (v2 : Int32) (v3 : Int32) =>
  hGetI t 11 39 0 fun choices1 =>
  if ((1 : Int32) <<< (choices1 &&& 31)) ≤ v3 then rI v2 t
  else hGetC t 11 39 43 62 <|
  hALd t 62 v3 fun e2 =>
  if e2 < 0 then j11 t v1 (v2 &&& v2) (v3 + 1)
  else hGetC t 11 39 43 62 <|
  hALd t 62 v3 fun e3 =>
  if (e3 &&& v1) = v1 then j11 t v1 (v2 &&& (v3 ^^^ (-1))) (v3 + 1)
  else j11 t v1 (v2 &&& v2) (v3 + 1)) := by rfl
theorem fm_noneSo_11_ok {r11 : SM → Int32 → Int32 → Int32 → OR} (h_r11 : ∀ (t : SM) (v1 : Int32) (v2 : Int32) (v3 : Int32), r11 t v1 v2 v3 = some r → Body l 1 q_223 P_223 r 11 [(3, .int v3), (2, .int v2), (1, .int v1), (0, .ref 39)] [] t) (t : SM) (v1 : Int32) (v2 : Int32) (v3 : Int32) (h : fm_noneSo_11 r11 t v1 v2 v3 = some r) : Body l 1 q_223 P_223 r 11 [(3, .int v3), (2, .int v2), (1, .int v1), (0, .ref 39)] [] t :=
  blk ft_223 (by omega) rfl rows_223 (KDok.cons (KOK.f <| KOK.i fun w1 => KOK.i fun w2 => KOK.i fun w3 => KOK.e (f := fun t => r11 t w1 w2 w3) fun t h => h_r11 t w1 w2 w3 h) (KDok.nil)) ((congrFun (congrFun (congrFun (congrFun (congrFun (fm_noneSo_11_eq) (fun t u1 u2 u3 => r11 t u1 u2 u3)) t) v1) v2) v3).trans h)
theorem fm_noneSo_l11_ok : ∀ (n : Nat) (t : SM) (v1 : Int32) (v2 : Int32) (v3 : Int32), fm_noneSo_l11 n t v1 v2 v3 = some r → Body l 1 q_223 P_223 r 11 [(3, .int v3), (2, .int v2), (1, .int v1), (0, .ref 39)] [] t
  | 0, _, _, _, _, h => by cases h
  | n + 1, t, v1, v2, v3, h => fm_noneSo_11_ok (fm_noneSo_l11_ok n) t v1 v2 v3 h
theorem fm_noneSo_eq : (fun (j11 : SM → Int32 → Int32 → Int32 → OR) (t : SM) (a : Int32) => ex clN P_223 none bytJ (mkCal rks ([])) [11] (kDisp [(11, kF 0 39 <| kI 1 fun w1 => kI 2 fun w2 => kI 3 fun w3 => kE fun t => j11 t w1 w2 w3)]) 400 0 [(0, .ref 39), (1, .int a)] [] t) = (fun (j11 : SM → Int32 → Int32 → Int32 → OR) (t : SM) (a : Int32) =>
  hGetI t 11 39 0 fun choices1 =>
  j11 t a (((1 : Int32) <<< (choices1 &&& 31)) - 1) 0) := by rfl
theorem fm_noneSo_ok (t : SM) (a : Int32) (h : fm_noneSo t a = some r) : Body l 1 q_223 P_223 r 0 [(0, .ref 39), (1, .int a)] [] t :=
  blk ft_223 (by omega) rfl rows_223 (KDok.cons (KOK.f <| KOK.i fun w1 => KOK.i fun w2 => KOK.i fun w3 => KOK.e (f := fun t => fm_noneSo_l11 1000000 t w1 w2 w3) fun t h => fm_noneSo_l11_ok 1000000 t w1 w2 w3 h) (KDok.nil)) ((congrFun (congrFun (congrFun (fm_noneSo_eq) (fun t u1 u2 u3 => fm_noneSo_l11 1000000 t u1 u2 u3)) t) a).trans h)
theorem ok_223 (l : Launch) : Fok l 1 mtab 223 (F_223) := by
  intro as t r h
  unfold F_223 at h
  split at h
  · rename_i z0 a
    split at h
    · rename_i hz0
      obtain rfl := Nat.eq_of_beq_eq_true hz0
      exact ⟨q_223, rfl, mok_223, con_of (P := P_223) (by decide +kernel) rfl (Nat.le_of_ble_eq_true rfl) (fm_noneSo_ok t a h)⟩
    · cases h
  · cases h
end
section
set_option maxRecDepth 100000
variable {l : Launch} {r : RR}
def FT_224 : FT := (182, F_182) :: (219, F_219) :: (218, F_218) :: (222, F_222) :: (223, F_223) :: []
theorem ft_224 : FTok l 7 mtab FT_224 := FTok.cons (ok_182 l) (by omega) (FTok.cons (ok_219 l) (by omega) (FTok.cons (ok_218 l) (by omega) (FTok.cons (ok_222 l) (by omega) (FTok.cons (ok_223 l) (by omega) (FTok.nil)))))
theorem fm_sure_eq : (fun (G182 : List Value → SM → OR) (G219 : List Value → SM → OR) (G218 : List Value → SM → OR) (G222 : List Value → SM → OR) (G223 : List Value → SM → OR) (t : SM) (a : Int32) => ex clN P_224 none bytJ (mkCal rks ((182, G182) :: (219, G219) :: (218, G218) :: (222, G222) :: (223, G223) :: [])) [] (kDisp []) 400 0 [(0, .ref 39), (1, .int a)] [] t) = (fun (G182 : List Value → SM → OR) (G219 : List Value → SM → OR) (G218 : List Value → SM → OR) (G222 : List Value → SM → OR) (G223 : List Value → SM → OR) (t : SM) (a : Int32) =>
  bI (G182 [.int a, .int 0, .int 2] t) fun in2 t1 =>
  if in2 = 0 then rI (-2) t1
  else hRecv t1 11 39 <| bV (G219 [.ref 39] t1) fun t3 =>
    hGetI t3 11 39 45 fun worldMany4 =>
    if worldMany4 = 0 then rI (-3) t3
    else hRecv t3 11 39 <| bI (G218 [.ref 39] t3) fun allMaps6 t5 =>
      hRecv t5 11 39 <| bI (G222 [.ref 39, .int allMaps6] t5) fun allSo8 t7 =>
      hRecv t7 11 39 <| bI (G218 [.ref 39] t7) fun allMaps10 t9 =>
      hRecv t9 11 39 <| bI (G223 [.ref 39, .int allMaps10] t9) fun noneSo12 t11 =>
      if a = 0 then rI allSo8 t11
      else if a = 1 then rI noneSo12 t11
        else hGetI t11 11 39 0 fun choices13 =>
          rI (((((1 : Int32) <<< (choices13 &&& 31)) - 1) &&& (allSo8 ^^^ (-1))) &&& (noneSo12 ^^^ (-1))) t11) := by rfl
theorem fm_sure_ok (t : SM) (a : Int32) (h : fm_sure t a = some r) : Body l 7 q_224 P_224 r 0 [(0, .ref 39), (1, .int a)] [] t :=
  blk ft_224 (by omega) rfl rows_224 (KDok.nil) ((congrFun (congrFun (congrFun (congrFun (congrFun (congrFun (congrFun (fm_sure_eq) F_182) F_219) F_218) F_222) F_223) t) a).trans h)
theorem ok_224 (l : Launch) : Fok l 7 mtab 224 (F_224) := by
  intro as t r h
  unfold F_224 at h
  split at h
  · rename_i z0 a
    split at h
    · rename_i hz0
      obtain rfl := Nat.eq_of_beq_eq_true hz0
      exact ⟨q_224, rfl, mok_224, con_of (P := P_224) (by decide +kernel) rfl (Nat.le_of_ble_eq_true rfl) (fm_sure_ok t a h)⟩
    · cases h
  · cases h
end
section
set_option maxRecDepth 100000
variable {l : Launch} {r : RR}
def FT_225 : FT := (216, F_216) :: (218, F_218) :: (187, F_187) :: (217, F_217) :: []
theorem ft_225 : FTok l 6 mtab FT_225 := FTok.cons (ok_216 l) (by omega) (FTok.cons (ok_218 l) (by omega) (FTok.cons (ok_187 l) (by omega) (FTok.cons (ok_217 l) (by omega) (FTok.nil))))
theorem fm_none_8_eq : (fun (G216 : List Value → SM → OR) (G218 : List Value → SM → OR) (G187 : List Value → SM → OR) (G217 : List Value → SM → OR) (j8 : SM → Int32 → Int32 → OR) (t : SM) (v1 : Int32) (v2 : Int32) => ex clN P_225 none bytJ (mkCal rks ((216, G216) :: (218, G218) :: (187, G187) :: (217, G217) :: [])) [8] (kDisp [(8, kF 0 39 <| kI 1 fun w1 => kI 2 fun w2 => kE fun t => j8 t w1 w2)]) 400 8 [(2, .int v2), (1, .int v1), (0, .ref 39)] [] t) = (fun (G216 : List Value → SM → OR) (G218 : List Value → SM → OR) (G187 : List Value → SM → OR) (G217 : List Value → SM → OR) (j8 : SM → Int32 → Int32 → OR) (t : SM) (v1 : Int32) (v2 : Int32) =>
  hRecv t 11 39 <| bI (G218 [.ref 39] t) fun allMaps2 t1 =>
  if allMaps2 < v2 then rI v1 t1
  else if v1 = (-1) then hRecv t1 11 39 <| bI (G217 [.ref 39, .int v2] t1) fun countBy4 t3 =>
    if countBy4 = 0 then j8 t3 v2 (v2 + 1)
    else j8 t3 v1 (v2 + 1)
  else bI (G187 [.int v2] t1) fun ones6 t5 =>
  bI (G187 [.int v1] t5) fun ones8 t7 =>
  if ones8 ≤ ones6 then j8 t7 v1 (v2 + 1)
  else hRecv t7 11 39 <| bI (G217 [.ref 39, .int v2] t7) fun countBy10 t9 =>
  if countBy10 = 0 then j8 t9 v2 (v2 + 1)
  else j8 t9 v1 (v2 + 1)) := by rfl
theorem fm_none_8_ok {r8 : SM → Int32 → Int32 → OR} (h_r8 : ∀ (t : SM) (v1 : Int32) (v2 : Int32), r8 t v1 v2 = some r → Body l 6 q_225 P_225 r 8 [(2, .int v2), (1, .int v1), (0, .ref 39)] [] t) (t : SM) (v1 : Int32) (v2 : Int32) (h : fm_none_8 r8 t v1 v2 = some r) : Body l 6 q_225 P_225 r 8 [(2, .int v2), (1, .int v1), (0, .ref 39)] [] t :=
  blk ft_225 (by omega) rfl rows_225 (KDok.cons (KOK.f <| KOK.i fun w1 => KOK.i fun w2 => KOK.e (f := fun t => r8 t w1 w2) fun t h => h_r8 t w1 w2 h) (KDok.nil)) ((congrFun (congrFun (congrFun (congrFun (congrFun (congrFun (congrFun (congrFun (fm_none_8_eq) F_216) F_218) F_187) F_217) (fun t u1 u2 => r8 t u1 u2)) t) v1) v2).trans h)
theorem fm_none_l8_ok : ∀ (n : Nat) (t : SM) (v1 : Int32) (v2 : Int32), fm_none_l8 n t v1 v2 = some r → Body l 6 q_225 P_225 r 8 [(2, .int v2), (1, .int v1), (0, .ref 39)] [] t
  | 0, _, _, _, h => by cases h
  | n + 1, t, v1, v2, h => fm_none_8_ok (fm_none_l8_ok n) t v1 v2 h
theorem fm_none_eq : (fun (G216 : List Value → SM → OR) (G218 : List Value → SM → OR) (G187 : List Value → SM → OR) (G217 : List Value → SM → OR) (j8 : SM → Int32 → Int32 → OR) (t : SM) => ex clN P_225 none bytJ (mkCal rks ((216, G216) :: (218, G218) :: (187, G187) :: (217, G217) :: [])) [8] (kDisp [(8, kF 0 39 <| kI 1 fun w1 => kI 2 fun w2 => kE fun t => j8 t w1 w2)]) 400 0 [(0, .ref 39)] [] t) = (fun (G216 : List Value → SM → OR) (G218 : List Value → SM → OR) (G187 : List Value → SM → OR) (G217 : List Value → SM → OR) (j8 : SM → Int32 → Int32 → OR) (t : SM) =>
  hRecv t 11 39 <| bV (G216 [.ref 39] t) fun t1 =>
  j8 t1 (-1) 0) := by rfl
theorem fm_none_ok (t : SM) (h : fm_none t = some r) : Body l 6 q_225 P_225 r 0 [(0, .ref 39)] [] t :=
  blk ft_225 (by omega) rfl rows_225 (KDok.cons (KOK.f <| KOK.i fun w1 => KOK.i fun w2 => KOK.e (f := fun t => fm_none_l8 1000000 t w1 w2) fun t h => fm_none_l8_ok 1000000 t w1 w2 h) (KDok.nil)) ((congrFun (congrFun (congrFun (congrFun (congrFun (congrFun (fm_none_eq) F_216) F_218) F_187) F_217) (fun t u1 u2 => fm_none_l8 1000000 t u1 u2)) t).trans h)
theorem ok_225 (l : Launch) : Fok l 6 mtab 225 (F_225) := by
  intro as t r h
  unfold F_225 at h
  split at h
  · rename_i z0
    split at h
    · rename_i hz0
      obtain rfl := Nat.eq_of_beq_eq_true hz0
      exact ⟨q_225, rfl, mok_225, con_of (P := P_225) (by decide +kernel) rfl (Nat.le_of_ble_eq_true rfl) (fm_none_ok t h)⟩
    · cases h
  · cases h
end
section
set_option maxRecDepth 100000
variable {l : Launch} {r : RR}
def FT_226 : FT := (183, F_183) :: (206, F_206) :: (213, F_213) :: []
theorem ft_226 : FTok l 5 mtab FT_226 := FTok.cons (ok_183 l) (by omega) (FTok.cons (ok_206 l) (by omega) (FTok.cons (ok_213 l) (by omega) (FTok.nil)))
theorem fm_judge_37_eq : (fun (G183 : List Value → SM → OR) (G206 : List Value → SM → OR) (G213 : List Value → SM → OR) (j37 : SM → Int32 → Int32 → OR) (t : SM) (v1 : Int32) (v2 : Int32) => ex clN P_226 none bytJ (mkCal rks ((183, G183) :: (206, G206) :: (213, G213) :: [])) [37] (kDisp [(37, kF 0 39 <| kI 1 fun w1 => kI 2 fun w2 => kE fun t => j37 t w1 w2)]) 400 37 [(2, .int v2), (1, .int v1), (0, .ref 39)] [] t) = (fun (G183 : List Value → SM → OR) (G206 : List Value → SM → OR) (G213 : List Value → SM → OR) (j37 : SM → Int32 → Int32 → OR) (t : SM) (v1 : Int32) (v2 : Int32) =>
  hGetI t 11 39 3 fun maps1 =>
  if maps1 ≤ v2 then rI (-1) t
  else hRecv t 11 39 <| bI (G213 [.ref 39, .int v2, .int v1] t) fun agrees3 t2 =>
  if agrees3 = 0 then rI v2 t2
  else j37 t2 v1 (v2 + 1)) := by rfl
theorem fm_judge_37_ok {r37 : SM → Int32 → Int32 → OR} (h_r37 : ∀ (t : SM) (v1 : Int32) (v2 : Int32), r37 t v1 v2 = some r → Body l 5 q_226 P_226 r 37 [(2, .int v2), (1, .int v1), (0, .ref 39)] [] t) (t : SM) (v1 : Int32) (v2 : Int32) (h : fm_judge_37 r37 t v1 v2 = some r) : Body l 5 q_226 P_226 r 37 [(2, .int v2), (1, .int v1), (0, .ref 39)] [] t :=
  blk ft_226 (by omega) rfl rows_226 (KDok.cons (KOK.f <| KOK.i fun w1 => KOK.i fun w2 => KOK.e (f := fun t => r37 t w1 w2) fun t h => h_r37 t w1 w2 h) (KDok.nil)) ((congrFun (congrFun (congrFun (congrFun (congrFun (congrFun (congrFun (fm_judge_37_eq) F_183) F_206) F_213) (fun t u1 u2 => r37 t u1 u2)) t) v1) v2).trans h)
theorem fm_judge_l37_ok : ∀ (n : Nat) (t : SM) (v1 : Int32) (v2 : Int32), fm_judge_l37 n t v1 v2 = some r → Body l 5 q_226 P_226 r 37 [(2, .int v2), (1, .int v1), (0, .ref 39)] [] t
  | 0, _, _, _, h => by cases h
  | n + 1, t, v1, v2, h => fm_judge_37_ok (fm_judge_l37_ok n) t v1 v2 h
theorem fm_judge_eq : (fun (G183 : List Value → SM → OR) (G206 : List Value → SM → OR) (G213 : List Value → SM → OR) (j37 : SM → Int32 → Int32 → OR) (t : SM) (a : Int32) => ex clN P_226 none bytJ (mkCal rks ((183, G183) :: (206, G206) :: (213, G213) :: [])) [37] (kDisp [(37, kF 0 39 <| kI 1 fun w1 => kI 2 fun w2 => kE fun t => j37 t w1 w2)]) 400 0 [(0, .ref 39), (1, .int a)] [] t) = (fun (G183 : List Value → SM → OR) (G206 : List Value → SM → OR) (G213 : List Value → SM → OR) (j37 : SM → Int32 → Int32 → OR) (t : SM) (a : Int32) =>
  hRecv t 11 39 <| bI (G183 [.ref 39, .int a] t) fun isTown2 t1 =>
  if isTown2 = 0 then rI (-2) t1
  else hGetI t1 11 39 1 fun seen3 =>
    hGetI t1 11 39 2 fun seenSo4 =>
    if (a &&& seen3) = seenSo4 then hRecv t1 11 39 <| bI (G206 [.ref 39, .int a] t1) fun mayBe6 t5 =>
    if mayBe6 = 0 then rI 99 t5
    else j37 t5 a 0
    else rI 99 t1) := by rfl
theorem fm_judge_ok (t : SM) (a : Int32) (h : fm_judge t a = some r) : Body l 5 q_226 P_226 r 0 [(0, .ref 39), (1, .int a)] [] t :=
  blk ft_226 (by omega) rfl rows_226 (KDok.cons (KOK.f <| KOK.i fun w1 => KOK.i fun w2 => KOK.e (f := fun t => fm_judge_l37 1000000 t w1 w2) fun t h => fm_judge_l37_ok 1000000 t w1 w2 h) (KDok.nil)) ((congrFun (congrFun (congrFun (congrFun (congrFun (congrFun (fm_judge_eq) F_183) F_206) F_213) (fun t u1 u2 => fm_judge_l37 1000000 t u1 u2)) t) a).trans h)
theorem ok_226 (l : Launch) : Fok l 5 mtab 226 (F_226) := by
  intro as t r h
  unfold F_226 at h
  split at h
  · rename_i z0 a
    split at h
    · rename_i hz0
      obtain rfl := Nat.eq_of_beq_eq_true hz0
      exact ⟨q_226, rfl, mok_226, con_of (P := P_226) (by decide +kernel) rfl (Nat.le_of_ble_eq_true rfl) (fm_judge_ok t a h)⟩
    · cases h
  · cases h
end
section
set_option maxRecDepth 100000
variable {l : Launch} {r : RR}
def FT_227 : FT := (182, F_182) :: []
theorem ft_227 : FTok l 2 mtab FT_227 := FTok.cons (ok_182 l) (by omega) (FTok.nil)
theorem fm_street_eq : (fun (G182 : List Value → SM → OR) (t : SM) (a : Int32) (b : Int32) (c : Int32) (d : Int32) => ex clN P_227 none bytJ (mkCal rks ((182, G182) :: [])) [] (kDisp []) 400 0 [(0, .ref 39), (1, .int a), (2, .int b), (3, .int c), (4, .int d)] [] t) = (fun (G182 : List Value → SM → OR) (t : SM) (a : Int32) (b : Int32) (c : Int32) (d : Int32) =>
  bI (G182 [.int a, .int 0, .int 5] t) fun in2 t1 =>
  if in2 = 0 then rI (-2) t1
  else bI (G182 [.int b, .int 0, .int 5] t1) fun in4 t3 =>
  if in4 = 0 then rI (-2) t3
  else if a = b then rI (-2) t3
  else hGetI t3 11 39 0 fun choices5 =>
  bI (G182 [.int c, .int (-1), .int (choices5 - 1)] t3) fun in7 t6 =>
  if in7 = 0 then rI (-2) t6
  else bI (G182 [.int d, .int 1, .int 99] t6) fun in9 t8 =>
  if in9 = 0 then rI (-2) t8
  else hGetI t8 11 39 9 fun streets10 =>
    if streets10 = 12 then rI (-4) t8
    else hGetC t8 11 39 10 45 <|
      hGetI t8 11 39 9 fun streets11 =>
      hASt t8 45 streets11 a fun t12 =>
      hGetC t12 11 39 11 46 <|
      hGetI t12 11 39 9 fun streets13 =>
      hASt t12 46 streets13 b fun t14 =>
      hGetC t14 11 39 12 47 <|
      hGetI t14 11 39 9 fun streets15 =>
      hASt t14 47 streets15 c fun t16 =>
      hGetC t16 11 39 13 48 <|
      hGetI t16 11 39 9 fun streets17 =>
      hASt t16 48 streets17 d fun t18 =>
      hGetI t18 11 39 9 fun streets19 =>
      hPutI t18 11 39 9 (streets19 + 1) fun t20 =>
      hGetI t20 11 39 9 fun streets21 =>
      rI (streets21 - 1) t20) := by rfl
theorem fm_street_ok (t : SM) (a : Int32) (b : Int32) (c : Int32) (d : Int32) (h : fm_street t a b c d = some r) : Body l 2 q_227 P_227 r 0 [(0, .ref 39), (1, .int a), (2, .int b), (3, .int c), (4, .int d)] [] t :=
  blk ft_227 (by omega) rfl rows_227 (KDok.nil) ((congrFun (congrFun (congrFun (congrFun (congrFun (congrFun (fm_street_eq) F_182) t) a) b) c) d).trans h)
theorem ok_227 (l : Launch) : Fok l 2 mtab 227 (F_227) := by
  intro as t r h
  unfold F_227 at h
  split at h
  · rename_i z0 a b c d
    split at h
    · rename_i hz0
      obtain rfl := Nat.eq_of_beq_eq_true hz0
      exact ⟨q_227, rfl, mok_227, con_of (P := P_227) (by decide +kernel) rfl (Nat.le_of_ble_eq_true rfl) (fm_street_ok t a b c d h)⟩
    · cases h
  · cases h
end
