section
set_option maxRecDepth 100000
variable {l : Launch} {r : RR}
def FT_51 : FT := (52, F_52) :: (2, F_2) :: (1, F_1) :: (4, F_4) :: (FR 45)
theorem ft_51 : FTok l 55 mtab FT_51 := FTok.cons (ok_52 l) (by omega) (FTok.cons (ok_2 l) (by omega) (FTok.cons (ok_1 l) (by omega) (FTok.cons (ok_4 l) (by omega) (FR_tok 55 (by omega)))))
theorem fRd_clause_eq : (fun (R : FT) (G52 : List Value → SM → OR) (G2 : List Value → SM → OR) (G1 : List Value → SM → OR) (G4 : List Value → SM → OR) (t : SM) (a : Int32) => ex clN P_51 none bytJ (mkCal rks ((52, G52) :: (2, G2) :: (1, G1) :: (4, G4) :: R)) [] (kDisp []) 400 0 [(0, .ref 10), (1, .int a)] [] t) = (fun (R : FT) (G52 : List Value → SM → OR) (G2 : List Value → SM → OR) (G1 : List Value → SM → OR) (G4 : List Value → SM → OR) (t : SM) (a : Int32) =>
  hPutI t 4 10 8 0 fun t1 =>
  hRecv t1 4 10 <| bV (G52 [.ref 10, .int a] t1) fun t2 =>
  hRecv t2 4 10 <| bV (atF 55 [.ref 10, .int 0] t2 R) fun t3 =>
  hRecv t3 4 10 <| bV (G52 [.ref 10, .int 59] t3) fun t4 =>
  hGetC t4 4 10 7 12 <|
  hGetI t4 4 10 8 fun codeSize5 =>
  bI (G2 [.int codeSize5, .int 160] t4) fun min7 t6 =>
  bI (G1 [.int 0, .int min7] t6) fun max9 t8 =>
  bQ (G4 [.ref 12, .int max9] t8) (fun t10 => rN t10) fun q11 t10 =>
  rR q11 t10) := by rfl
theorem fRd_clause_ok (t : SM) (a : Int32) (h : fRd_clause t a = some r) : Body l 55 q_51 P_51 r 0 [(0, .ref 10), (1, .int a)] [] t :=
  blk ft_51 (by omega) rfl rows_51 (KDok.nil) ((congrFun (congrFun (congrFun (congrFun (congrFun (congrFun (congrFun (fRd_clause_eq) (FR 45)) F_52) F_2) F_1) F_4) t) a).trans h)
theorem ok_51 (l : Launch) : Fok l 55 mtab 51 (F_51) := by
  intro as t r h
  unfold F_51 at h
  split at h
  · rename_i z0 a
    split at h
    · rename_i hz0
      obtain rfl := Nat.eq_of_beq_eq_true hz0
      exact ⟨q_51, rfl, mok_51, con_of (P := P_51) (by decide +kernel) rfl (Nat.le_of_ble_eq_true rfl) (fRd_clause_ok t a h)⟩
    · cases h
  · cases h
end
section
set_option maxRecDepth 100000
variable {l : Launch} {r : RR}
def FT_95 : FT := []
theorem ft_95 : FTok l 1 mtab FT_95 := FTok.nil
theorem fTx_push_eq : (fun (t : SM) (o : Nat) (a : Int32) => ex clN P_95 none bytJ (mkCal rks ([])) [] (kDisp []) 400 0 [(0, .ref o), (1, .int a)] [] t) = (fun (t : SM) (o : Nat) (a : Int32) =>
  hGetI t 8 o 4 fun height1 =>
  if height1 < 0 then rV t
  else hGetI t 8 o 4 fun height2 =>
  hGetR t 8 o 3 (none) fun stack3 =>
  hALen t stack3 fun n4 =>
  if n4 ≤ height2 then rV t
  else hGetR t 8 o 3 (hGetI t 8 o 4 fun height6 =>
    none) fun stack5 =>
  hGetI t 8 o 4 fun height8 =>
  hASt t stack5 height8 a fun t9 =>
  hGetI t9 8 o 4 fun height10 =>
  hPutI t9 8 o 4 (height10 + 1) fun t11 =>
  rV t11) := by rfl
theorem fTx_push_ok (t : SM) (o : Nat) (a : Int32) (h : fTx_push t o a = some r) : Body l 1 q_95 P_95 r 0 [(0, .ref o), (1, .int a)] [] t :=
  blk ft_95 (by omega) rfl rows_95 (KDok.nil) ((congrFun (congrFun (congrFun (fTx_push_eq) t) o) a).trans h)
theorem ok_95 (l : Launch) : Fok l 1 mtab 95 (F_95) := by
  intro as t r h
  unfold F_95 at h
  split at h
  · rename_i o a
    exact ⟨q_95, rfl, mok_95, con_of (P := P_95) (by decide +kernel) rfl (Nat.le_of_ble_eq_true rfl) (fTx_push_ok t o a h)⟩
  · cases h
end
section
set_option maxRecDepth 100000
variable {l : Launch} {r : RR}
def FT_96 : FT := []
theorem ft_96 : FTok l 1 mtab FT_96 := FTok.nil
theorem fTx_pop_eq : (fun (t : SM) (o : Nat) => ex clN P_96 none bytJ (mkCal rks ([])) [] (kDisp []) 400 0 [(0, .ref o)] [] t) = (fun (t : SM) (o : Nat) =>
  hGetI t 8 o 4 fun height1 =>
  if height1 < 1 then rI 0 t
  else hGetI t 8 o 4 fun height2 =>
  hGetR t 8 o 3 (none) fun stack3 =>
  hALen t stack3 fun n4 =>
  if height2 ≤ n4 then hGetI t 8 o 4 fun height5 =>
    hPutI t 8 o 4 (height5 - 1) fun t6 =>
    hGetR t6 8 o 3 (hGetI t6 8 o 4 fun height8 =>
      none) fun stack7 =>
    hGetI t6 8 o 4 fun height10 =>
    hALd t6 stack7 height10 fun e11 =>
    rI e11 t6
  else rI 0 t) := by rfl
theorem fTx_pop_ok (t : SM) (o : Nat) (h : fTx_pop t o = some r) : Body l 1 q_96 P_96 r 0 [(0, .ref o)] [] t :=
  blk ft_96 (by omega) rfl rows_96 (KDok.nil) ((congrFun (congrFun (fTx_pop_eq) t) o).trans h)
theorem ok_96 (l : Launch) : Fok l 1 mtab 96 (F_96) := by
  intro as t r h
  unfold F_96 at h
  split at h
  · rename_i o
    exact ⟨q_96, rfl, mok_96, con_of (P := P_96) (by decide +kernel) rfl (Nat.le_of_ble_eq_true rfl) (fTx_pop_ok t o h)⟩
  · cases h
end
section
set_option maxRecDepth 100000
variable {l : Launch} {r : RR}
def FT_94 : FT := []
theorem ft_94 : FTok l 1 mtab FT_94 := FTok.nil
theorem fTx_joined_eq : (fun (t : SM) (a : Int32) (b : Int32) (c : Int32) => ex clN P_94 none bytJ (mkCal rks ([])) [] (kDisp []) 400 0 [(0, .int a), (1, .int b), (2, .int c)] [] t) = (fun (t : SM) (a : Int32) (b : Int32) (c : Int32) =>
  if a = (-8) then if b = 0 then rI 0 t
    else if c = 0 then rI 0 t
    else rI 1 t
  else if a = (-7) then if b = c then rI 1 t
    else rI 0 t
  else if a = (-6) then if c ≤ b then rI 0 t
    else rI 1 t
  else if a = (-5) then rI (b - c) t
  else if a = (-4) then rI (b + c) t
  else if a = (-3) then rI (b * c) t
  else if b = 0 then if c = 0 then rI 0 t
  else rI 1 t
  else rI 1 t) := by rfl
theorem fTx_joined_ok (t : SM) (a : Int32) (b : Int32) (c : Int32) (h : fTx_joined t a b c = some r) : Body l 1 q_94 P_94 r 0 [(0, .int a), (1, .int b), (2, .int c)] [] t :=
  blk ft_94 (by omega) rfl rows_94 (KDok.nil) ((congrFun (congrFun (congrFun (congrFun (fTx_joined_eq) t) a) b) c).trans h)
theorem ok_94 (l : Launch) : Fok l 1 mtab 94 (F_94) := by
  intro as t r h
  unfold F_94 at h
  split at h
  · rename_i a b c
    exact ⟨q_94, rfl, mok_94, con_of (P := P_94) (by decide +kernel) rfl (Nat.le_of_ble_eq_true rfl) (fTx_joined_ok t a b c h)⟩
  · cases h
end
section
set_option maxRecDepth 100000
variable {l : Launch} {r : RR}
def FT_93 : FT := (95, F_95) :: (96, F_96) :: (94, F_94) :: []
theorem ft_93 : FTok l 2 mtab FT_93 := FTok.cons (ok_95 l) (by omega) (FTok.cons (ok_96 l) (by omega) (FTok.cons (ok_94 l) (by omega) (FTok.nil)))
theorem fTx_valueOf_152_eq : (fun (G95 : List Value → SM → OR) (G96 : List Value → SM → OR) (G94 : List Value → SM → OR) (t : SM) (v0 : Nat) => ex clN P_93 none bytJ (mkCal rks ((95, G95) :: (96, G96) :: (94, G94) :: [])) [] (kDisp []) 400 152 [(0, .ref v0)] [] t) = (fun (G95 : List Value → SM → OR) (G96 : List Value → SM → OR) (G94 : List Value → SM → OR) (t : SM) (v0 : Nat) =>
  hRecv t 8 v0 <| bI (G96 [.ref v0] t) fun pop2 t1 =>
  rI pop2 t1) := by rfl
theorem fTx_valueOf_152_ok (t : SM) (v0 : Nat) (h : fTx_valueOf_152 t v0 = some r) : Body l 2 q_93 P_93 r 152 [(0, .ref v0)] [] t :=
  blk ft_93 (by omega) rfl rows_93 (KDok.nil) ((congrFun (congrFun (congrFun (congrFun (congrFun (fTx_valueOf_152_eq) F_95) F_96) F_94) t) v0).trans h)
theorem fTx_valueOf_8_eq : (fun (G95 : List Value → SM → OR) (G96 : List Value → SM → OR) (G94 : List Value → SM → OR) (j8 : SM → Nat → Nat → Int32 → Int32 → Int32 → Int32 → OR) (j152 : SM → Nat → OR) (t : SM) (v0 : Nat) (v1 : Nat) (v2 : Int32) (v3 : Int32) (v4 : Int32) (v5 : Int32) => ex clN P_93 none bytJ (mkCal rks ((95, G95) :: (96, G96) :: (94, G94) :: [])) [8, 152] (kDisp [(8, kR 0 fun w0 => kR 1 fun w1 => kI 2 fun w2 => kI 3 fun w3 => kI 4 fun w4 => kI 5 fun w5 => kE fun t => j8 t w0 w1 w2 w3 w4 w5), (152, kR 0 fun w0 => kE fun t => j152 t w0)]) 400 8 [(5, .int v5), (4, .int v4), (3, .int v3), (2, .int v2), (1, .ref v1), (0, .ref v0)] [] t) = (fun (G95 : List Value → SM → OR) (G96 : List Value → SM → OR) (G94 : List Value → SM → OR) (j8 : SM → Nat → Nat → Int32 → Int32 → Int32 → Int32 → OR) (j152 : SM → Nat → OR) (t : SM) (v0 : Nat) (v1 : Nat) (v2 : Int32) (v3 : Int32) (v4 : Int32) (v5 : Int32) =>
  hALen t v1 fun n1 =>
  if n1 ≤ v5 then j152 t v0
  else hALd t v1 v5 fun e2 =>
  if e2 < 0 then if (-20) < e2 then if e2 = (-1) then hRecv t 8 v0 <| bI (G96 [.ref v0] t) fun pop15 t14 =>
      hRecv t14 8 v0 <| bV (G95 [.ref v0, .int (-pop15)] t14) fun t16 =>
      j8 t16 v0 v1 v2 v3 v4 (v5 + 1)
      else if e2 = (-2) then hRecv t 8 v0 <| bI (G96 [.ref v0] t) fun pop11 t10 =>
        if pop11 = 0 then hRecv t10 8 v0 <| bV (G95 [.ref v0, .int 1] t10) fun t13 =>
        j8 t13 v0 v1 v2 v3 v4 (v5 + 1)
        else hRecv t10 8 v0 <| bV (G95 [.ref v0, .int 0] t10) fun t12 =>
          j8 t12 v0 v1 v2 v3 v4 (v5 + 1)
        else hRecv t 8 v0 <| bI (G96 [.ref v0] t) fun pop4 t3 =>
          hRecv t3 8 v0 <| bI (G96 [.ref v0] t3) fun pop6 t5 =>
          bI (G94 [.int e2, .int pop6, .int pop4] t5) fun joined8 t7 =>
          hRecv t7 8 v0 <| bV (G95 [.ref v0, .int joined8] t7) fun t9 =>
          j8 t9 v0 v1 v2 v3 v4 (v5 + 1)
    else if e2 = (-24) then hRecv t 8 v0 <| bV (G95 [.ref v0, .int v3] t) fun t19 =>
    j8 t19 v0 v1 v2 v3 v4 (v5 + 1)
    else if e2 = (-25) then hRecv t 8 v0 <| bV (G95 [.ref v0, .int v4] t) fun t18 =>
      j8 t18 v0 v1 v2 v3 v4 (v5 + 1)
      else hRecv t 8 v0 <| bV (G95 [.ref v0, .int ((v2 >>> (((-20) - e2) &&& 31)) &&& 1)] t) fun t17 =>
        j8 t17 v0 v1 v2 v3 v4 (v5 + 1)
  else hRecv t 8 v0 <| bV (G95 [.ref v0, .int e2] t) fun t20 =>
  j8 t20 v0 v1 v2 v3 v4 (v5 + 1)) := by rfl
theorem fTx_valueOf_8_ok {k152 : SM → Nat → OR} {r8 : SM → Nat → Nat → Int32 → Int32 → Int32 → Int32 → OR} (h_k152 : ∀ (t : SM) (v0 : Nat), k152 t v0 = some r → Body l 2 q_93 P_93 r 152 [(0, .ref v0)] [] t) (h_r8 : ∀ (t : SM) (v0 : Nat) (v1 : Nat) (v2 : Int32) (v3 : Int32) (v4 : Int32) (v5 : Int32), r8 t v0 v1 v2 v3 v4 v5 = some r → Body l 2 q_93 P_93 r 8 [(5, .int v5), (4, .int v4), (3, .int v3), (2, .int v2), (1, .ref v1), (0, .ref v0)] [] t) (t : SM) (v0 : Nat) (v1 : Nat) (v2 : Int32) (v3 : Int32) (v4 : Int32) (v5 : Int32) (h : fTx_valueOf_8 k152 r8 t v0 v1 v2 v3 v4 v5 = some r) : Body l 2 q_93 P_93 r 8 [(5, .int v5), (4, .int v4), (3, .int v3), (2, .int v2), (1, .ref v1), (0, .ref v0)] [] t :=
  blk ft_93 (by omega) rfl rows_93 (KDok.cons (KOK.rf fun w0 => KOK.rf fun w1 => KOK.i fun w2 => KOK.i fun w3 => KOK.i fun w4 => KOK.i fun w5 => KOK.e (f := fun t => r8 t w0 w1 w2 w3 w4 w5) fun t h => h_r8 t w0 w1 w2 w3 w4 w5 h) (KDok.cons (KOK.rf fun w0 => KOK.e (f := fun t => k152 t w0) fun t h => h_k152 t w0 h) (KDok.nil))) ((congrFun (congrFun (congrFun (congrFun (congrFun (congrFun (congrFun (congrFun (congrFun (congrFun (congrFun (congrFun (fTx_valueOf_8_eq) F_95) F_96) F_94) (fun t u0 u1 u2 u3 u4 u5 => r8 t u0 u1 u2 u3 u4 u5)) (fun t u0 => k152 t u0)) t) v0) v1) v2) v3) v4) v5).trans h)
theorem fTx_valueOf_l8_ok {k152 : SM → Nat → OR} (h_k152 : ∀ (t : SM) (v0 : Nat), k152 t v0 = some r → Body l 2 q_93 P_93 r 152 [(0, .ref v0)] [] t) : ∀ (n : Nat) (t : SM) (v0 : Nat) (v1 : Nat) (v2 : Int32) (v3 : Int32) (v4 : Int32) (v5 : Int32), fTx_valueOf_l8 k152 n t v0 v1 v2 v3 v4 v5 = some r → Body l 2 q_93 P_93 r 8 [(5, .int v5), (4, .int v4), (3, .int v3), (2, .int v2), (1, .ref v1), (0, .ref v0)] [] t
  | 0, _, _, _, _, _, _, _, h => by cases h
  | n + 1, t, v0, v1, v2, v3, v4, v5, h => fTx_valueOf_8_ok h_k152 (fTx_valueOf_l8_ok h_k152 n) t v0 v1 v2 v3 v4 v5 h
theorem fTx_valueOf_eq : (fun (G95 : List Value → SM → OR) (G96 : List Value → SM → OR) (G94 : List Value → SM → OR) (j8 : SM → Nat → Nat → Int32 → Int32 → Int32 → Int32 → OR) (t : SM) (o : Nat) (a : Nat) (b : Int32) (c : Int32) (d : Int32) => ex clN P_93 none bytJ (mkCal rks ((95, G95) :: (96, G96) :: (94, G94) :: [])) [8] (kDisp [(8, kR 0 fun w0 => kR 1 fun w1 => kI 2 fun w2 => kI 3 fun w3 => kI 4 fun w4 => kI 5 fun w5 => kE fun t => j8 t w0 w1 w2 w3 w4 w5)]) 400 0 [(0, .ref o), (1, .ref a), (2, .int b), (3, .int c), (4, .int d)] [] t) = (fun (G95 : List Value → SM → OR) (G96 : List Value → SM → OR) (G94 : List Value → SM → OR) (j8 : SM → Nat → Nat → Int32 → Int32 → Int32 → Int32 → OR) (t : SM) (o : Nat) (a : Nat) (b : Int32) (c : Int32) (d : Int32) =>
  hPutI t 8 o 4 0 fun t1 =>
  j8 t1 o a b c d 0) := by rfl
theorem fTx_valueOf_ok (t : SM) (o : Nat) (a : Nat) (b : Int32) (c : Int32) (d : Int32) (h : fTx_valueOf t o a b c d = some r) : Body l 2 q_93 P_93 r 0 [(0, .ref o), (1, .ref a), (2, .int b), (3, .int c), (4, .int d)] [] t :=
  blk ft_93 (by omega) rfl rows_93 (KDok.cons (KOK.rf fun w0 => KOK.rf fun w1 => KOK.i fun w2 => KOK.i fun w3 => KOK.i fun w4 => KOK.i fun w5 => KOK.e (f := fun t => fTx_valueOf_l8 (fun t u0 => fTx_valueOf_152 t u0) 1000000 t w0 w1 w2 w3 w4 w5) fun t h => fTx_valueOf_l8_ok (k152 := fun t u0 => fTx_valueOf_152 t u0) (fun t u0 h => fTx_valueOf_152_ok t u0 h) 1000000 t w0 w1 w2 w3 w4 w5 h) (KDok.nil)) ((congrFun (congrFun (congrFun (congrFun (congrFun (congrFun (congrFun (congrFun (congrFun (congrFun (fTx_valueOf_eq) F_95) F_96) F_94) (fun t u0 u1 u2 u3 u4 u5 => fTx_valueOf_l8 (fun t u0 => fTx_valueOf_152 t u0) 1000000 t u0 u1 u2 u3 u4 u5)) t) o) a) b) c) d).trans h)
theorem ok_93 (l : Launch) : Fok l 2 mtab 93 (F_93) := by
  intro as t r h
  unfold F_93 at h
  split at h
  · rename_i o a b c d
    exact ⟨q_93, rfl, mok_93, con_of (P := P_93) (by decide +kernel) rfl (Nat.le_of_ble_eq_true rfl) (fTx_valueOf_ok t o a b c d h)⟩
  · cases h
end
section
set_option maxRecDepth 100000
variable {l : Launch} {r : RR}
def FT_89 : FT := (93, F_93) :: []
theorem ft_89 : FTok l 3 mtab FT_89 := FTok.cons (ok_93 l) (by omega) (FTok.nil)
theorem fTx_init_72_eq : (fun (G93 : List Value → SM → OR) (t : SM) (v0 : Nat) (v4 : Int32) => ex clN P_89 none bytJ (mkCal rks ((93, G93) :: [])) [] (kDisp []) 400 72 [(4, .int v4), (0, .ref v0)] [] t) = (fun (G93 : List Value → SM → OR) (t : SM) (v0 : Nat) (v4 : Int32) =>
  hPutI t 8 v0 5 v4 fun t1 =>
  rV t1) := by rfl
theorem fTx_init_72_ok (t : SM) (v0 : Nat) (v4 : Int32) (h : fTx_init_72 t v0 v4 = some r) : Body l 3 q_89 P_89 r 72 [(4, .int v4), (0, .ref v0)] [] t :=
  blk ft_89 (by omega) rfl rows_89 (KDok.nil) ((congrFun (congrFun (congrFun (congrFun (fTx_init_72_eq) F_93) t) v0) v4).trans h)
theorem fTx_init_34_eq : (fun (G93 : List Value → SM → OR) (j34 : SM → Nat → Nat → Int32 → Int32 → OR) (j72 : SM → Nat → Int32 → OR) (t : SM) (v0 : Nat) (v1 : Nat) (v4 : Int32) (v5 : Int32) => ex clN P_89 none bytJ (mkCal rks ((93, G93) :: [])) [34, 72] (kDisp [(34, kR 0 fun w0 => kR 1 fun w1 => kI 4 fun w4 => kI 5 fun w5 => kE fun t => j34 t w0 w1 w4 w5), (72, kR 0 fun w0 => kI 4 fun w4 => kE fun t => j72 t w0 w4)]) 400 34 [(5, .int v5), (4, .int v4), (1, .ref v1), (0, .ref v0)] [] t) = (fun (G93 : List Value → SM → OR) (j34 : SM → Nat → Nat → Int32 → Int32 → OR) (j72 : SM → Nat → Int32 → OR) (t : SM) (v0 : Nat) (v1 : Nat) (v4 : Int32) (v5 : Int32) =>
  if 16 ≤ v5 then j72 t v0 v4
  else hRecv t 8 v0 <| bI (G93 [.ref v0, .ref v1, .int v5, .int 0, .int 0] t) fun valueOf2 t1 =>
  if valueOf2 = 0 then j34 t1 v0 v1 (v4 ||| 0) (v5 + 1)
  else j34 t1 v0 v1 (v4 ||| ((1 : Int32) <<< (v5 &&& 31))) (v5 + 1)) := by rfl
theorem fTx_init_34_ok {k72 : SM → Nat → Int32 → OR} {r34 : SM → Nat → Nat → Int32 → Int32 → OR} (h_k72 : ∀ (t : SM) (v0 : Nat) (v4 : Int32), k72 t v0 v4 = some r → Body l 3 q_89 P_89 r 72 [(4, .int v4), (0, .ref v0)] [] t) (h_r34 : ∀ (t : SM) (v0 : Nat) (v1 : Nat) (v4 : Int32) (v5 : Int32), r34 t v0 v1 v4 v5 = some r → Body l 3 q_89 P_89 r 34 [(5, .int v5), (4, .int v4), (1, .ref v1), (0, .ref v0)] [] t) (t : SM) (v0 : Nat) (v1 : Nat) (v4 : Int32) (v5 : Int32) (h : fTx_init_34 k72 r34 t v0 v1 v4 v5 = some r) : Body l 3 q_89 P_89 r 34 [(5, .int v5), (4, .int v4), (1, .ref v1), (0, .ref v0)] [] t :=
  blk ft_89 (by omega) rfl rows_89 (KDok.cons (KOK.rf fun w0 => KOK.rf fun w1 => KOK.i fun w4 => KOK.i fun w5 => KOK.e (f := fun t => r34 t w0 w1 w4 w5) fun t h => h_r34 t w0 w1 w4 w5 h) (KDok.cons (KOK.rf fun w0 => KOK.i fun w4 => KOK.e (f := fun t => k72 t w0 w4) fun t h => h_k72 t w0 w4 h) (KDok.nil))) ((congrFun (congrFun (congrFun (congrFun (congrFun (congrFun (congrFun (congrFun (fTx_init_34_eq) F_93) (fun t u0 u1 u4 u5 => r34 t u0 u1 u4 u5)) (fun t u0 u4 => k72 t u0 u4)) t) v0) v1) v4) v5).trans h)
theorem fTx_init_l34_ok {k72 : SM → Nat → Int32 → OR} (h_k72 : ∀ (t : SM) (v0 : Nat) (v4 : Int32), k72 t v0 v4 = some r → Body l 3 q_89 P_89 r 72 [(4, .int v4), (0, .ref v0)] [] t) : ∀ (n : Nat) (t : SM) (v0 : Nat) (v1 : Nat) (v4 : Int32) (v5 : Int32), fTx_init_l34 k72 n t v0 v1 v4 v5 = some r → Body l 3 q_89 P_89 r 34 [(5, .int v5), (4, .int v4), (1, .ref v1), (0, .ref v0)] [] t
  | 0, _, _, _, _, _, h => by cases h
  | n + 1, t, v0, v1, v4, v5, h => fTx_init_34_ok h_k72 (fTx_init_l34_ok h_k72 n) t v0 v1 v4 v5 h
theorem fTx_init_eq : (fun (G93 : List Value → SM → OR) (j34 : SM → Nat → Nat → Int32 → Int32 → OR) (t : SM) (o : Nat) (a : Nat) (b : Nat) (c : Nat) => ex clN P_89 none bytJ (mkCal rks ((93, G93) :: [])) [34] (kDisp [(34, kR 0 fun w0 => kR 1 fun w1 => kI 4 fun w4 => kI 5 fun w5 => kE fun t => j34 t w0 w1 w4 w5)]) 400 0 [(0, .ref o), (1, .ref a), (2, .ref b), (3, .ref c)] [] t) = (fun (G93 : List Value → SM → OR) (j34 : SM → Nat → Nat → Int32 → Int32 → OR) (t : SM) (o : Nat) (a : Nat) (b : Nat) (c : Nat) =>
  hNewA t 20 160 fun q1 t2 =>
  hPutR t2 8 o 3 (some q1) fun t3 =>
  hPutR t3 8 o 0 (some a) fun t4 =>
  hPutR t4 8 o 1 (some b) fun t5 =>
  hPutR t5 8 o 2 (some c) fun t6 =>
  j34 t6 o a 0 0) := by rfl
theorem fTx_init_ok (t : SM) (o : Nat) (a : Nat) (b : Nat) (c : Nat) (h : fTx_init t o a b c = some r) : Body l 3 q_89 P_89 r 0 [(0, .ref o), (1, .ref a), (2, .ref b), (3, .ref c)] [] t :=
  blk ft_89 (by omega) rfl rows_89 (KDok.cons (KOK.rf fun w0 => KOK.rf fun w1 => KOK.i fun w4 => KOK.i fun w5 => KOK.e (f := fun t => fTx_init_l34 (fun t u0 u4 => fTx_init_72 t u0 u4) 1000000 t w0 w1 w4 w5) fun t h => fTx_init_l34_ok (k72 := fun t u0 u4 => fTx_init_72 t u0 u4) (fun t u0 u4 h => fTx_init_72_ok t u0 u4 h) 1000000 t w0 w1 w4 w5 h) (KDok.nil)) ((congrFun (congrFun (congrFun (congrFun (congrFun (congrFun (congrFun (fTx_init_eq) F_93) (fun t u0 u1 u4 u5 => fTx_init_l34 (fun t u0 u4 => fTx_init_72 t u0 u4) 1000000 t u0 u1 u4 u5)) t) o) a) b) c).trans h)
theorem ok_89 (l : Launch) : Fok l 3 mtab 89 (F_89) := by
  intro as t r h
  unfold F_89 at h
  split at h
  · rename_i o a b c
    exact ⟨q_89, rfl, mok_89, con_of (P := P_89) (by decide +kernel) rfl (Nat.le_of_ble_eq_true rfl) (fTx_init_ok t o a b c h)⟩
  · cases h
end
section
set_option maxRecDepth 100000
variable {l : Launch} {r : RR}
def FT_50 : FT := (61, F_61) :: (51, F_51) :: (53, F_53) :: (89, F_89) :: []
theorem ft_50 : FTok l 56 mtab FT_50 := FTok.cons (ok_61 l) (by omega) (FTok.cons (ok_51 l) (by omega) (FTok.cons (ok_53 l) (by omega) (FTok.cons (ok_89 l) (by omega) (FTok.nil))))
theorem fRd_readText_eq : (fun (G61 : List Value → SM → OR) (G51 : List Value → SM → OR) (G53 : List Value → SM → OR) (G89 : List Value → SM → OR) (t : SM) => ex clN P_50 none bytJ (mkCal rks ((61, G61) :: (51, G51) :: (53, G53) :: (89, G89) :: [])) [] (kDisp []) 400 0 [(0, .ref 10)] [] t) = (fun (G61 : List Value → SM → OR) (G51 : List Value → SM → OR) (G53 : List Value → SM → OR) (G89 : List Value → SM → OR) (t : SM) =>
  hPutI t 4 10 3 0 fun t1 =>
  hPutI t1 4 10 2 (-1) fun t2 =>
  hRecv t2 4 10 <| bV (G61 [.ref 10] t2) fun t3 =>
  hRecv t3 4 10 <| bQ (G51 [.ref 10, .int 300] t3) (fun t4 => hRecv t4 4 10 <| bQ (G51 [.ref 10, .int 301] t4) (fun t6 => hRecv t6 4 10 <| bQ (G51 [.ref 10, .int 302] t6) (fun t8 => hGetI t8 4 10 4 fun token10 =>
        if token10 = 256 then hGetI t8 4 10 2 fun fault11 =>
          if fault11 < 0 then hNew t8 8 6 fun q12 t13 =>
            hRecv t13 8 q12 <| bV (G89 [.ref q12, .null, .null, .null] t13) fun t14 =>
            rR q12 t14
          else rN t8
        else hRecv t8 4 10 <| bV (G53 [.ref 10] t8) fun t15 =>
        hGetI t15 4 10 2 fun fault16 =>
        if fault16 < 0 then hNew t15 8 6 fun q17 t18 =>
          hRecv t18 8 q17 <| bV (G89 [.ref q17, .null, .null, .null] t18) fun t19 =>
          rR q17 t19
        else rN t15) fun q9 t8 =>
      hGetI t8 4 10 4 fun token20 =>
      if token20 = 256 then hGetI t8 4 10 2 fun fault21 =>
        if fault21 < 0 then hNew t8 8 6 fun q22 t23 =>
          hRecv t23 8 q22 <| bV (G89 [.ref q22, .null, .null, .ref q9] t23) fun t24 =>
          rR q22 t24
        else rN t8
      else hRecv t8 4 10 <| bV (G53 [.ref 10] t8) fun t25 =>
      hGetI t25 4 10 2 fun fault26 =>
      if fault26 < 0 then hNew t25 8 6 fun q27 t28 =>
        hRecv t28 8 q27 <| bV (G89 [.ref q27, .null, .null, .ref q9] t28) fun t29 =>
        rR q27 t29
      else rN t25) fun q7 t6 =>
    hRecv t6 4 10 <| bQ (G51 [.ref 10, .int 302] t6) (fun t30 => hGetI t30 4 10 4 fun token32 =>
      if token32 = 256 then hGetI t30 4 10 2 fun fault33 =>
        if fault33 < 0 then hNew t30 8 6 fun q34 t35 =>
          hRecv t35 8 q34 <| bV (G89 [.ref q34, .null, .ref q7, .null] t35) fun t36 =>
          rR q34 t36
        else rN t30
      else hRecv t30 4 10 <| bV (G53 [.ref 10] t30) fun t37 =>
      hGetI t37 4 10 2 fun fault38 =>
      if fault38 < 0 then hNew t37 8 6 fun q39 t40 =>
        hRecv t40 8 q39 <| bV (G89 [.ref q39, .null, .ref q7, .null] t40) fun t41 =>
        rR q39 t41
      else rN t37) fun q31 t30 =>
    hGetI t30 4 10 4 fun token42 =>
    if token42 = 256 then hGetI t30 4 10 2 fun fault43 =>
      if fault43 < 0 then hNew t30 8 6 fun q44 t45 =>
        hRecv t45 8 q44 <| bV (G89 [.ref q44, .null, .ref q7, .ref q31] t45) fun t46 =>
        rR q44 t46
      else rN t30
    else hRecv t30 4 10 <| bV (G53 [.ref 10] t30) fun t47 =>
    hGetI t47 4 10 2 fun fault48 =>
    if fault48 < 0 then hNew t47 8 6 fun q49 t50 =>
      hRecv t50 8 q49 <| bV (G89 [.ref q49, .null, .ref q7, .ref q31] t50) fun t51 =>
      rR q49 t51
    else rN t47) fun q5 t4 =>
  hRecv t4 4 10 <| bQ (G51 [.ref 10, .int 301] t4) (fun t52 => hRecv t52 4 10 <| bQ (G51 [.ref 10, .int 302] t52) (fun t54 => hGetI t54 4 10 4 fun token56 =>
      if token56 = 256 then hGetI t54 4 10 2 fun fault57 =>
        if fault57 < 0 then hNew t54 8 6 fun q58 t59 =>
          hRecv t59 8 q58 <| bV (G89 [.ref q58, .ref q5, .null, .null] t59) fun t60 =>
          rR q58 t60
        else rN t54
      else hRecv t54 4 10 <| bV (G53 [.ref 10] t54) fun t61 =>
      hGetI t61 4 10 2 fun fault62 =>
      if fault62 < 0 then hNew t61 8 6 fun q63 t64 =>
        hRecv t64 8 q63 <| bV (G89 [.ref q63, .ref q5, .null, .null] t64) fun t65 =>
        rR q63 t65
      else rN t61) fun q55 t54 =>
    hGetI t54 4 10 4 fun token66 =>
    if token66 = 256 then hGetI t54 4 10 2 fun fault67 =>
      if fault67 < 0 then hNew t54 8 6 fun q68 t69 =>
        hRecv t69 8 q68 <| bV (G89 [.ref q68, .ref q5, .null, .ref q55] t69) fun t70 =>
        rR q68 t70
      else rN t54
    else hRecv t54 4 10 <| bV (G53 [.ref 10] t54) fun t71 =>
    hGetI t71 4 10 2 fun fault72 =>
    if fault72 < 0 then hNew t71 8 6 fun q73 t74 =>
      hRecv t74 8 q73 <| bV (G89 [.ref q73, .ref q5, .null, .ref q55] t74) fun t75 =>
      rR q73 t75
    else rN t71) fun q53 t52 =>
  hRecv t52 4 10 <| bQ (G51 [.ref 10, .int 302] t52) (fun t76 => hGetI t76 4 10 4 fun token78 =>
    if token78 = 256 then hGetI t76 4 10 2 fun fault79 =>
      if fault79 < 0 then hNew t76 8 6 fun q80 t81 =>
        hRecv t81 8 q80 <| bV (G89 [.ref q80, .ref q5, .ref q53, .null] t81) fun t82 =>
        rR q80 t82
      else rN t76
    else hRecv t76 4 10 <| bV (G53 [.ref 10] t76) fun t83 =>
    hGetI t83 4 10 2 fun fault84 =>
    if fault84 < 0 then hNew t83 8 6 fun q85 t86 =>
      hRecv t86 8 q85 <| bV (G89 [.ref q85, .ref q5, .ref q53, .null] t86) fun t87 =>
      rR q85 t87
    else rN t83) fun q77 t76 =>
  hGetI t76 4 10 4 fun token88 =>
  if token88 = 256 then hGetI t76 4 10 2 fun fault89 =>
    if fault89 < 0 then hNew t76 8 6 fun q90 t91 =>
      hRecv t91 8 q90 <| bV (G89 [.ref q90, .ref q5, .ref q53, .ref q77] t91) fun t92 =>
      rR q90 t92
    else rN t76
  else hRecv t76 4 10 <| bV (G53 [.ref 10] t76) fun t93 =>
  hGetI t93 4 10 2 fun fault94 =>
  if fault94 < 0 then hNew t93 8 6 fun q95 t96 =>
    hRecv t96 8 q95 <| bV (G89 [.ref q95, .ref q5, .ref q53, .ref q77] t96) fun t97 =>
    rR q95 t97
  else rN t93) := by rfl
theorem fRd_readText_ok (t : SM) (h : fRd_readText t = some r) : Body l 56 q_50 P_50 r 0 [(0, .ref 10)] [] t :=
  blk ft_50 (by omega) rfl rows_50 (KDok.nil) ((congrFun (congrFun (congrFun (congrFun (congrFun (fRd_readText_eq) F_61) F_51) F_53) F_89) t).trans h)
theorem ok_50 (l : Launch) : Fok l 56 mtab 50 (F_50) := by
  intro as t r h
  unfold F_50 at h
  split at h
  · rename_i z0
    split at h
    · rename_i hz0
      obtain rfl := Nat.eq_of_beq_eq_true hz0
      exact ⟨q_50, rfl, mok_50, con_of (P := P_50) (by decide +kernel) rfl (Nat.le_of_ble_eq_true rfl) (fRd_readText_ok t h)⟩
    · cases h
  · cases h
end
section
set_option maxRecDepth 100000
variable {l : Launch} {r : RR}
def FT_70 : FT := []
theorem ft_70 : FTok l 1 mtab FT_70 := FTok.nil
theorem fSh_init_eq : (fun (t : SM) (o : Nat) => ex clN P_70 none bytJ (mkCal rks ([])) [] (kDisp []) 400 0 [(0, .ref o)] [] t) = (fun (t : SM) (o : Nat) =>
  hPutI t 5 o 0 (-1) fun t1 =>
  hNewA t1 20 40 fun q2 t3 =>
  hPutR t3 5 o 2 (some q2) fun t4 =>
  rV t4) := by rfl
theorem fSh_init_ok (t : SM) (o : Nat) (h : fSh_init t o = some r) : Body l 1 q_70 P_70 r 0 [(0, .ref o)] [] t :=
  blk ft_70 (by omega) rfl rows_70 (KDok.nil) ((congrFun (congrFun (fSh_init_eq) t) o).trans h)
theorem ok_70 (l : Launch) : Fok l 1 mtab 70 (F_70) := by
  intro as t r h
  unfold F_70 at h
  split at h
  · rename_i o
    exact ⟨q_70, rfl, mok_70, con_of (P := P_70) (by decide +kernel) rfl (Nat.le_of_ble_eq_true rfl) (fSh_init_ok t o h)⟩
  · cases h
end
section
set_option maxRecDepth 100000
variable {l : Launch} {r : RR}
def FT_71 : FT := (3, F_3) :: []
theorem ft_71 : FTok l 2 mtab FT_71 := FTok.cons (ok_3 l) (by omega) (FTok.nil)
theorem fSh_become_eq : (fun (G3 : List Value → SM → OR) (t : SM) (o : Nat) (a : Int32) (b : Int32) => ex clN P_71 none bytJ (mkCal rks ((3, G3) :: [])) [] (kDisp []) 400 0 [(0, .ref o), (1, .int a), (2, .int b)] [] t) = (fun (G3 : List Value → SM → OR) (t : SM) (o : Nat) (a : Int32) (b : Int32) =>
  hPutI t 5 o 0 a fun t1 =>
  hPutI t1 5 o 1 b fun t2 =>
  hGetR t2 5 o 2 (bV (G3 [.null, .int 0] t2) fun t4 =>
    rV t4) fun numbers3 =>
  bV (G3 [.ref numbers3, .int 0] t2) fun t5 =>
  rV t5) := by rfl
theorem fSh_become_ok (t : SM) (o : Nat) (a : Int32) (b : Int32) (h : fSh_become t o a b = some r) : Body l 2 q_71 P_71 r 0 [(0, .ref o), (1, .int a), (2, .int b)] [] t :=
  blk ft_71 (by omega) rfl rows_71 (KDok.nil) ((congrFun (congrFun (congrFun (congrFun (congrFun (fSh_become_eq) F_3) t) o) a) b).trans h)
theorem ok_71 (l : Launch) : Fok l 2 mtab 71 (F_71) := by
  intro as t r h
  unfold F_71 at h
  split at h
  · rename_i o a b
    exact ⟨q_71, rfl, mok_71, con_of (P := P_71) (by decide +kernel) rfl (Nat.le_of_ble_eq_true rfl) (fSh_become_ok t o a b h)⟩
  · cases h
end
section
set_option maxRecDepth 100000
variable {l : Launch} {r : RR}
def FT_72 : FT := []
theorem ft_72 : FTok l 1 mtab FT_72 := FTok.nil
theorem fSh_spans_eq : (fun (t : SM) (o : Nat) (a : Int32) (b : Int32) => ex clN P_72 none bytJ (mkCal rks ([])) [] (kDisp []) 400 0 [(0, .ref o), (1, .int a), (2, .int b)] [] t) = (fun (t : SM) (o : Nat) (a : Int32) (b : Int32) =>
  if a < 0 then rI 0 t
  else hGetI t 5 o 1 fun size1 =>
  if (size1 - b) < a then rI 0 t
  else rI 1 t) := by rfl
theorem fSh_spans_ok (t : SM) (o : Nat) (a : Int32) (b : Int32) (h : fSh_spans t o a b = some r) : Body l 1 q_72 P_72 r 0 [(0, .ref o), (1, .int a), (2, .int b)] [] t :=
  blk ft_72 (by omega) rfl rows_72 (KDok.nil) ((congrFun (congrFun (congrFun (congrFun (fSh_spans_eq) t) o) a) b).trans h)
theorem ok_72 (l : Launch) : Fok l 1 mtab 72 (F_72) := by
  intro as t r h
  unfold F_72 at h
  split at h
  · rename_i o a b
    exact ⟨q_72, rfl, mok_72, con_of (P := P_72) (by decide +kernel) rfl (Nat.le_of_ble_eq_true rfl) (fSh_spans_ok t o a b h)⟩
  · cases h
end
section
set_option maxRecDepth 100000
variable {l : Launch} {r : RR}
def FT_73 : FT := (167, F_167) :: []
theorem ft_73 : FTok l 2 mtab FT_73 := FTok.cons (ok_167 l) (by omega) (FTok.nil)
theorem fSh_write_eq : (fun (G167 : List Value → SM → OR) (t : SM) (o : Nat) (a : Int32) (b : Int32) => ex clN P_73 none bytJ (mkCal rks ((167, G167) :: [])) [] (kDisp []) 400 0 [(0, .ref o), (1, .int a), (2, .int b)] [] t) = (fun (G167 : List Value → SM → OR) (t : SM) (o : Nat) (a : Int32) (b : Int32) =>
  hGetR t 5 o 2 (hGetI t 5 o 0 fun sort2 =>
    if sort2 = 0 then bV (G167 [.null, .int a, .int (Int8.toInt32 (Int32.toInt8 b))] t) fun t6 =>
    rV t6
    else hGetI t 5 o 0 fun sort3 =>
      if sort3 = 1 then bV (G167 [.null, .int a, .int (Int16.toInt32 (Int32.toInt16 b))] t) fun t5 =>
      rV t5
      else bV (G167 [.null, .int a, .int b] t) fun t4 =>
        rV t4) fun numbers1 =>
  hGetI t 5 o 0 fun sort7 =>
  if sort7 = 0 then bV (G167 [.ref numbers1, .int a, .int (Int8.toInt32 (Int32.toInt8 b))] t) fun t11 =>
  rV t11
  else hGetI t 5 o 0 fun sort8 =>
    if sort8 = 1 then bV (G167 [.ref numbers1, .int a, .int (Int16.toInt32 (Int32.toInt16 b))] t) fun t10 =>
    rV t10
    else bV (G167 [.ref numbers1, .int a, .int b] t) fun t9 =>
      rV t9) := by rfl
theorem fSh_write_ok (t : SM) (o : Nat) (a : Int32) (b : Int32) (h : fSh_write t o a b = some r) : Body l 2 q_73 P_73 r 0 [(0, .ref o), (1, .int a), (2, .int b)] [] t :=
  blk ft_73 (by omega) rfl rows_73 (KDok.nil) ((congrFun (congrFun (congrFun (congrFun (congrFun (fSh_write_eq) F_167) t) o) a) b).trans h)
theorem ok_73 (l : Launch) : Fok l 2 mtab 73 (F_73) := by
  intro as t r h
  unfold F_73 at h
  split at h
  · rename_i o a b
    exact ⟨q_73, rfl, mok_73, con_of (P := P_73) (by decide +kernel) rfl (Nat.le_of_ble_eq_true rfl) (fSh_write_ok t o a b h)⟩
  · cases h
end
section
set_option maxRecDepth 100000
variable {l : Launch} {r : RR}
def FT_74 : FT := (166, F_166) :: []
theorem ft_74 : FTok l 2 mtab FT_74 := FTok.cons (ok_166 l) (by omega) (FTok.nil)
theorem fSh_numberAtPlace_eq : (fun (G166 : List Value → SM → OR) (t : SM) (o : Nat) (a : Int32) => ex clN P_74 none bytJ (mkCal rks ((166, G166) :: [])) [] (kDisp []) 400 0 [(0, .ref o), (1, .int a)] [] t) = (fun (G166 : List Value → SM → OR) (t : SM) (o : Nat) (a : Int32) =>
  hGetR t 5 o 2 (bI (G166 [.null, .int a] t) fun numberAt3 t2 =>
    rI numberAt3 t2) fun numbers1 =>
  bI (G166 [.ref numbers1, .int a] t) fun numberAt5 t4 =>
  rI numberAt5 t4) := by rfl
theorem fSh_numberAtPlace_ok (t : SM) (o : Nat) (a : Int32) (h : fSh_numberAtPlace t o a = some r) : Body l 2 q_74 P_74 r 0 [(0, .ref o), (1, .int a)] [] t :=
  blk ft_74 (by omega) rfl rows_74 (KDok.nil) ((congrFun (congrFun (congrFun (congrFun (fSh_numberAtPlace_eq) F_166) t) o) a).trans h)
theorem ok_74 (l : Launch) : Fok l 2 mtab 74 (F_74) := by
  intro as t r h
  unfold F_74 at h
  split at h
  · rename_i o a
    exact ⟨q_74, rfl, mok_74, con_of (P := P_74) (by decide +kernel) rfl (Nat.le_of_ble_eq_true rfl) (fSh_numberAtPlace_ok t o a h)⟩
  · cases h
end
section
set_option maxRecDepth 100000
variable {l : Launch} {r : RR}
def FT_75 : FT := []
theorem ft_75 : FTok l 1 mtab FT_75 := FTok.nil
theorem fSt_init_eq : (fun (t : SM) (o : Nat) (a : Int32) (b : Int32) (c : Int32) (d : Int32) => ex clN P_75 none bytJ (mkCal rks ([])) [] (kDisp []) 400 0 [(0, .ref o), (1, .int a), (2, .int b), (3, .int c), (4, .int d)] [] t) = (fun (t : SM) (o : Nat) (a : Int32) (b : Int32) (c : Int32) (d : Int32) =>
  hPutI t 6 o 0 a fun t1 =>
  hPutI t1 6 o 1 b fun t2 =>
  hPutI t2 6 o 2 c fun t3 =>
  hPutI t3 6 o 3 d fun t4 =>
  rV t4) := by rfl
theorem fSt_init_ok (t : SM) (o : Nat) (a : Int32) (b : Int32) (c : Int32) (d : Int32) (h : fSt_init t o a b c d = some r) : Body l 1 q_75 P_75 r 0 [(0, .ref o), (1, .int a), (2, .int b), (3, .int c), (4, .int d)] [] t :=
  blk ft_75 (by omega) rfl rows_75 (KDok.nil) ((congrFun (congrFun (congrFun (congrFun (congrFun (congrFun (fSt_init_eq) t) o) a) b) c) d).trans h)
theorem ok_75 (l : Launch) : Fok l 1 mtab 75 (F_75) := by
  intro as t r h
  unfold F_75 at h
  split at h
  · rename_i o a b c d
    exact ⟨q_75, rfl, mok_75, con_of (P := P_75) (by decide +kernel) rfl (Nat.le_of_ble_eq_true rfl) (fSt_init_ok t o a b c d h)⟩
  · cases h
end
section
set_option maxRecDepth 100000
variable {l : Launch} {r : RR}
def FT_79 : FT := []
theorem ft_79 : FTok l 1 mtab FT_79 := FTok.nil
theorem fSs_init_eq : (fun (t : SM) => ex clN P_79 none bytJ (mkCal rks ([])) [] (kDisp []) 400 0 [(0, .ref 5)] [] t) = (fun (t : SM) =>
  hNewA t 36 12 fun q1 t2 =>
  hPutR t2 7 5 0 (some q1) fun t3 =>
  hNewA t3 20 6 fun q4 t5 =>
  hPutR t5 7 5 2 (some q4) fun t6 =>
  rV t6) := by rfl
theorem fSs_init_ok (t : SM) (h : fSs_init t = some r) : Body l 1 q_79 P_79 r 0 [(0, .ref 5)] [] t :=
  blk ft_79 (by omega) rfl rows_79 (KDok.nil) ((congrFun (fSs_init_eq) t).trans h)
theorem ok_79 (l : Launch) : Fok l 1 mtab 79 (F_79) := by
  intro as t r h
  unfold F_79 at h
  split at h
  · rename_i z0
    split at h
    · rename_i hz0
      obtain rfl := Nat.eq_of_beq_eq_true hz0
      exact ⟨q_79, rfl, mok_79, con_of (P := P_79) (by decide +kernel) rfl (Nat.le_of_ble_eq_true rfl) (fSs_init_ok t h)⟩
    · cases h
  · cases h
end
section
set_option maxRecDepth 100000
variable {l : Launch} {r : RR}
def FT_81 : FT := (75, F_75) :: []
theorem ft_81 : FTok l 2 mtab FT_81 := FTok.cons (ok_75 l) (by omega) (FTok.nil)
theorem fSs_add_eq : (fun (G75 : List Value → SM → OR) (t : SM) (a : Int32) (b : Int32) (c : Int32) (d : Int32) => ex clN P_81 none bytJ (mkCal rks ((75, G75) :: [])) [] (kDisp []) 400 0 [(0, .ref 5), (1, .int a), (2, .int b), (3, .int c), (4, .int d)] [] t) = (fun (G75 : List Value → SM → OR) (t : SM) (a : Int32) (b : Int32) (c : Int32) (d : Int32) =>
  hGetI t 7 5 1 fun size1 =>
  if size1 < 0 then rI (-4) t
  else hGetI t 7 5 1 fun size2 =>
  hGetC t 7 5 0 6 <|
  hALen t 6 fun n3 =>
  if size2 < n3 then hGetC t 7 5 0 6 <|
    hGetI t 7 5 1 fun size4 =>
    hNew t 6 4 fun q5 t6 =>
    hRecv t6 6 q5 <| bV (G75 [.ref q5, .int a, .int b, .int c, .int d] t6) fun t7 =>
    hQSt t7 6 6 size4 q5 fun t8 =>
    hGetI t8 7 5 1 fun size9 =>
    hPutI t8 7 5 1 (size9 + 1) fun t10 =>
    hGetI t10 7 5 1 fun size11 =>
    rI (size11 - 1) t10
  else rI (-4) t) := by rfl
theorem fSs_add_ok (t : SM) (a : Int32) (b : Int32) (c : Int32) (d : Int32) (h : fSs_add t a b c d = some r) : Body l 2 q_81 P_81 r 0 [(0, .ref 5), (1, .int a), (2, .int b), (3, .int c), (4, .int d)] [] t :=
  blk ft_81 (by omega) rfl rows_81 (KDok.nil) ((congrFun (congrFun (congrFun (congrFun (congrFun (congrFun (fSs_add_eq) F_75) t) a) b) c) d).trans h)
theorem ok_81 (l : Launch) : Fok l 2 mtab 81 (F_81) := by
  intro as t r h
  unfold F_81 at h
  split at h
  · rename_i z0 a b c d
    split at h
    · rename_i hz0
      obtain rfl := Nat.eq_of_beq_eq_true hz0
      exact ⟨q_81, rfl, mok_81, con_of (P := P_81) (by decide +kernel) rfl (Nat.le_of_ble_eq_true rfl) (fSs_add_ok t a b c d h)⟩
    · cases h
  · cases h
end
section
set_option maxRecDepth 100000
variable {l : Launch} {r : RR}
def FT_161 : FT := []
theorem ft_161 : FTok l 1 mtab FT_161 := FTok.nil
theorem fx_goalOf_eq : (fun (t : SM) (a : Int32) => ex clN P_161 none bytJ (mkCal rks ([])) [] (kDisp []) 400 0 [(0, .int a)] [] t) = (fun (t : SM) (a : Int32) =>
  rI (a - a / 10 * 10) t) := by rfl
theorem fx_goalOf_ok (t : SM) (a : Int32) (h : fx_goalOf t a = some r) : Body l 1 q_161 P_161 r 0 [(0, .int a)] [] t :=
  blk ft_161 (by omega) rfl rows_161 (KDok.nil) ((congrFun (congrFun (fx_goalOf_eq) t) a).trans h)
theorem ok_161 (l : Launch) : Fok l 1 mtab 161 (F_161) := by
  intro as t r h
  unfold F_161 at h
  split at h
  · rename_i a
    exact ⟨q_161, rfl, mok_161, con_of (P := P_161) (by decide +kernel) rfl (Nat.le_of_ble_eq_true rfl) (fx_goalOf_ok t a h)⟩
  · cases h
end
section
set_option maxRecDepth 100000
variable {l : Launch} {r : RR}
def FT_86 : FT := (166, F_166) :: (167, F_167) :: []
theorem ft_86 : FTok l 2 mtab FT_86 := FTok.cons (ok_166 l) (by omega) (FTok.cons (ok_167 l) (by omega) (FTok.nil))
theorem fSs_shorten_eq : (fun (G166 : List Value → SM → OR) (G167 : List Value → SM → OR) (t : SM) (a : Int32) (b : Int32) (c : Int32) => ex clN P_86 none bytJ (mkCal rks ((166, G166) :: (167, G167) :: [])) [] (kDisp []) 400 0 [(0, .ref 5), (1, .int a), (2, .int b), (3, .int c)] [] t) = (fun (G166 : List Value → SM → OR) (G167 : List Value → SM → OR) (t : SM) (a : Int32) (b : Int32) (c : Int32) =>
  hGetC t 7 5 2 7 <|
  bI (G166 [.ref 7, .int b] t) fun numberAt2 t1 =>
  hGetC t1 7 5 2 7 <|
  bI (G166 [.ref 7, .int a] t1) fun numberAt4 t3 =>
  if (numberAt2 + c) < numberAt4 then hGetC t3 7 5 2 7 <|
    bV (G167 [.ref 7, .int a, .int (numberAt2 + c)] t3) fun t5 =>
    rI 1 t5
  else rI 0 t3) := by rfl
theorem fSs_shorten_ok (t : SM) (a : Int32) (b : Int32) (c : Int32) (h : fSs_shorten t a b c = some r) : Body l 2 q_86 P_86 r 0 [(0, .ref 5), (1, .int a), (2, .int b), (3, .int c)] [] t :=
  blk ft_86 (by omega) rfl rows_86 (KDok.nil) ((congrFun (congrFun (congrFun (congrFun (congrFun (congrFun (fSs_shorten_eq) F_166) F_167) t) a) b) c).trans h)
theorem ok_86 (l : Launch) : Fok l 2 mtab 86 (F_86) := by
  intro as t r h
  unfold F_86 at h
  split at h
  · rename_i z0 a b c
    split at h
    · rename_i hz0
      obtain rfl := Nat.eq_of_beq_eq_true hz0
      exact ⟨q_86, rfl, mok_86, con_of (P := P_86) (by decide +kernel) rfl (Nat.le_of_ble_eq_true rfl) (fSs_shorten_ok t a b c h)⟩
    · cases h
  · cases h
end
section
set_option maxRecDepth 100000
variable {l : Launch} {r : RR}
def FT_85 : FT := (3, F_3) :: (167, F_167) :: (80, F_80) :: (86, F_86) :: []
theorem ft_85 : FTok l 3 mtab FT_85 := FTok.cons (ok_3 l) (by omega) (FTok.cons (ok_167 l) (by omega) (FTok.cons (ok_80 l) (by omega) (FTok.cons (ok_86 l) (by omega) (FTok.nil))))
theorem fSs_measure_121_eq : (fun (G3 : List Value → SM → OR) (G167 : List Value → SM → OR) (G80 : List Value → SM → OR) (G86 : List Value → SM → OR) (j23 : SM → Int32 → Int32 → Int32 → OR) (t : SM) (v2 : Int32) (v3 : Int32) (v4 : Int32) => ex clN P_85 none bytJ (mkCal rks ((3, G3) :: (167, G167) :: (80, G80) :: (86, G86) :: [])) [23] (kDisp [(23, kF 0 5 <| kI 2 fun w2 => kI 3 fun w3 => kI 4 fun w4 => kE fun t => j23 t w2 w3 w4)]) 400 121 [(4, .int v4), (3, .int v3), (2, .int v2), (0, .ref 5)] [] t) = (fun (G3 : List Value → SM → OR) (G167 : List Value → SM → OR) (G80 : List Value → SM → OR) (G86 : List Value → SM → OR) (j23 : SM → Int32 → Int32 → Int32 → OR) (t : SM) (v2 : Int32) (v3 : Int32) (v4 : Int32) =>
  j23 t v2 v3 (v4 + 1)) := by rfl
theorem fSs_measure_121_ok {r23 : SM → Int32 → Int32 → Int32 → OR} (h_r23 : ∀ (t : SM) (v2 : Int32) (v3 : Int32) (v4 : Int32), r23 t v2 v3 v4 = some r → Body l 3 q_85 P_85 r 23 [(4, .int v4), (3, .int v3), (2, .int v2), (0, .ref 5)] [] t) (t : SM) (v2 : Int32) (v3 : Int32) (v4 : Int32) (h : fSs_measure_121 r23 t v2 v3 v4 = some r) : Body l 3 q_85 P_85 r 121 [(4, .int v4), (3, .int v3), (2, .int v2), (0, .ref 5)] [] t :=
  blk ft_85 (by omega) rfl rows_85 (KDok.cons (KOK.f <| KOK.i fun w2 => KOK.i fun w3 => KOK.i fun w4 => KOK.e (f := fun t => r23 t w2 w3 w4) fun t h => h_r23 t w2 w3 w4 h) (KDok.nil)) ((congrFun (congrFun (congrFun (congrFun (congrFun (congrFun (congrFun (congrFun (congrFun (fSs_measure_121_eq) F_3) F_167) F_80) F_86) (fun t u2 u3 u4 => r23 t u2 u3 u4)) t) v2) v3) v4).trans h)
theorem fSs_measure_39_eq : (fun (G3 : List Value → SM → OR) (G167 : List Value → SM → OR) (G80 : List Value → SM → OR) (G86 : List Value → SM → OR) (j39 : SM → Int32 → Int32 → Int32 → Int32 → OR) (j121 : SM → Int32 → Int32 → Int32 → OR) (t : SM) (v2 : Int32) (v3 : Int32) (v4 : Int32) (v5 : Int32) => ex clN P_85 none bytJ (mkCal rks ((3, G3) :: (167, G167) :: (80, G80) :: (86, G86) :: [])) [39, 121] (kDisp [(39, kF 0 5 <| kI 2 fun w2 => kI 3 fun w3 => kI 4 fun w4 => kI 5 fun w5 => kE fun t => j39 t w2 w3 w4 w5), (121, kF 0 5 <| kI 2 fun w2 => kI 3 fun w3 => kI 4 fun w4 => kE fun t => j121 t w2 w3 w4)]) 400 39 [(5, .int v5), (4, .int v4), (3, .int v3), (2, .int v2), (0, .ref 5)] [] t) = (fun (G3 : List Value → SM → OR) (G167 : List Value → SM → OR) (G80 : List Value → SM → OR) (G86 : List Value → SM → OR) (j39 : SM → Int32 → Int32 → Int32 → Int32 → OR) (j121 : SM → Int32 → Int32 → Int32 → OR) (t : SM) (v2 : Int32) (v3 : Int32) (v4 : Int32) (v5 : Int32) =>
  hGetI t 7 5 1 fun size1 =>
  if size1 ≤ v5 then j121 t v2 v3 v4
  else hRecv t 7 5 <| bQ (G80 [.ref 5, .int v5] t) (fun t2 => j39 t2 v2 v3 v4 (v5 + 1)) fun q3 t2 =>
  if ((v2 >>> (v5 &&& 31)) &&& 1) = 1 then hGetI t2 6 q3 0 fun u4 =>
  hGetI t2 6 q3 1 fun vv5 =>
  hGetI t2 6 q3 3 fun takes6 =>
  hRecv t2 7 5 <| bI (G86 [.ref 5, .int u4, .int vv5, .int takes6] t2) fun shorten8 t7 =>
  hGetI t7 6 q3 1 fun vv9 =>
  hGetI t7 6 q3 0 fun u10 =>
  hGetI t7 6 q3 3 fun takes11 =>
  hRecv t7 7 5 <| bI (G86 [.ref 5, .int vv9, .int u10, .int takes11] t7) fun shorten13 t12 =>
  j39 t12 v2 ((v3 ||| shorten8) ||| shorten13) v4 (v5 + 1)
  else j39 t2 v2 v3 v4 (v5 + 1)) := by rfl
theorem fSs_measure_39_ok {k121 : SM → Int32 → Int32 → Int32 → OR} {r39 : SM → Int32 → Int32 → Int32 → Int32 → OR} (h_k121 : ∀ (t : SM) (v2 : Int32) (v3 : Int32) (v4 : Int32), k121 t v2 v3 v4 = some r → Body l 3 q_85 P_85 r 121 [(4, .int v4), (3, .int v3), (2, .int v2), (0, .ref 5)] [] t) (h_r39 : ∀ (t : SM) (v2 : Int32) (v3 : Int32) (v4 : Int32) (v5 : Int32), r39 t v2 v3 v4 v5 = some r → Body l 3 q_85 P_85 r 39 [(5, .int v5), (4, .int v4), (3, .int v3), (2, .int v2), (0, .ref 5)] [] t) (t : SM) (v2 : Int32) (v3 : Int32) (v4 : Int32) (v5 : Int32) (h : fSs_measure_39 k121 r39 t v2 v3 v4 v5 = some r) : Body l 3 q_85 P_85 r 39 [(5, .int v5), (4, .int v4), (3, .int v3), (2, .int v2), (0, .ref 5)] [] t :=
  blk ft_85 (by omega) rfl rows_85 (KDok.cons (KOK.f <| KOK.i fun w2 => KOK.i fun w3 => KOK.i fun w4 => KOK.i fun w5 => KOK.e (f := fun t => r39 t w2 w3 w4 w5) fun t h => h_r39 t w2 w3 w4 w5 h) (KDok.cons (KOK.f <| KOK.i fun w2 => KOK.i fun w3 => KOK.i fun w4 => KOK.e (f := fun t => k121 t w2 w3 w4) fun t h => h_k121 t w2 w3 w4 h) (KDok.nil))) ((congrFun (congrFun (congrFun (congrFun (congrFun (congrFun (congrFun (congrFun (congrFun (congrFun (congrFun (fSs_measure_39_eq) F_3) F_167) F_80) F_86) (fun t u2 u3 u4 u5 => r39 t u2 u3 u4 u5)) (fun t u2 u3 u4 => k121 t u2 u3 u4)) t) v2) v3) v4) v5).trans h)
theorem fSs_measure_l39_ok {k121 : SM → Int32 → Int32 → Int32 → OR} (h_k121 : ∀ (t : SM) (v2 : Int32) (v3 : Int32) (v4 : Int32), k121 t v2 v3 v4 = some r → Body l 3 q_85 P_85 r 121 [(4, .int v4), (3, .int v3), (2, .int v2), (0, .ref 5)] [] t) : ∀ (n : Nat) (t : SM) (v2 : Int32) (v3 : Int32) (v4 : Int32) (v5 : Int32), fSs_measure_l39 k121 n t v2 v3 v4 v5 = some r → Body l 3 q_85 P_85 r 39 [(5, .int v5), (4, .int v4), (3, .int v3), (2, .int v2), (0, .ref 5)] [] t
  | 0, _, _, _, _, _, h => by cases h
  | n + 1, t, v2, v3, v4, v5, h => fSs_measure_39_ok h_k121 (fSs_measure_l39_ok h_k121 n) t v2 v3 v4 v5 h
theorem fSs_measure_23_eq : (fun (G3 : List Value → SM → OR) (G167 : List Value → SM → OR) (G80 : List Value → SM → OR) (G86 : List Value → SM → OR) (j39 : SM → Int32 → Int32 → Int32 → Int32 → OR) (t : SM) (v2 : Int32) (v3 : Int32) (v4 : Int32) => ex clN P_85 none bytJ (mkCal rks ((3, G3) :: (167, G167) :: (80, G80) :: (86, G86) :: [])) [39] (kDisp [(39, kF 0 5 <| kI 2 fun w2 => kI 3 fun w3 => kI 4 fun w4 => kI 5 fun w5 => kE fun t => j39 t w2 w3 w4 w5)]) 400 23 [(4, .int v4), (3, .int v3), (2, .int v2), (0, .ref 5)] [] t) = (fun (G3 : List Value → SM → OR) (G167 : List Value → SM → OR) (G80 : List Value → SM → OR) (G86 : List Value → SM → OR) (j39 : SM → Int32 → Int32 → Int32 → Int32 → OR) (t : SM) (v2 : Int32) (v3 : Int32) (v4 : Int32) =>
  if 6 ≤ v4 then rV t
  else if v3 = 0 then rV t
  else j39 t v2 0 v4 0) := by rfl
theorem fSs_measure_23_ok {r23 : SM → Int32 → Int32 → Int32 → OR} (h_r23 : ∀ (t : SM) (v2 : Int32) (v3 : Int32) (v4 : Int32), r23 t v2 v3 v4 = some r → Body l 3 q_85 P_85 r 23 [(4, .int v4), (3, .int v3), (2, .int v2), (0, .ref 5)] [] t) (t : SM) (v2 : Int32) (v3 : Int32) (v4 : Int32) (h : fSs_measure_23 r23 t v2 v3 v4 = some r) : Body l 3 q_85 P_85 r 23 [(4, .int v4), (3, .int v3), (2, .int v2), (0, .ref 5)] [] t :=
  blk ft_85 (by omega) rfl rows_85 (KDok.cons (KOK.f <| KOK.i fun w2 => KOK.i fun w3 => KOK.i fun w4 => KOK.i fun w5 => KOK.e (f := fun t => fSs_measure_l39 (fun t u2 u3 u4 => fSs_measure_121 r23 t u2 u3 u4) 1000000 t w2 w3 w4 w5) fun t h => fSs_measure_l39_ok (k121 := fun t u2 u3 u4 => fSs_measure_121 r23 t u2 u3 u4) (fun t u2 u3 u4 h => fSs_measure_121_ok h_r23 t u2 u3 u4 h) 1000000 t w2 w3 w4 w5 h) (KDok.nil)) ((congrFun (congrFun (congrFun (congrFun (congrFun (congrFun (congrFun (congrFun (congrFun (fSs_measure_23_eq) F_3) F_167) F_80) F_86) (fun t u2 u3 u4 u5 => fSs_measure_l39 (fun t u2 u3 u4 => fSs_measure_121 r23 t u2 u3 u4) 1000000 t u2 u3 u4 u5)) t) v2) v3) v4).trans h)
theorem fSs_measure_l23_ok : ∀ (n : Nat) (t : SM) (v2 : Int32) (v3 : Int32) (v4 : Int32), fSs_measure_l23 n t v2 v3 v4 = some r → Body l 3 q_85 P_85 r 23 [(4, .int v4), (3, .int v3), (2, .int v2), (0, .ref 5)] [] t
  | 0, _, _, _, _, h => by cases h
  | n + 1, t, v2, v3, v4, h => fSs_measure_23_ok (fSs_measure_l23_ok n) t v2 v3 v4 h
theorem fSs_measure_eq : (fun (G3 : List Value → SM → OR) (G167 : List Value → SM → OR) (G80 : List Value → SM → OR) (G86 : List Value → SM → OR) (j23 : SM → Int32 → Int32 → Int32 → OR) (t : SM) (a : Int32) (b : Int32) => ex clN P_85 none bytJ (mkCal rks ((3, G3) :: (167, G167) :: (80, G80) :: (86, G86) :: [])) [23] (kDisp [(23, kF 0 5 <| kI 2 fun w2 => kI 3 fun w3 => kI 4 fun w4 => kE fun t => j23 t w2 w3 w4)]) 400 0 [(0, .ref 5), (1, .int a), (2, .int b)] [] t) = (fun (G3 : List Value → SM → OR) (G167 : List Value → SM → OR) (G80 : List Value → SM → OR) (G86 : List Value → SM → OR) (j23 : SM → Int32 → Int32 → Int32 → OR) (t : SM) (a : Int32) (b : Int32) =>
  hGetC t 7 5 2 7 <|
  bV (G3 [.ref 7, .int 1000000] t) fun t1 =>
  hGetC t1 7 5 2 7 <|
  bV (G167 [.ref 7, .int a, .int 0] t1) fun t2 =>
  j23 t2 b 1 0) := by rfl
theorem fSs_measure_ok (t : SM) (a : Int32) (b : Int32) (h : fSs_measure t a b = some r) : Body l 3 q_85 P_85 r 0 [(0, .ref 5), (1, .int a), (2, .int b)] [] t :=
  blk ft_85 (by omega) rfl rows_85 (KDok.cons (KOK.f <| KOK.i fun w2 => KOK.i fun w3 => KOK.i fun w4 => KOK.e (f := fun t => fSs_measure_l23 1000000 t w2 w3 w4) fun t h => fSs_measure_l23_ok 1000000 t w2 w3 w4 h) (KDok.nil)) ((congrFun (congrFun (congrFun (congrFun (congrFun (congrFun (congrFun (congrFun (fSs_measure_eq) F_3) F_167) F_80) F_86) (fun t u2 u3 u4 => fSs_measure_l23 1000000 t u2 u3 u4)) t) a) b).trans h)
theorem ok_85 (l : Launch) : Fok l 3 mtab 85 (F_85) := by
  intro as t r h
  unfold F_85 at h
  split at h
  · rename_i z0 a b
    split at h
    · rename_i hz0
      obtain rfl := Nat.eq_of_beq_eq_true hz0
      exact ⟨q_85, rfl, mok_85, con_of (P := P_85) (by decide +kernel) rfl (Nat.le_of_ble_eq_true rfl) (fSs_measure_ok t a b h)⟩
    · cases h
  · cases h
end
section
set_option maxRecDepth 100000
variable {l : Launch} {r : RR}
def FT_160 : FT := []
theorem ft_160 : FTok l 1 mtab FT_160 := FTok.nil
theorem fx_startOf_eq : (fun (t : SM) (a : Int32) => ex clN P_160 none bytJ (mkCal rks ([])) [] (kDisp []) 400 0 [(0, .int a)] [] t) = (fun (t : SM) (a : Int32) =>
  rI (a / 10) t) := by rfl
theorem fx_startOf_ok (t : SM) (a : Int32) (h : fx_startOf t a = some r) : Body l 1 q_160 P_160 r 0 [(0, .int a)] [] t :=
  blk ft_160 (by omega) rfl rows_160 (KDok.nil) ((congrFun (congrFun (fx_startOf_eq) t) a).trans h)
theorem ok_160 (l : Launch) : Fok l 1 mtab 160 (F_160) := by
  intro as t r h
  unfold F_160 at h
  split at h
  · rename_i a
    exact ⟨q_160, rfl, mok_160, con_of (P := P_160) (by decide +kernel) rfl (Nat.le_of_ble_eq_true rfl) (fx_startOf_ok t a h)⟩
  · cases h
end
section
set_option maxRecDepth 100000
variable {l : Launch} {r : RR}
def FT_84 : FT := (161, F_161) :: (85, F_85) :: (160, F_160) :: (166, F_166) :: []
theorem ft_84 : FTok l 4 mtab FT_84 := FTok.cons (ok_161 l) (by omega) (FTok.cons (ok_85 l) (by omega) (FTok.cons (ok_160 l) (by omega) (FTok.cons (ok_166 l) (by omega) (FTok.nil))))
theorem fSs_shortest_eq : (fun (G161 : List Value → SM → OR) (G85 : List Value → SM → OR) (G160 : List Value → SM → OR) (G166 : List Value → SM → OR) (t : SM) (a : Int32) (b : Int32) => ex clN P_84 none bytJ (mkCal rks ((161, G161) :: (85, G85) :: (160, G160) :: (166, G166) :: [])) [] (kDisp []) 400 0 [(0, .ref 5), (1, .int a), (2, .int b)] [] t) = (fun (G161 : List Value → SM → OR) (G85 : List Value → SM → OR) (G160 : List Value → SM → OR) (G166 : List Value → SM → OR) (t : SM) (a : Int32) (b : Int32) =>
  bI (G161 [.int a] t) fun goalOf2 t1 =>
  hRecv t1 7 5 <| bV (G85 [.ref 5, .int goalOf2, .int b] t1) fun t3 =>
  hGetC t3 7 5 2 7 <|
  bI (G160 [.int a] t3) fun startOf5 t4 =>
  bI (G166 [.ref 7, .int startOf5] t4) fun numberAt7 t6 =>
  if numberAt7 < 1000000 then rI numberAt7 t6
  else rI (-1) t6) := by rfl
theorem fSs_shortest_ok (t : SM) (a : Int32) (b : Int32) (h : fSs_shortest t a b = some r) : Body l 4 q_84 P_84 r 0 [(0, .ref 5), (1, .int a), (2, .int b)] [] t :=
  blk ft_84 (by omega) rfl rows_84 (KDok.nil) ((congrFun (congrFun (congrFun (congrFun (congrFun (congrFun (congrFun (fSs_shortest_eq) F_161) F_85) F_160) F_166) t) a) b).trans h)
theorem ok_84 (l : Launch) : Fok l 4 mtab 84 (F_84) := by
  intro as t r h
  unfold F_84 at h
  split at h
  · rename_i z0 a b
    split at h
    · rename_i hz0
      obtain rfl := Nat.eq_of_beq_eq_true hz0
      exact ⟨q_84, rfl, mok_84, con_of (P := P_84) (by decide +kernel) rfl (Nat.le_of_ble_eq_true rfl) (fSs_shortest_ok t a b h)⟩
    · cases h
  · cases h
end
section
set_option maxRecDepth 100000
variable {l : Launch} {r : RR}
def FT_87 : FT := (80, F_80) :: (77, F_77) :: (78, F_78) :: (166, F_166) :: []
theorem ft_87 : FTok l 2 mtab FT_87 := FTok.cons (ok_80 l) (by omega) (FTok.cons (ok_77 l) (by omega) (FTok.cons (ok_78 l) (by omega) (FTok.cons (ok_166 l) (by omega) (FTok.nil))))
theorem fSs_firstOfShortest_2_eq : (fun (G80 : List Value → SM → OR) (G77 : List Value → SM → OR) (G78 : List Value → SM → OR) (G166 : List Value → SM → OR) (j2 : SM → Int32 → Int32 → Int32 → OR) (t : SM) (v1 : Int32) (v2 : Int32) (v3 : Int32) => ex clN P_87 none bytJ (mkCal rks ((80, G80) :: (77, G77) :: (78, G78) :: (166, G166) :: [])) [2] (kDisp [(2, kF 0 5 <| kI 1 fun w1 => kI 2 fun w2 => kI 3 fun w3 => kE fun t => j2 t w1 w2 w3)]) 400 2 [(3, .int v3), (2, .int v2), (1, .int v1), (0, .ref 5)] [] t) = (fun (G80 : List Value → SM → OR) (G77 : List Value → SM → OR) (G78 : List Value → SM → OR) (G166 : List Value → SM → OR) (j2 : SM → Int32 → Int32 → Int32 → OR) (t : SM) (v1 : Int32) (v2 : Int32) (v3 : Int32) =>
  hGetI t 7 5 1 fun size1 =>
  if size1 ≤ v3 then rI (-1) t
  else hRecv t 7 5 <| bQ (G80 [.ref 5, .int v3] t) (fun t2 => j2 t2 v1 v2 (v3 + 1)) fun q3 t2 =>
  if ((v2 >>> (v3 &&& 31)) &&& 1) = 1 then hRecv t2 6 q3 <| bI (G77 [.ref q3, .int v1] t2) fun touches5 t4 =>
  if touches5 = 0 then j2 t4 v1 v2 (v3 + 1)
  else hGetI t4 6 q3 3 fun takes6 =>
  hGetC t4 7 5 2 7 <|
  hRecv t4 6 q3 <| bI (G78 [.ref q3, .int v1] t4) fun otherEnd8 t7 =>
  bI (G166 [.ref 7, .int otherEnd8] t7) fun numberAt10 t9 =>
  hGetC t9 7 5 2 7 <|
  bI (G166 [.ref 7, .int v1] t9) fun numberAt12 t11 =>
  if (takes6 + numberAt10) = numberAt12 then rI v3 t11
  else j2 t11 v1 v2 (v3 + 1)
  else j2 t2 v1 v2 (v3 + 1)) := by rfl
theorem fSs_firstOfShortest_2_ok {r2 : SM → Int32 → Int32 → Int32 → OR} (h_r2 : ∀ (t : SM) (v1 : Int32) (v2 : Int32) (v3 : Int32), r2 t v1 v2 v3 = some r → Body l 2 q_87 P_87 r 2 [(3, .int v3), (2, .int v2), (1, .int v1), (0, .ref 5)] [] t) (t : SM) (v1 : Int32) (v2 : Int32) (v3 : Int32) (h : fSs_firstOfShortest_2 r2 t v1 v2 v3 = some r) : Body l 2 q_87 P_87 r 2 [(3, .int v3), (2, .int v2), (1, .int v1), (0, .ref 5)] [] t :=
  blk ft_87 (by omega) rfl rows_87 (KDok.cons (KOK.f <| KOK.i fun w1 => KOK.i fun w2 => KOK.i fun w3 => KOK.e (f := fun t => r2 t w1 w2 w3) fun t h => h_r2 t w1 w2 w3 h) (KDok.nil)) ((congrFun (congrFun (congrFun (congrFun (congrFun (congrFun (congrFun (congrFun (congrFun (fSs_firstOfShortest_2_eq) F_80) F_77) F_78) F_166) (fun t u1 u2 u3 => r2 t u1 u2 u3)) t) v1) v2) v3).trans h)
theorem fSs_firstOfShortest_l2_ok : ∀ (n : Nat) (t : SM) (v1 : Int32) (v2 : Int32) (v3 : Int32), fSs_firstOfShortest_l2 n t v1 v2 v3 = some r → Body l 2 q_87 P_87 r 2 [(3, .int v3), (2, .int v2), (1, .int v1), (0, .ref 5)] [] t
  | 0, _, _, _, _, h => by cases h
  | n + 1, t, v1, v2, v3, h => fSs_firstOfShortest_2_ok (fSs_firstOfShortest_l2_ok n) t v1 v2 v3 h
theorem fSs_firstOfShortest_eq : (fun (G80 : List Value → SM → OR) (G77 : List Value → SM → OR) (G78 : List Value → SM → OR) (G166 : List Value → SM → OR) (j2 : SM → Int32 → Int32 → Int32 → OR) (t : SM) (a : Int32) (b : Int32) => ex clN P_87 none bytJ (mkCal rks ((80, G80) :: (77, G77) :: (78, G78) :: (166, G166) :: [])) [2] (kDisp [(2, kF 0 5 <| kI 1 fun w1 => kI 2 fun w2 => kI 3 fun w3 => kE fun t => j2 t w1 w2 w3)]) 400 0 [(0, .ref 5), (1, .int a), (2, .int b)] [] t) = (fun (G80 : List Value → SM → OR) (G77 : List Value → SM → OR) (G78 : List Value → SM → OR) (G166 : List Value → SM → OR) (j2 : SM → Int32 → Int32 → Int32 → OR) (t : SM) (a : Int32) (b : Int32) =>
  j2 t a b 0) := by rfl
theorem fSs_firstOfShortest_ok (t : SM) (a : Int32) (b : Int32) (h : fSs_firstOfShortest t a b = some r) : Body l 2 q_87 P_87 r 0 [(0, .ref 5), (1, .int a), (2, .int b)] [] t :=
  blk ft_87 (by omega) rfl rows_87 (KDok.cons (KOK.f <| KOK.i fun w1 => KOK.i fun w2 => KOK.i fun w3 => KOK.e (f := fun t => fSs_firstOfShortest_l2 1000000 t w1 w2 w3) fun t h => fSs_firstOfShortest_l2_ok 1000000 t w1 w2 w3 h) (KDok.nil)) ((congrFun (congrFun (congrFun (congrFun (congrFun (congrFun (congrFun (congrFun (fSs_firstOfShortest_eq) F_80) F_77) F_78) F_166) (fun t u1 u2 u3 => fSs_firstOfShortest_l2 1000000 t u1 u2 u3)) t) a) b).trans h)
theorem ok_87 (l : Launch) : Fok l 2 mtab 87 (F_87) := by
  intro as t r h
  unfold F_87 at h
  split at h
  · rename_i z0 a b
    split at h
    · rename_i hz0
      obtain rfl := Nat.eq_of_beq_eq_true hz0
      exact ⟨q_87, rfl, mok_87, con_of (P := P_87) (by decide +kernel) rfl (Nat.le_of_ble_eq_true rfl) (fSs_firstOfShortest_ok t a b h)⟩
    · cases h
  · cases h
end
section
set_option maxRecDepth 100000
variable {l : Launch} {r : RR}
def FT_88 : FT := (161, F_161) :: (160, F_160) :: (82, F_82) :: (85, F_85) :: (87, F_87) :: (80, F_80) :: (76, F_76) :: (78, F_78) :: []
theorem ft_88 : FTok l 4 mtab FT_88 := FTok.cons (ok_161 l) (by omega) (FTok.cons (ok_160 l) (by omega) (FTok.cons (ok_82 l) (by omega) (FTok.cons (ok_85 l) (by omega) (FTok.cons (ok_87 l) (by omega) (FTok.cons (ok_80 l) (by omega) (FTok.cons (ok_76 l) (by omega) (FTok.cons (ok_78 l) (by omega) (FTok.nil))))))))
theorem fSs_walk_128_eq : (fun (G161 : List Value → SM → OR) (G160 : List Value → SM → OR) (G82 : List Value → SM → OR) (G85 : List Value → SM → OR) (G87 : List Value → SM → OR) (G80 : List Value → SM → OR) (G76 : List Value → SM → OR) (G78 : List Value → SM → OR) (t : SM) (v4 : Int32) (v5 : Int32) (v7 : Int32) => ex clN P_88 none bytJ (mkCal rks ((161, G161) :: (160, G160) :: (82, G82) :: (85, G85) :: (87, G87) :: (80, G80) :: (76, G76) :: (78, G78) :: [])) [] (kDisp []) 400 128 [(7, .int v7), (5, .int v5), (4, .int v4)] [] t) = (fun (G161 : List Value → SM → OR) (G160 : List Value → SM → OR) (G82 : List Value → SM → OR) (G85 : List Value → SM → OR) (G87 : List Value → SM → OR) (G80 : List Value → SM → OR) (G76 : List Value → SM → OR) (G78 : List Value → SM → OR) (t : SM) (v4 : Int32) (v5 : Int32) (v7 : Int32) =>
  if v5 = v4 then rI v7 t
  else rI (-1) t) := by rfl
theorem fSs_walk_128_ok (t : SM) (v4 : Int32) (v5 : Int32) (v7 : Int32) (h : fSs_walk_128 t v4 v5 v7 = some r) : Body l 4 q_88 P_88 r 128 [(7, .int v7), (5, .int v5), (4, .int v4)] [] t :=
  blk ft_88 (by omega) rfl rows_88 (KDok.nil) ((congrFun (congrFun (congrFun (congrFun (congrFun (congrFun (congrFun (congrFun (congrFun (congrFun (congrFun (congrFun (fSs_walk_128_eq) F_161) F_160) F_82) F_85) F_87) F_80) F_76) F_78) t) v4) v5) v7).trans h)
theorem fSs_walk_33_eq : (fun (G161 : List Value → SM → OR) (G160 : List Value → SM → OR) (G82 : List Value → SM → OR) (G85 : List Value → SM → OR) (G87 : List Value → SM → OR) (G80 : List Value → SM → OR) (G76 : List Value → SM → OR) (G78 : List Value → SM → OR) (j33 : SM → Int32 → Int32 → Int32 → Int32 → Int32 → Int32 → OR) (j128 : SM → Int32 → Int32 → Int32 → OR) (t : SM) (v3 : Int32) (v4 : Int32) (v5 : Int32) (v6 : Int32) (v7 : Int32) (v8 : Int32) => ex clN P_88 none bytJ (mkCal rks ((161, G161) :: (160, G160) :: (82, G82) :: (85, G85) :: (87, G87) :: (80, G80) :: (76, G76) :: (78, G78) :: [])) [33, 128] (kDisp [(33, kF 0 5 <| kI 3 fun w3 => kI 4 fun w4 => kI 5 fun w5 => kI 6 fun w6 => kI 7 fun w7 => kI 8 fun w8 => kE fun t => j33 t w3 w4 w5 w6 w7 w8), (128, kI 4 fun w4 => kI 5 fun w5 => kI 7 fun w7 => kE fun t => j128 t w4 w5 w7)]) 400 33 [(8, .int v8), (7, .int v7), (6, .int v6), (5, .int v5), (4, .int v4), (3, .int v3), (0, .ref 5)] [] t) = (fun (G161 : List Value → SM → OR) (G160 : List Value → SM → OR) (G82 : List Value → SM → OR) (G85 : List Value → SM → OR) (G87 : List Value → SM → OR) (G80 : List Value → SM → OR) (G76 : List Value → SM → OR) (G78 : List Value → SM → OR) (j33 : SM → Int32 → Int32 → Int32 → Int32 → Int32 → Int32 → OR) (j128 : SM → Int32 → Int32 → Int32 → OR) (t : SM) (v3 : Int32) (v4 : Int32) (v5 : Int32) (v6 : Int32) (v7 : Int32) (v8 : Int32) =>
  if 78 ≤ v8 then j128 t v4 v5 v7
  else if v5 = v4 then j128 t v4 v5 v7
  else hRecv t 7 5 <| bI (G87 [.ref 5, .int v5, .int v6] t) fun firstOfShortest2 t1 =>
  hRecv t1 7 5 <| bQ (G80 [.ref 5, .int firstOfShortest2] t1) (fun t3 => rI (-1) t3) fun q4 t3 =>
  hRecv t3 6 q4 <| bI (G76 [.ref q4, .int v3] t3) fun isOpenIn6 t5 =>
  if isOpenIn6 = 0 then hRecv t5 7 5 <| bV (G85 [.ref 5, .int v4, .int (v6 &&& (((1 : Int32) <<< (firstOfShortest2 &&& 31)) ^^^ (-1)))] t5) fun t7 =>
    j33 t7 v3 v4 v5 (v6 &&& (((1 : Int32) <<< (firstOfShortest2 &&& 31)) ^^^ (-1))) v7 (v8 + 1)
  else hGetI t5 6 q4 3 fun takes8 =>
  hRecv t5 6 q4 <| bI (G78 [.ref q4, .int v5] t5) fun otherEnd10 t9 =>
  j33 t9 v3 v4 otherEnd10 v6 (v7 + takes8) (v8 + 1)) := by rfl
theorem fSs_walk_33_ok {k128 : SM → Int32 → Int32 → Int32 → OR} {r33 : SM → Int32 → Int32 → Int32 → Int32 → Int32 → Int32 → OR} (h_k128 : ∀ (t : SM) (v4 : Int32) (v5 : Int32) (v7 : Int32), k128 t v4 v5 v7 = some r → Body l 4 q_88 P_88 r 128 [(7, .int v7), (5, .int v5), (4, .int v4)] [] t) (h_r33 : ∀ (t : SM) (v3 : Int32) (v4 : Int32) (v5 : Int32) (v6 : Int32) (v7 : Int32) (v8 : Int32), r33 t v3 v4 v5 v6 v7 v8 = some r → Body l 4 q_88 P_88 r 33 [(8, .int v8), (7, .int v7), (6, .int v6), (5, .int v5), (4, .int v4), (3, .int v3), (0, .ref 5)] [] t) (t : SM) (v3 : Int32) (v4 : Int32) (v5 : Int32) (v6 : Int32) (v7 : Int32) (v8 : Int32) (h : fSs_walk_33 k128 r33 t v3 v4 v5 v6 v7 v8 = some r) : Body l 4 q_88 P_88 r 33 [(8, .int v8), (7, .int v7), (6, .int v6), (5, .int v5), (4, .int v4), (3, .int v3), (0, .ref 5)] [] t :=
  blk ft_88 (by omega) rfl rows_88 (KDok.cons (KOK.f <| KOK.i fun w3 => KOK.i fun w4 => KOK.i fun w5 => KOK.i fun w6 => KOK.i fun w7 => KOK.i fun w8 => KOK.e (f := fun t => r33 t w3 w4 w5 w6 w7 w8) fun t h => h_r33 t w3 w4 w5 w6 w7 w8 h) (KDok.cons (KOK.i fun w4 => KOK.i fun w5 => KOK.i fun w7 => KOK.e (f := fun t => k128 t w4 w5 w7) fun t h => h_k128 t w4 w5 w7 h) (KDok.nil))) ((congrFun (congrFun (congrFun (congrFun (congrFun (congrFun (congrFun (congrFun (congrFun (congrFun (congrFun (congrFun (congrFun (congrFun (congrFun (congrFun (congrFun (fSs_walk_33_eq) F_161) F_160) F_82) F_85) F_87) F_80) F_76) F_78) (fun t u3 u4 u5 u6 u7 u8 => r33 t u3 u4 u5 u6 u7 u8)) (fun t u4 u5 u7 => k128 t u4 u5 u7)) t) v3) v4) v5) v6) v7) v8).trans h)
theorem fSs_walk_l33_ok {k128 : SM → Int32 → Int32 → Int32 → OR} (h_k128 : ∀ (t : SM) (v4 : Int32) (v5 : Int32) (v7 : Int32), k128 t v4 v5 v7 = some r → Body l 4 q_88 P_88 r 128 [(7, .int v7), (5, .int v5), (4, .int v4)] [] t) : ∀ (n : Nat) (t : SM) (v3 : Int32) (v4 : Int32) (v5 : Int32) (v6 : Int32) (v7 : Int32) (v8 : Int32), fSs_walk_l33 k128 n t v3 v4 v5 v6 v7 v8 = some r → Body l 4 q_88 P_88 r 33 [(8, .int v8), (7, .int v7), (6, .int v6), (5, .int v5), (4, .int v4), (3, .int v3), (0, .ref 5)] [] t
  | 0, _, _, _, _, _, _, _, h => by cases h
  | n + 1, t, v3, v4, v5, v6, v7, v8, h => fSs_walk_33_ok h_k128 (fSs_walk_l33_ok h_k128 n) t v3 v4 v5 v6 v7 v8 h
theorem fSs_walk_eq : (fun (G161 : List Value → SM → OR) (G160 : List Value → SM → OR) (G82 : List Value → SM → OR) (G85 : List Value → SM → OR) (G87 : List Value → SM → OR) (G80 : List Value → SM → OR) (G76 : List Value → SM → OR) (G78 : List Value → SM → OR) (j33 : SM → Int32 → Int32 → Int32 → Int32 → Int32 → Int32 → OR) (t : SM) (a : Int32) (b : Int32) (c : Int32) => ex clN P_88 none bytJ (mkCal rks ((161, G161) :: (160, G160) :: (82, G82) :: (85, G85) :: (87, G87) :: (80, G80) :: (76, G76) :: (78, G78) :: [])) [33] (kDisp [(33, kF 0 5 <| kI 3 fun w3 => kI 4 fun w4 => kI 5 fun w5 => kI 6 fun w6 => kI 7 fun w7 => kI 8 fun w8 => kE fun t => j33 t w3 w4 w5 w6 w7 w8)]) 400 0 [(0, .ref 5), (1, .int a), (2, .int b), (3, .int c)] [] t) = (fun (G161 : List Value → SM → OR) (G160 : List Value → SM → OR) (G82 : List Value → SM → OR) (G85 : List Value → SM → OR) (G87 : List Value → SM → OR) (G80 : List Value → SM → OR) (G76 : List Value → SM → OR) (G78 : List Value → SM → OR) (j33 : SM → Int32 → Int32 → Int32 → Int32 → Int32 → Int32 → OR) (t : SM) (a : Int32) (b : Int32) (c : Int32) =>
  bI (G161 [.int a] t) fun goalOf2 t1 =>
  bI (G160 [.int a] t1) fun startOf4 t3 =>
  hRecv t3 7 5 <| bI (G82 [.ref 5, .int b] t3) fun openIn6 t5 =>
  hRecv t5 7 5 <| bV (G85 [.ref 5, .int goalOf2, .int openIn6] t5) fun t7 =>
  j33 t7 c goalOf2 startOf4 openIn6 0 0) := by rfl
theorem fSs_walk_ok (t : SM) (a : Int32) (b : Int32) (c : Int32) (h : fSs_walk t a b c = some r) : Body l 4 q_88 P_88 r 0 [(0, .ref 5), (1, .int a), (2, .int b), (3, .int c)] [] t :=
  blk ft_88 (by omega) rfl rows_88 (KDok.cons (KOK.f <| KOK.i fun w3 => KOK.i fun w4 => KOK.i fun w5 => KOK.i fun w6 => KOK.i fun w7 => KOK.i fun w8 => KOK.e (f := fun t => fSs_walk_l33 (fun t u4 u5 u7 => fSs_walk_128 t u4 u5 u7) 1000000 t w3 w4 w5 w6 w7 w8) fun t h => fSs_walk_l33_ok (k128 := fun t u4 u5 u7 => fSs_walk_128 t u4 u5 u7) (fun t u4 u5 u7 h => fSs_walk_128_ok t u4 u5 u7 h) 1000000 t w3 w4 w5 w6 w7 w8 h) (KDok.nil)) ((congrFun (congrFun (congrFun (congrFun (congrFun (congrFun (congrFun (congrFun (congrFun (congrFun (congrFun (congrFun (congrFun (fSs_walk_eq) F_161) F_160) F_82) F_85) F_87) F_80) F_76) F_78) (fun t u3 u4 u5 u6 u7 u8 => fSs_walk_l33 (fun t u4 u5 u7 => fSs_walk_128 t u4 u5 u7) 1000000 t u3 u4 u5 u6 u7 u8)) t) a) b) c).trans h)
theorem ok_88 (l : Launch) : Fok l 4 mtab 88 (F_88) := by
  intro as t r h
  unfold F_88 at h
  split at h
  · rename_i z0 a b c
    split at h
    · rename_i hz0
      obtain rfl := Nat.eq_of_beq_eq_true hz0
      exact ⟨q_88, rfl, mok_88, con_of (P := P_88) (by decide +kernel) rfl (Nat.le_of_ble_eq_true rfl) (fSs_walk_ok t a b c h)⟩
    · cases h
  · cases h
end
section
set_option maxRecDepth 100000
variable {l : Launch} {r : RR}
def FT_90 : FT := []
theorem ft_90 : FTok l 1 mtab FT_90 := FTok.nil
theorem fTx_allows_eq : (fun (t : SM) (o : Nat) (a : Int32) => ex clN P_90 none bytJ (mkCal rks ([])) [] (kDisp []) 400 0 [(0, .ref o), (1, .int a)] [] t) = (fun (t : SM) (o : Nat) (a : Int32) =>
  hGetI t 8 o 5 fun allowed1 =>
  if ((allowed1 >>> ((a &&& 15) &&& 31)) &&& 1) = 1 then rI 1 t
  else rI 0 t) := by rfl
theorem fTx_allows_ok (t : SM) (o : Nat) (a : Int32) (h : fTx_allows t o a = some r) : Body l 1 q_90 P_90 r 0 [(0, .ref o), (1, .int a)] [] t :=
  blk ft_90 (by omega) rfl rows_90 (KDok.nil) ((congrFun (congrFun (congrFun (fTx_allows_eq) t) o) a).trans h)
theorem ok_90 (l : Launch) : Fok l 1 mtab 90 (F_90) := by
  intro as t r h
  unfold F_90 at h
  split at h
  · rename_i o a
    exact ⟨q_90, rfl, mok_90, con_of (P := P_90) (by decide +kernel) rfl (Nat.le_of_ble_eq_true rfl) (fTx_allows_ok t o a h)⟩
  · cases h
end
section
set_option maxRecDepth 100000
variable {l : Launch} {r : RR}
def FT_91 : FT := (93, F_93) :: []
theorem ft_91 : FTok l 3 mtab FT_91 := FTok.cons (ok_93 l) (by omega) (FTok.nil)
theorem fTx_harmOf_eq : (fun (G93 : List Value → SM → OR) (t : SM) (o : Nat) (a : Int32) (b : Int32) => ex clN P_91 none bytJ (mkCal rks ((93, G93) :: [])) [] (kDisp []) 400 0 [(0, .ref o), (1, .int a), (2, .int b)] [] t) = (fun (G93 : List Value → SM → OR) (t : SM) (o : Nat) (a : Int32) (b : Int32) =>
  hGetR t 8 o 1 (hRecv t 8 o <| bI (G93 [.ref o, .null, .int a, .int b, .int 0] t) fun valueOf3 t2 =>
    rI valueOf3 t2) fun harmCode1 =>
  hRecv t 8 o <| bI (G93 [.ref o, .ref harmCode1, .int a, .int b, .int 0] t) fun valueOf5 t4 =>
  rI valueOf5 t4) := by rfl
theorem fTx_harmOf_ok (t : SM) (o : Nat) (a : Int32) (b : Int32) (h : fTx_harmOf t o a b = some r) : Body l 3 q_91 P_91 r 0 [(0, .ref o), (1, .int a), (2, .int b)] [] t :=
  blk ft_91 (by omega) rfl rows_91 (KDok.nil) ((congrFun (congrFun (congrFun (congrFun (congrFun (fTx_harmOf_eq) F_93) t) o) a) b).trans h)
theorem ok_91 (l : Launch) : Fok l 3 mtab 91 (F_91) := by
  intro as t r h
  unfold F_91 at h
  split at h
  · rename_i o a b
    exact ⟨q_91, rfl, mok_91, con_of (P := P_91) (by decide +kernel) rfl (Nat.le_of_ble_eq_true rfl) (fTx_harmOf_ok t o a b h)⟩
  · cases h
end
section
set_option maxRecDepth 100000
variable {l : Launch} {r : RR}
def FT_92 : FT := (93, F_93) :: []
theorem ft_92 : FTok l 3 mtab FT_92 := FTok.cons (ok_93 l) (by omega) (FTok.nil)
theorem fTx_priceOf_eq : (fun (G93 : List Value → SM → OR) (t : SM) (o : Nat) (a : Int32) (b : Int32) => ex clN P_92 none bytJ (mkCal rks ((93, G93) :: [])) [] (kDisp []) 400 0 [(0, .ref o), (1, .int a), (2, .int b)] [] t) = (fun (G93 : List Value → SM → OR) (t : SM) (o : Nat) (a : Int32) (b : Int32) =>
  hGetR t 8 o 2 (hRecv t 8 o <| bI (G93 [.ref o, .null, .int a, .int 0, .int b] t) fun valueOf3 t2 =>
    rI valueOf3 t2) fun priceCode1 =>
  hRecv t 8 o <| bI (G93 [.ref o, .ref priceCode1, .int a, .int 0, .int b] t) fun valueOf5 t4 =>
  rI valueOf5 t4) := by rfl
theorem fTx_priceOf_ok (t : SM) (o : Nat) (a : Int32) (b : Int32) (h : fTx_priceOf t o a b = some r) : Body l 3 q_92 P_92 r 0 [(0, .ref o), (1, .int a), (2, .int b)] [] t :=
  blk ft_92 (by omega) rfl rows_92 (KDok.nil) ((congrFun (congrFun (congrFun (congrFun (congrFun (fTx_priceOf_eq) F_93) t) o) a) b).trans h)
theorem ok_92 (l : Launch) : Fok l 3 mtab 92 (F_92) := by
  intro as t r h
  unfold F_92 at h
  split at h
  · rename_i o a b
    exact ⟨q_92, rfl, mok_92, con_of (P := P_92) (by decide +kernel) rfl (Nat.le_of_ble_eq_true rfl) (fTx_priceOf_ok t o a b h)⟩
  · cases h
end
section
set_option maxRecDepth 100000
variable {l : Launch} {r : RR}
def FT_97 : FT := []
theorem ft_97 : FTok l 1 mtab FT_97 := FTok.nil
theorem fWd_init_eq : (fun (t : SM) => ex clN P_97 none bytJ (mkCal rks ([])) [] (kDisp []) 400 0 [(0, .ref 16)] [] t) = (fun (t : SM) =>
  hNewA t 20 512 fun q1 t2 =>
  hPutR t2 9 16 0 (some q1) fun t3 =>
  hNewA t3 20 128 fun q4 t5 =>
  hPutR t5 9 16 2 (some q4) fun t6 =>
  rV t6) := by rfl
theorem fWd_init_ok (t : SM) (h : fWd_init t = some r) : Body l 1 q_97 P_97 r 0 [(0, .ref 16)] [] t :=
  blk ft_97 (by omega) rfl rows_97 (KDok.nil) ((congrFun (fWd_init_eq) t).trans h)
theorem ok_97 (l : Launch) : Fok l 1 mtab 97 (F_97) := by
  intro as t r h
  unfold F_97 at h
  split at h
  · rename_i z0
    split at h
    · rename_i hz0
      obtain rfl := Nat.eq_of_beq_eq_true hz0
      exact ⟨q_97, rfl, mok_97, con_of (P := P_97) (by decide +kernel) rfl (Nat.le_of_ble_eq_true rfl) (fWd_init_ok t h)⟩
    · cases h
  · cases h
end
section
set_option maxRecDepth 100000
variable {l : Launch} {r : RR}
def FT_98 : FT := []
theorem ft_98 : FTok l 1 mtab FT_98 := FTok.nil
theorem fWd_add_eq : (fun (t : SM) (a : Int32) => ex clN P_98 none bytJ (mkCal rks ([])) [] (kDisp []) 400 0 [(0, .ref 16), (1, .int a)] [] t) = (fun (t : SM) (a : Int32) =>
  hGetI t 9 16 1 fun size1 =>
  if size1 < 0 then rV t
  else hGetI t 9 16 1 fun size2 =>
  hGetC t 9 16 0 17 <|
  hALen t 17 fun n3 =>
  if n3 ≤ size2 then rV t
  else hGetC t 9 16 0 17 <|
  hGetI t 9 16 1 fun size4 =>
  hASt t 17 size4 a fun t5 =>
  hGetI t5 9 16 1 fun size6 =>
  hPutI t5 9 16 1 (size6 + 1) fun t7 =>
  rV t7) := by rfl
theorem fWd_add_ok (t : SM) (a : Int32) (h : fWd_add t a = some r) : Body l 1 q_98 P_98 r 0 [(0, .ref 16), (1, .int a)] [] t :=
  blk ft_98 (by omega) rfl rows_98 (KDok.nil) ((congrFun (congrFun (fWd_add_eq) t) a).trans h)
theorem ok_98 (l : Launch) : Fok l 1 mtab 98 (F_98) := by
  intro as t r h
  unfold F_98 at h
  split at h
  · rename_i z0 a
    split at h
    · rename_i hz0
      obtain rfl := Nat.eq_of_beq_eq_true hz0
      exact ⟨q_98, rfl, mok_98, con_of (P := P_98) (by decide +kernel) rfl (Nat.le_of_ble_eq_true rfl) (fWd_add_ok t a h)⟩
    · cases h
  · cases h
end
section
set_option maxRecDepth 100000
variable {l : Launch} {r : RR}
def FT_100 : FT := (99, F_99) :: []
theorem ft_100 : FTok l 2 mtab FT_100 := FTok.cons (ok_99 l) (by omega) (FTok.nil)
theorem fWd_placeOf_2_eq : (fun (G99 : List Value → SM → OR) (j2 : SM → Int32 → Int32 → OR) (t : SM) (v1 : Int32) (v2 : Int32) => ex clN P_100 none bytJ (mkCal rks ((99, G99) :: [])) [2] (kDisp [(2, kF 0 16 <| kI 1 fun w1 => kI 2 fun w2 => kE fun t => j2 t w1 w2)]) 400 2 [(2, .int v2), (1, .int v1), (0, .ref 16)] [] t) = (fun (G99 : List Value → SM → OR) (j2 : SM → Int32 → Int32 → OR) (t : SM) (v1 : Int32) (v2 : Int32) =>
  hGetI t 9 16 1 fun size1 =>
  if size1 ≤ v2 then rI (-1) t
  else hRecv t 9 16 <| bI (G99 [.ref 16, .int v2] t) fun townAt3 t2 =>
  if townAt3 = v1 then rI v2 t2
  else j2 t2 v1 (v2 + 1)) := by rfl
theorem fWd_placeOf_2_ok {r2 : SM → Int32 → Int32 → OR} (h_r2 : ∀ (t : SM) (v1 : Int32) (v2 : Int32), r2 t v1 v2 = some r → Body l 2 q_100 P_100 r 2 [(2, .int v2), (1, .int v1), (0, .ref 16)] [] t) (t : SM) (v1 : Int32) (v2 : Int32) (h : fWd_placeOf_2 r2 t v1 v2 = some r) : Body l 2 q_100 P_100 r 2 [(2, .int v2), (1, .int v1), (0, .ref 16)] [] t :=
  blk ft_100 (by omega) rfl rows_100 (KDok.cons (KOK.f <| KOK.i fun w1 => KOK.i fun w2 => KOK.e (f := fun t => r2 t w1 w2) fun t h => h_r2 t w1 w2 h) (KDok.nil)) ((congrFun (congrFun (congrFun (congrFun (congrFun (fWd_placeOf_2_eq) F_99) (fun t u1 u2 => r2 t u1 u2)) t) v1) v2).trans h)
theorem fWd_placeOf_l2_ok : ∀ (n : Nat) (t : SM) (v1 : Int32) (v2 : Int32), fWd_placeOf_l2 n t v1 v2 = some r → Body l 2 q_100 P_100 r 2 [(2, .int v2), (1, .int v1), (0, .ref 16)] [] t
  | 0, _, _, _, h => by cases h
  | n + 1, t, v1, v2, h => fWd_placeOf_2_ok (fWd_placeOf_l2_ok n) t v1 v2 h
theorem fWd_placeOf_eq : (fun (G99 : List Value → SM → OR) (j2 : SM → Int32 → Int32 → OR) (t : SM) (a : Int32) => ex clN P_100 none bytJ (mkCal rks ((99, G99) :: [])) [2] (kDisp [(2, kF 0 16 <| kI 1 fun w1 => kI 2 fun w2 => kE fun t => j2 t w1 w2)]) 400 0 [(0, .ref 16), (1, .int a)] [] t) = (fun (G99 : List Value → SM → OR) (j2 : SM → Int32 → Int32 → OR) (t : SM) (a : Int32) =>
  j2 t a 0) := by rfl
theorem fWd_placeOf_ok (t : SM) (a : Int32) (h : fWd_placeOf t a = some r) : Body l 2 q_100 P_100 r 0 [(0, .ref 16), (1, .int a)] [] t :=
  blk ft_100 (by omega) rfl rows_100 (KDok.cons (KOK.f <| KOK.i fun w1 => KOK.i fun w2 => KOK.e (f := fun t => fWd_placeOf_l2 1000000 t w1 w2) fun t h => fWd_placeOf_l2_ok 1000000 t w1 w2 h) (KDok.nil)) ((congrFun (congrFun (congrFun (congrFun (fWd_placeOf_eq) F_99) (fun t u1 u2 => fWd_placeOf_l2 1000000 t u1 u2)) t) a).trans h)
theorem ok_100 (l : Launch) : Fok l 2 mtab 100 (F_100) := by
  intro as t r h
  unfold F_100 at h
  split at h
  · rename_i z0 a
    split at h
    · rename_i hz0
      obtain rfl := Nat.eq_of_beq_eq_true hz0
      exact ⟨q_100, rfl, mok_100, con_of (P := P_100) (by decide +kernel) rfl (Nat.le_of_ble_eq_true rfl) (fWd_placeOf_ok t a h)⟩
    · cases h
  · cases h
end
section
set_option maxRecDepth 100000
variable {l : Launch} {r : RR}
def FT_101 : FT := (99, F_99) :: []
theorem ft_101 : FTok l 2 mtab FT_101 := FTok.cons (ok_99 l) (by omega) (FTok.nil)
theorem fWd_soInAll_6_eq : (fun (G99 : List Value → SM → OR) (j6 : SM → Int32 → Int32 → OR) (t : SM) (v1 : Int32) (v2 : Int32) => ex clN P_101 none bytJ (mkCal rks ((99, G99) :: [])) [6] (kDisp [(6, kF 0 16 <| kI 1 fun w1 => kI 2 fun w2 => kE fun t => j6 t w1 w2)]) 400 6 [(2, .int v2), (1, .int v1), (0, .ref 16)] [] t) = (fun (G99 : List Value → SM → OR) (j6 : SM → Int32 → Int32 → OR) (t : SM) (v1 : Int32) (v2 : Int32) =>
  hGetI t 9 16 1 fun size1 =>
  if size1 ≤ v2 then rI v1 t
  else hRecv t 9 16 <| bI (G99 [.ref 16, .int v2] t) fun townAt3 t2 =>
  j6 t2 (v1 &&& townAt3) (v2 + 1)) := by rfl
theorem fWd_soInAll_6_ok {r6 : SM → Int32 → Int32 → OR} (h_r6 : ∀ (t : SM) (v1 : Int32) (v2 : Int32), r6 t v1 v2 = some r → Body l 2 q_101 P_101 r 6 [(2, .int v2), (1, .int v1), (0, .ref 16)] [] t) (t : SM) (v1 : Int32) (v2 : Int32) (h : fWd_soInAll_6 r6 t v1 v2 = some r) : Body l 2 q_101 P_101 r 6 [(2, .int v2), (1, .int v1), (0, .ref 16)] [] t :=
  blk ft_101 (by omega) rfl rows_101 (KDok.cons (KOK.f <| KOK.i fun w1 => KOK.i fun w2 => KOK.e (f := fun t => r6 t w1 w2) fun t h => h_r6 t w1 w2 h) (KDok.nil)) ((congrFun (congrFun (congrFun (congrFun (congrFun (fWd_soInAll_6_eq) F_99) (fun t u1 u2 => r6 t u1 u2)) t) v1) v2).trans h)
theorem fWd_soInAll_l6_ok : ∀ (n : Nat) (t : SM) (v1 : Int32) (v2 : Int32), fWd_soInAll_l6 n t v1 v2 = some r → Body l 2 q_101 P_101 r 6 [(2, .int v2), (1, .int v1), (0, .ref 16)] [] t
  | 0, _, _, _, h => by cases h
  | n + 1, t, v1, v2, h => fWd_soInAll_6_ok (fWd_soInAll_l6_ok n) t v1 v2 h
theorem fWd_soInAll_eq : (fun (G99 : List Value → SM → OR) (j6 : SM → Int32 → Int32 → OR) (t : SM) => ex clN P_101 none bytJ (mkCal rks ((99, G99) :: [])) [6] (kDisp [(6, kF 0 16 <| kI 1 fun w1 => kI 2 fun w2 => kE fun t => j6 t w1 w2)]) 400 0 [(0, .ref 16)] [] t) = (fun (G99 : List Value → SM → OR) (j6 : SM → Int32 → Int32 → OR) (t : SM) =>
  j6 t 511 0) := by rfl
theorem fWd_soInAll_ok (t : SM) (h : fWd_soInAll t = some r) : Body l 2 q_101 P_101 r 0 [(0, .ref 16)] [] t :=
  blk ft_101 (by omega) rfl rows_101 (KDok.cons (KOK.f <| KOK.i fun w1 => KOK.i fun w2 => KOK.e (f := fun t => fWd_soInAll_l6 1000000 t w1 w2) fun t h => fWd_soInAll_l6_ok 1000000 t w1 w2 h) (KDok.nil)) ((congrFun (congrFun (congrFun (fWd_soInAll_eq) F_99) (fun t u1 u2 => fWd_soInAll_l6 1000000 t u1 u2)) t).trans h)
theorem ok_101 (l : Launch) : Fok l 2 mtab 101 (F_101) := by
  intro as t r h
  unfold F_101 at h
  split at h
  · rename_i z0
    split at h
    · rename_i hz0
      obtain rfl := Nat.eq_of_beq_eq_true hz0
      exact ⟨q_101, rfl, mok_101, con_of (P := P_101) (by decide +kernel) rfl (Nat.le_of_ble_eq_true rfl) (fWd_soInAll_ok t h)⟩
    · cases h
  · cases h
end
section
set_option maxRecDepth 100000
variable {l : Launch} {r : RR}
def FT_102 : FT := (99, F_99) :: []
theorem ft_102 : FTok l 2 mtab FT_102 := FTok.cons (ok_99 l) (by omega) (FTok.nil)
theorem fWd_soInSome_4_eq : (fun (G99 : List Value → SM → OR) (j4 : SM → Int32 → Int32 → OR) (t : SM) (v1 : Int32) (v2 : Int32) => ex clN P_102 none bytJ (mkCal rks ((99, G99) :: [])) [4] (kDisp [(4, kF 0 16 <| kI 1 fun w1 => kI 2 fun w2 => kE fun t => j4 t w1 w2)]) 400 4 [(2, .int v2), (1, .int v1), (0, .ref 16)] [] t) = (fun (G99 : List Value → SM → OR) (j4 : SM → Int32 → Int32 → OR) (t : SM) (v1 : Int32) (v2 : Int32) =>
  hGetI t 9 16 1 fun size1 =>
  if size1 ≤ v2 then rI v1 t
  else hRecv t 9 16 <| bI (G99 [.ref 16, .int v2] t) fun townAt3 t2 =>
  j4 t2 (v1 ||| townAt3) (v2 + 1)) := by rfl
theorem fWd_soInSome_4_ok {r4 : SM → Int32 → Int32 → OR} (h_r4 : ∀ (t : SM) (v1 : Int32) (v2 : Int32), r4 t v1 v2 = some r → Body l 2 q_102 P_102 r 4 [(2, .int v2), (1, .int v1), (0, .ref 16)] [] t) (t : SM) (v1 : Int32) (v2 : Int32) (h : fWd_soInSome_4 r4 t v1 v2 = some r) : Body l 2 q_102 P_102 r 4 [(2, .int v2), (1, .int v1), (0, .ref 16)] [] t :=
  blk ft_102 (by omega) rfl rows_102 (KDok.cons (KOK.f <| KOK.i fun w1 => KOK.i fun w2 => KOK.e (f := fun t => r4 t w1 w2) fun t h => h_r4 t w1 w2 h) (KDok.nil)) ((congrFun (congrFun (congrFun (congrFun (congrFun (fWd_soInSome_4_eq) F_99) (fun t u1 u2 => r4 t u1 u2)) t) v1) v2).trans h)
theorem fWd_soInSome_l4_ok : ∀ (n : Nat) (t : SM) (v1 : Int32) (v2 : Int32), fWd_soInSome_l4 n t v1 v2 = some r → Body l 2 q_102 P_102 r 4 [(2, .int v2), (1, .int v1), (0, .ref 16)] [] t
  | 0, _, _, _, h => by cases h
  | n + 1, t, v1, v2, h => fWd_soInSome_4_ok (fWd_soInSome_l4_ok n) t v1 v2 h
theorem fWd_soInSome_eq : (fun (G99 : List Value → SM → OR) (j4 : SM → Int32 → Int32 → OR) (t : SM) => ex clN P_102 none bytJ (mkCal rks ((99, G99) :: [])) [4] (kDisp [(4, kF 0 16 <| kI 1 fun w1 => kI 2 fun w2 => kE fun t => j4 t w1 w2)]) 400 0 [(0, .ref 16)] [] t) = (fun (G99 : List Value → SM → OR) (j4 : SM → Int32 → Int32 → OR) (t : SM) =>
  j4 t 0 0) := by rfl
theorem fWd_soInSome_ok (t : SM) (h : fWd_soInSome t = some r) : Body l 2 q_102 P_102 r 0 [(0, .ref 16)] [] t :=
  blk ft_102 (by omega) rfl rows_102 (KDok.cons (KOK.f <| KOK.i fun w1 => KOK.i fun w2 => KOK.e (f := fun t => fWd_soInSome_l4 1000000 t w1 w2) fun t h => fWd_soInSome_l4_ok 1000000 t w1 w2 h) (KDok.nil)) ((congrFun (congrFun (congrFun (fWd_soInSome_eq) F_99) (fun t u1 u2 => fWd_soInSome_l4 1000000 t u1 u2)) t).trans h)
theorem ok_102 (l : Launch) : Fok l 2 mtab 102 (F_102) := by
  intro as t r h
  unfold F_102 at h
  split at h
  · rename_i z0
    split at h
    · rename_i hz0
      obtain rfl := Nat.eq_of_beq_eq_true hz0
      exact ⟨q_102, rfl, mok_102, con_of (P := P_102) (by decide +kernel) rfl (Nat.le_of_ble_eq_true rfl) (fWd_soInSome_ok t h)⟩
    · cases h
  · cases h
end
section
set_option maxRecDepth 100000
variable {l : Launch} {r : RR}
def FT_103 : FT := (99, F_99) :: []
theorem ft_103 : FTok l 2 mtab FT_103 := FTok.cons (ok_99 l) (by omega) (FTok.nil)
theorem fWd_howManyHave_4_eq : (fun (G99 : List Value → SM → OR) (j4 : SM → Int32 → Int32 → Int32 → OR) (t : SM) (v1 : Int32) (v2 : Int32) (v3 : Int32) => ex clN P_103 none bytJ (mkCal rks ((99, G99) :: [])) [4] (kDisp [(4, kF 0 16 <| kI 1 fun w1 => kI 2 fun w2 => kI 3 fun w3 => kE fun t => j4 t w1 w2 w3)]) 400 4 [(3, .int v3), (2, .int v2), (1, .int v1), (0, .ref 16)] [] t) = (fun (G99 : List Value → SM → OR) (j4 : SM → Int32 → Int32 → Int32 → OR) (t : SM) (v1 : Int32) (v2 : Int32) (v3 : Int32) =>
  hGetI t 9 16 1 fun size1 =>
  if size1 ≤ v3 then rI v2 t
  else hRecv t 9 16 <| bI (G99 [.ref 16, .int v3] t) fun townAt3 t2 =>
  j4 t2 v1 (v2 + ((townAt3 >>> (v1 &&& 31)) &&& 1)) (v3 + 1)) := by rfl
theorem fWd_howManyHave_4_ok {r4 : SM → Int32 → Int32 → Int32 → OR} (h_r4 : ∀ (t : SM) (v1 : Int32) (v2 : Int32) (v3 : Int32), r4 t v1 v2 v3 = some r → Body l 2 q_103 P_103 r 4 [(3, .int v3), (2, .int v2), (1, .int v1), (0, .ref 16)] [] t) (t : SM) (v1 : Int32) (v2 : Int32) (v3 : Int32) (h : fWd_howManyHave_4 r4 t v1 v2 v3 = some r) : Body l 2 q_103 P_103 r 4 [(3, .int v3), (2, .int v2), (1, .int v1), (0, .ref 16)] [] t :=
  blk ft_103 (by omega) rfl rows_103 (KDok.cons (KOK.f <| KOK.i fun w1 => KOK.i fun w2 => KOK.i fun w3 => KOK.e (f := fun t => r4 t w1 w2 w3) fun t h => h_r4 t w1 w2 w3 h) (KDok.nil)) ((congrFun (congrFun (congrFun (congrFun (congrFun (congrFun (fWd_howManyHave_4_eq) F_99) (fun t u1 u2 u3 => r4 t u1 u2 u3)) t) v1) v2) v3).trans h)
theorem fWd_howManyHave_l4_ok : ∀ (n : Nat) (t : SM) (v1 : Int32) (v2 : Int32) (v3 : Int32), fWd_howManyHave_l4 n t v1 v2 v3 = some r → Body l 2 q_103 P_103 r 4 [(3, .int v3), (2, .int v2), (1, .int v1), (0, .ref 16)] [] t
  | 0, _, _, _, _, h => by cases h
  | n + 1, t, v1, v2, v3, h => fWd_howManyHave_4_ok (fWd_howManyHave_l4_ok n) t v1 v2 v3 h
theorem fWd_howManyHave_eq : (fun (G99 : List Value → SM → OR) (j4 : SM → Int32 → Int32 → Int32 → OR) (t : SM) (a : Int32) => ex clN P_103 none bytJ (mkCal rks ((99, G99) :: [])) [4] (kDisp [(4, kF 0 16 <| kI 1 fun w1 => kI 2 fun w2 => kI 3 fun w3 => kE fun t => j4 t w1 w2 w3)]) 400 0 [(0, .ref 16), (1, .int a)] [] t) = (fun (G99 : List Value → SM → OR) (j4 : SM → Int32 → Int32 → Int32 → OR) (t : SM) (a : Int32) =>
  j4 t a 0 0) := by rfl
theorem fWd_howManyHave_ok (t : SM) (a : Int32) (h : fWd_howManyHave t a = some r) : Body l 2 q_103 P_103 r 0 [(0, .ref 16), (1, .int a)] [] t :=
  blk ft_103 (by omega) rfl rows_103 (KDok.cons (KOK.f <| KOK.i fun w1 => KOK.i fun w2 => KOK.i fun w3 => KOK.e (f := fun t => fWd_howManyHave_l4 1000000 t w1 w2 w3) fun t h => fWd_howManyHave_l4_ok 1000000 t w1 w2 w3 h) (KDok.nil)) ((congrFun (congrFun (congrFun (congrFun (fWd_howManyHave_eq) F_99) (fun t u1 u2 u3 => fWd_howManyHave_l4 1000000 t u1 u2 u3)) t) a).trans h)
theorem ok_103 (l : Launch) : Fok l 2 mtab 103 (F_103) := by
  intro as t r h
  unfold F_103 at h
  split at h
  · rename_i z0 a
    split at h
    · rename_i hz0
      obtain rfl := Nat.eq_of_beq_eq_true hz0
      exact ⟨q_103, rfl, mok_103, con_of (P := P_103) (by decide +kernel) rfl (Nat.le_of_ble_eq_true rfl) (fWd_howManyHave_ok t a h)⟩
    · cases h
  · cases h
end
section
set_option maxRecDepth 100000
variable {l : Launch} {r : RR}
def FT_106 : FT := (99, F_99) :: []
theorem ft_106 : FTok l 2 mtab FT_106 := FTok.cons (ok_99 l) (by omega) (FTok.nil)
theorem fWd_whichHave_4_eq : (fun (G99 : List Value → SM → OR) (j4 : SM → Int32 → Int32 → Int32 → OR) (t : SM) (v1 : Int32) (v2 : Int32) (v3 : Int32) => ex clN P_106 none bytJ (mkCal rks ((99, G99) :: [])) [4] (kDisp [(4, kF 0 16 <| kI 1 fun w1 => kI 2 fun w2 => kI 3 fun w3 => kE fun t => j4 t w1 w2 w3)]) 400 4 [(3, .int v3), (2, .int v2), (1, .int v1), (0, .ref 16)] [] t) = (fun (G99 : List Value → SM → OR) (j4 : SM → Int32 → Int32 → Int32 → OR) (t : SM) (v1 : Int32) (v2 : Int32) (v3 : Int32) =>
  hGetI t 9 16 1 fun size1 =>
  if size1 ≤ v3 then rI v2 t
  else if 7 ≤ v3 then rI v2 t
  else hRecv t 9 16 <| bI (G99 [.ref 16, .int v3] t) fun townAt3 t2 =>
  j4 t2 v1 (v2 ||| (((townAt3 >>> (v1 &&& 31)) &&& 1) <<< (v3 &&& 31))) (v3 + 1)) := by rfl
theorem fWd_whichHave_4_ok {r4 : SM → Int32 → Int32 → Int32 → OR} (h_r4 : ∀ (t : SM) (v1 : Int32) (v2 : Int32) (v3 : Int32), r4 t v1 v2 v3 = some r → Body l 2 q_106 P_106 r 4 [(3, .int v3), (2, .int v2), (1, .int v1), (0, .ref 16)] [] t) (t : SM) (v1 : Int32) (v2 : Int32) (v3 : Int32) (h : fWd_whichHave_4 r4 t v1 v2 v3 = some r) : Body l 2 q_106 P_106 r 4 [(3, .int v3), (2, .int v2), (1, .int v1), (0, .ref 16)] [] t :=
  blk ft_106 (by omega) rfl rows_106 (KDok.cons (KOK.f <| KOK.i fun w1 => KOK.i fun w2 => KOK.i fun w3 => KOK.e (f := fun t => r4 t w1 w2 w3) fun t h => h_r4 t w1 w2 w3 h) (KDok.nil)) ((congrFun (congrFun (congrFun (congrFun (congrFun (congrFun (fWd_whichHave_4_eq) F_99) (fun t u1 u2 u3 => r4 t u1 u2 u3)) t) v1) v2) v3).trans h)
theorem fWd_whichHave_l4_ok : ∀ (n : Nat) (t : SM) (v1 : Int32) (v2 : Int32) (v3 : Int32), fWd_whichHave_l4 n t v1 v2 v3 = some r → Body l 2 q_106 P_106 r 4 [(3, .int v3), (2, .int v2), (1, .int v1), (0, .ref 16)] [] t
  | 0, _, _, _, _, h => by cases h
  | n + 1, t, v1, v2, v3, h => fWd_whichHave_4_ok (fWd_whichHave_l4_ok n) t v1 v2 v3 h
theorem fWd_whichHave_eq : (fun (G99 : List Value → SM → OR) (j4 : SM → Int32 → Int32 → Int32 → OR) (t : SM) (a : Int32) => ex clN P_106 none bytJ (mkCal rks ((99, G99) :: [])) [4] (kDisp [(4, kF 0 16 <| kI 1 fun w1 => kI 2 fun w2 => kI 3 fun w3 => kE fun t => j4 t w1 w2 w3)]) 400 0 [(0, .ref 16), (1, .int a)] [] t) = (fun (G99 : List Value → SM → OR) (j4 : SM → Int32 → Int32 → Int32 → OR) (t : SM) (a : Int32) =>
  j4 t a 0 0) := by rfl
theorem fWd_whichHave_ok (t : SM) (a : Int32) (h : fWd_whichHave t a = some r) : Body l 2 q_106 P_106 r 0 [(0, .ref 16), (1, .int a)] [] t :=
  blk ft_106 (by omega) rfl rows_106 (KDok.cons (KOK.f <| KOK.i fun w1 => KOK.i fun w2 => KOK.i fun w3 => KOK.e (f := fun t => fWd_whichHave_l4 1000000 t w1 w2 w3) fun t h => fWd_whichHave_l4_ok 1000000 t w1 w2 w3 h) (KDok.nil)) ((congrFun (congrFun (congrFun (congrFun (fWd_whichHave_eq) F_99) (fun t u1 u2 u3 => fWd_whichHave_l4 1000000 t u1 u2 u3)) t) a).trans h)
theorem ok_106 (l : Launch) : Fok l 2 mtab 106 (F_106) := by
  intro as t r h
  unfold F_106 at h
  split at h
  · rename_i z0 a
    split at h
    · rename_i hz0
      obtain rfl := Nat.eq_of_beq_eq_true hz0
      exact ⟨q_106, rfl, mok_106, con_of (P := P_106) (by decide +kernel) rfl (Nat.le_of_ble_eq_true rfl) (fWd_whichHave_ok t a h)⟩
    · cases h
  · cases h
end
section
set_option maxRecDepth 100000
variable {l : Launch} {r : RR}
def FT_105 : FT := (0, F_0) :: (106, F_106) :: (166, F_166) :: (1, F_1) :: (2, F_2) :: []
theorem ft_105 : FTok l 3 mtab FT_105 := FTok.cons (ok_0 l) (by omega) (FTok.cons (ok_106 l) (by omega) (FTok.cons (ok_166 l) (by omega) (FTok.cons (ok_1 l) (by omega) (FTok.cons (ok_2 l) (by omega) (FTok.nil)))))
theorem fWd_looksFor_16_eq : (fun (G0 : List Value → SM → OR) (G106 : List Value → SM → OR) (G166 : List Value → SM → OR) (G1 : List Value → SM → OR) (G2 : List Value → SM → OR) (j16 : SM → Int32 → Int32 → Int32 → Int32 → OR) (t : SM) (v1 : Int32) (v2 : Int32) (v3 : Int32) (v4 : Int32) => ex clN P_105 none bytJ (mkCal rks ((0, G0) :: (106, G106) :: (166, G166) :: (1, G1) :: (2, G2) :: [])) [16] (kDisp [(16, kF 0 16 <| kI 1 fun w1 => kI 2 fun w2 => kI 3 fun w3 => kI 4 fun w4 => kE fun t => j16 t w1 w2 w3 w4)]) 400 16 [(4, .int v4), (3, .int v3), (2, .int v2), (1, .int v1), (0, .ref 16)] [] t) = (fun (G0 : List Value → SM → OR) (G106 : List Value → SM → OR) (G166 : List Value → SM → OR) (G1 : List Value → SM → OR) (G2 : List Value → SM → OR) (j16 : SM → Int32 → Int32 → Int32 → Int32 → OR) (t : SM) (v1 : Int32) (v2 : Int32) (v3 : Int32) (v4 : Int32) =>
  if v2 ≤ v4 then rI v3 t
  else hRecv t 9 16 <| bI (G106 [.ref 16, .int v4] t) fun whichHave2 t1 =>
  if (v1 &&& whichHave2) = 0 then j16 t1 v1 v2 v3 (v4 + 1)
  else if (v1 &&& whichHave2) = v1 then j16 t1 v1 v2 v3 (v4 + 1)
  else hGetC t1 9 16 2 18 <|
  bI (G166 [.ref 18, .int (v1 &&& whichHave2)] t1) fun numberAt4 t3 =>
  hGetC t3 9 16 2 18 <|
  bI (G166 [.ref 18, .int (v1 &&& ((v1 &&& whichHave2) ^^^ (-1)))] t3) fun numberAt6 t5 =>
  bI (G1 [.int numberAt4, .int numberAt6] t5) fun max8 t7 =>
  bI (G2 [.int v3, .int (1 + max8)] t7) fun min10 t9 =>
  j16 t9 v1 v2 min10 (v4 + 1)) := by rfl
theorem fWd_looksFor_16_ok {r16 : SM → Int32 → Int32 → Int32 → Int32 → OR} (h_r16 : ∀ (t : SM) (v1 : Int32) (v2 : Int32) (v3 : Int32) (v4 : Int32), r16 t v1 v2 v3 v4 = some r → Body l 3 q_105 P_105 r 16 [(4, .int v4), (3, .int v3), (2, .int v2), (1, .int v1), (0, .ref 16)] [] t) (t : SM) (v1 : Int32) (v2 : Int32) (v3 : Int32) (v4 : Int32) (h : fWd_looksFor_16 r16 t v1 v2 v3 v4 = some r) : Body l 3 q_105 P_105 r 16 [(4, .int v4), (3, .int v3), (2, .int v2), (1, .int v1), (0, .ref 16)] [] t :=
  blk ft_105 (by omega) rfl rows_105 (KDok.cons (KOK.f <| KOK.i fun w1 => KOK.i fun w2 => KOK.i fun w3 => KOK.i fun w4 => KOK.e (f := fun t => r16 t w1 w2 w3 w4) fun t h => h_r16 t w1 w2 w3 w4 h) (KDok.nil)) ((congrFun (congrFun (congrFun (congrFun (congrFun (congrFun (congrFun (congrFun (congrFun (congrFun (congrFun (fWd_looksFor_16_eq) F_0) F_106) F_166) F_1) F_2) (fun t u1 u2 u3 u4 => r16 t u1 u2 u3 u4)) t) v1) v2) v3) v4).trans h)
theorem fWd_looksFor_l16_ok : ∀ (n : Nat) (t : SM) (v1 : Int32) (v2 : Int32) (v3 : Int32) (v4 : Int32), fWd_looksFor_l16 n t v1 v2 v3 v4 = some r → Body l 3 q_105 P_105 r 16 [(4, .int v4), (3, .int v3), (2, .int v2), (1, .int v1), (0, .ref 16)] [] t
  | 0, _, _, _, _, _, h => by cases h
  | n + 1, t, v1, v2, v3, v4, h => fWd_looksFor_16_ok (fWd_looksFor_l16_ok n) t v1 v2 v3 v4 h
theorem fWd_looksFor_eq : (fun (G0 : List Value → SM → OR) (G106 : List Value → SM → OR) (G166 : List Value → SM → OR) (G1 : List Value → SM → OR) (G2 : List Value → SM → OR) (j16 : SM → Int32 → Int32 → Int32 → Int32 → OR) (t : SM) (a : Int32) (b : Int32) => ex clN P_105 none bytJ (mkCal rks ((0, G0) :: (106, G106) :: (166, G166) :: (1, G1) :: (2, G2) :: [])) [16] (kDisp [(16, kF 0 16 <| kI 1 fun w1 => kI 2 fun w2 => kI 3 fun w3 => kI 4 fun w4 => kE fun t => j16 t w1 w2 w3 w4)]) 400 0 [(0, .ref 16), (1, .int a), (2, .int b)] [] t) = (fun (G0 : List Value → SM → OR) (G106 : List Value → SM → OR) (G166 : List Value → SM → OR) (G1 : List Value → SM → OR) (G2 : List Value → SM → OR) (j16 : SM → Int32 → Int32 → Int32 → Int32 → OR) (t : SM) (a : Int32) (b : Int32) =>
  bI (G0 [.int a] t) fun bitCount2 t1 =>
  if 1 < bitCount2 then j16 t1 a b 9 0
  else rI 0 t1) := by rfl
theorem fWd_looksFor_ok (t : SM) (a : Int32) (b : Int32) (h : fWd_looksFor t a b = some r) : Body l 3 q_105 P_105 r 0 [(0, .ref 16), (1, .int a), (2, .int b)] [] t :=
  blk ft_105 (by omega) rfl rows_105 (KDok.cons (KOK.f <| KOK.i fun w1 => KOK.i fun w2 => KOK.i fun w3 => KOK.i fun w4 => KOK.e (f := fun t => fWd_looksFor_l16 1000000 t w1 w2 w3 w4) fun t h => fWd_looksFor_l16_ok 1000000 t w1 w2 w3 w4 h) (KDok.nil)) ((congrFun (congrFun (congrFun (congrFun (congrFun (congrFun (congrFun (congrFun (congrFun (fWd_looksFor_eq) F_0) F_106) F_166) F_1) F_2) (fun t u1 u2 u3 u4 => fWd_looksFor_l16 1000000 t u1 u2 u3 u4)) t) a) b).trans h)
theorem ok_105 (l : Launch) : Fok l 3 mtab 105 (F_105) := by
  intro as t r h
  unfold F_105 at h
  split at h
  · rename_i z0 a b
    split at h
    · rename_i hz0
      obtain rfl := Nat.eq_of_beq_eq_true hz0
      exact ⟨q_105, rfl, mok_105, con_of (P := P_105) (by decide +kernel) rfl (Nat.le_of_ble_eq_true rfl) (fWd_looksFor_ok t a b h)⟩
    · cases h
  · cases h
end
section
set_option maxRecDepth 100000
variable {l : Launch} {r : RR}
def FT_104 : FT := (2, F_2) :: (105, F_105) :: (167, F_167) :: (166, F_166) :: []
theorem ft_104 : FTok l 4 mtab FT_104 := FTok.cons (ok_2 l) (by omega) (FTok.cons (ok_105 l) (by omega) (FTok.cons (ok_167 l) (by omega) (FTok.cons (ok_166 l) (by omega) (FTok.nil))))
theorem fWd_looksAtWorst_41_eq : (fun (G2 : List Value → SM → OR) (G105 : List Value → SM → OR) (G167 : List Value → SM → OR) (G166 : List Value → SM → OR) (t : SM) (v2 : Int32) => ex clN P_104 none bytJ (mkCal rks ((2, G2) :: (105, G105) :: (167, G167) :: (166, G166) :: [])) [] (kDisp []) 400 41 [(2, .int v2), (0, .ref 16)] [] t) = (fun (G2 : List Value → SM → OR) (G105 : List Value → SM → OR) (G167 : List Value → SM → OR) (G166 : List Value → SM → OR) (t : SM) (v2 : Int32) =>
  hGetC t 9 16 2 18 <|
  bI (G166 [.ref 18, .int v2] t) fun numberAt2 t1 =>
  rI numberAt2 t1) := by rfl
theorem fWd_looksAtWorst_41_ok (t : SM) (v2 : Int32) (h : fWd_looksAtWorst_41 t v2 = some r) : Body l 4 q_104 P_104 r 41 [(2, .int v2), (0, .ref 16)] [] t :=
  blk ft_104 (by omega) rfl rows_104 (KDok.nil) ((congrFun (congrFun (congrFun (congrFun (congrFun (congrFun (fWd_looksAtWorst_41_eq) F_2) F_105) F_167) F_166) t) v2).trans h)
theorem fWd_looksAtWorst_16_eq : (fun (G2 : List Value → SM → OR) (G105 : List Value → SM → OR) (G167 : List Value → SM → OR) (G166 : List Value → SM → OR) (j16 : SM → Int32 → Int32 → Int32 → OR) (j41 : SM → Int32 → OR) (t : SM) (v1 : Int32) (v2 : Int32) (v3 : Int32) => ex clN P_104 none bytJ (mkCal rks ((2, G2) :: (105, G105) :: (167, G167) :: (166, G166) :: [])) [16, 41] (kDisp [(16, kF 0 16 <| kI 1 fun w1 => kI 2 fun w2 => kI 3 fun w3 => kE fun t => j16 t w1 w2 w3), (41, kF 0 16 <| kI 2 fun w2 => kE fun t => j41 t w2)]) 400 16 [(3, .int v3), (2, .int v2), (1, .int v1), (0, .ref 16)] [] t) = (fun (G2 : List Value → SM → OR) (G105 : List Value → SM → OR) (G167 : List Value → SM → OR) (G166 : List Value → SM → OR) (j16 : SM → Int32 → Int32 → Int32 → OR) (j41 : SM → Int32 → OR) (t : SM) (v1 : Int32) (v2 : Int32) (v3 : Int32) =>
  if v2 < v3 then j41 t v2
  else hGetC t 9 16 2 18 <|
  hRecv t 9 16 <| bI (G105 [.ref 16, .int v3, .int v1] t) fun looksFor2 t1 =>
  bV (G167 [.ref 18, .int v3, .int looksFor2] t1) fun t3 =>
  j16 t3 v1 v2 (v3 + 1)) := by rfl
theorem fWd_looksAtWorst_16_ok {k41 : SM → Int32 → OR} {r16 : SM → Int32 → Int32 → Int32 → OR} (h_k41 : ∀ (t : SM) (v2 : Int32), k41 t v2 = some r → Body l 4 q_104 P_104 r 41 [(2, .int v2), (0, .ref 16)] [] t) (h_r16 : ∀ (t : SM) (v1 : Int32) (v2 : Int32) (v3 : Int32), r16 t v1 v2 v3 = some r → Body l 4 q_104 P_104 r 16 [(3, .int v3), (2, .int v2), (1, .int v1), (0, .ref 16)] [] t) (t : SM) (v1 : Int32) (v2 : Int32) (v3 : Int32) (h : fWd_looksAtWorst_16 k41 r16 t v1 v2 v3 = some r) : Body l 4 q_104 P_104 r 16 [(3, .int v3), (2, .int v2), (1, .int v1), (0, .ref 16)] [] t :=
  blk ft_104 (by omega) rfl rows_104 (KDok.cons (KOK.f <| KOK.i fun w1 => KOK.i fun w2 => KOK.i fun w3 => KOK.e (f := fun t => r16 t w1 w2 w3) fun t h => h_r16 t w1 w2 w3 h) (KDok.cons (KOK.f <| KOK.i fun w2 => KOK.e (f := fun t => k41 t w2) fun t h => h_k41 t w2 h) (KDok.nil))) ((congrFun (congrFun (congrFun (congrFun (congrFun (congrFun (congrFun (congrFun (congrFun (congrFun (fWd_looksAtWorst_16_eq) F_2) F_105) F_167) F_166) (fun t u1 u2 u3 => r16 t u1 u2 u3)) (fun t u2 => k41 t u2)) t) v1) v2) v3).trans h)
theorem fWd_looksAtWorst_l16_ok {k41 : SM → Int32 → OR} (h_k41 : ∀ (t : SM) (v2 : Int32), k41 t v2 = some r → Body l 4 q_104 P_104 r 41 [(2, .int v2), (0, .ref 16)] [] t) : ∀ (n : Nat) (t : SM) (v1 : Int32) (v2 : Int32) (v3 : Int32), fWd_looksAtWorst_l16 k41 n t v1 v2 v3 = some r → Body l 4 q_104 P_104 r 16 [(3, .int v3), (2, .int v2), (1, .int v1), (0, .ref 16)] [] t
  | 0, _, _, _, _, h => by cases h
  | n + 1, t, v1, v2, v3, h => fWd_looksAtWorst_16_ok h_k41 (fWd_looksAtWorst_l16_ok h_k41 n) t v1 v2 v3 h
theorem fWd_looksAtWorst_eq : (fun (G2 : List Value → SM → OR) (G105 : List Value → SM → OR) (G167 : List Value → SM → OR) (G166 : List Value → SM → OR) (j16 : SM → Int32 → Int32 → Int32 → OR) (t : SM) (a : Int32) => ex clN P_104 none bytJ (mkCal rks ((2, G2) :: (105, G105) :: (167, G167) :: (166, G166) :: [])) [16] (kDisp [(16, kF 0 16 <| kI 1 fun w1 => kI 2 fun w2 => kI 3 fun w3 => kE fun t => j16 t w1 w2 w3)]) 400 0 [(0, .ref 16), (1, .int a)] [] t) = (fun (G2 : List Value → SM → OR) (G105 : List Value → SM → OR) (G167 : List Value → SM → OR) (G166 : List Value → SM → OR) (j16 : SM → Int32 → Int32 → Int32 → OR) (t : SM) (a : Int32) =>
  hGetI t 9 16 1 fun size1 =>
  bI (G2 [.int size1, .int 7] t) fun min3 t2 =>
  j16 t2 a (((1 : Int32) <<< (min3 &&& 31)) - 1) 1) := by rfl
theorem fWd_looksAtWorst_ok (t : SM) (a : Int32) (h : fWd_looksAtWorst t a = some r) : Body l 4 q_104 P_104 r 0 [(0, .ref 16), (1, .int a)] [] t :=
  blk ft_104 (by omega) rfl rows_104 (KDok.cons (KOK.f <| KOK.i fun w1 => KOK.i fun w2 => KOK.i fun w3 => KOK.e (f := fun t => fWd_looksAtWorst_l16 (fun t u2 => fWd_looksAtWorst_41 t u2) 1000000 t w1 w2 w3) fun t h => fWd_looksAtWorst_l16_ok (k41 := fun t u2 => fWd_looksAtWorst_41 t u2) (fun t u2 h => fWd_looksAtWorst_41_ok t u2 h) 1000000 t w1 w2 w3 h) (KDok.nil)) ((congrFun (congrFun (congrFun (congrFun (congrFun (congrFun (congrFun (fWd_looksAtWorst_eq) F_2) F_105) F_167) F_166) (fun t u1 u2 u3 => fWd_looksAtWorst_l16 (fun t u2 => fWd_looksAtWorst_41 t u2) 1000000 t u1 u2 u3)) t) a).trans h)
theorem ok_104 (l : Launch) : Fok l 4 mtab 104 (F_104) := by
  intro as t r h
  unfold F_104 at h
  split at h
  · rename_i z0 a
    split at h
    · rename_i hz0
      obtain rfl := Nat.eq_of_beq_eq_true hz0
      exact ⟨q_104, rfl, mok_104, con_of (P := P_104) (by decide +kernel) rfl (Nat.le_of_ble_eq_true rfl) (fWd_looksAtWorst_ok t a h)⟩
    · cases h
  · cases h
end
section
set_option maxRecDepth 100000
variable {l : Launch} {r : RR}
def FT_107 : FT := (28, F_28) :: (79, F_79) :: (47, F_47) :: (46, F_46) :: (97, F_97) :: (17, F_17) :: (5, F_5) :: (6, F_6) :: (48, F_48) :: (50, F_50) :: (49, F_49) :: (70, F_70) :: []
theorem ft_107 : FTok l 57 mtab FT_107 := FTok.cons (ok_28 l) (by omega) (FTok.cons (ok_79 l) (by omega) (FTok.cons (ok_47 l) (by omega) (FTok.cons (ok_46 l) (by omega) (FTok.cons (ok_97 l) (by omega) (FTok.cons (ok_17 l) (by omega) (FTok.cons (ok_5 l) (by omega) (FTok.cons (ok_6 l) (by omega) (FTok.cons (ok_48 l) (by omega) (FTok.cons (ok_50 l) (by omega) (FTok.cons (ok_49 l) (by omega) (FTok.cons (ok_70 l) (by omega) (FTok.nil))))))))))))
theorem fx_init_189_eq : (fun (G28 : List Value → SM → OR) (G79 : List Value → SM → OR) (G47 : List Value → SM → OR) (G46 : List Value → SM → OR) (G97 : List Value → SM → OR) (G17 : List Value → SM → OR) (G5 : List Value → SM → OR) (G6 : List Value → SM → OR) (G48 : List Value → SM → OR) (G50 : List Value → SM → OR) (G49 : List Value → SM → OR) (G70 : List Value → SM → OR) (j189 : SM → Int32 → OR) (t : SM) (v1 : Int32) => ex clN P_107 none bytJ (mkCal rks ((28, G28) :: (79, G79) :: (47, G47) :: (46, G46) :: (97, G97) :: (17, G17) :: (5, G5) :: (6, G6) :: (48, G48) :: (50, G50) :: (49, G49) :: (70, G70) :: [])) [189] (kDisp [(189, kF 0 0 <| kI 1 fun w1 => kE fun t => j189 t w1)]) 400 189 [(1, .int v1), (0, .ref 0)] [] t) = (fun (G28 : List Value → SM → OR) (G79 : List Value → SM → OR) (G47 : List Value → SM → OR) (G46 : List Value → SM → OR) (G97 : List Value → SM → OR) (G17 : List Value → SM → OR) (G5 : List Value → SM → OR) (G6 : List Value → SM → OR) (G48 : List Value → SM → OR) (G50 : List Value → SM → OR) (G49 : List Value → SM → OR) (G70 : List Value → SM → OR) (j189 : SM → Int32 → OR) (t : SM) (v1 : Int32) =>
  if 4 ≤ v1 then rV t
  else hGetC t 10 0 12 15 <|
  hNew t 5 3 fun q1 t2 =>
  hRecv t2 5 q1 <| bV (G70 [.ref q1] t2) fun t3 =>
  hQSt t3 5 15 v1 q1 fun t4 =>
  j189 t4 (v1 + 1)) := by rfl
theorem fx_init_189_ok {r189 : SM → Int32 → OR} (h_r189 : ∀ (t : SM) (v1 : Int32), r189 t v1 = some r → Body l 57 q_107 P_107 r 189 [(1, .int v1), (0, .ref 0)] [] t) (t : SM) (v1 : Int32) (h : fx_init_189 r189 t v1 = some r) : Body l 57 q_107 P_107 r 189 [(1, .int v1), (0, .ref 0)] [] t :=
  blk ft_107 (by omega) rfl rows_107 (KDok.cons (KOK.f <| KOK.i fun w1 => KOK.e (f := fun t => r189 t w1) fun t h => h_r189 t w1 h) (KDok.nil)) ((congrFun (congrFun (congrFun (congrFun (congrFun (congrFun (congrFun (congrFun (congrFun (congrFun (congrFun (congrFun (congrFun (congrFun (congrFun (fx_init_189_eq) F_28) F_79) F_47) F_46) F_97) F_17) F_5) F_6) F_48) F_50) F_49) F_70) (fun t u1 => r189 t u1)) t) v1).trans h)
theorem fx_init_l189_ok : ∀ (n : Nat) (t : SM) (v1 : Int32), fx_init_l189 n t v1 = some r → Body l 57 q_107 P_107 r 189 [(1, .int v1), (0, .ref 0)] [] t
  | 0, _, _, h => by cases h
  | n + 1, t, v1, h => fx_init_189_ok (fx_init_l189_ok n) t v1 h
theorem fx_init_162_eq : (fun (G28 : List Value → SM → OR) (G79 : List Value → SM → OR) (G47 : List Value → SM → OR) (G46 : List Value → SM → OR) (G97 : List Value → SM → OR) (G17 : List Value → SM → OR) (G5 : List Value → SM → OR) (G6 : List Value → SM → OR) (G48 : List Value → SM → OR) (G50 : List Value → SM → OR) (G49 : List Value → SM → OR) (G70 : List Value → SM → OR) (j189 : SM → Int32 → OR) (t : SM) => ex clN P_107 none bytJ (mkCal rks ((28, G28) :: (79, G79) :: (47, G47) :: (46, G46) :: (97, G97) :: (17, G17) :: (5, G5) :: (6, G6) :: (48, G48) :: (50, G50) :: (49, G49) :: (70, G70) :: [])) [189] (kDisp [(189, kF 0 0 <| kI 1 fun w1 => kE fun t => j189 t w1)]) 400 162 [(0, .ref 0)] [] t) = (fun (G28 : List Value → SM → OR) (G79 : List Value → SM → OR) (G47 : List Value → SM → OR) (G46 : List Value → SM → OR) (G97 : List Value → SM → OR) (G17 : List Value → SM → OR) (G5 : List Value → SM → OR) (G6 : List Value → SM → OR) (G48 : List Value → SM → OR) (G50 : List Value → SM → OR) (G49 : List Value → SM → OR) (G70 : List Value → SM → OR) (j189 : SM → Int32 → OR) (t : SM) =>
  hGetC t 10 0 7 9 <|
  hGetC t 10 0 10 10 <|
  hRecv t 4 10 <| bQ (G50 [.ref 10] t) (fun t1 => none) fun q2 t1 =>
  hQSt t1 8 9 0 q2 fun t4 =>
  hGetC t4 10 0 10 10 <|
  hRecv t4 4 10 <| bV (G49 [.ref 10] t4) fun t5 =>
  hPutI t5 10 0 8 1 fun t6 =>
  j189 t6 0) := by rfl
theorem fx_init_162_ok (t : SM) (h : fx_init_162 t = some r) : Body l 57 q_107 P_107 r 162 [(0, .ref 0)] [] t :=
  blk ft_107 (by omega) rfl rows_107 (KDok.cons (KOK.f <| KOK.i fun w1 => KOK.e (f := fun t => fx_init_l189 1000000 t w1) fun t h => fx_init_l189_ok 1000000 t w1 h) (KDok.nil)) ((congrFun (congrFun (congrFun (congrFun (congrFun (congrFun (congrFun (congrFun (congrFun (congrFun (congrFun (congrFun (congrFun (congrFun (fx_init_162_eq) F_28) F_79) F_47) F_46) F_97) F_17) F_5) F_6) F_48) F_50) F_49) F_70) (fun t u1 => fx_init_l189 1000000 t u1)) t).trans h)
theorem fx_init_134_eq : (fun (G28 : List Value → SM → OR) (G79 : List Value → SM → OR) (G47 : List Value → SM → OR) (G46 : List Value → SM → OR) (G97 : List Value → SM → OR) (G17 : List Value → SM → OR) (G5 : List Value → SM → OR) (G6 : List Value → SM → OR) (G48 : List Value → SM → OR) (G50 : List Value → SM → OR) (G49 : List Value → SM → OR) (G70 : List Value → SM → OR) (j134 : SM → Int32 → OR) (j162 : SM → OR) (t : SM) (v1 : Int32) => ex clN P_107 none bytJ (mkCal rks ((28, G28) :: (79, G79) :: (47, G47) :: (46, G46) :: (97, G97) :: (17, G17) :: (5, G5) :: (6, G6) :: (48, G48) :: (50, G50) :: (49, G49) :: (70, G70) :: [])) [134, 162] (kDisp [(134, kF 0 0 <| kI 1 fun w1 => kE fun t => j134 t w1), (162, kF 0 0 <| kE fun t => j162 t)]) 400 134 [(1, .int v1), (0, .ref 0)] [] t) = (fun (G28 : List Value → SM → OR) (G79 : List Value → SM → OR) (G47 : List Value → SM → OR) (G46 : List Value → SM → OR) (G97 : List Value → SM → OR) (G17 : List Value → SM → OR) (G5 : List Value → SM → OR) (G6 : List Value → SM → OR) (G48 : List Value → SM → OR) (G50 : List Value → SM → OR) (G49 : List Value → SM → OR) (G70 : List Value → SM → OR) (j134 : SM → Int32 → OR) (j162 : SM → OR) (t : SM) (v1 : Int32) =>
  hTc 0 1 0 <| bI (G5 [.float 0] t) fun length2 t1 =>
  if length2 ≤ v1 then j162 t1
  else hGetC t1 10 0 10 10 <|
  hTc 1 1 0 <| bI (G6 [.float 0, .int v1] t1) fun charAt4 t3 =>
  hRecv t3 4 10 <| bV (G48 [.ref 10, .int charAt4] t3) fun t5 =>
  j134 t5 (v1 + 1)) := by rfl
theorem fx_init_134_ok {k162 : SM → OR} {r134 : SM → Int32 → OR} (h_k162 : ∀ (t : SM), k162 t = some r → Body l 57 q_107 P_107 r 162 [(0, .ref 0)] [] t) (h_r134 : ∀ (t : SM) (v1 : Int32), r134 t v1 = some r → Body l 57 q_107 P_107 r 134 [(1, .int v1), (0, .ref 0)] [] t) (t : SM) (v1 : Int32) (h : fx_init_134 k162 r134 t v1 = some r) : Body l 57 q_107 P_107 r 134 [(1, .int v1), (0, .ref 0)] [] t :=
  blk ft_107 (by omega) rfl rows_107 (KDok.cons (KOK.f <| KOK.i fun w1 => KOK.e (f := fun t => r134 t w1) fun t h => h_r134 t w1 h) (KDok.cons (KOK.f <| KOK.e (f := fun t => k162 t) fun t h => h_k162 t h) (KDok.nil))) ((congrFun (congrFun (congrFun (congrFun (congrFun (congrFun (congrFun (congrFun (congrFun (congrFun (congrFun (congrFun (congrFun (congrFun (congrFun (congrFun (fx_init_134_eq) F_28) F_79) F_47) F_46) F_97) F_17) F_5) F_6) F_48) F_50) F_49) F_70) (fun t u1 => r134 t u1)) (fun t => k162 t)) t) v1).trans h)
theorem fx_init_l134_ok {k162 : SM → OR} (h_k162 : ∀ (t : SM), k162 t = some r → Body l 57 q_107 P_107 r 162 [(0, .ref 0)] [] t) : ∀ (n : Nat) (t : SM) (v1 : Int32), fx_init_l134 k162 n t v1 = some r → Body l 57 q_107 P_107 r 134 [(1, .int v1), (0, .ref 0)] [] t
  | 0, _, _, h => by cases h
  | n + 1, t, v1, h => fx_init_134_ok h_k162 (fx_init_l134_ok h_k162 n) t v1 h
theorem fx_init_eq : (fun (G28 : List Value → SM → OR) (G79 : List Value → SM → OR) (G47 : List Value → SM → OR) (G46 : List Value → SM → OR) (G97 : List Value → SM → OR) (G17 : List Value → SM → OR) (G5 : List Value → SM → OR) (G6 : List Value → SM → OR) (G48 : List Value → SM → OR) (G50 : List Value → SM → OR) (G49 : List Value → SM → OR) (G70 : List Value → SM → OR) (j134 : SM → Int32 → OR) (t : SM) => ex clN P_107 none bytJ (mkCal rks ((28, G28) :: (79, G79) :: (47, G47) :: (46, G46) :: (97, G97) :: (17, G17) :: (5, G5) :: (6, G6) :: (48, G48) :: (50, G50) :: (49, G49) :: (70, G70) :: [])) [134] (kDisp [(134, kF 0 0 <| kI 1 fun w1 => kE fun t => j134 t w1)]) 400 0 [(0, .ref 0)] [] t) = (fun (G28 : List Value → SM → OR) (G79 : List Value → SM → OR) (G47 : List Value → SM → OR) (G46 : List Value → SM → OR) (G97 : List Value → SM → OR) (G17 : List Value → SM → OR) (G5 : List Value → SM → OR) (G6 : List Value → SM → OR) (G48 : List Value → SM → OR) (G50 : List Value → SM → OR) (G49 : List Value → SM → OR) (G70 : List Value → SM → OR) (j134 : SM → Int32 → OR) (t : SM) =>
  hPutI t 10 0 0 6 fun t1 =>
  hNew t1 1 4 fun q2 t3 =>
  hRecv t3 1 q2 <| bV (G28 [.ref q2] t3) fun t4 =>
  hPutR t4 10 0 3 (some q2) fun t5 =>
  hNew t5 7 3 fun q6 t7 =>
  hRecv t7 7 q6 <| bV (G79 [.ref q6] t7) fun t8 =>
  hPutR t8 10 0 4 (some q6) fun t9 =>
  hNewA t9 20 6 fun q10 t11 =>
  hPutR t11 10 0 5 (some q10) fun t12 =>
  hNewA t12 38 6 fun q13 t14 =>
  hPutR t14 10 0 7 (some q13) fun t15 =>
  hNew t15 4 9 fun q16 t17 =>
  hRecv t17 4 q16 <| bV (G47 [.ref q16] t17) fun t18 =>
  hPutR t18 10 0 10 (some q16) fun t19 =>
  hNew t19 3 6 fun q20 t21 =>
  hRecv t21 3 q20 <| bV (G46 [.ref q20] t21) fun t22 =>
  hPutR t22 10 0 11 (some q20) fun t23 =>
  hNewA t23 35 4 fun q24 t25 =>
  hPutR t25 10 0 12 (some q24) fun t26 =>
  hNew t26 9 3 fun q27 t28 =>
  hRecv t28 9 q27 <| bV (G97 [.ref q27] t28) fun t29 =>
  hPutR t29 10 0 13 (some q27) fun t30 =>
  hNewA t30 20 256 fun q31 t32 =>
  hPutR t32 10 0 14 (some q31) fun t33 =>
  hNewA t33 20 256 fun q34 t35 =>
  hPutR t35 10 0 15 (some q34) fun t36 =>
  hNewA t36 21 256 fun q37 t38 =>
  hPutR t38 10 0 16 (some q37) fun t39 =>
  hNew t39 0 6 fun q40 t41 =>
  hGetC t41 10 0 4 5 <|
  hRecv t41 0 q40 <| bV (G17 [.ref q40, .ref 5] t41) fun t42 =>
  hPutR t42 10 0 17 (some q40) fun t43 =>
  j134 t43 0) := by rfl
theorem fx_init_ok (t : SM) (h : fx_init t = some r) : Body l 57 q_107 P_107 r 0 [(0, .ref 0)] [] t :=
  blk ft_107 (by omega) rfl rows_107 (KDok.cons (KOK.f <| KOK.i fun w1 => KOK.e (f := fun t => fx_init_l134 (fun t => fx_init_162 t) 1000000 t w1) fun t h => fx_init_l134_ok (k162 := fun t => fx_init_162 t) (fun t h => fx_init_162_ok t h) 1000000 t w1 h) (KDok.nil)) ((congrFun (congrFun (congrFun (congrFun (congrFun (congrFun (congrFun (congrFun (congrFun (congrFun (congrFun (congrFun (congrFun (congrFun (fx_init_eq) F_28) F_79) F_47) F_46) F_97) F_17) F_5) F_6) F_48) F_50) F_49) F_70) (fun t u1 => fx_init_l134 (fun t => fx_init_162 t) 1000000 t u1)) t).trans h)
theorem ok_107 (l : Launch) : Fok l 57 mtab 107 (F_107) := by
  intro as t r h
  unfold F_107 at h
  split at h
  · rename_i z0
    split at h
    · rename_i hz0
      obtain rfl := Nat.eq_of_beq_eq_true hz0
      exact ⟨q_107, rfl, mok_107, con_of (P := P_107) (by decide +kernel) rfl (Nat.le_of_ble_eq_true rfl) (fx_init_ok t h)⟩
    · cases h
  · cases h
end
section
set_option maxRecDepth 100000
variable {l : Launch} {r : RR}
def FT_108 : FT := []
theorem ft_108 : FTok l 1 mtab FT_108 := FTok.nil
theorem fx_town_eq : (fun (t : SM) (a : Int32) => ex clN P_108 none bytJ (mkCal rks ([])) [] (kDisp []) 400 0 [(0, .ref 0), (1, .int a)] [] t) = (fun (t : SM) (a : Int32) =>
  if a < 1 then rI (-2) t
  else if a ≤ 9 then hGetC t 10 0 3 1 <|
    hGetI t 1 1 1 fun size1 =>
    if 0 < size1 then rI (-3) t
    else hGetC t 10 0 4 5 <|
    hGetI t 7 5 1 fun size2 =>
    if size2 ≤ 0 then hGetI t 10 0 0 fun choices3 =>
      hPutI t 10 0 0 a fun t4 =>
      hPutI t4 10 0 1 0 fun t5 =>
      hPutI t5 10 0 2 0 fun t6 =>
      hGetC t6 10 0 11 13 <|
      hPutI t6 3 13 0 0 fun t7 =>
      rI choices3 t7
    else rI (-3) t
  else rI (-2) t) := by rfl
theorem fx_town_ok (t : SM) (a : Int32) (h : fx_town t a = some r) : Body l 1 q_108 P_108 r 0 [(0, .ref 0), (1, .int a)] [] t :=
  blk ft_108 (by omega) rfl rows_108 (KDok.nil) ((congrFun (congrFun (fx_town_eq) t) a).trans h)
theorem ok_108 (l : Launch) : Fok l 1 mtab 108 (F_108) := by
  intro as t r h
  unfold F_108 at h
  split at h
  · rename_i z0 a
    split at h
    · rename_i hz0
      obtain rfl := Nat.eq_of_beq_eq_true hz0
      exact ⟨q_108, rfl, mok_108, con_of (P := P_108) (by decide +kernel) rfl (Nat.le_of_ble_eq_true rfl) (fx_town_ok t a h)⟩
    · cases h
  · cases h
end
section
set_option maxRecDepth 100000
variable {l : Launch} {r : RR}
def FT_109 : FT := []
theorem ft_109 : FTok l 1 mtab FT_109 := FTok.nil
theorem fx_count_eq : (fun (t : SM) (a : Int32) => ex clN P_109 none bytJ (mkCal rks ([])) [] (kDisp []) 400 0 [(0, .ref 0), (1, .int a)] [] t) = (fun (t : SM) (a : Int32) =>
  if a = 0 then hGetI t 10 0 0 fun choices1 =>
    rI choices1 t
  else if a = 1 then hGetC t 10 0 3 1 <|
    hGetI t 1 1 1 fun size2 =>
    rI size2 t
  else if a = 2 then hGetC t 10 0 4 5 <|
    hGetI t 7 5 1 fun size3 =>
    rI size3 t
  else if a = 3 then hGetI t 10 0 6 fun goerCount4 =>
    rI goerCount4 t
  else if a = 4 then hGetI t 10 0 8 fun textCount5 =>
    rI textCount5 t
  else if a = 5 then hGetI t 10 0 9 fun law6 =>
    rI law6 t
  else if a = 6 then hGetC t 10 0 10 10 <|
    hGetI t 4 10 1 fun size7 =>
    rI size7 t
  else if a = 7 then hGetI t 10 0 1 fun seen8 =>
    rI seen8 t
  else if a = 8 then hGetI t 10 0 2 fun seenSo9 =>
    rI seenSo9 t
  else rI (-2) t) := by rfl
theorem fx_count_ok (t : SM) (a : Int32) (h : fx_count t a = some r) : Body l 1 q_109 P_109 r 0 [(0, .ref 0), (1, .int a)] [] t :=
  blk ft_109 (by omega) rfl rows_109 (KDok.nil) ((congrFun (congrFun (fx_count_eq) t) a).trans h)
theorem ok_109 (l : Launch) : Fok l 1 mtab 109 (F_109) := by
  intro as t r h
  unfold F_109 at h
  split at h
  · rename_i z0 a
    split at h
    · rename_i hz0
      obtain rfl := Nat.eq_of_beq_eq_true hz0
      exact ⟨q_109, rfl, mok_109, con_of (P := P_109) (by decide +kernel) rfl (Nat.le_of_ble_eq_true rfl) (fx_count_ok t a h)⟩
    · cases h
  · cases h
end
section
set_option maxRecDepth 100000
variable {l : Launch} {r : RR}
def FT_110 : FT := (48, F_48) :: []
theorem ft_110 : FTok l 2 mtab FT_110 := FTok.cons (ok_48 l) (by omega) (FTok.nil)
theorem fx_feed_67_eq : (fun (G48 : List Value → SM → OR) (t : SM) => ex clN P_110 none bytJ (mkCal rks ((48, G48) :: [])) [] (kDisp []) 400 67 [(0, .ref 0)] [] t) = (fun (G48 : List Value → SM → OR) (t : SM) =>
  hGetC t 10 0 10 10 <|
  hGetI t 4 10 1 fun size1 =>
  rI size1 t) := by rfl
theorem fx_feed_67_ok (t : SM) (h : fx_feed_67 t = some r) : Body l 2 q_110 P_110 r 67 [(0, .ref 0)] [] t :=
  blk ft_110 (by omega) rfl rows_110 (KDok.nil) ((congrFun (congrFun (fx_feed_67_eq) F_48) t).trans h)
theorem fx_feed_37_eq : (fun (G48 : List Value → SM → OR) (j37 : SM → Int64 → Int32 → OR) (j67 : SM → OR) (t : SM) (v1 : Int64) (v4 : Int32) => ex clN P_110 none bytJ (mkCal rks ((48, G48) :: [])) [37, 67] (kDisp [(37, kF 0 0 <| kL 1 fun w1 => kI 4 fun w4 => kE fun t => j37 t w1 w4), (67, kF 0 0 <| kE fun t => j67 t)]) 400 37 [(4, .int v4), (1, .long v1), (0, .ref 0)] [] t) = (fun (G48 : List Value → SM → OR) (j37 : SM → Int64 → Int32 → OR) (j67 : SM → OR) (t : SM) (v1 : Int64) (v4 : Int32) =>
  if v4 < 0 then j67 t
  else hGetC t 10 0 10 10 <|
  hRecv t 4 10 <| bV (G48 [.ref 10, .int ((Int64.toInt32 (v1 >>> (Int32.toInt64 (8 * v4) &&& 63))) &&& 255)] t) fun t1 =>
  j37 t1 v1 (v4 + (-1))) := by rfl
theorem fx_feed_37_ok {k67 : SM → OR} {r37 : SM → Int64 → Int32 → OR} (h_k67 : ∀ (t : SM), k67 t = some r → Body l 2 q_110 P_110 r 67 [(0, .ref 0)] [] t) (h_r37 : ∀ (t : SM) (v1 : Int64) (v4 : Int32), r37 t v1 v4 = some r → Body l 2 q_110 P_110 r 37 [(4, .int v4), (1, .long v1), (0, .ref 0)] [] t) (t : SM) (v1 : Int64) (v4 : Int32) (h : fx_feed_37 k67 r37 t v1 v4 = some r) : Body l 2 q_110 P_110 r 37 [(4, .int v4), (1, .long v1), (0, .ref 0)] [] t :=
  blk ft_110 (by omega) rfl rows_110 (KDok.cons (KOK.f <| KOK.lg fun w1 => KOK.i fun w4 => KOK.e (f := fun t => r37 t w1 w4) fun t h => h_r37 t w1 w4 h) (KDok.cons (KOK.f <| KOK.e (f := fun t => k67 t) fun t h => h_k67 t h) (KDok.nil))) ((congrFun (congrFun (congrFun (congrFun (congrFun (congrFun (fx_feed_37_eq) F_48) (fun t u1 u4 => r37 t u1 u4)) (fun t => k67 t)) t) v1) v4).trans h)
theorem fx_feed_l37_ok {k67 : SM → OR} (h_k67 : ∀ (t : SM), k67 t = some r → Body l 2 q_110 P_110 r 67 [(0, .ref 0)] [] t) : ∀ (n : Nat) (t : SM) (v1 : Int64) (v4 : Int32), fx_feed_l37 k67 n t v1 v4 = some r → Body l 2 q_110 P_110 r 37 [(4, .int v4), (1, .long v1), (0, .ref 0)] [] t
  | 0, _, _, _, h => by cases h
  | n + 1, t, v1, v4, h => fx_feed_37_ok h_k67 (fx_feed_l37_ok h_k67 n) t v1 v4 h
theorem fx_feed_eq : (fun (G48 : List Value → SM → OR) (j37 : SM → Int64 → Int32 → OR) (t : SM) (a : Int64) (b : Int32) => ex clN P_110 none bytJ (mkCal rks ((48, G48) :: [])) [37] (kDisp [(37, kF 0 0 <| kL 1 fun w1 => kI 4 fun w4 => kE fun t => j37 t w1 w4)]) 400 0 [(0, .ref 0), (1, .long a), (3, .int b)] [] t) = (fun (G48 : List Value → SM → OR) (j37 : SM → Int64 → Int32 → OR) (t : SM) (a : Int64) (b : Int32) =>
  if b < 1 then rI (-2) t
  else if b ≤ 8 then hGetC t 10 0 10 10 <|
    hGetI t 4 10 1 fun size1 =>
    if (size1 + b) ≤ 160 then j37 t a (b - 1)
    else rI (-4) t
  else rI (-2) t) := by rfl
theorem fx_feed_ok (t : SM) (a : Int64) (b : Int32) (h : fx_feed t a b = some r) : Body l 2 q_110 P_110 r 0 [(0, .ref 0), (1, .long a), (3, .int b)] [] t :=
  blk ft_110 (by omega) rfl rows_110 (KDok.cons (KOK.f <| KOK.lg fun w1 => KOK.i fun w4 => KOK.e (f := fun t => fx_feed_l37 (fun t => fx_feed_67 t) 1000000 t w1 w4) fun t h => fx_feed_l37_ok (k67 := fun t => fx_feed_67 t) (fun t h => fx_feed_67_ok t h) 1000000 t w1 w4 h) (KDok.nil)) ((congrFun (congrFun (congrFun (congrFun (congrFun (fx_feed_eq) F_48) (fun t u1 u4 => fx_feed_l37 (fun t => fx_feed_67 t) 1000000 t u1 u4)) t) a) b).trans h)
theorem ok_110 (l : Launch) : Fok l 2 mtab 110 (F_110) := by
  intro as t r h
  unfold F_110 at h
  split at h
  · rename_i z0 a b
    split at h
    · rename_i hz0
      obtain rfl := Nat.eq_of_beq_eq_true hz0
      exact ⟨q_110, rfl, mok_110, con_of (P := P_110) (by decide +kernel) rfl (Nat.le_of_ble_eq_true rfl) (fx_feed_ok t a b h)⟩
    · cases h
  · cases h
end
section
set_option maxRecDepth 100000
variable {l : Launch} {r : RR}
def FT_111 : FT := (50, F_50) :: (49, F_49) :: []
theorem ft_111 : FTok l 57 mtab FT_111 := FTok.cons (ok_50 l) (by omega) (FTok.cons (ok_49 l) (by omega) (FTok.nil))
theorem fx_text_eq : (fun (G50 : List Value → SM → OR) (G49 : List Value → SM → OR) (t : SM) => ex clN P_111 none bytJ (mkCal rks ((50, G50) :: (49, G49) :: [])) [] (kDisp []) 400 0 [(0, .ref 0)] [] t) = (fun (G50 : List Value → SM → OR) (G49 : List Value → SM → OR) (t : SM) =>
  hGetI t 10 0 8 fun textCount1 =>
  if textCount1 < 6 then hGetC t 10 0 10 10 <|
    hRecv t 4 10 <| bQ (G50 [.ref 10] t) (fun t2 => hGetC t2 10 0 10 10 <|
      hRecv t2 4 10 <| bV (G49 [.ref 10] t2) fun t4 =>
      hGetC t4 10 0 10 10 <|
      hGetI t4 4 10 2 fun fault5 =>
      rI ((-100) - fault5) t4) fun q3 t2 =>
    hGetC t2 10 0 10 10 <|
    hRecv t2 4 10 <| bV (G49 [.ref 10] t2) fun t6 =>
    hGetC t6 10 0 7 9 <|
    hGetI t6 10 0 8 fun textCount7 =>
    hQSt t6 8 9 textCount7 q3 fun t8 =>
    hGetI t8 10 0 8 fun textCount9 =>
    hPutI t8 10 0 8 (textCount9 + 1) fun t10 =>
    hGetI t10 10 0 8 fun textCount11 =>
    rI (textCount11 - 1) t10
  else rI (-4) t) := by rfl
theorem fx_text_ok (t : SM) (h : fx_text t = some r) : Body l 57 q_111 P_111 r 0 [(0, .ref 0)] [] t :=
  blk ft_111 (by omega) rfl rows_111 (KDok.nil) ((congrFun (congrFun (congrFun (fx_text_eq) F_50) F_49) t).trans h)
theorem ok_111 (l : Launch) : Fok l 57 mtab 111 (F_111) := by
  intro as t r h
  unfold F_111 at h
  split at h
  · rename_i z0
    split at h
    · rename_i hz0
      obtain rfl := Nat.eq_of_beq_eq_true hz0
      exact ⟨q_111, rfl, mok_111, con_of (P := P_111) (by decide +kernel) rfl (Nat.le_of_ble_eq_true rfl) (fx_text_ok t h)⟩
    · cases h
  · cases h
end
section
set_option maxRecDepth 100000
variable {l : Launch} {r : RR}
def FT_112 : FT := []
theorem ft_112 : FTok l 1 mtab FT_112 := FTok.nil
theorem fx_force_eq : (fun (t : SM) (a : Int32) => ex clN P_112 none bytJ (mkCal rks ([])) [] (kDisp []) 400 0 [(0, .ref 0), (1, .int a)] [] t) = (fun (t : SM) (a : Int32) =>
  if a < 0 then rI (-2) t
  else hGetI t 10 0 8 fun textCount1 =>
  if a < textCount1 then hGetI t 10 0 9 fun law2 =>
    hPutI t 10 0 9 a fun t3 =>
    rI law2 t3
  else rI (-2) t) := by rfl
theorem fx_force_ok (t : SM) (a : Int32) (h : fx_force t a = some r) : Body l 1 q_112 P_112 r 0 [(0, .ref 0), (1, .int a)] [] t :=
  blk ft_112 (by omega) rfl rows_112 (KDok.nil) ((congrFun (congrFun (fx_force_eq) t) a).trans h)
theorem ok_112 (l : Launch) : Fok l 1 mtab 112 (F_112) := by
  intro as t r h
  unfold F_112 at h
  split at h
  · rename_i z0 a
    split at h
    · rename_i hz0
      obtain rfl := Nat.eq_of_beq_eq_true hz0
      exact ⟨q_112, rfl, mok_112, con_of (P := P_112) (by decide +kernel) rfl (Nat.le_of_ble_eq_true rfl) (fx_force_ok t a h)⟩
    · cases h
  · cases h
end
section
set_option maxRecDepth 100000
variable {l : Launch} {r : RR}
def FT_155 : FT := []
theorem ft_155 : FTok l 1 mtab FT_155 := FTok.nil
theorem fx_isTown_eq : (fun (t : SM) (a : Int32) => ex clN P_155 none bytJ (mkCal rks ([])) [] (kDisp []) 400 0 [(0, .ref 0), (1, .int a)] [] t) = (fun (t : SM) (a : Int32) =>
  if a < 0 then rI 0 t
  else hGetI t 10 0 0 fun choices1 =>
  if ((1 : Int32) <<< (choices1 &&& 31)) ≤ a then rI 0 t
  else rI 1 t) := by rfl
theorem fx_isTown_ok (t : SM) (a : Int32) (h : fx_isTown t a = some r) : Body l 1 q_155 P_155 r 0 [(0, .ref 0), (1, .int a)] [] t :=
  blk ft_155 (by omega) rfl rows_155 (KDok.nil) ((congrFun (congrFun (fx_isTown_eq) t) a).trans h)
theorem ok_155 (l : Launch) : Fok l 1 mtab 155 (F_155) := by
  intro as t r h
  unfold F_155 at h
  split at h
  · rename_i z0 a
    split at h
    · rename_i hz0
      obtain rfl := Nat.eq_of_beq_eq_true hz0
      exact ⟨q_155, rfl, mok_155, con_of (P := P_155) (by decide +kernel) rfl (Nat.le_of_ble_eq_true rfl) (fx_isTown_ok t a h)⟩
    · cases h
  · cases h
end
section
set_option maxRecDepth 100000
variable {l : Launch} {r : RR}
def FT_169 : FT := []
theorem ft_169 : FTok l 1 mtab FT_169 := FTok.nil
theorem fx_lawText_eq : (fun (t : SM) => ex clN P_169 none bytJ (mkCal rks ([])) [] (kDisp []) 400 0 [(0, .ref 0)] [] t) = (fun (t : SM) =>
  hGetI t 10 0 9 fun law1 =>
  if law1 < 0 then rN t
  else hGetI t 10 0 9 fun law2 =>
  hGetC t 10 0 7 9 <|
  hALen t 9 fun n3 =>
  if n3 ≤ law2 then rN t
  else hGetC t 10 0 7 9 <|
  hGetI t 10 0 9 fun law4 =>
  hQLd t 8 9 law4 (rN t) fun q5 =>
  rR q5 t) := by rfl
theorem fx_lawText_ok (t : SM) (h : fx_lawText t = some r) : Body l 1 q_169 P_169 r 0 [(0, .ref 0)] [] t :=
  blk ft_169 (by omega) rfl rows_169 (KDok.nil) ((congrFun (fx_lawText_eq) t).trans h)
theorem ok_169 (l : Launch) : Fok l 1 mtab 169 (F_169) := by
  intro as t r h
  unfold F_169 at h
  split at h
  · rename_i z0
    split at h
    · rename_i hz0
      obtain rfl := Nat.eq_of_beq_eq_true hz0
      exact ⟨q_169, rfl, mok_169, con_of (P := P_169) (by decide +kernel) rfl (Nat.le_of_ble_eq_true rfl) (fx_lawText_ok t h)⟩
    · cases h
  · cases h
end
section
set_option maxRecDepth 100000
variable {l : Launch} {r : RR}
def FT_170 : FT := (169, F_169) :: (90, F_90) :: []
theorem ft_170 : FTok l 2 mtab FT_170 := FTok.cons (ok_169 l) (by omega) (FTok.cons (ok_90 l) (by omega) (FTok.nil))
theorem fx_lawAllows_eq : (fun (G169 : List Value → SM → OR) (G90 : List Value → SM → OR) (t : SM) (a : Int32) => ex clN P_170 none bytJ (mkCal rks ((169, G169) :: (90, G90) :: [])) [] (kDisp []) 400 0 [(0, .ref 0), (1, .int a)] [] t) = (fun (G169 : List Value → SM → OR) (G90 : List Value → SM → OR) (t : SM) (a : Int32) =>
  hRecv t 10 0 <| bQ (G169 [.ref 0] t) (fun t1 => rI 0 t1) fun q2 t1 =>
  hRecv t1 8 q2 <| bI (G90 [.ref q2, .int a] t1) fun allows4 t3 =>
  if allows4 = 0 then rI 0 t3
  else rI 1 t3) := by rfl
theorem fx_lawAllows_ok (t : SM) (a : Int32) (h : fx_lawAllows t a = some r) : Body l 2 q_170 P_170 r 0 [(0, .ref 0), (1, .int a)] [] t :=
  blk ft_170 (by omega) rfl rows_170 (KDok.nil) ((congrFun (congrFun (congrFun (congrFun (fx_lawAllows_eq) F_169) F_90) t) a).trans h)
theorem ok_170 (l : Launch) : Fok l 2 mtab 170 (F_170) := by
  intro as t r h
  unfold F_170 at h
  split at h
  · rename_i z0 a
    split at h
    · rename_i hz0
      obtain rfl := Nat.eq_of_beq_eq_true hz0
      exact ⟨q_170, rfl, mok_170, con_of (P := P_170) (by decide +kernel) rfl (Nat.le_of_ble_eq_true rfl) (fx_lawAllows_ok t a h)⟩
    · cases h
  · cases h
end
section
set_option maxRecDepth 100000
variable {l : Launch} {r : RR}
def FT_113 : FT := (155, F_155) :: (170, F_170) :: []
theorem ft_113 : FTok l 3 mtab FT_113 := FTok.cons (ok_155 l) (by omega) (FTok.cons (ok_170 l) (by omega) (FTok.nil))
theorem fx_may_eq : (fun (G155 : List Value → SM → OR) (G170 : List Value → SM → OR) (t : SM) (a : Int32) => ex clN P_113 none bytJ (mkCal rks ((155, G155) :: (170, G170) :: [])) [] (kDisp []) 400 0 [(0, .ref 0), (1, .int a)] [] t) = (fun (G155 : List Value → SM → OR) (G170 : List Value → SM → OR) (t : SM) (a : Int32) =>
  hRecv t 10 0 <| bI (G155 [.ref 0, .int a] t) fun isTown2 t1 =>
  if isTown2 = 0 then rI (-2) t1
  else hRecv t1 10 0 <| bI (G170 [.ref 0, .int a] t1) fun lawAllows4 t3 =>
    if lawAllows4 = 0 then rI 0 t3
    else rI 1 t3) := by rfl
theorem fx_may_ok (t : SM) (a : Int32) (h : fx_may t a = some r) : Body l 3 q_113 P_113 r 0 [(0, .ref 0), (1, .int a)] [] t :=
  blk ft_113 (by omega) rfl rows_113 (KDok.nil) ((congrFun (congrFun (congrFun (congrFun (fx_may_eq) F_155) F_170) t) a).trans h)
theorem ok_113 (l : Launch) : Fok l 3 mtab 113 (F_113) := by
  intro as t r h
  unfold F_113 at h
  split at h
  · rename_i z0 a
    split at h
    · rename_i hz0
      obtain rfl := Nat.eq_of_beq_eq_true hz0
      exact ⟨q_113, rfl, mok_113, con_of (P := P_113) (by decide +kernel) rfl (Nat.le_of_ble_eq_true rfl) (fx_may_ok t a h)⟩
    · cases h
  · cases h
end
section
set_option maxRecDepth 100000
variable {l : Launch} {r : RR}
def FT_114 : FT := (155, F_155) :: (30, F_30) :: []
theorem ft_114 : FTok l 5 mtab FT_114 := FTok.cons (ok_155 l) (by omega) (FTok.cons (ok_30 l) (by omega) (FTok.nil))
theorem fx_map_eq : (fun (G155 : List Value → SM → OR) (G30 : List Value → SM → OR) (t : SM) (a : Int32) (b : Int32) (c : Int32) (d : Int32) => ex clN P_114 none bytJ (mkCal rks ((155, G155) :: (30, G30) :: [])) [] (kDisp []) 400 0 [(0, .ref 0), (1, .int a), (2, .int b), (3, .int c), (4, .int d)] [] t) = (fun (G155 : List Value → SM → OR) (G30 : List Value → SM → OR) (t : SM) (a : Int32) (b : Int32) (c : Int32) (d : Int32) =>
  if a < 0 then rI (-2) t
  else if 5 < a then rI (-2) t
  else hRecv t 10 0 <| bI (G155 [.ref 0, .int b] t) fun isTown2 t1 =>
  if isTown2 = 0 then rI (-2) t1
  else hRecv t1 10 0 <| bI (G155 [.ref 0, .int c] t1) fun isTown4 t3 =>
  if isTown4 = 0 then rI (-2) t3
  else if d < 0 then rI (-2) t3
    else if 9 < d then rI (-2) t3
    else if a = 1 then hGetC t3 10 0 3 1 <|
    hGetI t3 1 1 1 fun size7 =>
    if d < size7 then hGetC t3 10 0 3 1 <|
      hRecv t3 1 1 <| bI (G30 [.ref 1, .int a, .int b, .int c, .int d] t3) fun add9 t8 =>
      rI add9 t8
    else rI (-2) t3
    else hGetC t3 10 0 3 1 <|
      hRecv t3 1 1 <| bI (G30 [.ref 1, .int a, .int b, .int c, .int d] t3) fun add6 t5 =>
      rI add6 t5) := by rfl
theorem fx_map_ok (t : SM) (a : Int32) (b : Int32) (c : Int32) (d : Int32) (h : fx_map t a b c d = some r) : Body l 5 q_114 P_114 r 0 [(0, .ref 0), (1, .int a), (2, .int b), (3, .int c), (4, .int d)] [] t :=
  blk ft_114 (by omega) rfl rows_114 (KDok.nil) ((congrFun (congrFun (congrFun (congrFun (congrFun (congrFun (congrFun (fx_map_eq) F_155) F_30) t) a) b) c) d).trans h)
theorem ok_114 (l : Launch) : Fok l 5 mtab 114 (F_114) := by
  intro as t r h
  unfold F_114 at h
  split at h
  · rename_i z0 a b c d
    split at h
    · rename_i hz0
      obtain rfl := Nat.eq_of_beq_eq_true hz0
      exact ⟨q_114, rfl, mok_114, con_of (P := P_114) (by decide +kernel) rfl (Nat.le_of_ble_eq_true rfl) (fx_map_ok t a b c d h)⟩
    · cases h
  · cases h
end
section
set_option maxRecDepth 100000
variable {l : Launch} {r : RR}
def FT_115 : FT := (31, F_31) :: []
theorem ft_115 : FTok l 3 mtab FT_115 := FTok.cons (ok_31 l) (by omega) (FTok.nil)
theorem fx_drop_eq : (fun (G31 : List Value → SM → OR) (t : SM) => ex clN P_115 none bytJ (mkCal rks ((31, G31) :: [])) [] (kDisp []) 400 0 [(0, .ref 0)] [] t) = (fun (G31 : List Value → SM → OR) (t : SM) =>
  hGetC t 10 0 3 1 <|
  hGetI t 1 1 1 fun size1 =>
  if size1 = 0 then rI (-3) t
  else hGetC t 10 0 3 1 <|
    hGetC t 10 0 3 1 <|
    hGetI t 1 1 1 fun size2 =>
    hRecv t 1 1 <| bV (G31 [.ref 1, .int (size2 - 1)] t) fun t3 =>
    hGetC t3 10 0 11 13 <|
    hGetI t3 3 13 4 fun mapCount4 =>
    hGetC t3 10 0 3 1 <|
    hGetI t3 1 1 1 fun size5 =>
    if mapCount4 ≤ size5 then hGetC t3 10 0 3 1 <|
      hGetI t3 1 1 1 fun size6 =>
      rI size6 t3
    else hGetC t3 10 0 11 13 <|
    hPutI t3 3 13 0 0 fun t7 =>
    hGetC t7 10 0 3 1 <|
    hGetI t7 1 1 1 fun size8 =>
    rI size8 t7) := by rfl
theorem fx_drop_ok (t : SM) (h : fx_drop t = some r) : Body l 3 q_115 P_115 r 0 [(0, .ref 0)] [] t :=
  blk ft_115 (by omega) rfl rows_115 (KDok.nil) ((congrFun (congrFun (fx_drop_eq) F_31) t).trans h)
theorem ok_115 (l : Launch) : Fok l 3 mtab 115 (F_115) := by
  intro as t r h
  unfold F_115 at h
  split at h
  · rename_i z0
    split at h
    · rename_i hz0
      obtain rfl := Nat.eq_of_beq_eq_true hz0
      exact ⟨q_115, rfl, mok_115, con_of (P := P_115) (by decide +kernel) rfl (Nat.le_of_ble_eq_true rfl) (fx_drop_ok t h)⟩
    · cases h
  · cases h
end
section
set_option maxRecDepth 100000
variable {l : Launch} {r : RR}
def FT_116 : FT := (29, F_29) :: []
theorem ft_116 : FTok l 2 mtab FT_116 := FTok.cons (ok_29 l) (by omega) (FTok.nil)
theorem fx_price_eq : (fun (G29 : List Value → SM → OR) (t : SM) (a : Int32) (b : Int32) => ex clN P_116 none bytJ (mkCal rks ((29, G29) :: [])) [] (kDisp []) 400 0 [(0, .ref 0), (1, .int a), (2, .int b)] [] t) = (fun (G29 : List Value → SM → OR) (t : SM) (a : Int32) (b : Int32) =>
  hGetC t 10 0 3 1 <|
  hRecv t 1 1 <| bQ (G29 [.ref 1, .int a] t) (fun t1 => rI (-1) t1) fun q2 t1 =>
  if b < 0 then rI (-2) t1
  else if b ≤ 99 then hGetI t1 2 q2 5 fun cost3 =>
    hPutI t1 2 q2 5 b fun t4 =>
    rI cost3 t4
  else rI (-2) t1) := by rfl
theorem fx_price_ok (t : SM) (a : Int32) (b : Int32) (h : fx_price t a b = some r) : Body l 2 q_116 P_116 r 0 [(0, .ref 0), (1, .int a), (2, .int b)] [] t :=
  blk ft_116 (by omega) rfl rows_116 (KDok.nil) ((congrFun (congrFun (congrFun (congrFun (fx_price_eq) F_29) t) a) b).trans h)
theorem ok_116 (l : Launch) : Fok l 2 mtab 116 (F_116) := by
  intro as t r h
  unfold F_116 at h
  split at h
  · rename_i z0 a b
    split at h
    · rename_i hz0
      obtain rfl := Nat.eq_of_beq_eq_true hz0
      exact ⟨q_116, rfl, mok_116, con_of (P := P_116) (by decide +kernel) rfl (Nat.le_of_ble_eq_true rfl) (fx_price_ok t a b h)⟩
    · cases h
  · cases h
end
section
set_option maxRecDepth 100000
variable {l : Launch} {r : RR}
def FT_117 : FT := (29, F_29) :: []
theorem ft_117 : FTok l 2 mtab FT_117 := FTok.cons (ok_29 l) (by omega) (FTok.nil)
theorem fx_told_eq : (fun (G29 : List Value → SM → OR) (t : SM) (a : Int32) (b : Int32) => ex clN P_117 none bytJ (mkCal rks ((29, G29) :: [])) [] (kDisp []) 400 0 [(0, .ref 0), (1, .int a), (2, .int b)] [] t) = (fun (G29 : List Value → SM → OR) (t : SM) (a : Int32) (b : Int32) =>
  hGetC t 10 0 3 1 <|
  hRecv t 1 1 <| bQ (G29 [.ref 1, .int a] t) (fun t1 => rI (-5) t1) fun q2 t1 =>
  if b = 0 then hGetI t1 2 q2 0 fun kind3 =>
    rI kind3 t1
  else if b = 1 then hGetI t1 2 q2 1 fun says4 =>
    rI says4 t1
  else if b = 2 then hGetI t1 2 q2 2 fun mask5 =>
    rI mask5 t1
  else if b = 3 then hGetI t1 2 q2 3 fun more6 =>
    rI more6 t1
  else if b = 4 then hGetI t1 2 q2 5 fun cost7 =>
    rI cost7 t1
  else rI (-7) t1) := by rfl
theorem fx_told_ok (t : SM) (a : Int32) (b : Int32) (h : fx_told t a b = some r) : Body l 2 q_117 P_117 r 0 [(0, .ref 0), (1, .int a), (2, .int b)] [] t :=
  blk ft_117 (by omega) rfl rows_117 (KDok.nil) ((congrFun (congrFun (congrFun (congrFun (fx_told_eq) F_29) t) a) b).trans h)
theorem ok_117 (l : Launch) : Fok l 2 mtab 117 (F_117) := by
  intro as t r h
  unfold F_117 at h
  split at h
  · rename_i z0 a b
    split at h
    · rename_i hz0
      obtain rfl := Nat.eq_of_beq_eq_true hz0
      exact ⟨q_117, rfl, mok_117, con_of (P := P_117) (by decide +kernel) rfl (Nat.le_of_ble_eq_true rfl) (fx_told_ok t a b h)⟩
    · cases h
  · cases h
end
section
set_option maxRecDepth 100000
variable {l : Launch} {r : RR}
def FT_162 : FT := []
theorem ft_162 : FTok l 1 mtab FT_162 := FTok.nil
theorem fx_isZeroOrOne_eq : (fun (t : SM) (a : Int32) => ex clN P_162 none bytJ (mkCal rks ([])) [] (kDisp []) 400 0 [(0, .int a)] [] t) = (fun (t : SM) (a : Int32) =>
  if a = 0 then rI 1 t
  else if a = 1 then rI 1 t
  else rI 0 t) := by rfl
theorem fx_isZeroOrOne_ok (t : SM) (a : Int32) (h : fx_isZeroOrOne t a = some r) : Body l 1 q_162 P_162 r 0 [(0, .int a)] [] t :=
  blk ft_162 (by omega) rfl rows_162 (KDok.nil) ((congrFun (congrFun (fx_isZeroOrOne_eq) t) a).trans h)
theorem ok_162 (l : Launch) : Fok l 1 mtab 162 (F_162) := by
  intro as t r h
  unfold F_162 at h
  split at h
  · rename_i a
    exact ⟨q_162, rfl, mok_162, con_of (P := P_162) (by decide +kernel) rfl (Nat.le_of_ble_eq_true rfl) (fx_isZeroOrOne_ok t a h)⟩
  · cases h
end
section
set_option maxRecDepth 100000
variable {l : Launch} {r : RR}
def FT_118 : FT := (29, F_29) :: (155, F_155) :: (162, F_162) :: (42, F_42) :: (34, F_34) :: []
theorem ft_118 : FTok l 3 mtab FT_118 := FTok.cons (ok_29 l) (by omega) (FTok.cons (ok_155 l) (by omega) (FTok.cons (ok_162 l) (by omega) (FTok.cons (ok_42 l) (by omega) (FTok.cons (ok_34 l) (by omega) (FTok.nil)))))
theorem fx_slips_eq : (fun (G29 : List Value → SM → OR) (G155 : List Value → SM → OR) (G162 : List Value → SM → OR) (G42 : List Value → SM → OR) (G34 : List Value → SM → OR) (t : SM) (a : Int32) (b : Int32) (c : Int32) => ex clN P_118 none bytJ (mkCal rks ((29, G29) :: (155, G155) :: (162, G162) :: (42, G42) :: (34, G34) :: [])) [] (kDisp []) 400 0 [(0, .ref 0), (1, .int a), (2, .int b), (3, .int c)] [] t) = (fun (G29 : List Value → SM → OR) (G155 : List Value → SM → OR) (G162 : List Value → SM → OR) (G42 : List Value → SM → OR) (G34 : List Value → SM → OR) (t : SM) (a : Int32) (b : Int32) (c : Int32) =>
  hGetC t 10 0 3 1 <|
  hRecv t 1 1 <| bQ (G29 [.ref 1, .int a] t) (fun t1 => rI (-5) t1) fun q2 t1 =>
  hRecv t1 10 0 <| bI (G155 [.ref 0, .int b] t1) fun isTown4 t3 =>
  if isTown4 = 0 then rI (-7) t3
  else bI (G162 [.int c] t3) fun isZeroOrOne6 t5 =>
  if isZeroOrOne6 = 0 then rI (-7) t5
  else if c = 0 then hRecv t5 2 q2 <| bI (G42 [.ref q2, .int b] t5) fun slipsIn10 t9 =>
    rI slipsIn10 t9
    else hGetC t5 10 0 3 1 <|
      hRecv t5 1 1 <| bI (G34 [.ref 1, .int b] t5) fun agreeingWith8 t7 =>
      rI ((agreeingWith8 >>> (a &&& 31)) &&& 1) t7) := by rfl
theorem fx_slips_ok (t : SM) (a : Int32) (b : Int32) (c : Int32) (h : fx_slips t a b c = some r) : Body l 3 q_118 P_118 r 0 [(0, .ref 0), (1, .int a), (2, .int b), (3, .int c)] [] t :=
  blk ft_118 (by omega) rfl rows_118 (KDok.nil) ((congrFun (congrFun (congrFun (congrFun (congrFun (congrFun (congrFun (congrFun (congrFun (fx_slips_eq) F_29) F_155) F_162) F_42) F_34) t) a) b) c).trans h)
theorem ok_118 (l : Launch) : Fok l 3 mtab 118 (F_118) := by
  intro as t r h
  unfold F_118 at h
  split at h
  · rename_i z0 a b c
    split at h
    · rename_i hz0
      obtain rfl := Nat.eq_of_beq_eq_true hz0
      exact ⟨q_118, rfl, mok_118, con_of (P := P_118) (by decide +kernel) rfl (Nat.le_of_ble_eq_true rfl) (fx_slips_ok t a b c h)⟩
    · cases h
  · cases h
end
section
set_option maxRecDepth 100000
variable {l : Launch} {r : RR}
def FT_156 : FT := []
theorem ft_156 : FTok l 1 mtab FT_156 := FTok.nil
theorem fx_isChoice_eq : (fun (t : SM) (a : Int32) => ex clN P_156 none bytJ (mkCal rks ([])) [] (kDisp []) 400 0 [(0, .ref 0), (1, .int a)] [] t) = (fun (t : SM) (a : Int32) =>
  if a < 0 then rI 0 t
  else hGetI t 10 0 0 fun choices1 =>
  if choices1 ≤ a then rI 0 t
  else rI 1 t) := by rfl
theorem fx_isChoice_ok (t : SM) (a : Int32) (h : fx_isChoice t a = some r) : Body l 1 q_156 P_156 r 0 [(0, .ref 0), (1, .int a)] [] t :=
  blk ft_156 (by omega) rfl rows_156 (KDok.nil) ((congrFun (congrFun (fx_isChoice_eq) t) a).trans h)
theorem ok_156 (l : Launch) : Fok l 1 mtab 156 (F_156) := by
  intro as t r h
  unfold F_156 at h
  split at h
  · rename_i z0 a
    split at h
    · rename_i hz0
      obtain rfl := Nat.eq_of_beq_eq_true hz0
      exact ⟨q_156, rfl, mok_156, con_of (P := P_156) (by decide +kernel) rfl (Nat.le_of_ble_eq_true rfl) (fx_isChoice_ok t a h)⟩
    · cases h
  · cases h
end
