section
set_option maxRecDepth 100000
variable {l : Launch} {r : RR}
def FT_68 : FT := (62, F_62) :: (64, F_64) :: (53, F_53) :: []
theorem ft_68 : FTok l 2 mtab FT_68 := FTok.cons (ok_62 l) (by omega) (FTok.cons (ok_64 l) (by omega) (FTok.cons (ok_53 l) (by omega) (FTok.nil)))
theorem fRd_readNumber_66_eq : (fun (G62 : List Value → SM → OR) (G64 : List Value → SM → OR) (G53 : List Value → SM → OR) (t : SM) => ex clN P_68 none bytJ (mkCal rks ((62, G62) :: (64, G64) :: (53, G53) :: [])) [] (kDisp []) 400 66 [(0, .ref 10)] [] t) = (fun (G62 : List Value → SM → OR) (G64 : List Value → SM → OR) (G53 : List Value → SM → OR) (t : SM) =>
  hPutI t 4 10 4 258 fun t1 =>
  hGetI t1 4 10 3 fun at2 =>
  hGetI t1 4 10 5 fun tokenAt3 =>
  if (at2 - tokenAt3) ≤ 4 then rV t1
  else hRecv t1 4 10 <| bV (G53 [.ref 10] t1) fun t4 =>
  rV t4) := by rfl
theorem fRd_readNumber_66_ok (t : SM) (h : fRd_readNumber_66 t = some r) : Body l 2 q_68 P_68 r 66 [(0, .ref 10)] [] t :=
  blk ft_68 (by omega) rfl rows_68 (KDok.nil) ((congrFun (congrFun (congrFun (congrFun (fRd_readNumber_66_eq) F_62) F_64) F_53) t).trans h)
theorem fRd_readNumber_5_eq : (fun (G62 : List Value → SM → OR) (G64 : List Value → SM → OR) (G53 : List Value → SM → OR) (j5 : SM → OR) (j66 : SM → OR) (t : SM) => ex clN P_68 none bytJ (mkCal rks ((62, G62) :: (64, G64) :: (53, G53) :: [])) [5, 66] (kDisp [(5, kF 0 10 <| kE fun t => j5 t), (66, kF 0 10 <| kE fun t => j66 t)]) 400 5 [(0, .ref 10)] [] t) = (fun (G62 : List Value → SM → OR) (G64 : List Value → SM → OR) (G53 : List Value → SM → OR) (j5 : SM → OR) (j66 : SM → OR) (t : SM) =>
  hGetI t 4 10 3 fun at1 =>
  hGetI t 4 10 1 fun size2 =>
  if size2 ≤ at1 then j66 t
  else hGetI t 4 10 3 fun at3 =>
  hRecv t 4 10 <| bI (G62 [.ref 10, .int at3] t) fun byteAt5 t4 =>
  bI (G64 [.int byteAt5] t4) fun isDigit7 t6 =>
  if isDigit7 = 0 then j66 t6
  else hGetI t6 4 10 6 fun number8 =>
  hGetI t6 4 10 3 fun at9 =>
  hRecv t6 4 10 <| bI (G62 [.ref 10, .int at9] t6) fun byteAt11 t10 =>
  hPutI t10 4 10 6 (((number8 * 10) + byteAt11) - 48) fun t12 =>
  hGetI t12 4 10 3 fun at13 =>
  hPutI t12 4 10 3 (at13 + 1) fun t14 =>
  j5 t14) := by rfl
theorem fRd_readNumber_5_ok {k66 : SM → OR} {r5 : SM → OR} (h_k66 : ∀ (t : SM), k66 t = some r → Body l 2 q_68 P_68 r 66 [(0, .ref 10)] [] t) (h_r5 : ∀ (t : SM), r5 t = some r → Body l 2 q_68 P_68 r 5 [(0, .ref 10)] [] t) (t : SM) (h : fRd_readNumber_5 k66 r5 t = some r) : Body l 2 q_68 P_68 r 5 [(0, .ref 10)] [] t :=
  blk ft_68 (by omega) rfl rows_68 (KDok.cons (KOK.f <| KOK.e (f := fun t => r5 t) fun t h => h_r5 t h) (KDok.cons (KOK.f <| KOK.e (f := fun t => k66 t) fun t h => h_k66 t h) (KDok.nil))) ((congrFun (congrFun (congrFun (congrFun (congrFun (congrFun (fRd_readNumber_5_eq) F_62) F_64) F_53) (fun t => r5 t)) (fun t => k66 t)) t).trans h)
theorem fRd_readNumber_l5_ok {k66 : SM → OR} (h_k66 : ∀ (t : SM), k66 t = some r → Body l 2 q_68 P_68 r 66 [(0, .ref 10)] [] t) : ∀ (n : Nat) (t : SM), fRd_readNumber_l5 k66 n t = some r → Body l 2 q_68 P_68 r 5 [(0, .ref 10)] [] t
  | 0, _, h => by cases h
  | n + 1, t, h => fRd_readNumber_5_ok h_k66 (fRd_readNumber_l5_ok h_k66 n) t h
theorem fRd_readNumber_eq : (fun (G62 : List Value → SM → OR) (G64 : List Value → SM → OR) (G53 : List Value → SM → OR) (j5 : SM → OR) (t : SM) => ex clN P_68 none bytJ (mkCal rks ((62, G62) :: (64, G64) :: (53, G53) :: [])) [5] (kDisp [(5, kF 0 10 <| kE fun t => j5 t)]) 400 0 [(0, .ref 10)] [] t) = (fun (G62 : List Value → SM → OR) (G64 : List Value → SM → OR) (G53 : List Value → SM → OR) (j5 : SM → OR) (t : SM) =>
  hPutI t 4 10 6 0 fun t1 =>
  j5 t1) := by rfl
theorem fRd_readNumber_ok (t : SM) (h : fRd_readNumber t = some r) : Body l 2 q_68 P_68 r 0 [(0, .ref 10)] [] t :=
  blk ft_68 (by omega) rfl rows_68 (KDok.cons (KOK.f <| KOK.e (f := fun t => fRd_readNumber_l5 (fun t => fRd_readNumber_66 t) 1000000 t) fun t h => fRd_readNumber_l5_ok (k66 := fun t => fRd_readNumber_66 t) (fun t h => fRd_readNumber_66_ok t h) 1000000 t h) (KDok.nil)) ((congrFun (congrFun (congrFun (congrFun (congrFun (fRd_readNumber_eq) F_62) F_64) F_53) (fun t => fRd_readNumber_l5 (fun t => fRd_readNumber_66 t) 1000000 t)) t).trans h)
theorem ok_68 (l : Launch) : Fok l 2 mtab 68 (F_68) := by
  intro as t r h
  unfold F_68 at h
  split at h
  · rename_i z0
    split at h
    · rename_i hz0
      obtain rfl := Nat.eq_of_beq_eq_true hz0
      exact ⟨q_68, rfl, mok_68, con_of (P := P_68) (by decide +kernel) rfl (Nat.le_of_ble_eq_true rfl) (fRd_readNumber_ok t h)⟩
    · cases h
  · cases h
end
section
set_option maxRecDepth 100000
variable {l : Launch} {r : RR}
def FT_69 : FT := (7, F_7) :: (53, F_53) :: []
theorem ft_69 : FTok l 5 mtab FT_69 := FTok.cons (ok_7 l) (by omega) (FTok.cons (ok_53 l) (by omega) (FTok.nil))
theorem fRd_readSign_eq : (fun (G7 : List Value → SM → OR) (G53 : List Value → SM → OR) (t : SM) (a : Int32) => ex clN P_69 none bytJ (mkCal rks ((7, G7) :: (53, G53) :: [])) [] (kDisp []) 400 0 [(0, .ref 10), (1, .int a)] [] t) = (fun (G7 : List Value → SM → OR) (G53 : List Value → SM → OR) (t : SM) (a : Int32) =>
  hTc 1 0 13 <| bI (G7 [.float 13, .int (UInt32.toInt32 (Int32.toUInt32 a % 65536))] t) fun indexOf2 t1 =>
  if 0 ≤ indexOf2 then hPutI t1 4 10 4 a fun t3 =>
    hGetI t3 4 10 3 fun at4 =>
    hPutI t3 4 10 3 (at4 + 1) fun t5 =>
    rV t5
  else hRecv t1 4 10 <| bV (G53 [.ref 10] t1) fun t6 =>
  rV t6) := by rfl
theorem fRd_readSign_ok (t : SM) (a : Int32) (h : fRd_readSign t a = some r) : Body l 5 q_69 P_69 r 0 [(0, .ref 10), (1, .int a)] [] t :=
  blk ft_69 (by omega) rfl rows_69 (KDok.nil) ((congrFun (congrFun (congrFun (congrFun (fRd_readSign_eq) F_7) F_53) t) a).trans h)
theorem ok_69 (l : Launch) : Fok l 5 mtab 69 (F_69) := by
  intro as t r h
  unfold F_69 at h
  split at h
  · rename_i z0 a
    split at h
    · rename_i hz0
      obtain rfl := Nat.eq_of_beq_eq_true hz0
      exact ⟨q_69, rfl, mok_69, con_of (P := P_69) (by decide +kernel) rfl (Nat.le_of_ble_eq_true rfl) (fRd_readSign_ok t a h)⟩
    · cases h
  · cases h
end
section
set_option maxRecDepth 100000
variable {l : Launch} {r : RR}
def FT_61 : FT := (62, F_62) :: (63, F_63) :: (65, F_65) :: (64, F_64) :: (68, F_68) :: (69, F_69) :: []
theorem ft_61 : FTok l 7 mtab FT_61 := FTok.cons (ok_62 l) (by omega) (FTok.cons (ok_63 l) (by omega) (FTok.cons (ok_65 l) (by omega) (FTok.cons (ok_64 l) (by omega) (FTok.cons (ok_68 l) (by omega) (FTok.cons (ok_69 l) (by omega) (FTok.nil))))))
theorem fRd_advance_50_eq : (fun (G62 : List Value → SM → OR) (G63 : List Value → SM → OR) (G65 : List Value → SM → OR) (G64 : List Value → SM → OR) (G68 : List Value → SM → OR) (G69 : List Value → SM → OR) (t : SM) => ex clN P_61 none bytJ (mkCal rks ((62, G62) :: (63, G63) :: (65, G65) :: (64, G64) :: (68, G68) :: (69, G69) :: [])) [] (kDisp []) 400 50 [(0, .ref 10)] [] t) = (fun (G62 : List Value → SM → OR) (G63 : List Value → SM → OR) (G65 : List Value → SM → OR) (G64 : List Value → SM → OR) (G68 : List Value → SM → OR) (G69 : List Value → SM → OR) (t : SM) =>
  hGetI t 4 10 3 fun at1 =>
  hPutI t 4 10 5 at1 fun t2 =>
  hGetI t2 4 10 3 fun at3 =>
  hRecv t2 4 10 <| bI (G62 [.ref 10, .int at3] t2) fun byteAt5 t4 =>
  if byteAt5 = 256 then hPutI t4 4 10 4 256 fun t13 =>
  rV t13
  else bI (G63 [.int byteAt5] t4) fun isLetter7 t6 =>
    if isLetter7 = 0 then bI (G64 [.int byteAt5] t6) fun isDigit9 t8 =>
      if isDigit9 = 0 then hRecv t8 4 10 <| bV (G69 [.ref 10, .int byteAt5] t8) fun t10 =>
        rV t10
      else hRecv t8 4 10 <| bV (G68 [.ref 10] t8) fun t11 =>
      rV t11
    else hRecv t6 4 10 <| bV (G65 [.ref 10] t6) fun t12 =>
    rV t12) := by rfl
theorem fRd_advance_50_ok (t : SM) (h : fRd_advance_50 t = some r) : Body l 7 q_61 P_61 r 50 [(0, .ref 10)] [] t :=
  blk ft_61 (by omega) rfl rows_61 (KDok.nil) ((congrFun (congrFun (congrFun (congrFun (congrFun (congrFun (congrFun (fRd_advance_50_eq) F_62) F_63) F_65) F_64) F_68) F_69) t).trans h)
theorem fRd_advance_0_eq : (fun (G62 : List Value → SM → OR) (G63 : List Value → SM → OR) (G65 : List Value → SM → OR) (G64 : List Value → SM → OR) (G68 : List Value → SM → OR) (G69 : List Value → SM → OR) (j0 : SM → OR) (j50 : SM → OR) (t : SM) => ex clN P_61 none bytJ (mkCal rks ((62, G62) :: (63, G63) :: (65, G65) :: (64, G64) :: (68, G68) :: (69, G69) :: [])) [0, 50] (kDisp [(0, kF 0 10 <| kE fun t => j0 t), (50, kF 0 10 <| kE fun t => j50 t)]) 400 0 [(0, .ref 10)] [] t) = (fun (G62 : List Value → SM → OR) (G63 : List Value → SM → OR) (G65 : List Value → SM → OR) (G64 : List Value → SM → OR) (G68 : List Value → SM → OR) (G69 : List Value → SM → OR) (j0 : SM → OR) (j50 : SM → OR) (t : SM) =>
  hGetI t 4 10 3 fun at1 =>
  hGetI t 4 10 1 fun size2 =>
  if size2 ≤ at1 then j50 t
  else hGetI t 4 10 3 fun at3 =>
  hRecv t 4 10 <| bI (G62 [.ref 10, .int at3] t) fun byteAt5 t4 =>
  if byteAt5 = 32 then hGetI t4 4 10 3 fun at6 =>
    hPutI t4 4 10 3 (at6 + 1) fun t7 =>
    j0 t7
  else hGetI t4 4 10 3 fun at8 =>
  hRecv t4 4 10 <| bI (G62 [.ref 10, .int at8] t4) fun byteAt10 t9 =>
  if byteAt10 = 10 then hGetI t9 4 10 3 fun at11 =>
  hPutI t9 4 10 3 (at11 + 1) fun t12 =>
  j0 t12
  else j50 t9) := by rfl
theorem fRd_advance_0_ok {k50 : SM → OR} {r0 : SM → OR} (h_k50 : ∀ (t : SM), k50 t = some r → Body l 7 q_61 P_61 r 50 [(0, .ref 10)] [] t) (h_r0 : ∀ (t : SM), r0 t = some r → Body l 7 q_61 P_61 r 0 [(0, .ref 10)] [] t) (t : SM) (h : fRd_advance_0 k50 r0 t = some r) : Body l 7 q_61 P_61 r 0 [(0, .ref 10)] [] t :=
  blk ft_61 (by omega) rfl rows_61 (KDok.cons (KOK.f <| KOK.e (f := fun t => r0 t) fun t h => h_r0 t h) (KDok.cons (KOK.f <| KOK.e (f := fun t => k50 t) fun t h => h_k50 t h) (KDok.nil))) ((congrFun (congrFun (congrFun (congrFun (congrFun (congrFun (congrFun (congrFun (congrFun (fRd_advance_0_eq) F_62) F_63) F_65) F_64) F_68) F_69) (fun t => r0 t)) (fun t => k50 t)) t).trans h)
theorem fRd_advance_l0_ok {k50 : SM → OR} (h_k50 : ∀ (t : SM), k50 t = some r → Body l 7 q_61 P_61 r 50 [(0, .ref 10)] [] t) : ∀ (n : Nat) (t : SM), fRd_advance_l0 k50 n t = some r → Body l 7 q_61 P_61 r 0 [(0, .ref 10)] [] t
  | 0, _, h => by cases h
  | n + 1, t, h => fRd_advance_0_ok h_k50 (fRd_advance_l0_ok h_k50 n) t h
theorem fRd_advance_ok (t : SM) (h : fRd_advance t = some r) : Body l 7 q_61 P_61 r 0 [(0, .ref 10)] [] t :=
  Body.less (L0 := [(0, .ref 10)]) (fRd_advance_l0_ok (k50 := fun t => fRd_advance_50 t) (fun t h => fRd_advance_50_ok t h) 1000000 t h) (by intro z hz; simp only [List.mem_cons, List.not_mem_nil, or_false] at hz; rcases hz with rfl <;> rfl)
theorem ok_61 (l : Launch) : Fok l 7 mtab 61 (F_61) := by
  intro as t r h
  unfold F_61 at h
  split at h
  · rename_i z0
    split at h
    · rename_i hz0
      obtain rfl := Nat.eq_of_beq_eq_true hz0
      exact ⟨q_61, rfl, mok_61, con_of (P := P_61) (by decide +kernel) rfl (Nat.le_of_ble_eq_true rfl) (fRd_advance_ok t h)⟩
    · cases h
  · cases h
end
section
set_option maxRecDepth 100000
variable {l : Launch} {r : RR}
def FT_52 : FT := (61, F_61) :: (53, F_53) :: []
theorem ft_52 : FTok l 8 mtab FT_52 := FTok.cons (ok_61 l) (by omega) (FTok.cons (ok_53 l) (by omega) (FTok.nil))
theorem fRd_accept_eq : (fun (G61 : List Value → SM → OR) (G53 : List Value → SM → OR) (t : SM) (a : Int32) => ex clN P_52 none bytJ (mkCal rks ((61, G61) :: (53, G53) :: [])) [] (kDisp []) 400 0 [(0, .ref 10), (1, .int a)] [] t) = (fun (G61 : List Value → SM → OR) (G53 : List Value → SM → OR) (t : SM) (a : Int32) =>
  hGetI t 4 10 4 fun token1 =>
  if token1 = a then hRecv t 4 10 <| bV (G61 [.ref 10] t) fun t3 =>
  rV t3
  else hRecv t 4 10 <| bV (G53 [.ref 10] t) fun t2 =>
    rV t2) := by rfl
theorem fRd_accept_ok (t : SM) (a : Int32) (h : fRd_accept t a = some r) : Body l 8 q_52 P_52 r 0 [(0, .ref 10), (1, .int a)] [] t :=
  blk ft_52 (by omega) rfl rows_52 (KDok.nil) ((congrFun (congrFun (congrFun (congrFun (fRd_accept_eq) F_61) F_53) t) a).trans h)
theorem ok_52 (l : Launch) : Fok l 8 mtab 52 (F_52) := by
  intro as t r h
  unfold F_52 at h
  split at h
  · rename_i z0 a
    split at h
    · rename_i hz0
      obtain rfl := Nat.eq_of_beq_eq_true hz0
      exact ⟨q_52, rfl, mok_52, con_of (P := P_52) (by decide +kernel) rfl (Nat.le_of_ble_eq_true rfl) (fRd_accept_ok t a h)⟩
    · cases h
  · cases h
end
section
set_option maxRecDepth 100000
variable {l : Launch} {r : RR}
def FT_54 : FT := []
theorem ft_54 : FTok l 1 mtab FT_54 := FTok.nil
theorem fRd_emit_eq : (fun (t : SM) (a : Int32) => ex clN P_54 none bytJ (mkCal rks ([])) [] (kDisp []) 400 0 [(0, .ref 10), (1, .int a)] [] t) = (fun (t : SM) (a : Int32) =>
  hGetI t 4 10 8 fun codeSize1 =>
  if codeSize1 < 0 then rV t
  else hGetI t 4 10 8 fun codeSize2 =>
  hGetC t 4 10 7 12 <|
  hALen t 12 fun n3 =>
  if n3 ≤ codeSize2 then rV t
  else hGetC t 4 10 7 12 <|
  hGetI t 4 10 8 fun codeSize4 =>
  hASt t 12 codeSize4 a fun t5 =>
  hGetI t5 4 10 8 fun codeSize6 =>
  hPutI t5 4 10 8 (codeSize6 + 1) fun t7 =>
  rV t7) := by rfl
theorem fRd_emit_ok (t : SM) (a : Int32) (h : fRd_emit t a = some r) : Body l 1 q_54 P_54 r 0 [(0, .ref 10), (1, .int a)] [] t :=
  blk ft_54 (by omega) rfl rows_54 (KDok.nil) ((congrFun (congrFun (fRd_emit_eq) t) a).trans h)
theorem ok_54 (l : Launch) : Fok l 1 mtab 54 (F_54) := by
  intro as t r h
  unfold F_54 at h
  split at h
  · rename_i z0 a
    split at h
    · rename_i hz0
      obtain rfl := Nat.eq_of_beq_eq_true hz0
      exact ⟨q_54, rfl, mok_54, con_of (P := P_54) (by decide +kernel) rfl (Nat.le_of_ble_eq_true rfl) (fRd_emit_ok t a h)⟩
    · cases h
  · cases h
end
section
set_option maxRecDepth 100000
variable {l : Launch} {r : RR}
def FT_60 (R : FT) : FT := (54, F_54) :: (61, F_61) :: (52, F_52) :: (53, F_53) :: R
theorem ft_60 {d : Nat} {R : FT} (hd : 9 ≤ d) (hR : FTok l d mtab R) : FTok l d mtab (FT_60 R) := FTok.cons (ok_54 l) (by omega) (FTok.cons (ok_61 l) (by omega) (FTok.cons (ok_52 l) (by omega) (FTok.cons (ok_53 l) (by omega) (hR))))
theorem fRd_single_100_eq : (fun (R : FT) (G54 : List Value → SM → OR) (G61 : List Value → SM → OR) (G52 : List Value → SM → OR) (G53 : List Value → SM → OR) (t : SM) (v1 : Int32) => ex clN P_60 none bytJ (mkCal rks ((54, G54) :: (61, G61) :: (52, G52) :: (53, G53) :: R)) [] (kDisp []) 400 100 [(1, .int v1), (0, .ref 10)] [] t) = (fun (R : FT) (G54 : List Value → SM → OR) (G61 : List Value → SM → OR) (G52 : List Value → SM → OR) (G53 : List Value → SM → OR) (t : SM) (v1 : Int32) =>
  hGetI t 4 10 4 fun token1 =>
  if token1 = 40 then if 5 ≤ v1 then hRecv t 4 10 <| bV (G53 [.ref 10] t) fun t3 =>
    rV t3
  else hRecv t 4 10 <| bV (G61 [.ref 10] t) fun t4 =>
  hRecv t4 4 10 <| bV (atF 55 [.ref 10, .int (v1 + 1)] t4 R) fun t5 =>
  hRecv t5 4 10 <| bV (G52 [.ref 10, .int 41] t5) fun t6 =>
  rV t6
  else hRecv t 4 10 <| bV (G53 [.ref 10] t) fun t2 =>
    rV t2) := by rfl
theorem fRd_single_100_ok {d : Nat} {R : FT} (hd : 9 ≤ d) (hR : FTok l d mtab R) (t : SM) (v1 : Int32) (h : fRd_single_100 R t v1 = some r) : Body l d q_60 P_60 r 100 [(1, .int v1), (0, .ref 10)] [] t :=
  blk (ft_60 hd hR) (by omega) rfl rows_60 (KDok.nil) ((congrFun (congrFun (congrFun (congrFun (congrFun (congrFun (congrFun (fRd_single_100_eq) R) F_54) F_61) F_52) F_53) t) v1).trans h)
theorem fRd_single_67_eq : (fun (R : FT) (G54 : List Value → SM → OR) (G61 : List Value → SM → OR) (G52 : List Value → SM → OR) (G53 : List Value → SM → OR) (j100 : SM → Int32 → OR) (t : SM) (v1 : Int32) => ex clN P_60 none bytJ (mkCal rks ((54, G54) :: (61, G61) :: (52, G52) :: (53, G53) :: R)) [100] (kDisp [(100, kF 0 10 <| kI 1 fun w1 => kE fun t => j100 t w1)]) 400 67 [(1, .int v1), (0, .ref 10)] [] t) = (fun (R : FT) (G54 : List Value → SM → OR) (G61 : List Value → SM → OR) (G52 : List Value → SM → OR) (G53 : List Value → SM → OR) (j100 : SM → Int32 → OR) (t : SM) (v1 : Int32) =>
  hGetI t 4 10 4 fun token1 =>
  if token1 = 45 then if 5 ≤ v1 then j100 t v1
  else hRecv t 4 10 <| bV (G61 [.ref 10] t) fun t2 =>
  hRecv t2 4 10 <| bV (atF 60 [.ref 10, .int (v1 + 1)] t2 R) fun t3 =>
  hRecv t3 4 10 <| bV (G54 [.ref 10, .int (-1)] t3) fun t4 =>
  rV t4
  else j100 t v1) := by rfl
theorem fRd_single_67_ok {d : Nat} {R : FT} (hd : 9 ≤ d) (hR : FTok l d mtab R) (t : SM) (v1 : Int32) (h : fRd_single_67 R t v1 = some r) : Body l d q_60 P_60 r 67 [(1, .int v1), (0, .ref 10)] [] t :=
  blk (ft_60 hd hR) (by omega) rfl rows_60 (KDok.cons (KOK.f <| KOK.i fun w1 => KOK.e (f := fun t => fRd_single_100 R t w1) fun t h => fRd_single_100_ok hd hR t w1 h) (KDok.nil)) ((congrFun (congrFun (congrFun (congrFun (congrFun (congrFun (congrFun (congrFun (fRd_single_67_eq) R) F_54) F_61) F_52) F_53) (fun t u1 => fRd_single_100 R t u1)) t) v1).trans h)
theorem fRd_single_eq : (fun (R : FT) (G54 : List Value → SM → OR) (G61 : List Value → SM → OR) (G52 : List Value → SM → OR) (G53 : List Value → SM → OR) (j67 : SM → Int32 → OR) (t : SM) (a : Int32) => ex clN P_60 none bytJ (mkCal rks ((54, G54) :: (61, G61) :: (52, G52) :: (53, G53) :: R)) [67] (kDisp [(67, kF 0 10 <| kI 1 fun w1 => kE fun t => j67 t w1)]) 400 0 [(0, .ref 10), (1, .int a)] [] t) = (fun (R : FT) (G54 : List Value → SM → OR) (G61 : List Value → SM → OR) (G52 : List Value → SM → OR) (G53 : List Value → SM → OR) (j67 : SM → Int32 → OR) (t : SM) (a : Int32) =>
  hGetI t 4 10 4 fun token1 =>
  if token1 = 258 then hGetI t 4 10 6 fun number7 =>
  hRecv t 4 10 <| bV (G54 [.ref 10, .int number7] t) fun t8 =>
  hRecv t8 4 10 <| bV (G61 [.ref 10] t8) fun t9 =>
  rV t9
  else hGetI t 4 10 4 fun token2 =>
    if token2 < 306 then j67 t a
    else hGetI t 4 10 4 fun token3 =>
    if 311 < token3 then j67 t a
    else hGetI t 4 10 4 fun token4 =>
    hRecv t 4 10 <| bV (G54 [.ref 10, .int ((-20) - (token4 - 306))] t) fun t5 =>
    hRecv t5 4 10 <| bV (G61 [.ref 10] t5) fun t6 =>
    rV t6) := by rfl
theorem fRd_single_ok {d : Nat} {R : FT} (hd : 9 ≤ d) (hR : FTok l d mtab R) (t : SM) (a : Int32) (h : fRd_single R t a = some r) : Body l d q_60 P_60 r 0 [(0, .ref 10), (1, .int a)] [] t :=
  blk (ft_60 hd hR) (by omega) rfl rows_60 (KDok.cons (KOK.f <| KOK.i fun w1 => KOK.e (f := fun t => fRd_single_67 R t w1) fun t h => fRd_single_67_ok hd hR t w1 h) (KDok.nil)) ((congrFun (congrFun (congrFun (congrFun (congrFun (congrFun (congrFun (congrFun (fRd_single_eq) R) F_54) F_61) F_52) F_53) (fun t u1 => fRd_single_67 R t u1)) t) a).trans h)
theorem ok_60 {d : Nat} {R : FT} (hd : 9 ≤ d) (l : Launch) (hR : FTok l d mtab R) : Fok l d mtab 60 (F_60 R) := by
  intro as t r h
  unfold F_60 at h
  split at h
  · rename_i z0 a
    split at h
    · rename_i hz0
      obtain rfl := Nat.eq_of_beq_eq_true hz0
      exact ⟨q_60, rfl, mok_60, con_of (P := P_60) (by decide +kernel) rfl (Nat.le_of_ble_eq_true rfl) (fRd_single_ok hd hR t a h)⟩
    · cases h
  · cases h
end
section
set_option maxRecDepth 100000
variable {l : Launch} {r : RR}
def FT_59 (R : FT) : FT := (61, F_61) :: (54, F_54) :: R
theorem ft_59 {d : Nat} {R : FT} (hd : 9 ≤ d) (hR : FTok l d mtab R) : FTok l d mtab (FT_59 R) := FTok.cons (ok_61 l) (by omega) (FTok.cons (ok_54 l) (by omega) (hR))
theorem fRd_product_7_eq : (fun (R : FT) (G61 : List Value → SM → OR) (G54 : List Value → SM → OR) (j7 : SM → Int32 → Int32 → OR) (t : SM) (v1 : Int32) (v2 : Int32) => ex clN P_59 none bytJ (mkCal rks ((61, G61) :: (54, G54) :: R)) [7] (kDisp [(7, kF 0 10 <| kI 1 fun w1 => kI 2 fun w2 => kE fun t => j7 t w1 w2)]) 400 7 [(2, .int v2), (1, .int v1), (0, .ref 10)] [] t) = (fun (R : FT) (G61 : List Value → SM → OR) (G54 : List Value → SM → OR) (j7 : SM → Int32 → Int32 → OR) (t : SM) (v1 : Int32) (v2 : Int32) =>
  if 160 ≤ v2 then rV t
  else hGetI t 4 10 4 fun token1 =>
  if token1 = 42 then hRecv t 4 10 <| bV (G61 [.ref 10] t) fun t2 =>
  hRecv t2 4 10 <| bV (atF 60 [.ref 10, .int v1] t2 R) fun t3 =>
  hRecv t3 4 10 <| bV (G54 [.ref 10, .int (-3)] t3) fun t4 =>
  j7 t4 v1 (v2 + 1)
  else rV t) := by rfl
theorem fRd_product_7_ok {d : Nat} {R : FT} (hd : 9 ≤ d) (hR : FTok l d mtab R) {r7 : SM → Int32 → Int32 → OR} (h_r7 : ∀ (t : SM) (v1 : Int32) (v2 : Int32), r7 t v1 v2 = some r → Body l d q_59 P_59 r 7 [(2, .int v2), (1, .int v1), (0, .ref 10)] [] t) (t : SM) (v1 : Int32) (v2 : Int32) (h : fRd_product_7 R r7 t v1 v2 = some r) : Body l d q_59 P_59 r 7 [(2, .int v2), (1, .int v1), (0, .ref 10)] [] t :=
  blk (ft_59 hd hR) (by omega) rfl rows_59 (KDok.cons (KOK.f <| KOK.i fun w1 => KOK.i fun w2 => KOK.e (f := fun t => r7 t w1 w2) fun t h => h_r7 t w1 w2 h) (KDok.nil)) ((congrFun (congrFun (congrFun (congrFun (congrFun (congrFun (congrFun (fRd_product_7_eq) R) F_61) F_54) (fun t u1 u2 => r7 t u1 u2)) t) v1) v2).trans h)
theorem fRd_product_l7_ok {d : Nat} {R : FT} (hd : 9 ≤ d) (hR : FTok l d mtab R) : ∀ (n : Nat) (t : SM) (v1 : Int32) (v2 : Int32), fRd_product_l7 R n t v1 v2 = some r → Body l d q_59 P_59 r 7 [(2, .int v2), (1, .int v1), (0, .ref 10)] [] t
  | 0, _, _, _, h => by cases h
  | n + 1, t, v1, v2, h => fRd_product_7_ok hd hR (fRd_product_l7_ok hd hR n) t v1 v2 h
theorem fRd_product_eq : (fun (R : FT) (G61 : List Value → SM → OR) (G54 : List Value → SM → OR) (j7 : SM → Int32 → Int32 → OR) (t : SM) (a : Int32) => ex clN P_59 none bytJ (mkCal rks ((61, G61) :: (54, G54) :: R)) [7] (kDisp [(7, kF 0 10 <| kI 1 fun w1 => kI 2 fun w2 => kE fun t => j7 t w1 w2)]) 400 0 [(0, .ref 10), (1, .int a)] [] t) = (fun (R : FT) (G61 : List Value → SM → OR) (G54 : List Value → SM → OR) (j7 : SM → Int32 → Int32 → OR) (t : SM) (a : Int32) =>
  hRecv t 4 10 <| bV (atF 60 [.ref 10, .int a] t R) fun t1 =>
  j7 t1 a 0) := by rfl
theorem fRd_product_ok {d : Nat} {R : FT} (hd : 9 ≤ d) (hR : FTok l d mtab R) (t : SM) (a : Int32) (h : fRd_product R t a = some r) : Body l d q_59 P_59 r 0 [(0, .ref 10), (1, .int a)] [] t :=
  blk (ft_59 hd hR) (by omega) rfl rows_59 (KDok.cons (KOK.f <| KOK.i fun w1 => KOK.i fun w2 => KOK.e (f := fun t => fRd_product_l7 R 1000000 t w1 w2) fun t h => fRd_product_l7_ok hd hR 1000000 t w1 w2 h) (KDok.nil)) ((congrFun (congrFun (congrFun (congrFun (congrFun (congrFun (fRd_product_eq) R) F_61) F_54) (fun t u1 u2 => fRd_product_l7 R 1000000 t u1 u2)) t) a).trans h)
theorem ok_59 {d : Nat} {R : FT} (hd : 9 ≤ d) (l : Launch) (hR : FTok l d mtab R) : Fok l d mtab 59 (F_59 R) := by
  intro as t r h
  unfold F_59 at h
  split at h
  · rename_i z0 a
    split at h
    · rename_i hz0
      obtain rfl := Nat.eq_of_beq_eq_true hz0
      exact ⟨q_59, rfl, mok_59, con_of (P := P_59) (by decide +kernel) rfl (Nat.le_of_ble_eq_true rfl) (fRd_product_ok hd hR t a h)⟩
    · cases h
  · cases h
end
section
set_option maxRecDepth 100000
variable {l : Launch} {r : RR}
def FT_58 (R : FT) : FT := (61, F_61) :: (54, F_54) :: R
theorem ft_58 {d : Nat} {R : FT} (hd : 9 ≤ d) (hR : FTok l d mtab R) : FTok l d mtab (FT_58 R) := FTok.cons (ok_61 l) (by omega) (FTok.cons (ok_54 l) (by omega) (hR))
theorem fRd_sum_32_eq : (fun (R : FT) (G61 : List Value → SM → OR) (G54 : List Value → SM → OR) (j7 : SM → Int32 → Int32 → OR) (t : SM) (v1 : Int32) (v2 : Int32) => ex clN P_58 none bytJ (mkCal rks ((61, G61) :: (54, G54) :: R)) [7] (kDisp [(7, kF 0 10 <| kI 1 fun w1 => kI 2 fun w2 => kE fun t => j7 t w1 w2)]) 400 32 [(2, .int v2), (1, .int v1), (0, .ref 10)] [] t) = (fun (R : FT) (G61 : List Value → SM → OR) (G54 : List Value → SM → OR) (j7 : SM → Int32 → Int32 → OR) (t : SM) (v1 : Int32) (v2 : Int32) =>
  hGetI t 4 10 4 fun token1 =>
  if token1 = 43 then hRecv t 4 10 <| bV (G61 [.ref 10] t) fun t5 =>
  hRecv t5 4 10 <| bV (atF 59 [.ref 10, .int v1] t5 R) fun t6 =>
  hRecv t6 4 10 <| bV (G54 [.ref 10, .int (-4)] t6) fun t7 =>
  j7 t7 v1 (v2 + 1)
  else hRecv t 4 10 <| bV (G61 [.ref 10] t) fun t2 =>
    hRecv t2 4 10 <| bV (atF 59 [.ref 10, .int v1] t2 R) fun t3 =>
    hRecv t3 4 10 <| bV (G54 [.ref 10, .int (-5)] t3) fun t4 =>
    j7 t4 v1 (v2 + 1)) := by rfl
theorem fRd_sum_32_ok {d : Nat} {R : FT} (hd : 9 ≤ d) (hR : FTok l d mtab R) {r7 : SM → Int32 → Int32 → OR} (h_r7 : ∀ (t : SM) (v1 : Int32) (v2 : Int32), r7 t v1 v2 = some r → Body l d q_58 P_58 r 7 [(2, .int v2), (1, .int v1), (0, .ref 10)] [] t) (t : SM) (v1 : Int32) (v2 : Int32) (h : fRd_sum_32 R r7 t v1 v2 = some r) : Body l d q_58 P_58 r 32 [(2, .int v2), (1, .int v1), (0, .ref 10)] [] t :=
  blk (ft_58 hd hR) (by omega) rfl rows_58 (KDok.cons (KOK.f <| KOK.i fun w1 => KOK.i fun w2 => KOK.e (f := fun t => r7 t w1 w2) fun t h => h_r7 t w1 w2 h) (KDok.nil)) ((congrFun (congrFun (congrFun (congrFun (congrFun (congrFun (congrFun (fRd_sum_32_eq) R) F_61) F_54) (fun t u1 u2 => r7 t u1 u2)) t) v1) v2).trans h)
theorem fRd_sum_7_eq : (fun (R : FT) (G61 : List Value → SM → OR) (G54 : List Value → SM → OR) (j32 : SM → Int32 → Int32 → OR) (t : SM) (v1 : Int32) (v2 : Int32) => ex clN P_58 none bytJ (mkCal rks ((61, G61) :: (54, G54) :: R)) [32] (kDisp [(32, kF 0 10 <| kI 1 fun w1 => kI 2 fun w2 => kE fun t => j32 t w1 w2)]) 400 7 [(2, .int v2), (1, .int v1), (0, .ref 10)] [] t) = (fun (R : FT) (G61 : List Value → SM → OR) (G54 : List Value → SM → OR) (j32 : SM → Int32 → Int32 → OR) (t : SM) (v1 : Int32) (v2 : Int32) =>
  if 160 ≤ v2 then rV t
  else hGetI t 4 10 4 fun token1 =>
  if token1 = 43 then j32 t v1 v2
  else hGetI t 4 10 4 fun token2 =>
  if token2 = 45 then j32 t v1 v2
  else rV t) := by rfl
theorem fRd_sum_7_ok {d : Nat} {R : FT} (hd : 9 ≤ d) (hR : FTok l d mtab R) {r7 : SM → Int32 → Int32 → OR} (h_r7 : ∀ (t : SM) (v1 : Int32) (v2 : Int32), r7 t v1 v2 = some r → Body l d q_58 P_58 r 7 [(2, .int v2), (1, .int v1), (0, .ref 10)] [] t) (t : SM) (v1 : Int32) (v2 : Int32) (h : fRd_sum_7 R r7 t v1 v2 = some r) : Body l d q_58 P_58 r 7 [(2, .int v2), (1, .int v1), (0, .ref 10)] [] t :=
  blk (ft_58 hd hR) (by omega) rfl rows_58 (KDok.cons (KOK.f <| KOK.i fun w1 => KOK.i fun w2 => KOK.e (f := fun t => fRd_sum_32 R r7 t w1 w2) fun t h => fRd_sum_32_ok hd hR h_r7 t w1 w2 h) (KDok.nil)) ((congrFun (congrFun (congrFun (congrFun (congrFun (congrFun (congrFun (fRd_sum_7_eq) R) F_61) F_54) (fun t u1 u2 => fRd_sum_32 R r7 t u1 u2)) t) v1) v2).trans h)
theorem fRd_sum_l7_ok {d : Nat} {R : FT} (hd : 9 ≤ d) (hR : FTok l d mtab R) : ∀ (n : Nat) (t : SM) (v1 : Int32) (v2 : Int32), fRd_sum_l7 R n t v1 v2 = some r → Body l d q_58 P_58 r 7 [(2, .int v2), (1, .int v1), (0, .ref 10)] [] t
  | 0, _, _, _, h => by cases h
  | n + 1, t, v1, v2, h => fRd_sum_7_ok hd hR (fRd_sum_l7_ok hd hR n) t v1 v2 h
theorem fRd_sum_eq : (fun (R : FT) (G61 : List Value → SM → OR) (G54 : List Value → SM → OR) (j7 : SM → Int32 → Int32 → OR) (t : SM) (a : Int32) => ex clN P_58 none bytJ (mkCal rks ((61, G61) :: (54, G54) :: R)) [7] (kDisp [(7, kF 0 10 <| kI 1 fun w1 => kI 2 fun w2 => kE fun t => j7 t w1 w2)]) 400 0 [(0, .ref 10), (1, .int a)] [] t) = (fun (R : FT) (G61 : List Value → SM → OR) (G54 : List Value → SM → OR) (j7 : SM → Int32 → Int32 → OR) (t : SM) (a : Int32) =>
  hRecv t 4 10 <| bV (atF 59 [.ref 10, .int a] t R) fun t1 =>
  j7 t1 a 0) := by rfl
theorem fRd_sum_ok {d : Nat} {R : FT} (hd : 9 ≤ d) (hR : FTok l d mtab R) (t : SM) (a : Int32) (h : fRd_sum R t a = some r) : Body l d q_58 P_58 r 0 [(0, .ref 10), (1, .int a)] [] t :=
  blk (ft_58 hd hR) (by omega) rfl rows_58 (KDok.cons (KOK.f <| KOK.i fun w1 => KOK.i fun w2 => KOK.e (f := fun t => fRd_sum_l7 R 1000000 t w1 w2) fun t h => fRd_sum_l7_ok hd hR 1000000 t w1 w2 h) (KDok.nil)) ((congrFun (congrFun (congrFun (congrFun (congrFun (congrFun (fRd_sum_eq) R) F_61) F_54) (fun t u1 u2 => fRd_sum_l7 R 1000000 t u1 u2)) t) a).trans h)
theorem ok_58 {d : Nat} {R : FT} (hd : 9 ≤ d) (l : Launch) (hR : FTok l d mtab R) : Fok l d mtab 58 (F_58 R) := by
  intro as t r h
  unfold F_58 at h
  split at h
  · rename_i z0 a
    split at h
    · rename_i hz0
      obtain rfl := Nat.eq_of_beq_eq_true hz0
      exact ⟨q_58, rfl, mok_58, con_of (P := P_58) (by decide +kernel) rfl (Nat.le_of_ble_eq_true rfl) (fRd_sum_ok hd hR t a h)⟩
    · cases h
  · cases h
end
section
set_option maxRecDepth 100000
variable {l : Launch} {r : RR}
def FT_57 (R : FT) : FT := (61, F_61) :: (54, F_54) :: R
theorem ft_57 {d : Nat} {R : FT} (hd : 9 ≤ d) (hR : FTok l d mtab R) : FTok l d mtab (FT_57 R) := FTok.cons (ok_61 l) (by omega) (FTok.cons (ok_54 l) (by omega) (hR))
theorem fRd_negation_56_eq : (fun (R : FT) (G61 : List Value → SM → OR) (G54 : List Value → SM → OR) (t : SM) (v1 : Int32) => ex clN P_57 none bytJ (mkCal rks ((61, G61) :: (54, G54) :: R)) [] (kDisp []) 400 56 [(1, .int v1), (0, .ref 10)] [] t) = (fun (R : FT) (G61 : List Value → SM → OR) (G54 : List Value → SM → OR) (t : SM) (v1 : Int32) =>
  hGetI t 4 10 4 fun token1 =>
  if token1 = 60 then hRecv t 4 10 <| bV (G61 [.ref 10] t) fun t5 =>
  hRecv t5 4 10 <| bV (atF 58 [.ref 10, .int v1] t5 R) fun t6 =>
  hRecv t6 4 10 <| bV (G54 [.ref 10, .int (-6)] t6) fun t7 =>
  rV t7
  else hRecv t 4 10 <| bV (G61 [.ref 10] t) fun t2 =>
    hRecv t2 4 10 <| bV (atF 58 [.ref 10, .int v1] t2 R) fun t3 =>
    hRecv t3 4 10 <| bV (G54 [.ref 10, .int (-7)] t3) fun t4 =>
    rV t4) := by rfl
theorem fRd_negation_56_ok {d : Nat} {R : FT} (hd : 9 ≤ d) (hR : FTok l d mtab R) (t : SM) (v1 : Int32) (h : fRd_negation_56 R t v1 = some r) : Body l d q_57 P_57 r 56 [(1, .int v1), (0, .ref 10)] [] t :=
  blk (ft_57 hd hR) (by omega) rfl rows_57 (KDok.nil) ((congrFun (congrFun (congrFun (congrFun (congrFun (fRd_negation_56_eq) R) F_61) F_54) t) v1).trans h)
theorem fRd_negation_33_eq : (fun (R : FT) (G61 : List Value → SM → OR) (G54 : List Value → SM → OR) (j56 : SM → Int32 → OR) (t : SM) (v1 : Int32) => ex clN P_57 none bytJ (mkCal rks ((61, G61) :: (54, G54) :: R)) [56] (kDisp [(56, kF 0 10 <| kI 1 fun w1 => kE fun t => j56 t w1)]) 400 33 [(1, .int v1), (0, .ref 10)] [] t) = (fun (R : FT) (G61 : List Value → SM → OR) (G54 : List Value → SM → OR) (j56 : SM → Int32 → OR) (t : SM) (v1 : Int32) =>
  hRecv t 4 10 <| bV (atF 58 [.ref 10, .int v1] t R) fun t1 =>
  hGetI t1 4 10 4 fun token2 =>
  if token2 = 60 then j56 t1 v1
  else hGetI t1 4 10 4 fun token3 =>
  if token3 = 61 then j56 t1 v1
  else rV t1) := by rfl
theorem fRd_negation_33_ok {d : Nat} {R : FT} (hd : 9 ≤ d) (hR : FTok l d mtab R) (t : SM) (v1 : Int32) (h : fRd_negation_33 R t v1 = some r) : Body l d q_57 P_57 r 33 [(1, .int v1), (0, .ref 10)] [] t :=
  blk (ft_57 hd hR) (by omega) rfl rows_57 (KDok.cons (KOK.f <| KOK.i fun w1 => KOK.e (f := fun t => fRd_negation_56 R t w1) fun t h => fRd_negation_56_ok hd hR t w1 h) (KDok.nil)) ((congrFun (congrFun (congrFun (congrFun (congrFun (congrFun (fRd_negation_33_eq) R) F_61) F_54) (fun t u1 => fRd_negation_56 R t u1)) t) v1).trans h)
theorem fRd_negation_eq : (fun (R : FT) (G61 : List Value → SM → OR) (G54 : List Value → SM → OR) (j33 : SM → Int32 → OR) (t : SM) (a : Int32) => ex clN P_57 none bytJ (mkCal rks ((61, G61) :: (54, G54) :: R)) [33] (kDisp [(33, kF 0 10 <| kI 1 fun w1 => kE fun t => j33 t w1)]) 400 0 [(0, .ref 10), (1, .int a)] [] t) = (fun (R : FT) (G61 : List Value → SM → OR) (G54 : List Value → SM → OR) (j33 : SM → Int32 → OR) (t : SM) (a : Int32) =>
  hGetI t 4 10 4 fun token1 =>
  if token1 = 305 then if 5 ≤ a then j33 t a
  else hRecv t 4 10 <| bV (G61 [.ref 10] t) fun t2 =>
  hRecv t2 4 10 <| bV (atF 57 [.ref 10, .int (a + 1)] t2 R) fun t3 =>
  hRecv t3 4 10 <| bV (G54 [.ref 10, .int (-2)] t3) fun t4 =>
  rV t4
  else j33 t a) := by rfl
theorem fRd_negation_ok {d : Nat} {R : FT} (hd : 9 ≤ d) (hR : FTok l d mtab R) (t : SM) (a : Int32) (h : fRd_negation R t a = some r) : Body l d q_57 P_57 r 0 [(0, .ref 10), (1, .int a)] [] t :=
  blk (ft_57 hd hR) (by omega) rfl rows_57 (KDok.cons (KOK.f <| KOK.i fun w1 => KOK.e (f := fun t => fRd_negation_33 R t w1) fun t h => fRd_negation_33_ok hd hR t w1 h) (KDok.nil)) ((congrFun (congrFun (congrFun (congrFun (congrFun (congrFun (fRd_negation_eq) R) F_61) F_54) (fun t u1 => fRd_negation_33 R t u1)) t) a).trans h)
theorem ok_57 {d : Nat} {R : FT} (hd : 9 ≤ d) (l : Launch) (hR : FTok l d mtab R) : Fok l d mtab 57 (F_57 R) := by
  intro as t r h
  unfold F_57 at h
  split at h
  · rename_i z0 a
    split at h
    · rename_i hz0
      obtain rfl := Nat.eq_of_beq_eq_true hz0
      exact ⟨q_57, rfl, mok_57, con_of (P := P_57) (by decide +kernel) rfl (Nat.le_of_ble_eq_true rfl) (fRd_negation_ok hd hR t a h)⟩
    · cases h
  · cases h
end
section
set_option maxRecDepth 100000
variable {l : Launch} {r : RR}
def FT_56 (R : FT) : FT := (61, F_61) :: (54, F_54) :: R
theorem ft_56 {d : Nat} {R : FT} (hd : 9 ≤ d) (hR : FTok l d mtab R) : FTok l d mtab (FT_56 R) := FTok.cons (ok_61 l) (by omega) (FTok.cons (ok_54 l) (by omega) (hR))
theorem fRd_both_7_eq : (fun (R : FT) (G61 : List Value → SM → OR) (G54 : List Value → SM → OR) (j7 : SM → Int32 → Int32 → OR) (t : SM) (v1 : Int32) (v2 : Int32) => ex clN P_56 none bytJ (mkCal rks ((61, G61) :: (54, G54) :: R)) [7] (kDisp [(7, kF 0 10 <| kI 1 fun w1 => kI 2 fun w2 => kE fun t => j7 t w1 w2)]) 400 7 [(2, .int v2), (1, .int v1), (0, .ref 10)] [] t) = (fun (R : FT) (G61 : List Value → SM → OR) (G54 : List Value → SM → OR) (j7 : SM → Int32 → Int32 → OR) (t : SM) (v1 : Int32) (v2 : Int32) =>
  if 160 ≤ v2 then rV t
  else hGetI t 4 10 4 fun token1 =>
  if token1 = 304 then hRecv t 4 10 <| bV (G61 [.ref 10] t) fun t2 =>
  hRecv t2 4 10 <| bV (atF 57 [.ref 10, .int v1] t2 R) fun t3 =>
  hRecv t3 4 10 <| bV (G54 [.ref 10, .int (-8)] t3) fun t4 =>
  j7 t4 v1 (v2 + 1)
  else rV t) := by rfl
theorem fRd_both_7_ok {d : Nat} {R : FT} (hd : 9 ≤ d) (hR : FTok l d mtab R) {r7 : SM → Int32 → Int32 → OR} (h_r7 : ∀ (t : SM) (v1 : Int32) (v2 : Int32), r7 t v1 v2 = some r → Body l d q_56 P_56 r 7 [(2, .int v2), (1, .int v1), (0, .ref 10)] [] t) (t : SM) (v1 : Int32) (v2 : Int32) (h : fRd_both_7 R r7 t v1 v2 = some r) : Body l d q_56 P_56 r 7 [(2, .int v2), (1, .int v1), (0, .ref 10)] [] t :=
  blk (ft_56 hd hR) (by omega) rfl rows_56 (KDok.cons (KOK.f <| KOK.i fun w1 => KOK.i fun w2 => KOK.e (f := fun t => r7 t w1 w2) fun t h => h_r7 t w1 w2 h) (KDok.nil)) ((congrFun (congrFun (congrFun (congrFun (congrFun (congrFun (congrFun (fRd_both_7_eq) R) F_61) F_54) (fun t u1 u2 => r7 t u1 u2)) t) v1) v2).trans h)
theorem fRd_both_l7_ok {d : Nat} {R : FT} (hd : 9 ≤ d) (hR : FTok l d mtab R) : ∀ (n : Nat) (t : SM) (v1 : Int32) (v2 : Int32), fRd_both_l7 R n t v1 v2 = some r → Body l d q_56 P_56 r 7 [(2, .int v2), (1, .int v1), (0, .ref 10)] [] t
  | 0, _, _, _, h => by cases h
  | n + 1, t, v1, v2, h => fRd_both_7_ok hd hR (fRd_both_l7_ok hd hR n) t v1 v2 h
theorem fRd_both_eq : (fun (R : FT) (G61 : List Value → SM → OR) (G54 : List Value → SM → OR) (j7 : SM → Int32 → Int32 → OR) (t : SM) (a : Int32) => ex clN P_56 none bytJ (mkCal rks ((61, G61) :: (54, G54) :: R)) [7] (kDisp [(7, kF 0 10 <| kI 1 fun w1 => kI 2 fun w2 => kE fun t => j7 t w1 w2)]) 400 0 [(0, .ref 10), (1, .int a)] [] t) = (fun (R : FT) (G61 : List Value → SM → OR) (G54 : List Value → SM → OR) (j7 : SM → Int32 → Int32 → OR) (t : SM) (a : Int32) =>
  hRecv t 4 10 <| bV (atF 57 [.ref 10, .int a] t R) fun t1 =>
  j7 t1 a 0) := by rfl
theorem fRd_both_ok {d : Nat} {R : FT} (hd : 9 ≤ d) (hR : FTok l d mtab R) (t : SM) (a : Int32) (h : fRd_both R t a = some r) : Body l d q_56 P_56 r 0 [(0, .ref 10), (1, .int a)] [] t :=
  blk (ft_56 hd hR) (by omega) rfl rows_56 (KDok.cons (KOK.f <| KOK.i fun w1 => KOK.i fun w2 => KOK.e (f := fun t => fRd_both_l7 R 1000000 t w1 w2) fun t h => fRd_both_l7_ok hd hR 1000000 t w1 w2 h) (KDok.nil)) ((congrFun (congrFun (congrFun (congrFun (congrFun (congrFun (fRd_both_eq) R) F_61) F_54) (fun t u1 u2 => fRd_both_l7 R 1000000 t u1 u2)) t) a).trans h)
theorem ok_56 {d : Nat} {R : FT} (hd : 9 ≤ d) (l : Launch) (hR : FTok l d mtab R) : Fok l d mtab 56 (F_56 R) := by
  intro as t r h
  unfold F_56 at h
  split at h
  · rename_i z0 a
    split at h
    · rename_i hz0
      obtain rfl := Nat.eq_of_beq_eq_true hz0
      exact ⟨q_56, rfl, mok_56, con_of (P := P_56) (by decide +kernel) rfl (Nat.le_of_ble_eq_true rfl) (fRd_both_ok hd hR t a h)⟩
    · cases h
  · cases h
end
section
set_option maxRecDepth 100000
variable {l : Launch} {r : RR}
def FT_55 (R : FT) : FT := (61, F_61) :: (54, F_54) :: R
theorem ft_55 {d : Nat} {R : FT} (hd : 9 ≤ d) (hR : FTok l d mtab R) : FTok l d mtab (FT_55 R) := FTok.cons (ok_61 l) (by omega) (FTok.cons (ok_54 l) (by omega) (hR))
theorem fRd_either_7_eq : (fun (R : FT) (G61 : List Value → SM → OR) (G54 : List Value → SM → OR) (j7 : SM → Int32 → Int32 → OR) (t : SM) (v1 : Int32) (v2 : Int32) => ex clN P_55 none bytJ (mkCal rks ((61, G61) :: (54, G54) :: R)) [7] (kDisp [(7, kF 0 10 <| kI 1 fun w1 => kI 2 fun w2 => kE fun t => j7 t w1 w2)]) 400 7 [(2, .int v2), (1, .int v1), (0, .ref 10)] [] t) = (fun (R : FT) (G61 : List Value → SM → OR) (G54 : List Value → SM → OR) (j7 : SM → Int32 → Int32 → OR) (t : SM) (v1 : Int32) (v2 : Int32) =>
  if 160 ≤ v2 then rV t
  else hGetI t 4 10 4 fun token1 =>
  if token1 = 303 then hRecv t 4 10 <| bV (G61 [.ref 10] t) fun t2 =>
  hRecv t2 4 10 <| bV (atF 56 [.ref 10, .int v1] t2 R) fun t3 =>
  hRecv t3 4 10 <| bV (G54 [.ref 10, .int (-9)] t3) fun t4 =>
  j7 t4 v1 (v2 + 1)
  else rV t) := by rfl
theorem fRd_either_7_ok {d : Nat} {R : FT} (hd : 9 ≤ d) (hR : FTok l d mtab R) {r7 : SM → Int32 → Int32 → OR} (h_r7 : ∀ (t : SM) (v1 : Int32) (v2 : Int32), r7 t v1 v2 = some r → Body l d q_55 P_55 r 7 [(2, .int v2), (1, .int v1), (0, .ref 10)] [] t) (t : SM) (v1 : Int32) (v2 : Int32) (h : fRd_either_7 R r7 t v1 v2 = some r) : Body l d q_55 P_55 r 7 [(2, .int v2), (1, .int v1), (0, .ref 10)] [] t :=
  blk (ft_55 hd hR) (by omega) rfl rows_55 (KDok.cons (KOK.f <| KOK.i fun w1 => KOK.i fun w2 => KOK.e (f := fun t => r7 t w1 w2) fun t h => h_r7 t w1 w2 h) (KDok.nil)) ((congrFun (congrFun (congrFun (congrFun (congrFun (congrFun (congrFun (fRd_either_7_eq) R) F_61) F_54) (fun t u1 u2 => r7 t u1 u2)) t) v1) v2).trans h)
theorem fRd_either_l7_ok {d : Nat} {R : FT} (hd : 9 ≤ d) (hR : FTok l d mtab R) : ∀ (n : Nat) (t : SM) (v1 : Int32) (v2 : Int32), fRd_either_l7 R n t v1 v2 = some r → Body l d q_55 P_55 r 7 [(2, .int v2), (1, .int v1), (0, .ref 10)] [] t
  | 0, _, _, _, h => by cases h
  | n + 1, t, v1, v2, h => fRd_either_7_ok hd hR (fRd_either_l7_ok hd hR n) t v1 v2 h
theorem fRd_either_eq : (fun (R : FT) (G61 : List Value → SM → OR) (G54 : List Value → SM → OR) (j7 : SM → Int32 → Int32 → OR) (t : SM) (a : Int32) => ex clN P_55 none bytJ (mkCal rks ((61, G61) :: (54, G54) :: R)) [7] (kDisp [(7, kF 0 10 <| kI 1 fun w1 => kI 2 fun w2 => kE fun t => j7 t w1 w2)]) 400 0 [(0, .ref 10), (1, .int a)] [] t) = (fun (R : FT) (G61 : List Value → SM → OR) (G54 : List Value → SM → OR) (j7 : SM → Int32 → Int32 → OR) (t : SM) (a : Int32) =>
  hRecv t 4 10 <| bV (atF 56 [.ref 10, .int a] t R) fun t1 =>
  j7 t1 a 0) := by rfl
theorem fRd_either_ok {d : Nat} {R : FT} (hd : 9 ≤ d) (hR : FTok l d mtab R) (t : SM) (a : Int32) (h : fRd_either R t a = some r) : Body l d q_55 P_55 r 0 [(0, .ref 10), (1, .int a)] [] t :=
  blk (ft_55 hd hR) (by omega) rfl rows_55 (KDok.cons (KOK.f <| KOK.i fun w1 => KOK.i fun w2 => KOK.e (f := fun t => fRd_either_l7 R 1000000 t w1 w2) fun t h => fRd_either_l7_ok hd hR 1000000 t w1 w2 h) (KDok.nil)) ((congrFun (congrFun (congrFun (congrFun (congrFun (congrFun (fRd_either_eq) R) F_61) F_54) (fun t u1 u2 => fRd_either_l7 R 1000000 t u1 u2)) t) a).trans h)
theorem ok_55 {d : Nat} {R : FT} (hd : 9 ≤ d) (l : Launch) (hR : FTok l d mtab R) : Fok l d mtab 55 (F_55 R) := by
  intro as t r h
  unfold F_55 at h
  split at h
  · rename_i z0 a
    split at h
    · rename_i hz0
      obtain rfl := Nat.eq_of_beq_eq_true hz0
      exact ⟨q_55, rfl, mok_55, con_of (P := P_55) (by decide +kernel) rfl (Nat.le_of_ble_eq_true rfl) (fRd_either_ok hd hR t a h)⟩
    · cases h
  · cases h
end
