section
set_option maxRecDepth 100000
/-! the law, as a function of the script: xn ints xs -/
def cutL : List Nat := [18, 236, 259, 282, 345, 358, 381, 404, 457, 470, 503, 536, 579, 612, 635, 658, 681, 694, 717, 770, 803, 826, 849, 882, 925, 948, 981, 1014, 1057, 1080, 1093, 1116, 1129, 1152, 1165, 1188, 1231, 1244, 1277, 1310, 1333, 1366, 1379, 1392, 1435, 1478, 1541, 1594]
def L0 (v : Int32) : LV := [(3, .int v), (2, .ref 39), (1, .ref 0), (0, .float 200)]
/-- on at a cut -/
def kLw (J : Nat → SM → Int32 → OR) : Go := fun pc L st t => match lkp 0 L with
  | some (.float a) => (match lkp 1 L with
    | some (.ref b) => (match lkp 2 L with
      | some (.ref c) => (match lkp 3 L with
        | some (.int v) => (match st with
          | [] => (match (Nat.beq a.toNat 200 && (Nat.beq b 0 && Nat.beq c 39)) with
            | true => J pc t v
            | false => none)
          | _ => none)
        | _ => none)
      | _ => none)
    | _ => none)
  | _ => none
def fL_0 (xn : Nat) (xs : Nat → Int32) (Gx Gm : List Value → SM → OR) (J : Nat → SM → Int32 → OR) (t : SM) (v : Int32) : OR :=
  hScr xn xs (v + 1) fun e1 => hRecv t 10 0 <| bI (Gx [.ref 0, .int e1] t) fun a t1 =>
  hScr xn xs (v + 1) fun g1 => hRecv t1 11 39 <| bI (Gm [.ref 39, .int g1] t1) fun b t2 =>
  if a = b then J 18 t2 (v + 6) else rI 0 t2
theorem eL_0 : (fun (xn : Nat) (xs : Nat → Int32) (Gx Gm : List Value → SM → OR) (J : Nat → SM → Int32 → OR) (t : SM) (v : Int32) => ex clN P_L (some (xn, xs)) bytJ (mkCal rks [(108, Gx), (188, Gm)]) cutL (kLw J) 400 236 (L0 v) [] t) = (fun (xn : Nat) (xs : Nat → Int32) (Gx Gm : List Value → SM → OR) (J : Nat → SM → Int32 → OR) (t : SM) (v : Int32) => fL_0 xn xs Gx Gm J t v) := by rfl
def fL_1 (xn : Nat) (xs : Nat → Int32) (Gx Gm : List Value → SM → OR) (J : Nat → SM → Int32 → OR) (t : SM) (v : Int32) : OR :=
  hScr xn xs (v + 1) fun e1 => hRecv t 10 0 <| bI (Gx [.ref 0, .int e1] t) fun a t1 =>
  hScr xn xs (v + 1) fun g1 => hRecv t1 11 39 <| bI (Gm [.ref 39, .int g1] t1) fun b t2 =>
  if a = b then J 18 t2 (v + 6) else rI 0 t2
theorem eL_1 : (fun (xn : Nat) (xs : Nat → Int32) (Gx Gm : List Value → SM → OR) (J : Nat → SM → Int32 → OR) (t : SM) (v : Int32) => ex clN P_L (some (xn, xs)) bytJ (mkCal rks [(109, Gx), (189, Gm)]) cutL (kLw J) 400 259 (L0 v) [] t) = (fun (xn : Nat) (xs : Nat → Int32) (Gx Gm : List Value → SM → OR) (J : Nat → SM → Int32 → OR) (t : SM) (v : Int32) => fL_1 xn xs Gx Gm J t v) := by rfl
def fL_2 (xn : Nat) (xs : Nat → Int32) (Gx Gm : List Value → SM → OR) (J : Nat → SM → Int32 → OR) (t : SM) (v : Int32) : OR :=
  hScr xn xs (v + 1) fun e1 => hScr xn xs (v + 2) fun e2 => hScr xn xs (v + 3) fun e3 => hRecv t 10 0 <| bI (Gx [.ref 0, .long (((Int32.toInt64 e1) <<< (Int32.toInt64 32 &&& 63)) ||| ((Int32.toInt64 e2) &&& (4294967295 : Int64))), .int e3] t) fun a t1 =>
  hScr xn xs (v + 1) fun g1 => hScr xn xs (v + 2) fun g2 => hScr xn xs (v + 3) fun g3 => hRecv t1 11 39 <| bI (Gm [.ref 39, .long (((Int32.toInt64 g1) <<< (Int32.toInt64 32 &&& 63)) ||| ((Int32.toInt64 g2) &&& (4294967295 : Int64))), .int g3] t1) fun b t2 =>
  if a = b then J 18 t2 (v + 6) else rI 0 t2
theorem eL_2 : (fun (xn : Nat) (xs : Nat → Int32) (Gx Gm : List Value → SM → OR) (J : Nat → SM → Int32 → OR) (t : SM) (v : Int32) => ex clN P_L (some (xn, xs)) bytJ (mkCal rks [(110, Gx), (190, Gm)]) cutL (kLw J) 400 282 (L0 v) [] t) = (fun (xn : Nat) (xs : Nat → Int32) (Gx Gm : List Value → SM → OR) (J : Nat → SM → Int32 → OR) (t : SM) (v : Int32) => fL_2 xn xs Gx Gm J t v) := by rfl
def fL_3 (xn : Nat) (xs : Nat → Int32) (Gx Gm : List Value → SM → OR) (J : Nat → SM → Int32 → OR) (t : SM) (v : Int32) : OR :=
  hRecv t 10 0 <| bI (Gx [.ref 0] t) fun a t1 =>
  hRecv t1 11 39 <| bI (Gm [.ref 39] t1) fun b t2 =>
  if a = b then J 18 t2 (v + 6) else rI 0 t2
theorem eL_3 : (fun (xn : Nat) (xs : Nat → Int32) (Gx Gm : List Value → SM → OR) (J : Nat → SM → Int32 → OR) (t : SM) (v : Int32) => ex clN P_L (some (xn, xs)) bytJ (mkCal rks [(111, Gx), (201, Gm)]) cutL (kLw J) 400 345 (L0 v) [] t) = (fun (xn : Nat) (xs : Nat → Int32) (Gx Gm : List Value → SM → OR) (J : Nat → SM → Int32 → OR) (t : SM) (v : Int32) => fL_3 xn xs Gx Gm J t v) := by rfl
def fL_4 (xn : Nat) (xs : Nat → Int32) (Gx Gm : List Value → SM → OR) (J : Nat → SM → Int32 → OR) (t : SM) (v : Int32) : OR :=
  hScr xn xs (v + 1) fun e1 => hRecv t 10 0 <| bI (Gx [.ref 0, .int e1] t) fun a t1 =>
  hScr xn xs (v + 1) fun g1 => hRecv t1 11 39 <| bI (Gm [.ref 39, .int g1] t1) fun b t2 =>
  if a = b then J 18 t2 (v + 6) else rI 0 t2
theorem eL_4 : (fun (xn : Nat) (xs : Nat → Int32) (Gx Gm : List Value → SM → OR) (J : Nat → SM → Int32 → OR) (t : SM) (v : Int32) => ex clN P_L (some (xn, xs)) bytJ (mkCal rks [(112, Gx), (205, Gm)]) cutL (kLw J) 400 358 (L0 v) [] t) = (fun (xn : Nat) (xs : Nat → Int32) (Gx Gm : List Value → SM → OR) (J : Nat → SM → Int32 → OR) (t : SM) (v : Int32) => fL_4 xn xs Gx Gm J t v) := by rfl
def fL_5 (xn : Nat) (xs : Nat → Int32) (Gx Gm : List Value → SM → OR) (J : Nat → SM → Int32 → OR) (t : SM) (v : Int32) : OR :=
  hScr xn xs (v + 1) fun e1 => hRecv t 10 0 <| bI (Gx [.ref 0, .int e1] t) fun a t1 =>
  hScr xn xs (v + 1) fun g1 => hRecv t1 11 39 <| bI (Gm [.ref 39, .int g1] t1) fun b t2 =>
  if a = b then J 18 t2 (v + 6) else rI 0 t2
theorem eL_5 : (fun (xn : Nat) (xs : Nat → Int32) (Gx Gm : List Value → SM → OR) (J : Nat → SM → Int32 → OR) (t : SM) (v : Int32) => ex clN P_L (some (xn, xs)) bytJ (mkCal rks [(113, Gx), (207, Gm)]) cutL (kLw J) 400 381 (L0 v) [] t) = (fun (xn : Nat) (xs : Nat → Int32) (Gx Gm : List Value → SM → OR) (J : Nat → SM → Int32 → OR) (t : SM) (v : Int32) => fL_5 xn xs Gx Gm J t v) := by rfl
def fL_6 (xn : Nat) (xs : Nat → Int32) (Gx Gm : List Value → SM → OR) (J : Nat → SM → Int32 → OR) (t : SM) (v : Int32) : OR :=
  hScr xn xs (v + 1) fun e1 => hScr xn xs (v + 2) fun e2 => hScr xn xs (v + 3) fun e3 => hScr xn xs (v + 4) fun e4 => hRecv t 10 0 <| bI (Gx [.ref 0, .int e1, .int e2, .int e3, .int e4] t) fun a t1 =>
  hScr xn xs (v + 1) fun g1 => hScr xn xs (v + 2) fun g2 => hScr xn xs (v + 3) fun g3 => hScr xn xs (v + 4) fun g4 => hRecv t1 11 39 <| bI (Gm [.ref 39, .int g1, .int g2, .int g3, .int g4] t1) fun b t2 =>
  if a = b then J 18 t2 (v + 6) else rI 0 t2
theorem eL_6 : (fun (xn : Nat) (xs : Nat → Int32) (Gx Gm : List Value → SM → OR) (J : Nat → SM → Int32 → OR) (t : SM) (v : Int32) => ex clN P_L (some (xn, xs)) bytJ (mkCal rks [(114, Gx), (208, Gm)]) cutL (kLw J) 400 404 (L0 v) [] t) = (fun (xn : Nat) (xs : Nat → Int32) (Gx Gm : List Value → SM → OR) (J : Nat → SM → Int32 → OR) (t : SM) (v : Int32) => fL_6 xn xs Gx Gm J t v) := by rfl
def fL_7 (xn : Nat) (xs : Nat → Int32) (Gx Gm : List Value → SM → OR) (J : Nat → SM → Int32 → OR) (t : SM) (v : Int32) : OR :=
  hRecv t 10 0 <| bI (Gx [.ref 0] t) fun a t1 =>
  hRecv t1 11 39 <| bI (Gm [.ref 39] t1) fun b t2 =>
  if a = b then J 18 t2 (v + 6) else rI 0 t2
theorem eL_7 : (fun (xn : Nat) (xs : Nat → Int32) (Gx Gm : List Value → SM → OR) (J : Nat → SM → Int32 → OR) (t : SM) (v : Int32) => ex clN P_L (some (xn, xs)) bytJ (mkCal rks [(115, Gx), (209, Gm)]) cutL (kLw J) 400 457 (L0 v) [] t) = (fun (xn : Nat) (xs : Nat → Int32) (Gx Gm : List Value → SM → OR) (J : Nat → SM → Int32 → OR) (t : SM) (v : Int32) => fL_7 xn xs Gx Gm J t v) := by rfl
def fL_8 (xn : Nat) (xs : Nat → Int32) (Gx Gm : List Value → SM → OR) (J : Nat → SM → Int32 → OR) (t : SM) (v : Int32) : OR :=
  hScr xn xs (v + 1) fun e1 => hScr xn xs (v + 2) fun e2 => hRecv t 10 0 <| bI (Gx [.ref 0, .int e1, .int e2] t) fun a t1 =>
  hScr xn xs (v + 1) fun g1 => hScr xn xs (v + 2) fun g2 => hRecv t1 11 39 <| bI (Gm [.ref 39, .int g1, .int g2] t1) fun b t2 =>
  if a = b then J 18 t2 (v + 6) else rI 0 t2
theorem eL_8 : (fun (xn : Nat) (xs : Nat → Int32) (Gx Gm : List Value → SM → OR) (J : Nat → SM → Int32 → OR) (t : SM) (v : Int32) => ex clN P_L (some (xn, xs)) bytJ (mkCal rks [(116, Gx), (210, Gm)]) cutL (kLw J) 400 470 (L0 v) [] t) = (fun (xn : Nat) (xs : Nat → Int32) (Gx Gm : List Value → SM → OR) (J : Nat → SM → Int32 → OR) (t : SM) (v : Int32) => fL_8 xn xs Gx Gm J t v) := by rfl
def fL_9 (xn : Nat) (xs : Nat → Int32) (Gx Gm : List Value → SM → OR) (J : Nat → SM → Int32 → OR) (t : SM) (v : Int32) : OR :=
  hScr xn xs (v + 1) fun e1 => hScr xn xs (v + 2) fun e2 => hRecv t 10 0 <| bI (Gx [.ref 0, .int e1, .int e2] t) fun a t1 =>
  hScr xn xs (v + 1) fun g1 => hScr xn xs (v + 2) fun g2 => hRecv t1 11 39 <| bI (Gm [.ref 39, .int g1, .int g2] t1) fun b t2 =>
  if a = b then J 18 t2 (v + 6) else rI 0 t2
theorem eL_9 : (fun (xn : Nat) (xs : Nat → Int32) (Gx Gm : List Value → SM → OR) (J : Nat → SM → Int32 → OR) (t : SM) (v : Int32) => ex clN P_L (some (xn, xs)) bytJ (mkCal rks [(117, Gx), (211, Gm)]) cutL (kLw J) 400 503 (L0 v) [] t) = (fun (xn : Nat) (xs : Nat → Int32) (Gx Gm : List Value → SM → OR) (J : Nat → SM → Int32 → OR) (t : SM) (v : Int32) => fL_9 xn xs Gx Gm J t v) := by rfl
def fL_10 (xn : Nat) (xs : Nat → Int32) (Gx Gm : List Value → SM → OR) (J : Nat → SM → Int32 → OR) (t : SM) (v : Int32) : OR :=
  hScr xn xs (v + 1) fun e1 => hScr xn xs (v + 2) fun e2 => hScr xn xs (v + 3) fun e3 => hRecv t 10 0 <| bI (Gx [.ref 0, .int e1, .int e2, .int e3] t) fun a t1 =>
  hScr xn xs (v + 1) fun g1 => hScr xn xs (v + 2) fun g2 => hScr xn xs (v + 3) fun g3 => hRecv t1 11 39 <| bI (Gm [.ref 39, .int g1, .int g2, .int g3] t1) fun b t2 =>
  if a = b then J 18 t2 (v + 6) else rI 0 t2
theorem eL_10 : (fun (xn : Nat) (xs : Nat → Int32) (Gx Gm : List Value → SM → OR) (J : Nat → SM → Int32 → OR) (t : SM) (v : Int32) => ex clN P_L (some (xn, xs)) bytJ (mkCal rks [(118, Gx), (214, Gm)]) cutL (kLw J) 400 536 (L0 v) [] t) = (fun (xn : Nat) (xs : Nat → Int32) (Gx Gm : List Value → SM → OR) (J : Nat → SM → Int32 → OR) (t : SM) (v : Int32) => fL_10 xn xs Gx Gm J t v) := by rfl
def fL_11 (xn : Nat) (xs : Nat → Int32) (Gx Gm : List Value → SM → OR) (J : Nat → SM → Int32 → OR) (t : SM) (v : Int32) : OR :=
  hScr xn xs (v + 1) fun e1 => hScr xn xs (v + 2) fun e2 => hRecv t 10 0 <| bI (Gx [.ref 0, .int e1, .int e2] t) fun a t1 =>
  hScr xn xs (v + 1) fun g1 => hScr xn xs (v + 2) fun g2 => hRecv t1 11 39 <| bI (Gm [.ref 39, .int g1, .int g2] t1) fun b t2 =>
  if a = b then J 18 t2 (v + 6) else rI 0 t2
theorem eL_11 : (fun (xn : Nat) (xs : Nat → Int32) (Gx Gm : List Value → SM → OR) (J : Nat → SM → Int32 → OR) (t : SM) (v : Int32) => ex clN P_L (some (xn, xs)) bytJ (mkCal rks [(119, Gx), (215, Gm)]) cutL (kLw J) 400 579 (L0 v) [] t) = (fun (xn : Nat) (xs : Nat → Int32) (Gx Gm : List Value → SM → OR) (J : Nat → SM → Int32 → OR) (t : SM) (v : Int32) => fL_11 xn xs Gx Gm J t v) := by rfl
def fL_12 (xn : Nat) (xs : Nat → Int32) (Gx Gm : List Value → SM → OR) (J : Nat → SM → Int32 → OR) (t : SM) (v : Int32) : OR :=
  hScr xn xs (v + 1) fun e1 => hRecv t 10 0 <| bI (Gx [.ref 0, .int e1] t) fun a t1 =>
  hScr xn xs (v + 1) fun g1 => hRecv t1 11 39 <| bI (Gm [.ref 39, .int g1] t1) fun b t2 =>
  if a = b then J 18 t2 (v + 6) else rI 0 t2
theorem eL_12 : (fun (xn : Nat) (xs : Nat → Int32) (Gx Gm : List Value → SM → OR) (J : Nat → SM → Int32 → OR) (t : SM) (v : Int32) => ex clN P_L (some (xn, xs)) bytJ (mkCal rks [(120, Gx), (220, Gm)]) cutL (kLw J) 400 612 (L0 v) [] t) = (fun (xn : Nat) (xs : Nat → Int32) (Gx Gm : List Value → SM → OR) (J : Nat → SM → Int32 → OR) (t : SM) (v : Int32) => fL_12 xn xs Gx Gm J t v) := by rfl
def fL_13 (xn : Nat) (xs : Nat → Int32) (Gx Gm : List Value → SM → OR) (J : Nat → SM → Int32 → OR) (t : SM) (v : Int32) : OR :=
  hScr xn xs (v + 1) fun e1 => hRecv t 10 0 <| bI (Gx [.ref 0, .int e1] t) fun a t1 =>
  hScr xn xs (v + 1) fun g1 => hRecv t1 11 39 <| bI (Gm [.ref 39, .int g1] t1) fun b t2 =>
  if a = b then J 18 t2 (v + 6) else rI 0 t2
theorem eL_13 : (fun (xn : Nat) (xs : Nat → Int32) (Gx Gm : List Value → SM → OR) (J : Nat → SM → Int32 → OR) (t : SM) (v : Int32) => ex clN P_L (some (xn, xs)) bytJ (mkCal rks [(121, Gx), (221, Gm)]) cutL (kLw J) 400 635 (L0 v) [] t) = (fun (xn : Nat) (xs : Nat → Int32) (Gx Gm : List Value → SM → OR) (J : Nat → SM → Int32 → OR) (t : SM) (v : Int32) => fL_13 xn xs Gx Gm J t v) := by rfl
def fL_14 (xn : Nat) (xs : Nat → Int32) (Gx Gm : List Value → SM → OR) (J : Nat → SM → Int32 → OR) (t : SM) (v : Int32) : OR :=
  hScr xn xs (v + 1) fun e1 => hRecv t 10 0 <| bI (Gx [.ref 0, .int e1] t) fun a t1 =>
  hScr xn xs (v + 1) fun g1 => hRecv t1 11 39 <| bI (Gm [.ref 39, .int g1] t1) fun b t2 =>
  if a = b then J 18 t2 (v + 6) else rI 0 t2
theorem eL_14 : (fun (xn : Nat) (xs : Nat → Int32) (Gx Gm : List Value → SM → OR) (J : Nat → SM → Int32 → OR) (t : SM) (v : Int32) => ex clN P_L (some (xn, xs)) bytJ (mkCal rks [(122, Gx), (224, Gm)]) cutL (kLw J) 400 658 (L0 v) [] t) = (fun (xn : Nat) (xs : Nat → Int32) (Gx Gm : List Value → SM → OR) (J : Nat → SM → Int32 → OR) (t : SM) (v : Int32) => fL_14 xn xs Gx Gm J t v) := by rfl
def fL_15 (xn : Nat) (xs : Nat → Int32) (Gx Gm : List Value → SM → OR) (J : Nat → SM → Int32 → OR) (t : SM) (v : Int32) : OR :=
  hRecv t 10 0 <| bI (Gx [.ref 0] t) fun a t1 =>
  hRecv t1 11 39 <| bI (Gm [.ref 39] t1) fun b t2 =>
  if a = b then J 18 t2 (v + 6) else rI 0 t2
theorem eL_15 : (fun (xn : Nat) (xs : Nat → Int32) (Gx Gm : List Value → SM → OR) (J : Nat → SM → Int32 → OR) (t : SM) (v : Int32) => ex clN P_L (some (xn, xs)) bytJ (mkCal rks [(123, Gx), (225, Gm)]) cutL (kLw J) 400 681 (L0 v) [] t) = (fun (xn : Nat) (xs : Nat → Int32) (Gx Gm : List Value → SM → OR) (J : Nat → SM → Int32 → OR) (t : SM) (v : Int32) => fL_15 xn xs Gx Gm J t v) := by rfl
def fL_16 (xn : Nat) (xs : Nat → Int32) (Gx Gm : List Value → SM → OR) (J : Nat → SM → Int32 → OR) (t : SM) (v : Int32) : OR :=
  hScr xn xs (v + 1) fun e1 => hRecv t 10 0 <| bI (Gx [.ref 0, .int e1] t) fun a t1 =>
  hScr xn xs (v + 1) fun g1 => hRecv t1 11 39 <| bI (Gm [.ref 39, .int g1] t1) fun b t2 =>
  if a = b then J 18 t2 (v + 6) else rI 0 t2
theorem eL_16 : (fun (xn : Nat) (xs : Nat → Int32) (Gx Gm : List Value → SM → OR) (J : Nat → SM → Int32 → OR) (t : SM) (v : Int32) => ex clN P_L (some (xn, xs)) bytJ (mkCal rks [(124, Gx), (226, Gm)]) cutL (kLw J) 400 694 (L0 v) [] t) = (fun (xn : Nat) (xs : Nat → Int32) (Gx Gm : List Value → SM → OR) (J : Nat → SM → Int32 → OR) (t : SM) (v : Int32) => fL_16 xn xs Gx Gm J t v) := by rfl
def fL_17 (xn : Nat) (xs : Nat → Int32) (Gx Gm : List Value → SM → OR) (J : Nat → SM → Int32 → OR) (t : SM) (v : Int32) : OR :=
  hScr xn xs (v + 1) fun e1 => hScr xn xs (v + 2) fun e2 => hScr xn xs (v + 3) fun e3 => hScr xn xs (v + 4) fun e4 => hRecv t 10 0 <| bI (Gx [.ref 0, .int e1, .int e2, .int e3, .int e4] t) fun a t1 =>
  hScr xn xs (v + 1) fun g1 => hScr xn xs (v + 2) fun g2 => hScr xn xs (v + 3) fun g3 => hScr xn xs (v + 4) fun g4 => hRecv t1 11 39 <| bI (Gm [.ref 39, .int g1, .int g2, .int g3, .int g4] t1) fun b t2 =>
  if a = b then J 18 t2 (v + 6) else rI 0 t2
theorem eL_17 : (fun (xn : Nat) (xs : Nat → Int32) (Gx Gm : List Value → SM → OR) (J : Nat → SM → Int32 → OR) (t : SM) (v : Int32) => ex clN P_L (some (xn, xs)) bytJ (mkCal rks [(125, Gx), (227, Gm)]) cutL (kLw J) 400 717 (L0 v) [] t) = (fun (xn : Nat) (xs : Nat → Int32) (Gx Gm : List Value → SM → OR) (J : Nat → SM → Int32 → OR) (t : SM) (v : Int32) => fL_17 xn xs Gx Gm J t v) := by rfl
def fL_18 (xn : Nat) (xs : Nat → Int32) (Gx Gm : List Value → SM → OR) (J : Nat → SM → Int32 → OR) (t : SM) (v : Int32) : OR :=
  hScr xn xs (v + 1) fun e1 => hScr xn xs (v + 2) fun e2 => hRecv t 10 0 <| bI (Gx [.ref 0, .int e1, .int e2] t) fun a t1 =>
  hScr xn xs (v + 1) fun g1 => hScr xn xs (v + 2) fun g2 => hRecv t1 11 39 <| bI (Gm [.ref 39, .int g1, .int g2] t1) fun b t2 =>
  if a = b then J 18 t2 (v + 6) else rI 0 t2
theorem eL_18 : (fun (xn : Nat) (xs : Nat → Int32) (Gx Gm : List Value → SM → OR) (J : Nat → SM → Int32 → OR) (t : SM) (v : Int32) => ex clN P_L (some (xn, xs)) bytJ (mkCal rks [(126, Gx), (233, Gm)]) cutL (kLw J) 400 770 (L0 v) [] t) = (fun (xn : Nat) (xs : Nat → Int32) (Gx Gm : List Value → SM → OR) (J : Nat → SM → Int32 → OR) (t : SM) (v : Int32) => fL_18 xn xs Gx Gm J t v) := by rfl
def fL_19 (xn : Nat) (xs : Nat → Int32) (Gx Gm : List Value → SM → OR) (J : Nat → SM → Int32 → OR) (t : SM) (v : Int32) : OR :=
  hScr xn xs (v + 1) fun e1 => hRecv t 10 0 <| bI (Gx [.ref 0, .int e1] t) fun a t1 =>
  hScr xn xs (v + 1) fun g1 => hRecv t1 11 39 <| bI (Gm [.ref 39, .int g1] t1) fun b t2 =>
  if a = b then J 18 t2 (v + 6) else rI 0 t2
theorem eL_19 : (fun (xn : Nat) (xs : Nat → Int32) (Gx Gm : List Value → SM → OR) (J : Nat → SM → Int32 → OR) (t : SM) (v : Int32) => ex clN P_L (some (xn, xs)) bytJ (mkCal rks [(127, Gx), (234, Gm)]) cutL (kLw J) 400 803 (L0 v) [] t) = (fun (xn : Nat) (xs : Nat → Int32) (Gx Gm : List Value → SM → OR) (J : Nat → SM → Int32 → OR) (t : SM) (v : Int32) => fL_19 xn xs Gx Gm J t v) := by rfl
def fL_20 (xn : Nat) (xs : Nat → Int32) (Gx Gm : List Value → SM → OR) (J : Nat → SM → Int32 → OR) (t : SM) (v : Int32) : OR :=
  hScr xn xs (v + 1) fun e1 => hRecv t 10 0 <| bI (Gx [.ref 0, .int e1] t) fun a t1 =>
  hScr xn xs (v + 1) fun g1 => hRecv t1 11 39 <| bI (Gm [.ref 39, .int g1] t1) fun b t2 =>
  if a = b then J 18 t2 (v + 6) else rI 0 t2
theorem eL_20 : (fun (xn : Nat) (xs : Nat → Int32) (Gx Gm : List Value → SM → OR) (J : Nat → SM → Int32 → OR) (t : SM) (v : Int32) => ex clN P_L (some (xn, xs)) bytJ (mkCal rks [(128, Gx), (241, Gm)]) cutL (kLw J) 400 826 (L0 v) [] t) = (fun (xn : Nat) (xs : Nat → Int32) (Gx Gm : List Value → SM → OR) (J : Nat → SM → Int32 → OR) (t : SM) (v : Int32) => fL_20 xn xs Gx Gm J t v) := by rfl
def fL_21 (xn : Nat) (xs : Nat → Int32) (Gx Gm : List Value → SM → OR) (J : Nat → SM → Int32 → OR) (t : SM) (v : Int32) : OR :=
  hScr xn xs (v + 1) fun e1 => hScr xn xs (v + 2) fun e2 => hRecv t 10 0 <| bI (Gx [.ref 0, .int e1, .int e2] t) fun a t1 =>
  hScr xn xs (v + 1) fun g1 => hScr xn xs (v + 2) fun g2 => hRecv t1 11 39 <| bI (Gm [.ref 39, .int g1, .int g2] t1) fun b t2 =>
  if a = b then J 18 t2 (v + 6) else rI 0 t2
theorem eL_21 : (fun (xn : Nat) (xs : Nat → Int32) (Gx Gm : List Value → SM → OR) (J : Nat → SM → Int32 → OR) (t : SM) (v : Int32) => ex clN P_L (some (xn, xs)) bytJ (mkCal rks [(129, Gx), (242, Gm)]) cutL (kLw J) 400 849 (L0 v) [] t) = (fun (xn : Nat) (xs : Nat → Int32) (Gx Gm : List Value → SM → OR) (J : Nat → SM → Int32 → OR) (t : SM) (v : Int32) => fL_21 xn xs Gx Gm J t v) := by rfl
def fL_22 (xn : Nat) (xs : Nat → Int32) (Gx Gm : List Value → SM → OR) (J : Nat → SM → Int32 → OR) (t : SM) (v : Int32) : OR :=
  hScr xn xs (v + 1) fun e1 => hScr xn xs (v + 2) fun e2 => hScr xn xs (v + 3) fun e3 => hRecv t 10 0 <| bI (Gx [.ref 0, .int e1, .int e2, .int e3] t) fun a t1 =>
  hScr xn xs (v + 1) fun g1 => hScr xn xs (v + 2) fun g2 => hScr xn xs (v + 3) fun g3 => hRecv t1 11 39 <| bI (Gm [.ref 39, .int g1, .int g2, .int g3] t1) fun b t2 =>
  if a = b then J 18 t2 (v + 6) else rI 0 t2
theorem eL_22 : (fun (xn : Nat) (xs : Nat → Int32) (Gx Gm : List Value → SM → OR) (J : Nat → SM → Int32 → OR) (t : SM) (v : Int32) => ex clN P_L (some (xn, xs)) bytJ (mkCal rks [(130, Gx), (244, Gm)]) cutL (kLw J) 400 882 (L0 v) [] t) = (fun (xn : Nat) (xs : Nat → Int32) (Gx Gm : List Value → SM → OR) (J : Nat → SM → Int32 → OR) (t : SM) (v : Int32) => fL_22 xn xs Gx Gm J t v) := by rfl
def fL_23 (xn : Nat) (xs : Nat → Int32) (Gx Gm : List Value → SM → OR) (J : Nat → SM → Int32 → OR) (t : SM) (v : Int32) : OR :=
  hScr xn xs (v + 1) fun e1 => hRecv t 10 0 <| bI (Gx [.ref 0, .int e1] t) fun a t1 =>
  hScr xn xs (v + 1) fun g1 => hRecv t1 11 39 <| bI (Gm [.ref 39, .int g1] t1) fun b t2 =>
  if a = b then J 18 t2 (v + 6) else rI 0 t2
theorem eL_23 : (fun (xn : Nat) (xs : Nat → Int32) (Gx Gm : List Value → SM → OR) (J : Nat → SM → Int32 → OR) (t : SM) (v : Int32) => ex clN P_L (some (xn, xs)) bytJ (mkCal rks [(131, Gx), (245, Gm)]) cutL (kLw J) 400 925 (L0 v) [] t) = (fun (xn : Nat) (xs : Nat → Int32) (Gx Gm : List Value → SM → OR) (J : Nat → SM → Int32 → OR) (t : SM) (v : Int32) => fL_23 xn xs Gx Gm J t v) := by rfl
def fL_24 (xn : Nat) (xs : Nat → Int32) (Gx Gm : List Value → SM → OR) (J : Nat → SM → Int32 → OR) (t : SM) (v : Int32) : OR :=
  hScr xn xs (v + 1) fun e1 => hScr xn xs (v + 2) fun e2 => hRecv t 10 0 <| bI (Gx [.ref 0, .int e1, .int e2] t) fun a t1 =>
  hScr xn xs (v + 1) fun g1 => hScr xn xs (v + 2) fun g2 => hRecv t1 11 39 <| bI (Gm [.ref 39, .int g1, .int g2] t1) fun b t2 =>
  if a = b then J 18 t2 (v + 6) else rI 0 t2
theorem eL_24 : (fun (xn : Nat) (xs : Nat → Int32) (Gx Gm : List Value → SM → OR) (J : Nat → SM → Int32 → OR) (t : SM) (v : Int32) => ex clN P_L (some (xn, xs)) bytJ (mkCal rks [(132, Gx), (248, Gm)]) cutL (kLw J) 400 948 (L0 v) [] t) = (fun (xn : Nat) (xs : Nat → Int32) (Gx Gm : List Value → SM → OR) (J : Nat → SM → Int32 → OR) (t : SM) (v : Int32) => fL_24 xn xs Gx Gm J t v) := by rfl
def fL_25 (xn : Nat) (xs : Nat → Int32) (Gx Gm : List Value → SM → OR) (J : Nat → SM → Int32 → OR) (t : SM) (v : Int32) : OR :=
  hScr xn xs (v + 1) fun e1 => hScr xn xs (v + 2) fun e2 => hRecv t 10 0 <| bI (Gx [.ref 0, .int e1, .int e2] t) fun a t1 =>
  hScr xn xs (v + 1) fun g1 => hScr xn xs (v + 2) fun g2 => hRecv t1 11 39 <| bI (Gm [.ref 39, .int g1, .int g2] t1) fun b t2 =>
  if a = b then J 18 t2 (v + 6) else rI 0 t2
theorem eL_25 : (fun (xn : Nat) (xs : Nat → Int32) (Gx Gm : List Value → SM → OR) (J : Nat → SM → Int32 → OR) (t : SM) (v : Int32) => ex clN P_L (some (xn, xs)) bytJ (mkCal rks [(133, Gx), (249, Gm)]) cutL (kLw J) 400 981 (L0 v) [] t) = (fun (xn : Nat) (xs : Nat → Int32) (Gx Gm : List Value → SM → OR) (J : Nat → SM → Int32 → OR) (t : SM) (v : Int32) => fL_25 xn xs Gx Gm J t v) := by rfl
def fL_26 (xn : Nat) (xs : Nat → Int32) (Gx Gm : List Value → SM → OR) (J : Nat → SM → Int32 → OR) (t : SM) (v : Int32) : OR :=
  hScr xn xs (v + 1) fun e1 => hScr xn xs (v + 2) fun e2 => hScr xn xs (v + 3) fun e3 => hRecv t 10 0 <| bI (Gx [.ref 0, .int e1, .int e2, .int e3] t) fun a t1 =>
  hScr xn xs (v + 1) fun g1 => hScr xn xs (v + 2) fun g2 => hScr xn xs (v + 3) fun g3 => hRecv t1 11 39 <| bI (Gm [.ref 39, .int g1, .int g2, .int g3] t1) fun b t2 =>
  if a = b then J 18 t2 (v + 6) else rI 0 t2
theorem eL_26 : (fun (xn : Nat) (xs : Nat → Int32) (Gx Gm : List Value → SM → OR) (J : Nat → SM → Int32 → OR) (t : SM) (v : Int32) => ex clN P_L (some (xn, xs)) bytJ (mkCal rks [(134, Gx), (250, Gm)]) cutL (kLw J) 400 1014 (L0 v) [] t) = (fun (xn : Nat) (xs : Nat → Int32) (Gx Gm : List Value → SM → OR) (J : Nat → SM → Int32 → OR) (t : SM) (v : Int32) => fL_26 xn xs Gx Gm J t v) := by rfl
def fL_27 (xn : Nat) (xs : Nat → Int32) (Gx Gm : List Value → SM → OR) (J : Nat → SM → Int32 → OR) (t : SM) (v : Int32) : OR :=
  hScr xn xs (v + 1) fun e1 => hRecv t 10 0 <| bI (Gx [.ref 0, .int e1] t) fun a t1 =>
  hScr xn xs (v + 1) fun g1 => hRecv t1 11 39 <| bI (Gm [.ref 39, .int g1] t1) fun b t2 =>
  if a = b then J 18 t2 (v + 6) else rI 0 t2
theorem eL_27 : (fun (xn : Nat) (xs : Nat → Int32) (Gx Gm : List Value → SM → OR) (J : Nat → SM → Int32 → OR) (t : SM) (v : Int32) => ex clN P_L (some (xn, xs)) bytJ (mkCal rks [(135, Gx), (251, Gm)]) cutL (kLw J) 400 1057 (L0 v) [] t) = (fun (xn : Nat) (xs : Nat → Int32) (Gx Gm : List Value → SM → OR) (J : Nat → SM → Int32 → OR) (t : SM) (v : Int32) => fL_27 xn xs Gx Gm J t v) := by rfl
def fL_28 (xn : Nat) (xs : Nat → Int32) (Gx Gm : List Value → SM → OR) (J : Nat → SM → Int32 → OR) (t : SM) (v : Int32) : OR :=
  hRecv t 10 0 <| bI (Gx [.ref 0] t) fun a t1 =>
  hRecv t1 11 39 <| bI (Gm [.ref 39] t1) fun b t2 =>
  if a = b then J 18 t2 (v + 6) else rI 0 t2
theorem eL_28 : (fun (xn : Nat) (xs : Nat → Int32) (Gx Gm : List Value → SM → OR) (J : Nat → SM → Int32 → OR) (t : SM) (v : Int32) => ex clN P_L (some (xn, xs)) bytJ (mkCal rks [(136, Gx), (252, Gm)]) cutL (kLw J) 400 1080 (L0 v) [] t) = (fun (xn : Nat) (xs : Nat → Int32) (Gx Gm : List Value → SM → OR) (J : Nat → SM → Int32 → OR) (t : SM) (v : Int32) => fL_28 xn xs Gx Gm J t v) := by rfl
def fL_29 (xn : Nat) (xs : Nat → Int32) (Gx Gm : List Value → SM → OR) (J : Nat → SM → Int32 → OR) (t : SM) (v : Int32) : OR :=
  hScr xn xs (v + 1) fun e1 => hRecv t 10 0 <| bI (Gx [.ref 0, .int e1] t) fun a t1 =>
  hScr xn xs (v + 1) fun g1 => hRecv t1 11 39 <| bI (Gm [.ref 39, .int g1] t1) fun b t2 =>
  if a = b then J 18 t2 (v + 6) else rI 0 t2
theorem eL_29 : (fun (xn : Nat) (xs : Nat → Int32) (Gx Gm : List Value → SM → OR) (J : Nat → SM → Int32 → OR) (t : SM) (v : Int32) => ex clN P_L (some (xn, xs)) bytJ (mkCal rks [(137, Gx), (253, Gm)]) cutL (kLw J) 400 1093 (L0 v) [] t) = (fun (xn : Nat) (xs : Nat → Int32) (Gx Gm : List Value → SM → OR) (J : Nat → SM → Int32 → OR) (t : SM) (v : Int32) => fL_29 xn xs Gx Gm J t v) := by rfl
def fL_30 (xn : Nat) (xs : Nat → Int32) (Gx Gm : List Value → SM → OR) (J : Nat → SM → Int32 → OR) (t : SM) (v : Int32) : OR :=
  hRecv t 10 0 <| bI (Gx [.ref 0] t) fun a t1 =>
  hRecv t1 11 39 <| bI (Gm [.ref 39] t1) fun b t2 =>
  if a = b then J 18 t2 (v + 6) else rI 0 t2
theorem eL_30 : (fun (xn : Nat) (xs : Nat → Int32) (Gx Gm : List Value → SM → OR) (J : Nat → SM → Int32 → OR) (t : SM) (v : Int32) => ex clN P_L (some (xn, xs)) bytJ (mkCal rks [(138, Gx), (254, Gm)]) cutL (kLw J) 400 1116 (L0 v) [] t) = (fun (xn : Nat) (xs : Nat → Int32) (Gx Gm : List Value → SM → OR) (J : Nat → SM → Int32 → OR) (t : SM) (v : Int32) => fL_30 xn xs Gx Gm J t v) := by rfl
def fL_31 (xn : Nat) (xs : Nat → Int32) (Gx Gm : List Value → SM → OR) (J : Nat → SM → Int32 → OR) (t : SM) (v : Int32) : OR :=
  hScr xn xs (v + 1) fun e1 => hRecv t 10 0 <| bI (Gx [.ref 0, .int e1] t) fun a t1 =>
  hScr xn xs (v + 1) fun g1 => hRecv t1 11 39 <| bI (Gm [.ref 39, .int g1] t1) fun b t2 =>
  if a = b then J 18 t2 (v + 6) else rI 0 t2
theorem eL_31 : (fun (xn : Nat) (xs : Nat → Int32) (Gx Gm : List Value → SM → OR) (J : Nat → SM → Int32 → OR) (t : SM) (v : Int32) => ex clN P_L (some (xn, xs)) bytJ (mkCal rks [(139, Gx), (255, Gm)]) cutL (kLw J) 400 1129 (L0 v) [] t) = (fun (xn : Nat) (xs : Nat → Int32) (Gx Gm : List Value → SM → OR) (J : Nat → SM → Int32 → OR) (t : SM) (v : Int32) => fL_31 xn xs Gx Gm J t v) := by rfl
def fL_32 (xn : Nat) (xs : Nat → Int32) (Gx Gm : List Value → SM → OR) (J : Nat → SM → Int32 → OR) (t : SM) (v : Int32) : OR :=
  hRecv t 10 0 <| bI (Gx [.ref 0] t) fun a t1 =>
  hRecv t1 11 39 <| bI (Gm [.ref 39] t1) fun b t2 =>
  if a = b then J 18 t2 (v + 6) else rI 0 t2
theorem eL_32 : (fun (xn : Nat) (xs : Nat → Int32) (Gx Gm : List Value → SM → OR) (J : Nat → SM → Int32 → OR) (t : SM) (v : Int32) => ex clN P_L (some (xn, xs)) bytJ (mkCal rks [(140, Gx), (257, Gm)]) cutL (kLw J) 400 1152 (L0 v) [] t) = (fun (xn : Nat) (xs : Nat → Int32) (Gx Gm : List Value → SM → OR) (J : Nat → SM → Int32 → OR) (t : SM) (v : Int32) => fL_32 xn xs Gx Gm J t v) := by rfl
def fL_33 (xn : Nat) (xs : Nat → Int32) (Gx Gm : List Value → SM → OR) (J : Nat → SM → Int32 → OR) (t : SM) (v : Int32) : OR :=
  hScr xn xs (v + 1) fun e1 => hRecv t 10 0 <| bI (Gx [.ref 0, .int e1] t) fun a t1 =>
  hScr xn xs (v + 1) fun g1 => hRecv t1 11 39 <| bI (Gm [.ref 39, .int g1] t1) fun b t2 =>
  if a = b then J 18 t2 (v + 6) else rI 0 t2
theorem eL_33 : (fun (xn : Nat) (xs : Nat → Int32) (Gx Gm : List Value → SM → OR) (J : Nat → SM → Int32 → OR) (t : SM) (v : Int32) => ex clN P_L (some (xn, xs)) bytJ (mkCal rks [(141, Gx), (258, Gm)]) cutL (kLw J) 400 1165 (L0 v) [] t) = (fun (xn : Nat) (xs : Nat → Int32) (Gx Gm : List Value → SM → OR) (J : Nat → SM → Int32 → OR) (t : SM) (v : Int32) => fL_33 xn xs Gx Gm J t v) := by rfl
def fL_34 (xn : Nat) (xs : Nat → Int32) (Gx Gm : List Value → SM → OR) (J : Nat → SM → Int32 → OR) (t : SM) (v : Int32) : OR :=
  hScr xn xs (v + 1) fun e1 => hScr xn xs (v + 2) fun e2 => hScr xn xs (v + 3) fun e3 => hRecv t 10 0 <| bI (Gx [.ref 0, .int e1, .int e2, .int e3] t) fun a t1 =>
  hScr xn xs (v + 1) fun g1 => hScr xn xs (v + 2) fun g2 => hScr xn xs (v + 3) fun g3 => hRecv t1 11 39 <| bI (Gm [.ref 39, .int g1, .int g2, .int g3] t1) fun b t2 =>
  if a = b then J 18 t2 (v + 6) else rI 0 t2
theorem eL_34 : (fun (xn : Nat) (xs : Nat → Int32) (Gx Gm : List Value → SM → OR) (J : Nat → SM → Int32 → OR) (t : SM) (v : Int32) => ex clN P_L (some (xn, xs)) bytJ (mkCal rks [(142, Gx), (260, Gm)]) cutL (kLw J) 400 1188 (L0 v) [] t) = (fun (xn : Nat) (xs : Nat → Int32) (Gx Gm : List Value → SM → OR) (J : Nat → SM → Int32 → OR) (t : SM) (v : Int32) => fL_34 xn xs Gx Gm J t v) := by rfl
def fL_35 (xn : Nat) (xs : Nat → Int32) (Gx Gm : List Value → SM → OR) (J : Nat → SM → Int32 → OR) (t : SM) (v : Int32) : OR :=
  hRecv t 10 0 <| bI (Gx [.ref 0] t) fun a t1 =>
  hRecv t1 11 39 <| bI (Gm [.ref 39] t1) fun b t2 =>
  if a = b then J 18 t2 (v + 6) else rI 0 t2
theorem eL_35 : (fun (xn : Nat) (xs : Nat → Int32) (Gx Gm : List Value → SM → OR) (J : Nat → SM → Int32 → OR) (t : SM) (v : Int32) => ex clN P_L (some (xn, xs)) bytJ (mkCal rks [(143, Gx), (261, Gm)]) cutL (kLw J) 400 1231 (L0 v) [] t) = (fun (xn : Nat) (xs : Nat → Int32) (Gx Gm : List Value → SM → OR) (J : Nat → SM → Int32 → OR) (t : SM) (v : Int32) => fL_35 xn xs Gx Gm J t v) := by rfl
def fL_36 (xn : Nat) (xs : Nat → Int32) (Gx Gm : List Value → SM → OR) (J : Nat → SM → Int32 → OR) (t : SM) (v : Int32) : OR :=
  hScr xn xs (v + 1) fun e1 => hScr xn xs (v + 2) fun e2 => hRecv t 10 0 <| bI (Gx [.ref 0, .int e1, .int e2] t) fun a t1 =>
  hScr xn xs (v + 1) fun g1 => hScr xn xs (v + 2) fun g2 => hRecv t1 11 39 <| bI (Gm [.ref 39, .int g1, .int g2] t1) fun b t2 =>
  if a = b then J 18 t2 (v + 6) else rI 0 t2
theorem eL_36 : (fun (xn : Nat) (xs : Nat → Int32) (Gx Gm : List Value → SM → OR) (J : Nat → SM → Int32 → OR) (t : SM) (v : Int32) => ex clN P_L (some (xn, xs)) bytJ (mkCal rks [(144, Gx), (262, Gm)]) cutL (kLw J) 400 1244 (L0 v) [] t) = (fun (xn : Nat) (xs : Nat → Int32) (Gx Gm : List Value → SM → OR) (J : Nat → SM → Int32 → OR) (t : SM) (v : Int32) => fL_36 xn xs Gx Gm J t v) := by rfl
def fL_37 (xn : Nat) (xs : Nat → Int32) (Gx Gm : List Value → SM → OR) (J : Nat → SM → Int32 → OR) (t : SM) (v : Int32) : OR :=
  hScr xn xs (v + 1) fun e1 => hScr xn xs (v + 2) fun e2 => hRecv t 10 0 <| bI (Gx [.ref 0, .int e1, .int e2] t) fun a t1 =>
  hScr xn xs (v + 1) fun g1 => hScr xn xs (v + 2) fun g2 => hRecv t1 11 39 <| bI (Gm [.ref 39, .int g1, .int g2] t1) fun b t2 =>
  if a = b then J 18 t2 (v + 6) else rI 0 t2
theorem eL_37 : (fun (xn : Nat) (xs : Nat → Int32) (Gx Gm : List Value → SM → OR) (J : Nat → SM → Int32 → OR) (t : SM) (v : Int32) => ex clN P_L (some (xn, xs)) bytJ (mkCal rks [(145, Gx), (264, Gm)]) cutL (kLw J) 400 1277 (L0 v) [] t) = (fun (xn : Nat) (xs : Nat → Int32) (Gx Gm : List Value → SM → OR) (J : Nat → SM → Int32 → OR) (t : SM) (v : Int32) => fL_37 xn xs Gx Gm J t v) := by rfl
def fL_38 (xn : Nat) (xs : Nat → Int32) (Gx Gm : List Value → SM → OR) (J : Nat → SM → Int32 → OR) (t : SM) (v : Int32) : OR :=
  hScr xn xs (v + 1) fun e1 => hRecv t 10 0 <| bI (Gx [.ref 0, .int e1] t) fun a t1 =>
  hScr xn xs (v + 1) fun g1 => hRecv t1 11 39 <| bI (Gm [.ref 39, .int g1] t1) fun b t2 =>
  if a = b then J 18 t2 (v + 6) else rI 0 t2
theorem eL_38 : (fun (xn : Nat) (xs : Nat → Int32) (Gx Gm : List Value → SM → OR) (J : Nat → SM → Int32 → OR) (t : SM) (v : Int32) => ex clN P_L (some (xn, xs)) bytJ (mkCal rks [(146, Gx), (265, Gm)]) cutL (kLw J) 400 1310 (L0 v) [] t) = (fun (xn : Nat) (xs : Nat → Int32) (Gx Gm : List Value → SM → OR) (J : Nat → SM → Int32 → OR) (t : SM) (v : Int32) => fL_38 xn xs Gx Gm J t v) := by rfl
def fL_39 (xn : Nat) (xs : Nat → Int32) (Gx Gm : List Value → SM → OR) (J : Nat → SM → Int32 → OR) (t : SM) (v : Int32) : OR :=
  hScr xn xs (v + 1) fun e1 => hScr xn xs (v + 2) fun e2 => hRecv t 10 0 <| bI (Gx [.ref 0, .int e1, .int e2] t) fun a t1 =>
  hScr xn xs (v + 1) fun g1 => hScr xn xs (v + 2) fun g2 => hRecv t1 11 39 <| bI (Gm [.ref 39, .int g1, .int g2] t1) fun b t2 =>
  if a = b then J 18 t2 (v + 6) else rI 0 t2
theorem eL_39 : (fun (xn : Nat) (xs : Nat → Int32) (Gx Gm : List Value → SM → OR) (J : Nat → SM → Int32 → OR) (t : SM) (v : Int32) => ex clN P_L (some (xn, xs)) bytJ (mkCal rks [(147, Gx), (266, Gm)]) cutL (kLw J) 400 1333 (L0 v) [] t) = (fun (xn : Nat) (xs : Nat → Int32) (Gx Gm : List Value → SM → OR) (J : Nat → SM → Int32 → OR) (t : SM) (v : Int32) => fL_39 xn xs Gx Gm J t v) := by rfl
def fL_40 (xn : Nat) (xs : Nat → Int32) (Gx Gm : List Value → SM → OR) (J : Nat → SM → Int32 → OR) (t : SM) (v : Int32) : OR :=
  hRecv t 10 0 <| bI (Gx [.ref 0] t) fun a t1 =>
  hRecv t1 11 39 <| bI (Gm [.ref 39] t1) fun b t2 =>
  if a = b then J 18 t2 (v + 6) else rI 0 t2
theorem eL_40 : (fun (xn : Nat) (xs : Nat → Int32) (Gx Gm : List Value → SM → OR) (J : Nat → SM → Int32 → OR) (t : SM) (v : Int32) => ex clN P_L (some (xn, xs)) bytJ (mkCal rks [(148, Gx), (267, Gm)]) cutL (kLw J) 400 1366 (L0 v) [] t) = (fun (xn : Nat) (xs : Nat → Int32) (Gx Gm : List Value → SM → OR) (J : Nat → SM → Int32 → OR) (t : SM) (v : Int32) => fL_40 xn xs Gx Gm J t v) := by rfl
def fL_41 (xn : Nat) (xs : Nat → Int32) (Gx Gm : List Value → SM → OR) (J : Nat → SM → Int32 → OR) (t : SM) (v : Int32) : OR :=
  hRecv t 10 0 <| bI (Gx [.ref 0] t) fun a t1 =>
  hRecv t1 11 39 <| bI (Gm [.ref 39] t1) fun b t2 =>
  if a = b then J 18 t2 (v + 6) else rI 0 t2
theorem eL_41 : (fun (xn : Nat) (xs : Nat → Int32) (Gx Gm : List Value → SM → OR) (J : Nat → SM → Int32 → OR) (t : SM) (v : Int32) => ex clN P_L (some (xn, xs)) bytJ (mkCal rks [(149, Gx), (268, Gm)]) cutL (kLw J) 400 1379 (L0 v) [] t) = (fun (xn : Nat) (xs : Nat → Int32) (Gx Gm : List Value → SM → OR) (J : Nat → SM → Int32 → OR) (t : SM) (v : Int32) => fL_41 xn xs Gx Gm J t v) := by rfl
def fL_42 (xn : Nat) (xs : Nat → Int32) (Gx Gm : List Value → SM → OR) (J : Nat → SM → Int32 → OR) (t : SM) (v : Int32) : OR :=
  hScr xn xs (v + 1) fun e1 => hScr xn xs (v + 2) fun e2 => hScr xn xs (v + 3) fun e3 => hRecv t 10 0 <| bI (Gx [.ref 0, .int e1, .int e2, .int e3] t) fun a t1 =>
  hScr xn xs (v + 1) fun g1 => hScr xn xs (v + 2) fun g2 => hScr xn xs (v + 3) fun g3 => hRecv t1 11 39 <| bI (Gm [.ref 39, .int g1, .int g2, .int g3] t1) fun b t2 =>
  if a = b then J 18 t2 (v + 6) else rI 0 t2
theorem eL_42 : (fun (xn : Nat) (xs : Nat → Int32) (Gx Gm : List Value → SM → OR) (J : Nat → SM → Int32 → OR) (t : SM) (v : Int32) => ex clN P_L (some (xn, xs)) bytJ (mkCal rks [(150, Gx), (269, Gm)]) cutL (kLw J) 400 1392 (L0 v) [] t) = (fun (xn : Nat) (xs : Nat → Int32) (Gx Gm : List Value → SM → OR) (J : Nat → SM → Int32 → OR) (t : SM) (v : Int32) => fL_42 xn xs Gx Gm J t v) := by rfl
def fL_43 (xn : Nat) (xs : Nat → Int32) (Gx Gm : List Value → SM → OR) (J : Nat → SM → Int32 → OR) (t : SM) (v : Int32) : OR :=
  hScr xn xs (v + 1) fun e1 => hScr xn xs (v + 2) fun e2 => hScr xn xs (v + 3) fun e3 => hRecv t 10 0 <| bI (Gx [.ref 0, .int e1, .int e2, .int e3] t) fun a t1 =>
  hScr xn xs (v + 1) fun g1 => hScr xn xs (v + 2) fun g2 => hScr xn xs (v + 3) fun g3 => hRecv t1 11 39 <| bI (Gm [.ref 39, .int g1, .int g2, .int g3] t1) fun b t2 =>
  if a = b then J 18 t2 (v + 6) else rI 0 t2
theorem eL_43 : (fun (xn : Nat) (xs : Nat → Int32) (Gx Gm : List Value → SM → OR) (J : Nat → SM → Int32 → OR) (t : SM) (v : Int32) => ex clN P_L (some (xn, xs)) bytJ (mkCal rks [(151, Gx), (270, Gm)]) cutL (kLw J) 400 1435 (L0 v) [] t) = (fun (xn : Nat) (xs : Nat → Int32) (Gx Gm : List Value → SM → OR) (J : Nat → SM → Int32 → OR) (t : SM) (v : Int32) => fL_43 xn xs Gx Gm J t v) := by rfl
def fL_44 (xn : Nat) (xs : Nat → Int32) (Gx Gm : List Value → SM → OR) (J : Nat → SM → Int32 → OR) (t : SM) (v : Int32) : OR :=
  hScr xn xs (v + 1) fun e1 => hScr xn xs (v + 2) fun e2 => hScr xn xs (v + 3) fun e3 => hScr xn xs (v + 4) fun e4 => hScr xn xs (v + 5) fun e5 => hRecv t 10 0 <| bI (Gx [.ref 0, .int e1, .int e2, .int e3, .int e4, .int e5] t) fun a t1 =>
  hScr xn xs (v + 1) fun g1 => hScr xn xs (v + 2) fun g2 => hScr xn xs (v + 3) fun g3 => hScr xn xs (v + 4) fun g4 => hScr xn xs (v + 5) fun g5 => hRecv t1 11 39 <| bI (Gm [.ref 39, .int g1, .int g2, .int g3, .int g4, .int g5] t1) fun b t2 =>
  if a = b then J 18 t2 (v + 6) else rI 0 t2
theorem eL_44 : (fun (xn : Nat) (xs : Nat → Int32) (Gx Gm : List Value → SM → OR) (J : Nat → SM → Int32 → OR) (t : SM) (v : Int32) => ex clN P_L (some (xn, xs)) bytJ (mkCal rks [(152, Gx), (271, Gm)]) cutL (kLw J) 400 1478 (L0 v) [] t) = (fun (xn : Nat) (xs : Nat → Int32) (Gx Gm : List Value → SM → OR) (J : Nat → SM → Int32 → OR) (t : SM) (v : Int32) => fL_44 xn xs Gx Gm J t v) := by rfl
def fL_45 (xn : Nat) (xs : Nat → Int32) (Gx Gm : List Value → SM → OR) (J : Nat → SM → Int32 → OR) (t : SM) (v : Int32) : OR :=
  hScr xn xs (v + 1) fun e1 => hScr xn xs (v + 2) fun e2 => hScr xn xs (v + 3) fun e3 => hScr xn xs (v + 4) fun e4 => hRecv t 10 0 <| bI (Gx [.ref 0, .int e1, .int e2, .int e3, .int e4] t) fun a t1 =>
  hScr xn xs (v + 1) fun g1 => hScr xn xs (v + 2) fun g2 => hScr xn xs (v + 3) fun g3 => hScr xn xs (v + 4) fun g4 => hRecv t1 11 39 <| bI (Gm [.ref 39, .int g1, .int g2, .int g3, .int g4] t1) fun b t2 =>
  if a = b then J 18 t2 (v + 6) else rI 0 t2
theorem eL_45 : (fun (xn : Nat) (xs : Nat → Int32) (Gx Gm : List Value → SM → OR) (J : Nat → SM → Int32 → OR) (t : SM) (v : Int32) => ex clN P_L (some (xn, xs)) bytJ (mkCal rks [(153, Gx), (272, Gm)]) cutL (kLw J) 400 1541 (L0 v) [] t) = (fun (xn : Nat) (xs : Nat → Int32) (Gx Gm : List Value → SM → OR) (J : Nat → SM → Int32 → OR) (t : SM) (v : Int32) => fL_45 xn xs Gx Gm J t v) := by rfl
def fL_46 (xn : Nat) (xs : Nat → Int32) (Gx Gm : List Value → SM → OR) (J : Nat → SM → Int32 → OR) (t : SM) (v : Int32) : OR :=
  hScr xn xs (v + 1) fun e1 => hScr xn xs (v + 2) fun e2 => hRecv t 10 0 <| bI (Gx [.ref 0, .int e1, .int e2] t) fun a t1 =>
  hScr xn xs (v + 1) fun g1 => hScr xn xs (v + 2) fun g2 => hRecv t1 11 39 <| bI (Gm [.ref 39, .int g1, .int g2] t1) fun b t2 =>
  if a = b then J 18 t2 (v + 6) else rI 0 t2
theorem eL_46 : (fun (xn : Nat) (xs : Nat → Int32) (Gx Gm : List Value → SM → OR) (J : Nat → SM → Int32 → OR) (t : SM) (v : Int32) => ex clN P_L (some (xn, xs)) bytJ (mkCal rks [(154, Gx), (274, Gm)]) cutL (kLw J) 400 1594 (L0 v) [] t) = (fun (xn : Nat) (xs : Nat → Int32) (Gx Gm : List Value → SM → OR) (J : Nat → SM → Int32 → OR) (t : SM) (v : Int32) => fL_46 xn xs Gx Gm J t v) := by rfl
def dsp_47 (J : Nat → SM → Int32 → OR) (_ : Int32) (t : SM) (v : Int32) : OR := J 18 t (v + 6)
def dsp_46 (J : Nat → SM → Int32 → OR) (e : Int32) (t : SM) (v : Int32) : OR := if e = 46 then J 1594 t v else dsp_47 J e t v
def dsp_45 (J : Nat → SM → Int32 → OR) (e : Int32) (t : SM) (v : Int32) : OR := if e = 45 then J 1541 t v else dsp_46 J e t v
def dsp_44 (J : Nat → SM → Int32 → OR) (e : Int32) (t : SM) (v : Int32) : OR := if e = 44 then J 1478 t v else dsp_45 J e t v
def dsp_43 (J : Nat → SM → Int32 → OR) (e : Int32) (t : SM) (v : Int32) : OR := if e = 43 then J 1435 t v else dsp_44 J e t v
def dsp_42 (J : Nat → SM → Int32 → OR) (e : Int32) (t : SM) (v : Int32) : OR := if e = 42 then J 1392 t v else dsp_43 J e t v
def dsp_41 (J : Nat → SM → Int32 → OR) (e : Int32) (t : SM) (v : Int32) : OR := if e = 41 then J 1379 t v else dsp_42 J e t v
def dsp_40 (J : Nat → SM → Int32 → OR) (e : Int32) (t : SM) (v : Int32) : OR := if e = 40 then J 1366 t v else dsp_41 J e t v
def dsp_39 (J : Nat → SM → Int32 → OR) (e : Int32) (t : SM) (v : Int32) : OR := if e = 39 then J 1333 t v else dsp_40 J e t v
def dsp_38 (J : Nat → SM → Int32 → OR) (e : Int32) (t : SM) (v : Int32) : OR := if e = 38 then J 1310 t v else dsp_39 J e t v
def dsp_37 (J : Nat → SM → Int32 → OR) (e : Int32) (t : SM) (v : Int32) : OR := if e = 37 then J 1277 t v else dsp_38 J e t v
def dsp_36 (J : Nat → SM → Int32 → OR) (e : Int32) (t : SM) (v : Int32) : OR := if e = 36 then J 1244 t v else dsp_37 J e t v
def dsp_35 (J : Nat → SM → Int32 → OR) (e : Int32) (t : SM) (v : Int32) : OR := if e = 35 then J 1231 t v else dsp_36 J e t v
def dsp_34 (J : Nat → SM → Int32 → OR) (e : Int32) (t : SM) (v : Int32) : OR := if e = 34 then J 1188 t v else dsp_35 J e t v
def dsp_33 (J : Nat → SM → Int32 → OR) (e : Int32) (t : SM) (v : Int32) : OR := if e = 33 then J 1165 t v else dsp_34 J e t v
def dsp_32 (J : Nat → SM → Int32 → OR) (e : Int32) (t : SM) (v : Int32) : OR := if e = 32 then J 1152 t v else dsp_33 J e t v
def dsp_31 (J : Nat → SM → Int32 → OR) (e : Int32) (t : SM) (v : Int32) : OR := if e = 31 then J 1129 t v else dsp_32 J e t v
def dsp_30 (J : Nat → SM → Int32 → OR) (e : Int32) (t : SM) (v : Int32) : OR := if e = 30 then J 1116 t v else dsp_31 J e t v
def dsp_29 (J : Nat → SM → Int32 → OR) (e : Int32) (t : SM) (v : Int32) : OR := if e = 29 then J 1093 t v else dsp_30 J e t v
def dsp_28 (J : Nat → SM → Int32 → OR) (e : Int32) (t : SM) (v : Int32) : OR := if e = 28 then J 1080 t v else dsp_29 J e t v
def dsp_27 (J : Nat → SM → Int32 → OR) (e : Int32) (t : SM) (v : Int32) : OR := if e = 27 then J 1057 t v else dsp_28 J e t v
def dsp_26 (J : Nat → SM → Int32 → OR) (e : Int32) (t : SM) (v : Int32) : OR := if e = 26 then J 1014 t v else dsp_27 J e t v
def dsp_25 (J : Nat → SM → Int32 → OR) (e : Int32) (t : SM) (v : Int32) : OR := if e = 25 then J 981 t v else dsp_26 J e t v
def dsp_24 (J : Nat → SM → Int32 → OR) (e : Int32) (t : SM) (v : Int32) : OR := if e = 24 then J 948 t v else dsp_25 J e t v
def dsp_23 (J : Nat → SM → Int32 → OR) (e : Int32) (t : SM) (v : Int32) : OR := if e = 23 then J 925 t v else dsp_24 J e t v
def dsp_22 (J : Nat → SM → Int32 → OR) (e : Int32) (t : SM) (v : Int32) : OR := if e = 22 then J 882 t v else dsp_23 J e t v
def dsp_21 (J : Nat → SM → Int32 → OR) (e : Int32) (t : SM) (v : Int32) : OR := if e = 21 then J 849 t v else dsp_22 J e t v
def dsp_20 (J : Nat → SM → Int32 → OR) (e : Int32) (t : SM) (v : Int32) : OR := if e = 20 then J 826 t v else dsp_21 J e t v
def dsp_19 (J : Nat → SM → Int32 → OR) (e : Int32) (t : SM) (v : Int32) : OR := if e = 19 then J 803 t v else dsp_20 J e t v
def dsp_18 (J : Nat → SM → Int32 → OR) (e : Int32) (t : SM) (v : Int32) : OR := if e = 18 then J 770 t v else dsp_19 J e t v
def dsp_17 (J : Nat → SM → Int32 → OR) (e : Int32) (t : SM) (v : Int32) : OR := if e = 17 then J 717 t v else dsp_18 J e t v
def dsp_16 (J : Nat → SM → Int32 → OR) (e : Int32) (t : SM) (v : Int32) : OR := if e = 16 then J 694 t v else dsp_17 J e t v
def dsp_15 (J : Nat → SM → Int32 → OR) (e : Int32) (t : SM) (v : Int32) : OR := if e = 15 then J 681 t v else dsp_16 J e t v
def dsp_14 (J : Nat → SM → Int32 → OR) (e : Int32) (t : SM) (v : Int32) : OR := if e = 14 then J 658 t v else dsp_15 J e t v
def dsp_13 (J : Nat → SM → Int32 → OR) (e : Int32) (t : SM) (v : Int32) : OR := if e = 13 then J 635 t v else dsp_14 J e t v
def dsp_12 (J : Nat → SM → Int32 → OR) (e : Int32) (t : SM) (v : Int32) : OR := if e = 12 then J 612 t v else dsp_13 J e t v
def dsp_11 (J : Nat → SM → Int32 → OR) (e : Int32) (t : SM) (v : Int32) : OR := if e = 11 then J 579 t v else dsp_12 J e t v
def dsp_10 (J : Nat → SM → Int32 → OR) (e : Int32) (t : SM) (v : Int32) : OR := if e = 10 then J 536 t v else dsp_11 J e t v
def dsp_9 (J : Nat → SM → Int32 → OR) (e : Int32) (t : SM) (v : Int32) : OR := if e = 9 then J 503 t v else dsp_10 J e t v
def dsp_8 (J : Nat → SM → Int32 → OR) (e : Int32) (t : SM) (v : Int32) : OR := if e = 8 then J 470 t v else dsp_9 J e t v
def dsp_7 (J : Nat → SM → Int32 → OR) (e : Int32) (t : SM) (v : Int32) : OR := if e = 7 then J 457 t v else dsp_8 J e t v
def dsp_6 (J : Nat → SM → Int32 → OR) (e : Int32) (t : SM) (v : Int32) : OR := if e = 6 then J 404 t v else dsp_7 J e t v
def dsp_5 (J : Nat → SM → Int32 → OR) (e : Int32) (t : SM) (v : Int32) : OR := if e = 5 then J 381 t v else dsp_6 J e t v
def dsp_4 (J : Nat → SM → Int32 → OR) (e : Int32) (t : SM) (v : Int32) : OR := if e = 4 then J 358 t v else dsp_5 J e t v
def dsp_3 (J : Nat → SM → Int32 → OR) (e : Int32) (t : SM) (v : Int32) : OR := if e = 3 then J 345 t v else dsp_4 J e t v
def dsp_2 (J : Nat → SM → Int32 → OR) (e : Int32) (t : SM) (v : Int32) : OR := if e = 2 then J 282 t v else dsp_3 J e t v
def dsp_1 (J : Nat → SM → Int32 → OR) (e : Int32) (t : SM) (v : Int32) : OR := if e = 1 then J 259 t v else dsp_2 J e t v
def dsp_0 (J : Nat → SM → Int32 → OR) (e : Int32) (t : SM) (v : Int32) : OR := if e = 0 then J 236 t v else dsp_1 J e t v
def fL_h (xn : Nat) (xs : Nat → Int32) (J : Nat → SM → Int32 → OR) (t : SM) (v : Int32) : OR :=
  if Int32.ofNat xn - 6 < v then rI 1 t else hScr xn xs v fun e => dsp_0 J (e &&& 63) t v
theorem eL_h : (fun (xn : Nat) (xs : Nat → Int32) (J : Nat → SM → Int32 → OR) (t : SM) (v : Int32) => ex clN P_L (some (xn, xs)) bytJ (mkCal rks []) cutL (kLw J) 400 18 (L0 v) [] t) = (fun (xn : Nat) (xs : Nat → Int32) (J : Nat → SM → Int32 → OR) (t : SM) (v : Int32) => fL_h xn xs J t v) := by rfl
def fL_e (xn : Nat) (xs : Nat → Int32) (Gx Gm : List Value → SM → OR) (J : Nat → SM → Int32 → OR) : OR :=
  bV (Gx [.ref 0] (mPush tB0 10 0 18)) fun t1 =>
  hRecv (mPush t1 11 0 (clN 11)) 11 (mN t1) <| bV (Gm [.ref (mN t1)] (mPush t1 11 0 (clN 11))) fun t2 => match Nat.beq (mN t1) 39 with
    | true => J 18 t2 0
    | false => none
theorem eL_e : (fun (xn : Nat) (xs : Nat → Int32) (Gx Gm : List Value → SM → OR) (J : Nat → SM → Int32 → OR) => ex clN P_L (some (xn, xs)) bytJ (mkCal rks [(107, Gx), (181, Gm)]) cutL (kLw J) 400 0 [(0, .float 200)] [] tB0) = (fun (xn : Nat) (xs : Nat → Int32) (Gx Gm : List Value → SM → OR) (J : Nat → SM → Int32 → OR) => fL_e xn xs Gx Gm J) := by rfl
end
