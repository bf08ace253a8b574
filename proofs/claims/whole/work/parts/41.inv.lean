section
/-! the state, by what stays -/
abbrev GG : Type := Nat → Nat → Int32
/-- how many of nine bits are set -/
def onc (v : Int32) : Int32 := fo (fun i a => a + bz (bt v i)) 0 9
def slp (G : GG) (i : Nat) (w : Int32) : Int32 := if G 40 i = 3 then (G 41 i ^^^ w) &&& G 42 i else G 41 i ^^^ w
def ag1 (G : GG) (i : Nat) (w : Int32) : Bool :=
  if G 40 i = 2 then decide (¬ 1 < onc (slp G i w))
  else if G 40 i = 3 then decide (¬ 1 < onc (slp G i w))
  else if G 40 i = 4 then decide (¬ (G 43 i + 1) < onc (slp G i w))
  else if G 40 i = 5 then decide (onc (slp G i w) = 2) && (decide (¬ (slp G i w &&& (slp G i w <<< ((1 : Int32) &&& 31))) = 0) && decide (onc (slp G i w &&& w) = 1))
  else decide (onc (slp G i w) = 1)
def agF (G : GG) (w : Int32) : Nat → Nat → Bool
  | 0, i => ag1 G i w
  | k + 1, i => if G 40 i = 1 then decide (onc (G 41 i ^^^ G 41 (G 43 i).toNatClampNeg) = 1) && agF G w k (G 43 i).toNatClampNeg else ag1 G i w
/-- whether a map agrees with a town -/
def agr (G : GG) (i : Nat) (w : Int32) : Bool := agF G w i i
/-! codes -/
def vcd (c : Nat) : Prop := (100000 ≤ c ∧ c ≤ 109999) ∨ c < 6 ∨ (11 ≤ c ∧ c ≤ 19)
/-- the class's code of one of the model's -/
def trn (c : Nat) : Int32 := if 100000 ≤ c then nI (c - 100000) else if c < 11 then -20 - nI c else if c = 11 then -9 else if c = 12 then -8 else if c = 13 then -2 else if c = 14 then -6 else if c = 15 then -7 else if c = 16 then -4 else if c = 17 then -5 else if c = 18 then -3 else -1
def op2 (c : Nat) (a b : Int32) : Int32 := if c = 11 then (if a = 0 ∧ b = 0 then 0 else 1) else if c = 12 then (if a = 0 ∨ b = 0 then 0 else 1) else if c = 14 then (if a < b then 1 else 0) else if c = 15 then (if a = b then 1 else 0) else if c = 16 then a + b else if c = 17 then a - b else a * b
def stp (nm : Nat → Int32) (st : List Int32) (c : Nat) : List Int32 :=
  if 100000 ≤ c then nI (c - 100000) :: st else if c < 11 then nm c :: st
  else if c = 13 then (match st with | a :: r => (if a = 0 then 1 else 0) :: r | [] => [])
  else if c = 19 then (match st with | a :: r => (-a) :: r | [] => [])
  else (match st with | b :: a :: r => op2 c a b :: r | _ => [])
/-- how high the stack stands behind a code -/
def dpt : List Nat → Nat → Option Nat
  | [], d => some d
  | c :: r, d => if 100000 ≤ c ∨ c < 11 then dpt r (d + 1) else if c = 13 ∨ c = 19 then (if d < 1 then none else dpt r d) else (if d < 2 then none else dpt r (d - 1))
def evn (nm : Nat → Int32) (cs : List Nat) : Int32 := (cs.foldl (stp nm) []).headD 0
def cN (v : Int32) : Nat := v.toNatClampNeg
def cds (G : GG) (l e : Nat) : List Nat := (List.range (cN (G 52 (4 * l + e + 1)) - cN (G 52 (4 * l + e)))).map fun k => cN (G 51 (200 * l + cN (G 52 (4 * l + e)) + k))
def nms (w far wo : Int32) : Nat → Int32 := fun k => if k < 4 then (w >>> (nI k &&& 31)) &&& 1 else if k = 4 then far else wo
/-- whether a town may be -/
def may (G : GG) (w : Int32) : Bool := decide (¬ evn (nms w 0 0) (cds G (cN (G 39 21)) 0) = 0)
/-! what holds between calls -/
def IvN (n m s g x p : Nat) (G : GG) : Prop := ((1 ≤ n ∧ n ≤ 9) ∧ m ≤ 8 ∧ s ≤ 12 ∧ g ≤ 6 ∧ (1 ≤ x ∧ x ≤ 6) ∧ p ≤ 160) ∧
  (G 39 0 = nI n ∧ G 0 0 = nI n) ∧ (G 39 3 = nI m ∧ G 1 1 = nI m) ∧ (G 39 9 = nI s ∧ G 5 1 = nI s) ∧ (G 39 14 = nI g ∧ G 0 6 = nI g) ∧ (G 39 20 = nI x ∧ G 0 8 = nI x) ∧ (G 39 17 = nI p ∧ G 10 1 = nI p) ∧ G 0 1 = G 39 1 ∧ G 0 2 = G 39 2 ∧ G 0 9 = G 39 21 ∧ ∃ l, l < x ∧ G 39 21 = nI l
def IvG (g : Nat) (G : GG) : Prop := ∀ i, i < g → G 8 i = G 49 i ∧ ∃ a b, a < 6 ∧ b < 6 ∧ G 49 i = nI (10 * a + b)
def IvT (p : Nat) (G : GG) : Prop := ∀ i, i < p → G 11 i = G 50 i ∧ ∃ w, w < 256 ∧ G 50 i = nI w
def IvI (m x : Nat) (G : GG) : Prop := G 13 0 = G 39 22 ∧ (G 39 22 = 0 ∨ G 39 22 = 1) ∧ G 13 1 = G 39 23 ∧ G 13 2 = G 39 24 ∧ G 13 3 = G 39 26 ∧ G 13 4 = G 39 25 ∧ ∃ k l, k ≤ 8 ∧ l < x ∧ G 39 25 = nI k ∧ G 39 26 = nI l ∧ (G 39 22 = 1 → k ≤ m) ∧ ∀ i, i < k → G 14 i = G 53 i
def IvS (G : GG) : Prop := ∀ i, i < 4 → G (31 + 2 * i) 0 = G 54 i ∧ (G 54 i = -1 ∨ ∃ k, k < 3 ∧ G 54 i = nI k) ∧ (∃ z, z ≤ 40 ∧ G (31 + 2 * i) 1 = nI z ∧ G 55 i = nI z) ∧ ∀ j, j < 40 → G (32 + 2 * i) j = G 56 (40 * i + j)
def IvM (n m : Nat) (G : GG) : Prop := ∀ i, i < m → (∃ k, k < 6 ∧ G 40 i = nI k) ∧ (∃ a, a < 2 ^ n ∧ G 41 i = nI a) ∧ (∃ a, a < 2 ^ n ∧ G 42 i = nI a) ∧ ∃ c, c ≤ 9 ∧ G 43 i = nI c ∧ (G 40 i = 1 → c < i)
def ChA (G : GG) (T : Nat → Nat × Nat) (N i q : Nat) : Prop := (68 ≤ q ∧ q < N) ∧ (T q).1 = 2 ∧ (T (q - 1)).1 ≠ 8 ∧ G q 0 = G 40 i ∧ G q 1 = G 41 i ∧ G q 2 = G 42 i ∧ G q 3 = G 43 i ∧ (G 40 i = 1 → G q 4 = G 41 (cN (G 43 i)) ^^^ G 41 i) ∧ G q 5 = G 44 i
def IvC (m : Nat) (G : GG) (R : Nat → Nat → Option Nat) (T : Nat → Nat × Nat) (N : Nat) : Prop := (∀ i, i < m → ∃ q, R 2 i = some q ∧ ChA G T N i q) ∧ ∀ i j q, i < m → j < m → R 2 i = some q → R 2 j = some q → i = j
def IvA (m : Nat) (G : GG) : Prop := ∀ j, j < 512 → ∃ r, r < 256 ∧ G 3 j = nI r ∧ ∀ i, i < m → r.testBit i = agr G i (nI j)
def StA (G : GG) (T : Nat → Nat × Nat) (N i q : Nat) : Prop := (68 ≤ q ∧ q < N) ∧ (T q).1 = 6 ∧ (T (q - 1)).1 ≠ 8 ∧ G q 0 = G 45 i ∧ G q 1 = G 46 i ∧ G q 2 = G 47 i ∧ G q 3 = G 48 i
def StV (n : Nat) (G : GG) (i : Nat) : Prop := (∃ a b, a < 6 ∧ b < 6 ∧ a ≠ b ∧ G 45 i = nI a ∧ G 46 i = nI b) ∧ (G 47 i = -1 ∨ ∃ c, c < n ∧ G 47 i = nI c) ∧ ∃ w, 1 ≤ w ∧ w ≤ 99 ∧ G 48 i = nI w
def IvR (n s : Nat) (G : GG) (R : Nat → Nat → Option Nat) (T : Nat → Nat × Nat) (N : Nat) : Prop := ∀ i, i < s → StV n G i ∧ ∃ q, R 6 i = some q ∧ StA G T N i q
def PtA (G : GG) (R : Nat → Nat → Option Nat) (T : Nat → Nat × Nat) (i q e : Nat) : Prop := R q e = some (q - 3 + e) ∧ ∃ b d, b ≤ d ∧ d ≤ 160 ∧ G 52 (4 * i + e) = nI b ∧ G 52 (4 * i + e + 1) = nI d ∧ T (q - 3 + e) = (20, d - b) ∧ (∀ k, k < d - b → ∃ c, vcd c ∧ G 51 (200 * i + b + k) = nI c ∧ G (q - 3 + e) k = trn c) ∧ dpt (cds G i e) 0 = some 1
def TxA (G : GG) (R : Nat → Nat → Option Nat) (T : Nat → Nat × Nat) (N i q : Nat) : Prop := ((q = 29 ∨ 71 ≤ q) ∧ q + 1 < N) ∧ (T q).1 = 8 ∧ (T (q - 4)).1 ≠ 8 ∧ T (q + 1) = (20, 160) ∧ R q 3 = some (q + 1) ∧ (∀ e, e < 3 → PtA G R T i q e) ∧ ∀ a, a < 16 → bt (G q 5) a = decide (¬ evn (nms (nI a) 0 0) (cds G i 0) = 0)
def IvX (x : Nat) (G : GG) (R : Nat → Nat → Option Nat) (T : Nat → Nat × Nat) (N : Nat) : Prop := ∀ i, i < x → ∃ q, R 9 i = some q ∧ TxA G R T N i q
def wdL : List Nat := [109, 97, 121, 32, 32, 32, 32, 32, 104, 97, 114, 109, 32, 32, 32, 32, 112, 114, 105, 99, 101, 32, 32, 32, 97, 32, 32, 32, 32, 32, 32, 32, 98, 32, 32, 32, 32, 32, 32, 32, 99, 32, 32, 32, 32, 32, 32, 32, 100, 32, 32, 32, 32, 32, 32, 32, 102, 97, 114, 32, 32, 32, 32, 32, 119, 111, 114, 108, 100, 115, 32, 32, 111, 114, 32, 32, 32, 32, 32, 32, 97, 110, 100, 32, 32, 32, 32, 32, 110, 111, 116, 32, 32, 32, 32, 32]
def IvW (G : GG) : Prop := ∀ j, j < 96 → G 58 j = nI (wdL.getD j 0)
def IvB (T : Nat → Nat × Nat) (N : Nat) : Prop := ∀ k, (T k).1 = 8 → k + 1 < N ∧ T (k + 1) = (20, 160)
def IvP (n m s g x p : Nat) (G : GG) (R : Nat → Nat → Option Nat) (T : Nat → Nat × Nat) (N : Nat) : Prop :=
  IvN n m s g x p G ∧ IvG g G ∧ IvT p G ∧ IvI m x G ∧ IvS G ∧ IvM n m G ∧ IvC m G R T N ∧ IvA m G ∧ IvR n s G R T N ∧ IvX x G R T N ∧ IvB T N ∧ IvW G
def Inv (n m s g x p : Nat) (t : SM) : Prop := Lay t ∧ IvP n m s g x p (pm t) (mR t) (mT t) (mN t)
variable {n m s g x p : Nat} {t u : SM}
theorem Inv.fr (h : Inv n m s g x p t) (f : Fr t u) : Inv n m s g x p u := by
  refine ⟨f.lay h.1, ?_⟩
  rw [f.2, f.R, f.T, f.N]
  exact h.2
theorem Inv.lay (h : Inv n m s g x p t) : Lay t := h.1
theorem Inv.num (h : Inv n m s g x p t) : IvN n m s g x p (pm t) := h.2.1
theorem Inv.gos (h : Inv n m s g x p t) : IvG g (pm t) := h.2.2.1
theorem Inv.tap (h : Inv n m s g x p t) : IvT p (pm t) := h.2.2.2.1
theorem Inv.img (h : Inv n m s g x p t) : IvI m x (pm t) := h.2.2.2.2.1
theorem Inv.shs (h : Inv n m s g x p t) : IvS (pm t) := h.2.2.2.2.2.1
theorem Inv.mps (h : Inv n m s g x p t) : IvM n m (pm t) := h.2.2.2.2.2.2.1
theorem Inv.chs (h : Inv n m s g x p t) : IvC m (pm t) (mR t) (mT t) (mN t) := h.2.2.2.2.2.2.2.1
theorem Inv.agg (h : Inv n m s g x p t) : IvA m (pm t) := h.2.2.2.2.2.2.2.2.1
theorem Inv.sts (h : Inv n m s g x p t) : IvR n s (pm t) (mR t) (mT t) (mN t) := h.2.2.2.2.2.2.2.2.2.1
theorem Inv.txs (h : Inv n m s g x p t) : IvX x (pm t) (mR t) (mT t) (mN t) := h.2.2.2.2.2.2.2.2.2.2.1
theorem Inv.tgs (h : Inv n m s g x p t) : IvB (mT t) (mN t) := h.2.2.2.2.2.2.2.2.2.2.2.1
theorem Inv.wds (h : Inv n m s g x p t) : IvW (pm t) := h.2.2.2.2.2.2.2.2.2.2.2.2
theorem Inv.rng (h : Inv n m s g x p t) : (1 ≤ n ∧ n ≤ 9) ∧ m ≤ 8 ∧ s ≤ 12 ∧ g ≤ 6 ∧ (1 ≤ x ∧ x ≤ 6) ∧ p ≤ 160 := h.num.1
theorem Inv.ch (h : Inv n m s g x p t) : mI t 39 0 = nI n := (pm_fx h.1 rfl rfl).trans h.num.2.1.1
theorem Inv.ch' (h : Inv n m s g x p t) : mI t 0 0 = nI n := (pm_fx h.1 rfl rfl).trans h.num.2.1.2
theorem Inv.mp (h : Inv n m s g x p t) : mI t 39 3 = nI m := (pm_fx h.1 rfl rfl).trans h.num.2.2.1.1
theorem Inv.mp' (h : Inv n m s g x p t) : mI t 1 1 = nI m := (pm_fx h.1 rfl rfl).trans h.num.2.2.1.2
theorem Inv.st (h : Inv n m s g x p t) : mI t 39 9 = nI s := (pm_fx h.1 rfl rfl).trans h.num.2.2.2.1.1
theorem Inv.st' (h : Inv n m s g x p t) : mI t 5 1 = nI s := (pm_fx h.1 rfl rfl).trans h.num.2.2.2.1.2
theorem Inv.go (h : Inv n m s g x p t) : mI t 39 14 = nI g := (pm_fx h.1 rfl rfl).trans h.num.2.2.2.2.1.1
theorem Inv.go' (h : Inv n m s g x p t) : mI t 0 6 = nI g := (pm_fx h.1 rfl rfl).trans h.num.2.2.2.2.1.2
theorem Inv.tx (h : Inv n m s g x p t) : mI t 39 20 = nI x := (pm_fx h.1 rfl rfl).trans h.num.2.2.2.2.2.1.1
theorem Inv.tx' (h : Inv n m s g x p t) : mI t 0 8 = nI x := (pm_fx h.1 rfl rfl).trans h.num.2.2.2.2.2.1.2
theorem Inv.tp (h : Inv n m s g x p t) : mI t 39 17 = nI p := (pm_fx h.1 rfl rfl).trans h.num.2.2.2.2.2.2.1.1
theorem Inv.tp' (h : Inv n m s g x p t) : mI t 10 1 = nI p := (pm_fx h.1 rfl rfl).trans h.num.2.2.2.2.2.2.1.2
theorem Inv.sn (h : Inv n m s g x p t) : mI t 39 1 = pm t 39 1 := pm_fx h.1 rfl rfl
theorem Inv.sn' (h : Inv n m s g x p t) : mI t 0 1 = pm t 39 1 := (pm_fx h.1 rfl rfl).trans h.num.2.2.2.2.2.2.2.1
theorem Inv.so (h : Inv n m s g x p t) : mI t 39 2 = pm t 39 2 := pm_fx h.1 rfl rfl
theorem Inv.so' (h : Inv n m s g x p t) : mI t 0 2 = pm t 39 2 := (pm_fx h.1 rfl rfl).trans h.num.2.2.2.2.2.2.2.2.1
theorem Inv.lw (h : Inv n m s g x p t) : mI t 39 21 = pm t 39 21 := pm_fx h.1 rfl rfl
theorem Inv.lw' (h : Inv n m s g x p t) : mI t 0 9 = pm t 39 21 := (pm_fx h.1 rfl rfl).trans h.num.2.2.2.2.2.2.2.2.2.1
theorem Inv.lwE (h : Inv n m s g x p t) : ∃ l, l < x ∧ pm t 39 21 = nI l := h.num.2.2.2.2.2.2.2.2.2.2
variable {j : Nat}
theorem rp_3 (h : Lay t) : mI t 3 j = pm t 3 j := pm_fx h rfl rfl
theorem rp_8 (h : Lay t) : mI t 8 j = pm t 8 j := pm_fx h rfl rfl
theorem rp_11 (h : Lay t) : mI t 11 j = pm t 11 j := pm_fx h rfl rfl
theorem rp_14 (h : Lay t) : mI t 14 j = pm t 14 j := pm_fx h rfl rfl
theorem rp_32 (h : Lay t) : mI t 32 j = pm t 32 j := pm_fx h rfl rfl
theorem rp_34 (h : Lay t) : mI t 34 j = pm t 34 j := pm_fx h rfl rfl
theorem rp_36 (h : Lay t) : mI t 36 j = pm t 36 j := pm_fx h rfl rfl
theorem rp_38 (h : Lay t) : mI t 38 j = pm t 38 j := pm_fx h rfl rfl
theorem rp_40 (h : Lay t) : mI t 40 j = pm t 40 j := pm_fx h rfl rfl
theorem rp_41 (h : Lay t) : mI t 41 j = pm t 41 j := pm_fx h rfl rfl
theorem rp_42 (h : Lay t) : mI t 42 j = pm t 42 j := pm_fx h rfl rfl
theorem rp_43 (h : Lay t) : mI t 43 j = pm t 43 j := pm_fx h rfl rfl
theorem rp_44 (h : Lay t) : mI t 44 j = pm t 44 j := pm_fx h rfl rfl
theorem rp_45 (h : Lay t) : mI t 45 j = pm t 45 j := pm_fx h rfl rfl
theorem rp_46 (h : Lay t) : mI t 46 j = pm t 46 j := pm_fx h rfl rfl
theorem rp_47 (h : Lay t) : mI t 47 j = pm t 47 j := pm_fx h rfl rfl
theorem rp_48 (h : Lay t) : mI t 48 j = pm t 48 j := pm_fx h rfl rfl
theorem rp_49 (h : Lay t) : mI t 49 j = pm t 49 j := pm_fx h rfl rfl
theorem rp_50 (h : Lay t) : mI t 50 j = pm t 50 j := pm_fx h rfl rfl
theorem rp_51 (h : Lay t) : mI t 51 j = pm t 51 j := pm_fx h rfl rfl
theorem rp_52 (h : Lay t) : mI t 52 j = pm t 52 j := pm_fx h rfl rfl
theorem rp_53 (h : Lay t) : mI t 53 j = pm t 53 j := pm_fx h rfl rfl
theorem rp_54 (h : Lay t) : mI t 54 j = pm t 54 j := pm_fx h rfl rfl
theorem rp_55 (h : Lay t) : mI t 55 j = pm t 55 j := pm_fx h rfl rfl
theorem rp_56 (h : Lay t) : mI t 56 j = pm t 56 j := pm_fx h rfl rfl
theorem rp_57 (h : Lay t) : mI t 57 j = pm t 57 j := pm_fx h rfl rfl
theorem rp_58 (h : Lay t) : mI t 58 j = pm t 58 j := pm_fx h rfl rfl
end
