section
/-! the start, run as it stands -/
def tB0 : SM := (fun _ _ => 0, fun _ _ => none, fun _ => (999, 0), 0, 0)
def oX : OR := fx_init (mPush tB0 10 0 18)
def okV (r : OR) : Bool := match r with
  | some (none, _) => true
  | _ => false
def stO (r : OR) : SM := match r with
  | some (_, t) => t
  | none => tB0
theorem okV_eq {r : OR} (h : okV r = true) : r = rV (stO r) := by
  match r, h with
  | some (none, t), _ => rfl
theorem oX_ok : okV oX = true := by decide +kernel
def tX1 : SM := stO oX
def oM : OR := fm_init (mPush tX1 11 0 51)
theorem oM_ok : okV oM = true := by decide +kernel
def tM : SM := stO oM
theorem fx_init_e : fx_init (mPush tB0 10 0 18) = rV tX1 := okV_eq oX_ok
theorem fm_init_e : fm_init (mPush tX1 11 0 51) = rV tM := okV_eq oM_ok
theorem tM_N : mN tX1 = 39 ∧ mZ tX1 ≤ 10000 ∧ mN tM = 68 ∧ mZ tM ≤ 10000 := by decide +kernel
theorem tM_T : ∀ k, k < 68 → mT tM k = layF k := by decide +kernel
theorem tM_R : ∀ z ∈ refL, mR tM z.1 z.2.1 = some z.2.2 := by decide +kernel
set_option maxRecDepth 1000000 in
theorem tM_hi : (fun k : Nat => (mT tM (k + 68)).1) = (fun _ => 999) := by rfl
theorem tM_lay : Lay tM := ⟨by have := tM_N; omega, tM_T, tM_R⟩
def numB (t : SM) : Bool := decide (mI t 39 0 = 6) && (decide (mI t 0 0 = 6) && (decide (mI t 39 3 = 0) && (decide (mI t 1 1 = 0) && (decide (mI t 39 9 = 0) && (decide (mI t 5 1 = 0) && (decide (mI t 39 14 = 0) && (decide (mI t 0 6 = 0) && (decide (mI t 39 20 = 1) && (decide (mI t 0 8 = 1) && (decide (mI t 39 17 = 0) && (decide (mI t 10 1 = 0) && (decide (mI t 39 1 = 0) && (decide (mI t 39 2 = 0) && (decide (mI t 0 1 = 0) && (decide (mI t 0 2 = 0) && (decide (mI t 0 9 = 0) && decide (mI t 39 21 = 0)))))))))))))))))
theorem tM_num : numB tM = true := by decide +kernel
def imgB (t : SM) : Bool := decide (mI t 13 0 = 0) && (decide (mI t 13 1 = 0) && (decide (mI t 13 2 = 0) && (decide (mI t 13 3 = 0) && (decide (mI t 13 4 = 0) && (decide (mI t 39 22 = 0) && (decide (mI t 39 23 = 0) && (decide (mI t 39 24 = 0) && (decide (mI t 39 25 = 0) && decide (mI t 39 26 = 0)))))))))
theorem tM_img : imgB tM = true := by decide +kernel
theorem tM_sh : ∀ i, i < 4 → (mI tM (31 + 2 * i) 0 = -1 ∧ mI tM 54 i = -1 ∧ mI tM (31 + 2 * i) 1 = 0 ∧ mI tM 55 i = 0) ∧ ∀ j, j < 40 → mI tM (32 + 2 * i) j = mI tM 56 (40 * i + j) := by decide +kernel
theorem tM_agr : ∀ j, j < 512 → mI tM 3 j = 0 := by decide +kernel
theorem tM_w : ∀ j, j < 96 → mI tM 58 j = nI (wdL.getD j 0) := by decide +kernel
theorem tM_x : mR tM 9 0 = some 29 ∧ mR tM 29 0 = some 26 ∧ mR tM 29 1 = some 27 ∧ mR tM 29 2 = some 28 ∧ mR tM 29 3 = some 30 := by decide +kernel
theorem tM_52 : mI tM 52 0 = nI 0 ∧ mI tM 52 1 = nI 1 ∧ mI tM 52 2 = nI 2 ∧ mI tM 52 3 = nI 5 := by decide +kernel
theorem tM_51 : mI tM 51 0 = nI 100001 ∧ mI tM 51 1 = nI 4 ∧ mI tM 51 2 = nI 100003 ∧ mI tM 51 3 = nI 5 ∧ mI tM 51 4 = nI 16 := by decide +kernel
theorem tM_cd : pm tM 26 0 = trn 100001 ∧ pm tM 27 0 = trn 4 ∧ pm tM 28 0 = trn 100003 ∧ pm tM 28 1 = trn 5 ∧ pm tM 28 2 = trn 16 := by decide +kernel
theorem tM_cds : cds (pm tM) 0 0 = [100001] ∧ cds (pm tM) 0 1 = [4] ∧ cds (pm tM) 0 2 = [100003, 5, 16] := by decide +kernel
theorem tM_bits : ∀ a, a < 16 → bt (pm tM 29 5) a = decide (¬ evn (nms (nI a) 0 0) [100001] = 0) := by decide +kernel
end
