section
variable {n m s g x p a b : Nat} {t0 t u w : SM}
def fq (D : List Nat) : Nat → Bool := fun a => decide (¬ evn (nms (nI a) 0 0) D = 0)
theorem or_0 (v : Int32) : v ||| 0 = v := b_ext fun i hi => by rw [b_or, b_0]; simp
/-- a new text -/
theorem tx_new {v : SM} {a0 a1 a2 : Nat} {D : List Nat} (ha : a0 < mN v) (hT : mT v a0 = (20, D.length)) (hl : D.length ≤ 160) (hD : ∀ k, k < D.length → vcd (D.getD k 0) ∧ mI v a0 k = trn (D.getD k 0)) (hdp : dpt D 0 = some 1) :
    ∃ w, fTx_init (mPush v 8 0 6) (mN v) a0 a1 a2 = rV w ∧ mN w = mN v + 2 ∧ mZ w = mZ v + 166 ∧ mT w = (fun k => if k = mN v + 1 then (20, 160) else if k = mN v then (8, 0) else mT v k) ∧ (∀ k, k < mN v → mR w k = mR v k ∧ mI w k = mI v k) ∧ (mR w (mN v) 0 = some a0 ∧ mR w (mN v) 1 = some a1 ∧ mR w (mN v) 2 = some a2 ∧ mR w (mN v) 3 = some (mN v + 1)) ∧ ∀ a, a < 16 → bt (mI w (mN v) 5) a = fq D a := by
  have w0 : ∃ t6, t6 = setR (setR (setR (setR (mPush (mPush v 8 0 6) 20 160 160) (mN v) 3 (some (mN v + 1))) (mN v) 0 (some a0)) (mN v) 1 (some a1)) (mN v) 2 (some a2) := ⟨_, rfl⟩
  obtain ⟨t6, ht6⟩ := w0
  have eT : mT t6 = (fun k => if k = mN v + 1 then (20, 160) else if k = mN v then (8, 0) else mT v k) := by rw [ht6]; rfl
  have eI : ∀ k, k < mN v → mI t6 k = mI v k := fun k hk => by
    rw [ht6, setR_I, setR_I, setR_I, setR_I, mPush_I, if_neg (by rw [mPush_N]; omega), mPush_I, if_neg (by omega)]
  have eR : ∀ k, k < mN v → mR t6 k = mR v k := fun k hk => funext fun i => by
    rw [ht6, setR_R, if_neg (by omega), setR_R, if_neg (by omega), setR_R, if_neg (by omega), setR_R, if_neg (by omega), mPush_R, if_neg (by rw [mPush_N]; omega), mPush_R, if_neg (by omega)]
  have r2 : mR t6 (mN v) 2 = some a2 := by rw [ht6, setR_R, if_pos ⟨rfl, rfl⟩]
  have r1 : mR t6 (mN v) 1 = some a1 := by rw [ht6, setR_R, if_neg (by omega), setR_R, if_pos ⟨rfl, rfl⟩]
  have r0 : mR t6 (mN v) 0 = some a0 := by rw [ht6, setR_R, if_neg (by omega), setR_R, if_neg (by omega), setR_R, if_pos ⟨rfl, rfl⟩]
  have r3 : mR t6 (mN v) 3 = some (mN v + 1) := by rw [ht6, setR_R, if_neg (by omega), setR_R, if_neg (by omega), setR_R, if_neg (by omega), setR_R, if_pos ⟨rfl, rfl⟩]
  have eN : mN t6 = mN v + 2 := by rw [ht6]; rfl
  have eZ : mZ t6 = mZ v + 166 := by rw [ht6]; show mZ v + 6 + 160 = _; omega
  have head : fTx_init (mPush v 8 0 6) (mN v) a0 a1 a2 = fTx_init_l34 (fun t u0 u4 => fTx_init_72 t u0 u4) 1000000 t6 (mN v) a0 0 (nI 0) := by
    have q0 : (mT (mPush (mPush v 8 0 6) 20 160 160) (mN v)).1 = 8 := by rw [mPush_T, if_neg (by rw [mPush_N]; omega), mPush_T, if_pos rfl]
    rw [ht6]
    unfold fTx_init hNewA
    rw [if_pos (by decide)]
    have c160 : (160 : Int32).toNatClampNeg = 160 := rfl
    rw [c160]
    simp only [hPutR, setR_T, q0, if_true]
    rfl
  rw [head]
  refine for_up (β := Int32) (fun f t i b => fTx_init_l34 (fun t u0 u4 => fTx_init_72 t u0 u4) f t (mN v) a0 b (nI i)) (fun r => ∃ w, r = rV w ∧ mN w = mN v + 2 ∧ mZ w = mZ v + 166 ∧ mT w = (fun k => if k = mN v + 1 then (20, 160) else if k = mN v then (8, 0) else mT v k) ∧ (∀ k, k < mN v → mR w k = mR v k ∧ mI w k = mI v k) ∧ (mR w (mN v) 0 = some a0 ∧ mR w (mN v) 1 = some a1 ∧ mR w (mN v) 2 = some a2 ∧ mR w (mN v) 3 = some (mN v + 1)) ∧ ∀ a, a < 16 → bt (mI w (mN v) 5) a = fq D a) 16
    (fun i u b => C2 (mN v) (mN v + 1) t6 u ∧ b = orf (fq D) i) ?_ ?_ 16 0 t6 0 1000000 (by decide) ⟨⟨rfl, fun _ _ _ _ => rfl⟩, rfl⟩ (by decide)
  · intro f u b ⟨cu, hb⟩
    have tu : (mT u (mN v)).1 = 8 := by rw [cu.T, eT]; simp
    refine ⟨setI u (mN v) 5 b, ?_, ?_, ?_, ?_, fun k hk => ⟨?_, ?_⟩, ⟨?_, ?_, ?_, ?_⟩, fun a ha => ?_⟩
    · show fTx_init_34 _ _ u (mN v) a0 b (nI 16) = _
      unfold fTx_init_34
      rw [if_pos (show (16 : Int32) ≤ nI 16 from Int32.le_refl _)]
      exact if_pos tu
    · rw [setI_N]; show (u.2).2.2.1 = _; rw [cu.1]; exact eN
    · rw [setI_Z]; show (u.2).2.2.2 = _; rw [cu.1]; exact eZ
    · rw [setI_T, cu.T, eT]
    · rw [setI_R, cu.R, eR k hk]
    · rw [setI_ne (by omega), ← eI k hk]; exact funext fun j => cu.2 k j (by omega) (by omega)
    · rw [setI_R, cu.R]; exact r0
    · rw [setI_R, cu.R]; exact r1
    · rw [setI_R, cu.R]; exact r2
    · rw [setI_R, cu.R]; exact r3
    · rw [setI_eq rfl rfl, hb, bt_orf _ 16 (by decide) a (by omega), decide_eq_true ha]; rfl
  · intro f u i b hi ⟨cu, hb⟩ ih
    have tu : (mT u (mN v)).1 = 8 := by rw [cu.T, eT]; simp
    have tq : mT u (mN v + 1) = (20, 160) := by rw [cu.T, eT]; simp
    have ta : mT u a0 = (20, D.length) := by rw [cu.T, eT]; show (if _ then _ else _) = _; rw [if_neg (by omega), if_neg (by omega)]; exact hT
    obtain ⟨u2, e2, c2⟩ := fTx_valueOf_v (t := u) tu (by rw [cu.R]; exact r3) tq (by omega) (show a0 ≠ mN v + 1 by omega) (show a0 ≠ mN v by omega) D ta hl (fun k hk => ⟨(hD k hk).1, by rw [cu.2 a0 k (by omega) (by omega), eI a0 ha]; exact (hD k hk).2⟩) hdp (nI i) 0 0
    show ∃ w, fTx_init_34 _ _ u (mN v) a0 b (nI i) = _ ∧ _
    unfold fTx_init_34
    rw [if_neg (show ¬ (16 : Int32) ≤ nI i from nI_ge (b := 16) hi (by decide)), hRecv, if_pos tu, e2, bI_rI, nI_1, or_0]
    by_cases c : evn (nms (nI i) 0 0) D = 0
    · rw [if_pos c]
      refine ih u2 b ⟨cu.tr c2, ?_⟩
      rw [hb]
      show _ = (if fq D i = true then _ else orf (fq D) i)
      rw [if_neg]
      unfold fq; simp [c]
    · rw [if_neg c]
      refine ih u2 _ ⟨cu.tr c2, ?_⟩
      rw [hb]
      show _ = (if fq D i = true then orf (fq D) i ||| ((1 : Int32) <<< (nI i &&& 31)) else orf (fq D) i)
      rw [if_pos]
      unfold fq; simp [c]
/-- a whole text, for the model: its codes, where each E begins -/
def tX (B : Nat → Nat) (p : Nat) : Nat → Nat → Nat → List Nat → List Nat → Sum Nat (List Nat × List Nat)
  | 0, _, a, O, S => if tC B p a = 256 then .inr (O, S ++ [O.length]) else .inl (tB B p a)
  | k + 1, e, a, O, S => match tP B p e a O with
    | .inl b => .inl b
    | .inr r => tX B p k (e + 1) r.1 r.2 (S ++ [O.length])
theorem tX_l {B : Nat → Nat} {k e : Nat} {O S : List Nat} (h : ∀ O, tP B p e a O = .inl b) : tX B p (k + 1) e a O S = .inl b := by
  unfold tX; rw [h O]
theorem tX_r {B : Nat → Nat} {k e a' : Nat} {O S D : List Nat} (h : ∀ O, tP B p e a O = .inr (a', O ++ D)) : tX B p (k + 1) e a O S = tX B p k (e + 1) a' (O ++ D) (S ++ [O.length]) := by
  conv => lhs; unfold tX
  rw [h O]
theorem GW.bt (h : Lay t) (c : GW t w) : Bt (pm w) = Bt (pm t) := Bt_cg (grow_row c.2.1 (fun k hk j hj => c.2.2.2 k hk j (by
  cases e : PC k j
  · rfl
  · rw [PC_s k j e] at hj; exact absurd hj (by decide))) (by have := h.1; omega))
def Dz (D0 D1 D2 : List Nat) (e : Nat) : List Nat := if e = 0 then D0 else if e = 1 then D1 else D2
/-- a text that was made -/
def TXo (t w : SM) (D0 D1 D2 : List Nat) : Prop := mN w = mN t + 5 ∧ (∀ e, e < 3 → mT w (mN t + e) = (20, (Dz D0 D1 D2 e).length) ∧ (∀ k, k < (Dz D0 D1 D2 e).length → mI w (mN t + e) k = trn ((Dz D0 D1 D2 e).getD k 0)) ∧ Wf (Dz D0 D1 D2 e) ∧ mR w (mN t + 3) e = some (mN t + e)) ∧ mT w (mN t + 3) = (8, 0) ∧ mT w (mN t + 4) = (20, 160) ∧ mR w (mN t + 3) 3 = some (mN t + 4) ∧ D0.length + D1.length + D2.length ≤ 160 ∧ ∀ a, a < 16 → bt (mI w (mN t + 3) 5) a = fq D0 a
theorem Wf.dp {D : List Nat} (h : Wf D) : dpt D 0 = some 1 := by
  have := h.2 0 []
  rw [List.append_nil] at this
  rw [this]; rfl
theorem Wf.at {D : List Nat} (h : Wf D) {k : Nat} (hk : k < D.length) : vcd (D.getD k 0) := by
  rw [List.getD_eq_getElem?_getD, List.getElem?_eq_getElem hk]
  exact h.1 _ (List.getElem_mem hk)
end
