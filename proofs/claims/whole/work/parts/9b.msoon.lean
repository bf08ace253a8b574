section
variable {n m s g x p : Nat} {t0 t u : SM}
/-- what the sweeps leave -/
def Tru (G : GG) (s : Nat) (L : List Nat) (e : Nat) (W : Nat → NN) : Prop := (∀ S q, W S q ≤ 1000000) ∧ ∀ S q, 1 ≤ S → S < 2 ^ L.length → q < 6 → nt (EL G s L) L.length S q → W S q = CL G s L e S q
theorem findsWorst_v {e : Nat} {L : List Nat} (h : Inv n m s g x p u) (hf : FdM L u) (hl : L.length ≤ 7) (hl1 : 1 ≤ L.length) (he : e < 6) :
    ∃ u', fm_findsWorst u (nI e) = rV u' ∧ FS [65] u u' ∧ ∃ W, RW 65 u' W (2 ^ L.length) ∧ Tru (pm u) s L e W := by
  have hrg := h.rng
  have h7 : 2 ^ L.length ≤ 2 ^ 7 := Nat.pow_le_pow_right (by decide) hl
  have hE := EL_eqv (pm u) s L
  have hv := SV.of h
  have hs : s ≤ 12 := by omega
  refine for_up (β := Unit) (fun f w k _ => fm_findsWorst_l2 (fun t u1 => fm_findsWorst_36 t u1) f w (nI e) (nI k)) (fun r => ∃ u', r = rV u' ∧ FS [65] u u' ∧ ∃ W, RW 65 u' W (2 ^ L.length) ∧ Tru (pm u) s L e W) 768
    (fun k w _ => FS [65] u w ∧ ∀ j, j < k → mI w 65 j = nI (if j / 128 = e then 0 else 1000000)) ?_ ?_ 768 0 u () 1000000 (by omega) ⟨FS.refl _ _, fun j hj => by omega⟩ (by omega)
  · intro f w _ ⟨fw, hw⟩
    have hi := h.fr fw.1
    have hfw := hf.fr fw
    show ∃ u', fm_findsWorst_2 _ _ w (nI e) (nI 768) = _ ∧ _
    unfold fm_findsWorst_2
    rw [if_pos (show (768 : Int32) ≤ nI 768 from Int32.le_refl _)]
    have r0 : RW 65 w (W00 e) (2 ^ L.length) := by
      intro S q a b c
      rw [hw (128 * q + S) (by omega)]
      unfold W00
      rw [show (128 * q + S) / 128 = q by omega]
    refine for_up (β := Bool) (fun f w k b => fm_findsWorst_l38 f w (nI e) (bz b)) (fun r => ∃ u', r = rV u' ∧ FS [65] u u' ∧ ∃ W, RW 65 u' W (2 ^ L.length) ∧ Tru (pm u) s L e W) 99795
      (fun k w b => FS [65] u w ∧ ∃ W, RW 65 w W (2 ^ L.length) ∧ (∀ S q, W S q ≤ 1000000) ∧ AbG (pm u) (oL (pm u) L) s (EL (pm u) s L) L.length e k W ∧ (b = false → swP (pm u) (oL (pm u) L) s (EL (pm u) s L) L.length e W 6 = W) ∧ (b = true → k = 0 ∨ ∃ Wp, AbG (pm u) (oL (pm u) L) s (EL (pm u) s L) L.length e (k - 1) Wp ∧ Chg (EL (pm u) s L) L.length Wp W)) ?_ ?_ 99795 0 w true 1000000 (by omega)
      ⟨fw, W00 e, r0, fun S q => by unfold W00; split <;> omega, AbG_0 hE hl hv hs, fun c => absurd c (by decide), fun _ => Or.inl rfl⟩ (by omega)
    · intro f w b ⟨fw, W, rw1, hW, hA, _, hb2⟩
      have hall : ∀ S q, 1 ≤ S → S < 2 ^ L.length → q < 6 → nt (EL (pm u) s L) L.length S q → W S q = CL (pm u) s L e S q := fun S q a b c d => AbG_all hE hl hv hs hA (by omega) a b c d
      cases b
      · refine ⟨w, ?_, fw, W, rw1, hW, hall⟩
        show fm_findsWorst_38 _ w (nI e) 0 = _
        unfold fm_findsWorst_38
        rw [if_pos rfl]
      · exfalso
        rcases hb2 rfl with c | ⟨Wp, hp, S, q, a1, a2, a3, a4, a5⟩
        · omega
        · have := AbG_all hE hl hv hs hp (by omega) a1 a2 a3 a4
          have := hall S q a1 a2 a3 a4
          unfold CL at this
          omega
    · intro f w k b hk ⟨fw, W, rw1, hW, hA, hb1, _⟩ ih
      have hi := h.fr fw.1
      have hfw := hf.fr fw
      show ∃ u', fm_findsWorst_38 _ w (nI e) (bz b) = _ ∧ _
      unfold fm_findsWorst_38
      simp only [bz_0]
      cases b
      · rw [if_pos rfl]
        refine ⟨w, rfl, fw, W, rw1, hW, fun S q a b c d => ?_⟩
        exact AbG_all hE hl hv hs (AbG_fix hE hl hv hs hA (hb1 rfl) 99793) (by omega) a b c d
      · rw [if_neg (by decide)]
        obtain ⟨w2, b2, e2, f2, r2, g2⟩ := sweep_v hi hfw hl hl1 he rw1 hW (fun t u1 u2 => fm_findsWorst_121 (fm_findsWorst_l38 f) t u1 u2)
        rw [fw.1.2] at r2 g2
        rw [e2]
        have hA2 := AbG_s hE hl hv hs hA
        refine ih w2 b2 ⟨fw.tr f2, _, r2, fun S q => Nat.le_trans (swP_le _ _ _ _) (hW S q), hA2, fun c => ?_, fun c => Or.inr ⟨W, hA, g2.2.1 c⟩⟩
        have e3 := g2.1 c
        rw [e3, e3]
  · intro f w k _ hk ⟨fw, hw⟩ ih
    have hi := h.fr fw.1
    have e1 : nI k / 128 = nI (k / 128) := pk_div (show k < 2 ^ 31 by omega) (by decide) (by decide)
    have e2 : (nI (k / 128) = nI e) = (k / 128 = e) := propext (nI_eq (by omega) (by omega))
    show ∃ u', fm_findsWorst_2 _ _ w (nI e) (nI k) = _ ∧ _
    unfold fm_findsWorst_2
    rw [if_neg (show ¬ (768 : Int32) ≤ nI k from nI_ge (b := 768) hk (by decide))]
    simp only [gI_39, pI_39, rc_39, al_40, as_40, ln_40, al_41, as_41, ln_41, al_42, as_42, ln_42, al_43, as_43, ln_43, al_44, as_44, ln_44, al_45, as_45, ln_45, al_46, as_46, ln_46, al_47, as_47, ln_47, al_48, as_48, ln_48, al_49, as_49, ln_49, al_50, as_50, ln_50, al_51, as_51, ln_51, al_52, as_52, ln_52, al_53, as_53, ln_53, al_54, as_54, ln_54, al_55, as_55, ln_55, al_56, as_56, ln_56, al_57, as_57, ln_57, al_58, as_58, ln_58, al_59, as_59, ln_59, al_60, as_60, ln_60, al_61, as_61, ln_61, al_62, as_62, ln_62, al_63, as_63, ln_63, al_64, as_64, ln_64, al_65, as_65, ln_65, al_66, as_66, ln_66, al_67, as_67, ln_67, gC_39_4, gC_39_5, gC_39_6, gC_39_7, gC_39_8, gC_39_10, gC_39_11, gC_39_12, gC_39_13, gC_39_15, gC_39_16, gC_39_18, gC_39_19, gC_39_27, gC_39_28, gC_39_29, gC_39_30, gC_39_31, gC_39_36, gC_39_37, gC_39_41, gC_39_42, gC_39_43, gC_39_44, gC_39_46, gC_39_47, gC_39_48, gC_39_49, bI_rI, bV_rV, bQ_rN, bQ_rR, bz_0, bz_1, bz_Z, hZ0, hZ1, Lay_setI, Lay_setA, hi.lay, e1, e2, hk, nI_1]
    have nx : ∀ z, z = nI (if k / 128 = e then 0 else 1000000) → ∃ u', fm_findsWorst_l2 (fun t u1 => fm_findsWorst_36 t u1) f (setI w 65 k z) (nI e) (nI (k + 1)) = rV u' ∧ FS [65] u u' ∧ ∃ W, RW 65 u' W (2 ^ L.length) ∧ Tru (pm u) s L e W := by
      intro z hz
      refine ih _ () ⟨fw.st rfl (by decide), fun j hj => ?_⟩
      rw [setI_I]
      by_cases c : j = k
      · subst c; rw [if_pos ⟨rfl, rfl⟩]; exact hz
      · rw [if_neg (fun a => c a.2)]; exact hw j (by omega)
    by_cases c : k / 128 = e
    · rw [if_pos c]; exact nx 0 (by rw [if_pos c]; rfl)
    · rw [if_neg c]; exact nx 1000000 (by rw [if_neg c]; rfl)
theorem Tru.mx {G : GG} {e : Nat} {L : List Nat} {W : Nat → NN} (h : Tru G s L e W) (hl : L.length ≤ 7) {S q : Nat} (hS : S < 2 ^ L.length) (h1 : 1 ≤ S) (hq : q < 6) : Mx (EL G s L) L.length W S q = CL G s L e S q := by
  have hE := EL_eqv G s L
  unfold CL
  rw [← CW_all hE hl hS h1]
  exact wmax_cg L.length (fun w _ hw => by
    obtain ⟨a, b, c⟩ := nt_part (p := q) hE hl hS hw
    exact h.2 _ _ a b hq c)
theorem mq_soon (h : Inv n m s g x p t) (a : Int32) : QQ t (fm_soon t a) (s_soon n m s (pm t) a) := by
  have hr := h.rng
  have hpw := pw_lt (n := n) (by omega)
  have hlw := WL_le (m := m) (show n ≤ 9 by omega) (pm t) (evB m)
  unfold s_soon
  simp only [fm_soon, fm_areTwo_v, gI_39, pI_39, rc_39, al_40, as_40, ln_40, al_41, as_41, ln_41, al_42, as_42, ln_42, al_43, as_43, ln_43, al_44, as_44, ln_44, al_45, as_45, ln_45, al_46, as_46, ln_46, al_47, as_47, ln_47, al_48, as_48, ln_48, al_49, as_49, ln_49, al_50, as_50, ln_50, al_51, as_51, ln_51, al_52, as_52, ln_52, al_53, as_53, ln_53, al_54, as_54, ln_54, al_55, as_55, ln_55, al_56, as_56, ln_56, al_57, as_57, ln_57, al_58, as_58, ln_58, al_59, as_59, ln_59, al_60, as_60, ln_60, al_61, as_61, ln_61, al_62, as_62, ln_62, al_63, as_63, ln_63, al_64, as_64, ln_64, al_65, as_65, ln_65, al_66, as_66, ln_66, al_67, as_67, ln_67, gC_39_4, gC_39_5, gC_39_6, gC_39_7, gC_39_8, gC_39_10, gC_39_11, gC_39_12, gC_39_13, gC_39_15, gC_39_16, gC_39_18, gC_39_19, gC_39_27, gC_39_28, gC_39_29, gC_39_30, gC_39_31, gC_39_36, gC_39_37, gC_39_41, gC_39_42, gC_39_43, gC_39_44, gC_39_46, gC_39_47, gC_39_48, gC_39_49, bI_rI, bV_rV, bQ_rN, bQ_rR, bz_0, bz_1, bz_Z, hZ0, hZ1, Lay_setI, Lay_setA, h.lay]
  cases ca : twB a
  · simp only [if_true]; exact QQ.pure rfl
  · obtain ⟨i, j, hi, hj, rfl⟩ := twB_t ca
    obtain ⟨u, eu, fu, _, gu⟩ := fm_findsWorlds_v h
    have hu := h.fr fu.1
    simp only [Bool.true_eq_false, if_false, if_true, gI_39, pI_39, rc_39, al_40, as_40, ln_40, al_41, as_41, ln_41, al_42, as_42, ln_42, al_43, as_43, ln_43, al_44, as_44, ln_44, al_45, as_45, ln_45, al_46, as_46, ln_46, al_47, as_47, ln_47, al_48, as_48, ln_48, al_49, as_49, ln_49, al_50, as_50, ln_50, al_51, as_51, ln_51, al_52, as_52, ln_52, al_53, as_53, ln_53, al_54, as_54, ln_54, al_55, as_55, ln_55, al_56, as_56, ln_56, al_57, as_57, ln_57, al_58, as_58, ln_58, al_59, as_59, ln_59, al_60, as_60, ln_60, al_61, as_61, ln_61, al_62, as_62, ln_62, al_63, as_63, ln_63, al_64, as_64, ln_64, al_65, as_65, ln_65, al_66, as_66, ln_66, al_67, as_67, ln_67, gC_39_4, gC_39_5, gC_39_6, gC_39_7, gC_39_8, gC_39_10, gC_39_11, gC_39_12, gC_39_13, gC_39_15, gC_39_16, gC_39_18, gC_39_19, gC_39_27, gC_39_28, gC_39_29, gC_39_30, gC_39_31, gC_39_36, gC_39_37, gC_39_41, gC_39_42, gC_39_43, gC_39_44, gC_39_46, gC_39_47, gC_39_48, gC_39_49, bI_rI, bV_rV, bQ_rN, bQ_rR, bz_0, bz_1, bz_Z, hZ0, hZ1, Lay_setI, Lay_setA, eu, hu.lay, gu.1, fm_in_v, in_few hlw]
    cases c : few (WL n m (pm t) (evB m))
    · simp only [if_true]; exact ⟨u, rfl, fu.1⟩
    · obtain ⟨c1, c2⟩ := few_t c
      obtain ⟨hf1, hf2⟩ := full_f c1
      have h7 : 2 ^ (WL n m (pm t) (evB m)).length ≤ 2 ^ 7 := Nat.pow_le_pow_right (by decide) c2
      obtain ⟨u2, e2, f2, W, r2, ht⟩ := findsWorst_v hu gu c2 c1 hj
      have hu2 := hu.fr f2.1
      have gu2 := gu.fr f2
      have lv := longest_v hu2 gu2 c2 hf2 hi r2 ht.1
      rw [f2.1.2, ht.mx c2 hf2 hf1 hi] at lv
      have hmil := CW_mil (G := pm u) (o := oL (pm u) (WL n m (pm t) (evB m))) (e := j) (EL_eqv (pm u) s (WL n m (pm t) (evB m))) c2 (SV.of hu) (by omega) hf2 hf1 i
      obtain ⟨tg, ts⟩ := two_ab hi hj
      have em : nI (2 ^ (WL n m (pm t) (evB m)).length) - 1 = nI (full (WL n m (pm t) (evB m))) := pk_sub (b := 1) (by omega)
      simp only [Bool.true_eq_false, if_false, if_true, gI_39, pI_39, rc_39, al_40, as_40, ln_40, al_41, as_41, ln_41, al_42, as_42, ln_42, al_43, as_43, ln_43, al_44, as_44, ln_44, al_45, as_45, ln_45, al_46, as_46, ln_46, al_47, as_47, ln_47, al_48, as_48, ln_48, al_49, as_49, ln_49, al_50, as_50, ln_50, al_51, as_51, ln_51, al_52, as_52, ln_52, al_53, as_53, ln_53, al_54, as_54, ln_54, al_55, as_55, ln_55, al_56, as_56, ln_56, al_57, as_57, ln_57, al_58, as_58, ln_58, al_59, as_59, ln_59, al_60, as_60, ln_60, al_61, as_61, ln_61, al_62, as_62, ln_62, al_63, as_63, ln_63, al_64, as_64, ln_64, al_65, as_65, ln_65, al_66, as_66, ln_66, al_67, as_67, ln_67, gC_39_4, gC_39_5, gC_39_6, gC_39_7, gC_39_8, gC_39_10, gC_39_11, gC_39_12, gC_39_13, gC_39_15, gC_39_16, gC_39_18, gC_39_19, gC_39_27, gC_39_28, gC_39_29, gC_39_30, gC_39_31, gC_39_36, gC_39_37, gC_39_41, gC_39_42, gC_39_43, gC_39_44, gC_39_46, gC_39_47, gC_39_48, gC_39_49, bI_rI, bV_rV, bQ_rN, bQ_rR, bz_0, bz_1, bz_Z, hZ0, hZ1, Lay_setI, Lay_setA, tw_div i hi j hj, tw_rem i hi j hj, hu.lay, e2, hu2.lay, gu2.1, b_pow (WL n m (pm t) (evB m)).length (show (WL n m (pm t) (evB m)).length < 31 by omega), em, lv, lt_mil hmil, tg, ts]
      refine ⟨u2, ?_, fu.1.trans f2.1⟩
      unfold soonV wyv
      rw [show pm u = pm t from fu.1.2]
      split <;> rfl
theorem ok_soon (h : Inv n m s g x p t) (a : Int32) : Okk t (fun t => fx_soon t a) (fun t => fm_soon t a) := okq h (xq_soon h a) (fun u hu e => e ▸ mq_soon hu a)
/-- the last place of a town among worlds, all unlike: the only one -/
def lstP (L : List Nat) (w : Nat) (k : Nat) : Int32 := fo (fun v a => if L.getD v 0 = w then nI v else a) (-1) k
theorem lstP_plc {L : List Nat} {w : Nat} (hd : L.Nodup) : lstP L w L.length = plc L w := by
  rcases plc_or L w with ⟨p1, p2⟩ | ⟨k, hk, he, p1⟩
  · rw [p1]
    have : ∀ j, j ≤ L.length → lstP L w j = -1 := by
      intro j
      induction j with
      | zero => intro _; rfl
      | succ j ih =>
        intro hj
        show (if L.getD j 0 = w then nI j else lstP L w j) = -1
        rw [if_neg (p2 j (by omega))]; exact ih (by omega)
    exact this _ (Nat.le_refl _)
  · rw [p1]
    have : ∀ j, k < j → j ≤ L.length → lstP L w j = nI k := by
      intro j
      induction j with
      | zero => intro h; omega
      | succ j ih =>
        intro h1 h2
        show (if L.getD j 0 = w then nI j else lstP L w j) = nI k
        by_cases c : L.getD j 0 = w
        · rw [if_pos c]
          have := (List.getD_inj (fallback := 0) (show j < L.length by omega) hk hd).mp (c.trans he.symm)
          rw [this]
        · rw [if_neg c]
          by_cases d : k < j
          · exact ih d (by omega)
          · obtain rfl : j = k := by omega
            exact absurd he c
    exact this _ hk (Nat.le_refl _)
theorem step134_v {a e w S k : Nat} {L : List Nat} {W : Nat → NN} (h : Inv n m s g x p u) (hf : FdM L u) (hl : L.length ≤ 7) (ha : a < 6) (he : e < 6) (hS : S < 2 ^ L.length) (h1 : 1 ≤ S) (hr : RW 65 u W (2 ^ L.length)) (ht : Tru (pm u) s L e W) (hae : a ≠ e) (hm : CL (pm u) s L e S a < 1000000) (o : Nat → Bool) (ho : ∀ i, i < s → opn (pm u) (nI w) i = o i) :
    fm_step_l134 1000000 u (nI (10 * a + e)) (nI w) (nI a) (nI S) (nI (CL (pm u) s L e S a)) 0 = rI (fst (fsq (pm u) o (CL (pm u) s L e S) a (CL (pm u) s L e S a)) s 0) u := by
  have hrg := h.rng
  have eae : ¬ nI a = nI e := fun c => hae ((nI_eq (by omega) (by omega)).mp c)
  have em : ¬ (1000000 : Int32) ≤ nI (CL (pm u) s L e S a) := nI_ge (b := 1000000) hm (by decide)
  have key : ∀ d i f, i + d = s → d < f → fm_step_l134 f u (nI (10 * a + e)) (nI w) (nI a) (nI S) (nI (CL (pm u) s L e S a)) (nI i) = rI (fst (fsq (pm u) o (CL (pm u) s L e S) a (CL (pm u) s L e S a)) d i) u := by
    intro d
    induction d with
    | zero =>
      intro i f hk hf2
      obtain ⟨f, rfl⟩ : ∃ f', f = f' + 1 := ⟨f - 1, by omega⟩
      obtain rfl : i = s := by omega
      have e1 : nI i ≤ nI i := Int32.le_refl _
      show fm_step_134 _ u _ (nI w) (nI a) (nI S) _ (nI i) = _
      simp only [fm_step_134, gI_39, pI_39, rc_39, al_40, as_40, ln_40, al_41, as_41, ln_41, al_42, as_42, ln_42, al_43, as_43, ln_43, al_44, as_44, ln_44, al_45, as_45, ln_45, al_46, as_46, ln_46, al_47, as_47, ln_47, al_48, as_48, ln_48, al_49, as_49, ln_49, al_50, as_50, ln_50, al_51, as_51, ln_51, al_52, as_52, ln_52, al_53, as_53, ln_53, al_54, as_54, ln_54, al_55, as_55, ln_55, al_56, as_56, ln_56, al_57, as_57, ln_57, al_58, as_58, ln_58, al_59, as_59, ln_59, al_60, as_60, ln_60, al_61, as_61, ln_61, al_62, as_62, ln_62, al_63, as_63, ln_63, al_64, as_64, ln_64, al_65, as_65, ln_65, al_66, as_66, ln_66, al_67, as_67, ln_67, gC_39_4, gC_39_5, gC_39_6, gC_39_7, gC_39_8, gC_39_10, gC_39_11, gC_39_12, gC_39_13, gC_39_15, gC_39_16, gC_39_18, gC_39_19, gC_39_27, gC_39_28, gC_39_29, gC_39_30, gC_39_31, gC_39_36, gC_39_37, gC_39_41, gC_39_42, gC_39_43, gC_39_44, gC_39_46, gC_39_47, gC_39_48, gC_39_49, bI_rI, bV_rV, bQ_rN, bQ_rR, bz_0, bz_1, bz_Z, hZ0, hZ1, Lay_setI, Lay_setA, h.lay, h.st, e1, if_true]; rfl
    | succ d ih =>
      intro i f hk hf2
      obtain ⟨f, rfl⟩ : ∃ f', f = f' + 1 := ⟨f - 1, by omega⟩
      have hi : i < s := by omega
      have e9 : ¬ nI s ≤ nI i := nI_ge hi (by omega)
      have hoe := ote_lt (SV.of h) hi a
      have bsv := byStreet_v h hf hl hS ha hi hr ht.1
      have mxo := ht.mx hl hS h1 hoe
      have bl : byv (pm u) (EL (pm u) s L) L.length W S a i ≤ 1000000 := by unfold byv; split <;> omega
      have e2 : (nI (byv (pm u) (EL (pm u) s L) L.length W S a i) = nI (CL (pm u) s L e S a)) = (sk (pm u) i + CL (pm u) s L e S (ote (pm u) i a) = CL (pm u) s L e S a) := by
        rw [show (nI (byv (pm u) (EL (pm u) s L) L.length W S a i) = nI (CL (pm u) s L e S a)) = (byv (pm u) (EL (pm u) s L) L.length W S a i = CL (pm u) s L e S a) from propext (nI_eq (by omega) (by omega))]
        unfold byv
        rw [mxo]
        apply propext
        split
        · constructor <;> intro c <;> omega
        · exact Iff.rfl
      show fm_step_134 _ u (nI (10 * a + e)) (nI w) (nI a) (nI S) _ (nI i) = rI (if fsq (pm u) o (CL (pm u) s L e S) a (CL (pm u) s L e S a) i = true then nI i else fst (fsq (pm u) o (CL (pm u) s L e S) a (CL (pm u) s L e S a)) d (i + 1)) u
      simp only [fm_step_134, gI_39, pI_39, rc_39, al_40, as_40, ln_40, al_41, as_41, ln_41, al_42, as_42, ln_42, al_43, as_43, ln_43, al_44, as_44, ln_44, al_45, as_45, ln_45, al_46, as_46, ln_46, al_47, as_47, ln_47, al_48, as_48, ln_48, al_49, as_49, ln_49, al_50, as_50, ln_50, al_51, as_51, ln_51, al_52, as_52, ln_52, al_53, as_53, ln_53, al_54, as_54, ln_54, al_55, as_55, ln_55, al_56, as_56, ln_56, al_57, as_57, ln_57, al_58, as_58, ln_58, al_59, as_59, ln_59, al_60, as_60, ln_60, al_61, as_61, ln_61, al_62, as_62, ln_62, al_63, as_63, ln_63, al_64, as_64, ln_64, al_65, as_65, ln_65, al_66, as_66, ln_66, al_67, as_67, ln_67, gC_39_4, gC_39_5, gC_39_6, gC_39_7, gC_39_8, gC_39_10, gC_39_11, gC_39_12, gC_39_13, gC_39_15, gC_39_16, gC_39_18, gC_39_19, gC_39_27, gC_39_28, gC_39_29, gC_39_30, gC_39_31, gC_39_36, gC_39_37, gC_39_41, gC_39_42, gC_39_43, gC_39_44, gC_39_46, gC_39_47, gC_39_48, gC_39_49, bI_rI, bV_rV, bQ_rN, bQ_rR, bz_0, bz_1, bz_Z, hZ0, hZ1, Lay_setI, Lay_setA, h.lay, h.st, e9, if_false, tw_div a ha e he, tw_rem a ha e he, eae, em, endsAt_t h hi ha, fm_isOpen_v h hi, ho i hi, bsv, e2, nI_1, ih (i + 1) f (by omega) (by omega)]
      unfold fsq
      cases tch (pm u) i a
      · simp
      · cases o i
        · simp
        · by_cases c3 : sk (pm u) i + CL (pm u) s L e S (ote (pm u) i a) = CL (pm u) s L e S a
          · simp [c3]
          · simp [c3]
  exact key s 0 1000000 (by omega) (by omega)
theorem step134_no {a e w S : Nat} {v : Int32} (h : Inv n m s g x p u) (ha : a < 6) (he : e < 6) (hc : a = e ∨ (1000000 : Int32) ≤ v) (X : Int32) :
    fm_step_l134 1000000 u (nI (10 * a + e)) (nI w) (nI a) X v 0 = rI (-1) u := by
  show fm_step_134 _ u (nI (10 * a + e)) (nI w) (nI a) X v 0 = _
  simp only [fm_step_134, gI_39, pI_39, rc_39, al_40, as_40, ln_40, al_41, as_41, ln_41, al_42, as_42, ln_42, al_43, as_43, ln_43, al_44, as_44, ln_44, al_45, as_45, ln_45, al_46, as_46, ln_46, al_47, as_47, ln_47, al_48, as_48, ln_48, al_49, as_49, ln_49, al_50, as_50, ln_50, al_51, as_51, ln_51, al_52, as_52, ln_52, al_53, as_53, ln_53, al_54, as_54, ln_54, al_55, as_55, ln_55, al_56, as_56, ln_56, al_57, as_57, ln_57, al_58, as_58, ln_58, al_59, as_59, ln_59, al_60, as_60, ln_60, al_61, as_61, ln_61, al_62, as_62, ln_62, al_63, as_63, ln_63, al_64, as_64, ln_64, al_65, as_65, ln_65, al_66, as_66, ln_66, al_67, as_67, ln_67, gC_39_4, gC_39_5, gC_39_6, gC_39_7, gC_39_8, gC_39_10, gC_39_11, gC_39_12, gC_39_13, gC_39_15, gC_39_16, gC_39_18, gC_39_19, gC_39_27, gC_39_28, gC_39_29, gC_39_30, gC_39_31, gC_39_36, gC_39_37, gC_39_41, gC_39_42, gC_39_43, gC_39_44, gC_39_46, gC_39_47, gC_39_48, gC_39_49, bI_rI, bV_rV, bQ_rN, bQ_rR, bz_0, bz_1, bz_Z, hZ0, hZ1, Lay_setI, Lay_setA, h.lay, h.st, tw_div a ha e he, tw_rem a ha e he]
  by_cases c1 : nI s ≤ 0
  · rw [if_pos c1]
  · rw [if_neg c1]
    rcases hc with rfl | hc
    · rw [if_pos rfl]
    · by_cases c2 : nI a = nI e
      · rw [if_pos c2]
      · rw [if_neg c2, if_pos hc]
theorem mq_step (h : Inv n m s g x p t) (a b : Int32) : QQ t (fm_step t a b) (s_step n m s (pm t) a b) := by
  have hr := h.rng
  have hpw := pw_lt (n := n) (by omega)
  have hlw := WL_le (m := m) (show n ≤ 9 by omega) (pm t) (evB m)
  unfold s_step
  simp only [fm_step, fm_areTwo_v, gI_39, pI_39, rc_39, al_40, as_40, ln_40, al_41, as_41, ln_41, al_42, as_42, ln_42, al_43, as_43, ln_43, al_44, as_44, ln_44, al_45, as_45, ln_45, al_46, as_46, ln_46, al_47, as_47, ln_47, al_48, as_48, ln_48, al_49, as_49, ln_49, al_50, as_50, ln_50, al_51, as_51, ln_51, al_52, as_52, ln_52, al_53, as_53, ln_53, al_54, as_54, ln_54, al_55, as_55, ln_55, al_56, as_56, ln_56, al_57, as_57, ln_57, al_58, as_58, ln_58, al_59, as_59, ln_59, al_60, as_60, ln_60, al_61, as_61, ln_61, al_62, as_62, ln_62, al_63, as_63, ln_63, al_64, as_64, ln_64, al_65, as_65, ln_65, al_66, as_66, ln_66, al_67, as_67, ln_67, gC_39_4, gC_39_5, gC_39_6, gC_39_7, gC_39_8, gC_39_10, gC_39_11, gC_39_12, gC_39_13, gC_39_15, gC_39_16, gC_39_18, gC_39_19, gC_39_27, gC_39_28, gC_39_29, gC_39_30, gC_39_31, gC_39_36, gC_39_37, gC_39_41, gC_39_42, gC_39_43, gC_39_44, gC_39_46, gC_39_47, gC_39_48, gC_39_49, bI_rI, bV_rV, bQ_rN, bQ_rR, bz_0, bz_1, bz_Z, hZ0, hZ1, Lay_setI, Lay_setA, h.lay, fm_isTown_v h]
  cases ca : twB a
  · simp only [if_true]; exact QQ.pure rfl
  · obtain ⟨i, j, hi, hj, rfl⟩ := twB_t ca
    simp only [Bool.true_eq_false, if_false, if_true]
    cases cb : inr b (2 ^ n)
    · simp only [if_true]; exact QQ.pure rfl
    · obtain ⟨w, hw, rfl⟩ := inr_t cb (by omega)
      obtain ⟨u, eu, fu, _, gu⟩ := fm_findsWorlds_v h
      have hu := h.fr fu.1
      have hpm : pm u = pm t := fu.1.2
      have hb : ∀ v, v ∈ WL n m (pm t) (evB m) → v < 512 := fun v hv => by have := WL_lt (pm t) (evB m) v hv; omega
      have hnd := WL_nd (n := n) (m := m) (pm t) (evB m)
      obtain ⟨tg, ts⟩ := two_ab hi hj
      simp only [Bool.true_eq_false, if_false, if_true, eu, bV_rV, cN_i (show w < 2 ^ 31 by omega), tg, ts]
      generalize hL : WL n m (pm t) (evB m) = L at *
      have loop : fm_step_l30 (fun t u1 u2 u3 => fm_step_63 t u1 u2 u3) 1000000 u (nI (10 * i + j)) (nI w) (-1) 0 = fm_step_63 u (nI (10 * i + j)) (nI w) (plc L w) := by
        rw [← lstP_plc hnd]
        have := for_fo (fun f v a => fm_step_l30 (fun t u1 u2 u3 => fm_step_63 t u1 u2 u3) f u (nI (10 * i + j)) (nI w) a (nI v)) L.length (fun v a => if L.getD v 0 = w then nI v else a) (fun a => fm_step_63 u (nI (10 * i + j)) (nI w) a)
          (fun f a => by
            have e9 : nI L.length ≤ nI L.length := Int32.le_refl _
            show fm_step_30 _ _ u _ (nI w) a (nI L.length) = _
            simp only [fm_step_30, gI_39, pI_39, rc_39, al_40, as_40, ln_40, al_41, as_41, ln_41, al_42, as_42, ln_42, al_43, as_43, ln_43, al_44, as_44, ln_44, al_45, as_45, ln_45, al_46, as_46, ln_46, al_47, as_47, ln_47, al_48, as_48, ln_48, al_49, as_49, ln_49, al_50, as_50, ln_50, al_51, as_51, ln_51, al_52, as_52, ln_52, al_53, as_53, ln_53, al_54, as_54, ln_54, al_55, as_55, ln_55, al_56, as_56, ln_56, al_57, as_57, ln_57, al_58, as_58, ln_58, al_59, as_59, ln_59, al_60, as_60, ln_60, al_61, as_61, ln_61, al_62, as_62, ln_62, al_63, as_63, ln_63, al_64, as_64, ln_64, al_65, as_65, ln_65, al_66, as_66, ln_66, al_67, as_67, ln_67, gC_39_4, gC_39_5, gC_39_6, gC_39_7, gC_39_8, gC_39_10, gC_39_11, gC_39_12, gC_39_13, gC_39_15, gC_39_16, gC_39_18, gC_39_19, gC_39_27, gC_39_28, gC_39_29, gC_39_30, gC_39_31, gC_39_36, gC_39_37, gC_39_41, gC_39_42, gC_39_43, gC_39_44, gC_39_46, gC_39_47, gC_39_48, gC_39_49, bI_rI, bV_rV, bQ_rN, bQ_rR, bz_0, bz_1, bz_Z, hZ0, hZ1, Lay_setI, Lay_setA, hu.lay, gu.1, e9, if_true])
          (fun f v a hv => by
            have e9 : ¬ nI L.length ≤ nI v := nI_ge hv (by omega)
            have v512 : v < 512 := by omega
            have hv2 := hb _ (getD_mem hv)
            have e2 : (nI (L.getD v 0) = nI w) = (L.getD v 0 = w) := propext (nI_eq (by omega) (by omega))
            show fm_step_30 _ _ u _ (nI w) a (nI v) = _
            simp only [fm_step_30, gI_39, pI_39, rc_39, al_40, as_40, ln_40, al_41, as_41, ln_41, al_42, as_42, ln_42, al_43, as_43, ln_43, al_44, as_44, ln_44, al_45, as_45, ln_45, al_46, as_46, ln_46, al_47, as_47, ln_47, al_48, as_48, ln_48, al_49, as_49, ln_49, al_50, as_50, ln_50, al_51, as_51, ln_51, al_52, as_52, ln_52, al_53, as_53, ln_53, al_54, as_54, ln_54, al_55, as_55, ln_55, al_56, as_56, ln_56, al_57, as_57, ln_57, al_58, as_58, ln_58, al_59, as_59, ln_59, al_60, as_60, ln_60, al_61, as_61, ln_61, al_62, as_62, ln_62, al_63, as_63, ln_63, al_64, as_64, ln_64, al_65, as_65, ln_65, al_66, as_66, ln_66, al_67, as_67, ln_67, gC_39_4, gC_39_5, gC_39_6, gC_39_7, gC_39_8, gC_39_10, gC_39_11, gC_39_12, gC_39_13, gC_39_15, gC_39_16, gC_39_18, gC_39_19, gC_39_27, gC_39_28, gC_39_29, gC_39_30, gC_39_31, gC_39_36, gC_39_37, gC_39_41, gC_39_42, gC_39_43, gC_39_44, gC_39_46, gC_39_47, gC_39_48, gC_39_49, bI_rI, bV_rV, bQ_rN, bQ_rR, bz_0, bz_1, bz_Z, hZ0, hZ1, Lay_setI, Lay_setA, hu.lay, gu.1, e9, if_false, v512, gu.2 v hv, e2, nI_1]
            split <;> rfl)
          (-1) L.length 0 1000000 (by omega) (by omega)
        exact this
      rw [loop]
      simp only [fm_step_63, gI_39, pI_39, rc_39, al_40, as_40, ln_40, al_41, as_41, ln_41, al_42, as_42, ln_42, al_43, as_43, ln_43, al_44, as_44, ln_44, al_45, as_45, ln_45, al_46, as_46, ln_46, al_47, as_47, ln_47, al_48, as_48, ln_48, al_49, as_49, ln_49, al_50, as_50, ln_50, al_51, as_51, ln_51, al_52, as_52, ln_52, al_53, as_53, ln_53, al_54, as_54, ln_54, al_55, as_55, ln_55, al_56, as_56, ln_56, al_57, as_57, ln_57, al_58, as_58, ln_58, al_59, as_59, ln_59, al_60, as_60, ln_60, al_61, as_61, ln_61, al_62, as_62, ln_62, al_63, as_63, ln_63, al_64, as_64, ln_64, al_65, as_65, ln_65, al_66, as_66, ln_66, al_67, as_67, ln_67, gC_39_4, gC_39_5, gC_39_6, gC_39_7, gC_39_8, gC_39_10, gC_39_11, gC_39_12, gC_39_13, gC_39_15, gC_39_16, gC_39_18, gC_39_19, gC_39_27, gC_39_28, gC_39_29, gC_39_30, gC_39_31, gC_39_36, gC_39_37, gC_39_41, gC_39_42, gC_39_43, gC_39_44, gC_39_46, gC_39_47, gC_39_48, gC_39_49, bI_rI, bV_rV, bQ_rN, bQ_rR, bz_0, bz_1, bz_Z, hZ0, hZ1, Lay_setI, Lay_setA, hu.lay, gu.1, fm_in_v, in_few hlw]
      cases c : few L
      · simp only [if_true, Bool.false_eq_true, if_false]; exact ⟨u, rfl, fu.1⟩
      · obtain ⟨c1, c2⟩ := few_t c
        obtain ⟨hf1, hf2⟩ := full_f c1
        have h7 : 2 ^ L.length ≤ 2 ^ 7 := Nat.pow_le_pow_right (by decide) c2
        simp only [if_true, Bool.true_eq_false, if_false]
        rcases plc_or L w with ⟨p1, _⟩ | ⟨k, hk, hkw, p1⟩
        · rw [if_pos p1, if_pos p1]
          exact ⟨u, rfl, fu.1⟩
        · have hne : ¬ plc L w = -1 := by rw [p1]; intro e; have := nI_pos (n := k) (by omega); rw [e] at this; exact this (by decide)
          rw [if_neg hne, if_neg hne, p1, cN_i (show k < 2 ^ 31 by omega)]
          obtain ⟨u2, e2, f2, W, r2, ht⟩ := findsWorst_v hu gu c2 c1 hj
          have hu2 := hu.fr f2.1
          have gu2 := gu.fr f2
          have hfb : (full L).testBit k = true := by rw [full_b, decide_eq_true hk]
          have hE := EL_eqv (pm u2) s L
          have hlo := LK_le (E := EL (pm u2) s L) (S := full L) (w := k) (p := i) c2
          obtain ⟨n1, n2, n3⟩ := nt_part (p := i) hE c2 hf2 hfb
          have lk := like_v (w := k) hu2 gu2 c2 (show full L < 128 by omega) hk hi
          have em : nI (2 ^ L.length) - 1 = nI (full L) := pk_sub (b := 1) (by omega)
          have ht2 : Tru (pm u2) s L j W := by rw [f2.1.2]; exact ht
          have idx : 128 * i + LK (EL (pm u2) s L) L.length (full L) k i < 768 := by omega
          have wv := r2 _ i n1 n2 hi
          rw [ht2.2 _ i n1 n2 hi n3] at wv
          have hmil := CW_mil (G := pm u2) (o := oL (pm u2) L) (e := j) hE c2 (SV.of hu2) (show s ≤ 12 by omega) n2 n1 i
          have hpm2 : pm u2 = pm t := f2.1.2.trans hpm
          simp only [tw_div i hi j hj, tw_rem i hi j hj, hu.lay, gI_39, pI_39, rc_39, al_40, as_40, ln_40, al_41, as_41, ln_41, al_42, as_42, ln_42, al_43, as_43, ln_43, al_44, as_44, ln_44, al_45, as_45, ln_45, al_46, as_46, ln_46, al_47, as_47, ln_47, al_48, as_48, ln_48, al_49, as_49, ln_49, al_50, as_50, ln_50, al_51, as_51, ln_51, al_52, as_52, ln_52, al_53, as_53, ln_53, al_54, as_54, ln_54, al_55, as_55, ln_55, al_56, as_56, ln_56, al_57, as_57, ln_57, al_58, as_58, ln_58, al_59, as_59, ln_59, al_60, as_60, ln_60, al_61, as_61, ln_61, al_62, as_62, ln_62, al_63, as_63, ln_63, al_64, as_64, ln_64, al_65, as_65, ln_65, al_66, as_66, ln_66, al_67, as_67, ln_67, gC_39_4, gC_39_5, gC_39_6, gC_39_7, gC_39_8, gC_39_10, gC_39_11, gC_39_12, gC_39_13, gC_39_15, gC_39_16, gC_39_18, gC_39_19, gC_39_27, gC_39_28, gC_39_29, gC_39_30, gC_39_31, gC_39_36, gC_39_37, gC_39_41, gC_39_42, gC_39_43, gC_39_44, gC_39_46, gC_39_47, gC_39_48, gC_39_49, bI_rI, bV_rV, bQ_rN, bQ_rR, bz_0, bz_1, bz_Z, hZ0, hZ1, Lay_setI, Lay_setA, e2, hu2.lay, gu2.1, b_pow L.length (show L.length < 31 by omega), em, lk, l128, nI_add, idx, wv]
          refine ⟨u2, ?_, fu.1.trans f2.1⟩
          unfold stpV
          rw [← hpm2]
          by_cases ce : i = j
          · rw [if_pos ce]
            exact step134_no (S := 0) hu2 hi hj (Or.inl ce) _
          · rw [if_neg ce]
            by_cases cm : CL (pm u2) s L j (LK (EL (pm u2) s L) L.length (full L) k i) i < 1000000
            · rw [if_pos cm]
              exact step134_v (k := k) hu2 gu2 c2 hi hj n2 n1 r2 ht2 ce cm (oL (pm u2) L k) (fun z _ => by show _ = opn (pm u2) (nI (L.getD k 0)) z; rw [hkw])
            · rw [if_neg cm]
              exact step134_no (S := 0) hu2 hi hj (Or.inr (nI_le (a := 1000000) (Nat.le_of_not_lt cm) (Nat.lt_of_le_of_lt (show CL (pm u2) s L j (LK (EL (pm u2) s L) L.length (full L) k i) i ≤ 1000000 from hmil) (by decide)))) _
theorem ok_step (h : Inv n m s g x p t) (a b : Int32) : Okk t (fun t => fx_step t a b) (fun t => fm_step t a b) := okq h (xq_step h a b) (fun u hu e => e ▸ mq_step hu a b)
end
