section
/-! the world at the law's entry -/
def tmS (i : Nat) : Term := match strJ[i]? with
  | some q => .string q.1 q.2.1
  | none => .int 0
def lenJ : List Nat := bytJ.map List.length
def fC : List Cond := flatC (Jvm.Cond.and given_1 narrow_1)
theorem m_ex : ∀ i, i < 14 → Cond.exactly (tmS i) "java/lang/String" ∈ fC := by decide +kernel
theorem m_co : ∀ i, i < 14 → Cond.eq (.field (tmS i) "java/lang/String" "coder" "B") (.int 0) ∈ fC := by decide +kernel
theorem m_ar : ∀ i, i < 14 → Cond.arrayOf (.field (tmS i) "java/lang/String" "value" "[B") .byte ∈ fC := by decide +kernel
theorem m_le : ∀ i, i < 14 → Cond.eq (.length (.field (tmS i) "java/lang/String" "value" "[B")) (.int (Int32.ofNat (lenJ.getD i 0))) ∈ fC := by decide +kernel
theorem m_el : ∀ i, i < 14 → ∀ j, j < lenJ.getD i 0 → Cond.eq (.elem (.field (tmS i) "java/lang/String" "value" "[B") (.int (Int32.ofNat j))) (.int ((bytJ.getD i []).getD j 0)) ∈ fC := by decide +kernel
def isNe : Cond → Bool
  | .not (.eq _ _) => true
  | _ => false
def prL : List Cond := (List.range 14).flatMap fun j => (List.range j).map fun i => Cond.not (.eq (tmS i) (tmS j))
theorem m_pr : fC.filter isNe = prL := by decide +kernel
theorem m_lt {i j : Nat} (hj : j < 14) (hij : i < j) : Cond.not (.eq (tmS i) (tmS j)) ∈ fC := by
  have h : Cond.not (.eq (tmS i) (tmS j)) ∈ prL := List.mem_flatMap.mpr ⟨j, List.mem_range.mpr hj, List.mem_map.mpr ⟨i, List.mem_range.mpr hij, rfl⟩⟩
  rw [← m_pr] at h
  exact (List.mem_filter.mp h).1
theorem m_ne (i : Nat) (hi : i < 14) (j : Nat) (hj : j < 14) (hij : i ≠ j) : Cond.not (.eq (tmS i) (tmS j)) ∈ fC ∨ Cond.not (.eq (tmS j) (tmS i)) ∈ fC := by
  rcases Nat.lt_or_gt_of_ne hij with h | h
  · exact Or.inl (m_lt hj h)
  · exact Or.inr (m_lt hi h)
theorem m_cs : Cond.eq (.static "java/lang/String" "COMPACT_STRINGS" "Z") (.int 1) ∈ fC := by decide +kernel
theorem m_sf : Cond.isRef (.static "jdk/internal/util/Preconditions" "SIOOBE_FORMATTER" "Ljava/util/function/BiFunction;") ∈ fC := by decide +kernel
theorem m_ln : ∀ i, i < 14 → lenJ.getD i 0 < 2 ^ 31 := by decide +kernel
def nestI : List Nat := [119, 142, 164, 200, 228, 536, 742, 893, 898, 905, 910, 911, 944, 953, 963, 1074, 1076, 1100, 1191, 1209]
theorem m_nest : ∀ i, i < 20 → lw_tbl[nestI.getD i 0]? = nestJ[i]? := by decide +kernel
theorem m_nlen : nestJ.length = 20 := by decide +kernel
theorem m_non : (nestJ.all fun w => w.onTables) = true := by decide +kernel
def strI : List Nat := [270, 345, 346, 347, 348, 349, 350, 351, 352, 353, 354, 355, 356, 378]
def strW (q : String × Nat × String) : Cond := .stringRef q.1 q.2.1 q.2.2
theorem m_str : ∀ i, i < 14 → lw_tbl[strI.getD i 0]? = (strJ[i]?).map strW := by decide +kernel
theorem m_slen : strJ.length = 14 := by decide +kernel
theorem m_u : ∀ i, i < 64 → (UInt32.ofNat i).toNat = i := by decide +kernel
theorem m_w1 : lw_tbl[280]? = some (.laysStatic "java/lang/String" "COMPACT_STRINGS" "Z") := by decide +kernel
theorem m_w2 : lw_tbl[296]? = some (.laysStatic "jdk/internal/util/Preconditions" "SIOOBE_FORMATTER" "Ljava/util/function/BiFunction;") := by decide +kernel
theorem m_w3 : lw_tbl[95]? = some (.initialized "java/lang/String") := by decide +kernel
theorem m_w4 : lw_tbl[97]? = some (.initialized "jdk/internal/util/Preconditions") := by decide +kernel
theorem m_w5 : lw_tbl[484]? = some (.castable "[I" "java/lang/Cloneable") := by decide +kernel
theorem m_w6 : lw_tbl[124]? = some (.arrayOver (.object "EveryMapWrong$Chart")) ∧ lw_tbl[147]? = some (.arrayOver (.object "EveryMapWrong$Street")) ∧ lw_tbl[161]? = some (.arrayOver (.object "EveryMapWrong$Text")) ∧ lw_tbl[225]? = some (.arrayOver (.object "EveryMapWrong$Sheet")) := by decide +kernel
theorem m_on5 : (Cond.castable "[I" "java/lang/Cloneable").onTables = true := by decide +kernel
theorem sx_start {s : State} {b : Nat} (hts : ∀ w ∈ lw_tbl, w.before #[Value.ref b] s = true) (hs : ∀ w ∈ fC, w.before #[Value.ref b] s = true) : ∃ X : PX, SX X (AS s) s ∧ X 200 (.ref b) ∧ ∀ v, X 200 v → v = .ref b := by
  have hA : ∀ a : Nat, a < s.heap.size → ¬ AS s a := fun a h => Nat.not_le.mpr h
  have hw : ∀ {i : Nat} {w : Cond}, lw_tbl[i]? = some w → w.before #[Value.ref b] s = true := fun h => hts _ (List.mem_of_getElem? h)
  obtain ⟨adK, adV, hV, hE⟩ := vk_Sof (N := 14) (tm := tmS) (len := lenJ) (byt := bytJ) (args := #[Value.ref b]) (s := s) (A := AS s) m_ln (fun i hi => hs _ (m_ex i hi)) (fun i hi => hs _ (m_co i hi)) (fun i hi => hs _ (m_ar i hi)) (fun i hi => hs _ (m_le i hi)) (fun i hi j hj => hs _ (m_el i hi j hj)) (fun i j hi hj hij => (m_ne i hi j hj hij).imp (fun h => hs _ h) (fun h => hs _ h)) hA
  obtain ⟨z, hz, hzr⟩ : ∃ z : Value, (Term.static "jdk/internal/util/Preconditions" "SIOOBE_FORMATTER" "Ljava/util/function/BiFunction;").eval #[Value.ref b] s none [] s = some z ∧ (z = .null ∨ ∃ a, z = .ref a) := by
    have h := hs _ m_sf
    cases hv : (Term.static "jdk/internal/util/Preconditions" "SIOOBE_FORMATTER" "Ljava/util/function/BiFunction;").eval #[Value.ref b] s none [] s with
    | none => simp [Cond.before, Cond.holds, Cond.value, hv] at h
    | some w =>
      simp only [Cond.before, Cond.holds, Cond.value, hv] at h
      cases w with
      | null => exact ⟨_, rfl, Or.inl rfl⟩
      | ref t => exact ⟨_, rfl, Or.inr ⟨t, rfl⟩⟩
      | _ => simp at h
  refine ⟨fun k v => (k.toNat < 14 ∧ v = .ref (adK k.toNat)) ∨ ((50 ≤ k.toNat ∧ k.toNat < 64) ∧ v = .ref (adV (k.toNat - 50))) ∨ (k.toNat = 200 ∧ v = .ref b) ∨ (k.toNat = 201 ∧ v = z), ⟨fun w hw2 => ?_, fun ci q hci hq => ?_, ?_, fun k v hx => ?_, adK, adV, hV, fun i hi v => ?_, fun i hi v => ?_, fun i q hq => ?_, ?_, z, ?_, ?_⟩, Or.inr (Or.inr (Or.inl ⟨rfl, rfl⟩)), fun v hx => ?_⟩
  · obtain ⟨i, hi, e⟩ := List.mem_iff_getElem.mp hw2
    have h20 : i < 20 := by rw [← m_nlen]; exact hi
    have hon := List.all_eq_true.mp m_non w hw2
    refine va_tabs hon rfl (hw (i := nestI.getD i 0) ?_)
    rw [m_nest i h20, List.getElem?_eq_getElem hi, e]
  · rcases hci with rfl | rfl | rfl | rfl
    · cases hq; exact va_AO.of (hw m_w6.1)
    · cases hq; exact va_AO.of (hw m_w6.2.2.2)
    · cases hq; exact va_AO.of (hw m_w6.2.1)
    · cases hq; exact va_AO.of (hw m_w6.2.2.1)
  · exact va_tabs m_on5 rfl (hw m_w5)
  · rcases hx with ⟨_, rfl⟩ | ⟨_, rfl⟩ | ⟨_, rfl⟩ | ⟨_, rfl⟩
    · exact Or.inr ⟨_, rfl⟩
    · exact Or.inr ⟨_, rfl⟩
    · exact Or.inr ⟨_, rfl⟩
    · exact hzr
  · show ((_ ∧ _) ∨ _) ↔ _
    rw [m_u i (by omega)]
    constructor
    · rintro (⟨_, h⟩ | ⟨h, _⟩ | ⟨h, _⟩ | ⟨h, _⟩)
      · exact h
      · omega
      · omega
      · omega
    · intro h; exact Or.inl ⟨hi, h⟩
  · show ((_ ∧ _) ∨ _) ↔ _
    rw [m_u (i + 50) (by omega)]
    constructor
    · rintro (⟨h, _⟩ | ⟨_, h⟩ | ⟨h, _⟩ | ⟨h, _⟩)
      · omega
      · rw [Nat.add_sub_cancel] at h; exact h
      · omega
      · omega
    · intro h; exact Or.inr (Or.inl ⟨by omega, by rw [Nat.add_sub_cancel]; exact h⟩)
  · have hi : i < 14 := by rw [← m_slen]; exact (List.getElem?_eq_some_iff.mp hq).1
    have h1 := hw (i := strI.getD i 0) (w := strW q) (by rw [m_str i hi, hq]; rfl)
    have h2 := hE i hi
    unfold tmS at h2
    rw [hq] at h2
    exact vk_R.of h1 h2
  · exact va_Zof (hw m_w1) (hw m_w3) (va_eqt (hs _ m_cs)) hA
  · exact va_Zof (hw m_w2) (hw m_w4) hz hA
  · exact Or.inr (Or.inr (Or.inr ⟨rfl, rfl⟩))
  · rcases hx with ⟨h, _⟩ | ⟨h, _⟩ | ⟨_, h⟩ | ⟨h, _⟩
    · exact absurd h (by decide)
    · exact absurd h (by decide)
    · exact h
    · exact absurd h (by decide)
theorem k_start {s : State} {b : Nat} {c0 : ClassId} (hts : ∀ w ∈ lw_tbl, w.before #[Value.ref b] s = true) : ∃ D : va_G, va_K D vwCl [] s := by
  have h0 : ∀ k : Nat, ∃ y : ClassId × (Nat → Nat), ∀ q : vw_C, vwCl[k]? = some q → u_Kn s q.1 q.2.1 q.2.2 y.1 y.2 := by
    intro k
    cases hk : vwCl[k]? with
    | none => exact ⟨(c0, fun _ => 0), fun q hq => by cases hq⟩
    | some q =>
      have hin : ∀ w ∈ u_ws q.1 q.2.1 q.2.2, w ∈ lw_tbl := fun w hw => TWg_tbl (cl_in hk w hw)
      obtain ⟨cC, iS, h⟩ := u_known (C := q.1) (T := q.2.1) (N := q.2.2) (n := q.2.2) hts hin (hts _ (TWg_tbl (cl_inst hk).1))
      exact ⟨(cC, iS), fun q' hq => by cases hq; exact h⟩
  obtain ⟨f, hf⟩ := Classical.axiomOfChoice h0
  exact ⟨(fun k => (f k).1, fun k => (f k).2), fun k q hq => hf k q hq, fun k q h => by simp at h⟩
end
section
theorem whole_start {p : Program} {e : Env} {s : State} {m : MethodId} {below : List Frame} {meth : Method} {c : Code} (l : Launch) (_hflags : l.flags = flags0) {b L : Nat} {xs : Nat → Int32} (hL : L ≤ 384) (hnm : meth.name = x.name) (C0 : lw_At p s m meth c b L xs) : W p l e room_1 s m #[Value.ref b] below meth c s.heap [] 0 0 (lw_Z below #[Value.ref b] s) (entryFrame m ([Value.ref b] : List Value).toArray 4) := by
  obtain ⟨hx, hb, hr, hml, hown, hts, hX, hbl, hlocks, hgv⟩ := C0
  obtain ⟨n, t', q1, q2, q3⟩ := law_v (xs := xs) hL
  obtain ⟨X, hSX, hX1, hX2⟩ := sx_start hts (flat_of_before _ hgv)
  obtain ⟨D, hK⟩ := k_start (c0 := m.cls) hts
  have hC : Cx p s m #[Value.ref b] meth c (AS s) X x code 4 (some (L, xs)) := ⟨hx, hb, hml, hown, fun w hw => hts w (TWg_tbl hw), hlocks, hnm, fun q hq => hq, hSX, fun q hq => by
    cases hq
    exact ⟨b, hX, hbl, Nat.not_le.mpr hbl, hX2⟩⟩
  have hW := (LR_start (below := below) (D := D) (l := l) (e := e) (r := (some (.int 1), t')) hC hr rfl ⟨by show mN t' - 0 ≤ 600000; omega, by show mZ t' - 0 ≤ 7302249; omega⟩ n q1).2
  have hl := lv_entry ([.ref b]) (n := 4) (Nat.le_of_ble_eq_true rfl)
  rw [lg_entry_eq]
  generalize (lg_sl ([.ref b]) ++ List.replicate (4 - (lg_sl ([.ref b])).length) Slot.unset).toArray = ls at hl ⊢
  have hl : lv_has ls 4 [(0, .ref b)] := hl
  exact hW s.heap [] [] [] [(0, .ref b)] ls [] ⟨hK, fun k q h => by simp at h, ⟨fun i j p q h => by simp at h, fun k q h => by simp at h⟩, va_S.rf, ⟨rfl, fun k _ => rfl, fun k a e h => by simp at h⟩, SExt.rf, ⟨Nat.le_refl _, Nat.le_refl _⟩, ⟨⟨rfl, hX1⟩, trivial⟩, hl, trivial⟩
end
