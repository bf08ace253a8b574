section
variable {l : Launch} {r : RR} {pc d : Nat} {L L0 : LV} {st : List Value} {t : SM} {q : MT} {P : SCode} {mt : List MT}
/-- kinds of answers: 0 nothing, 5 a reference, 6 a text, else an int -/
def mkCal (rks : Nat → Nat) (F : FT) : Cal := fun mi as t k => match rks mi with
  | 0 => bV (atF mi as t F) (fun u => k none u)
  | 5 => bQ (atF mi as t F) (fun u => k (some .null) u) (fun q u => k (some (.ref q)) u)
  | 6 => bT (atF mi as t F) (fun q u => k (some (.float q)) u)
  | _ => bI (atF mi as t F) (fun v u => k (some (.int v)) u)
/-- a method's function is held by its contract -/
def Fok (l : Launch) (d : Nat) (mt : List MT) (mi : Nat) (f : List Value → SM → OR) : Prop := ∀ as t r, f as t = some r → ∃ q, mt[mi]? = some q ∧ MOK q ∧ Con l d q as t r
def FTok (l : Launch) (d : Nat) (mt : List MT) (F : FT) : Prop := ∀ z ∈ F, ∃ d', d' + 1 ≤ d ∧ Fok l d' mt z.1 z.2
theorem FTok.nil : FTok l d mt [] := fun _ h => by cases h
theorem FTok.cons {mi d' : Nat} {f : List Value → SM → OR} {F : FT} (h : Fok l d' mt mi f) (hd : d' + 1 ≤ d) (g : FTok l d mt F) : FTok l d mt ((mi, f) :: F) := fun z hz => by
  rcases List.mem_cons.mp hz with rfl | hz
  · exact ⟨d', hd, h⟩
  · exact g z hz
theorem atF_some {mi : Nat} {as : List Value} : ∀ {F : FT}, atF mi as t F = some r → ∃ f, (mi, f) ∈ F ∧ f as t = some r
  | z :: F, h => by
    unfold atF at h
    cases hb : Nat.beq z.1 mi with
    | true =>
      rw [hb] at h
      refine ⟨z.2, ?_, h⟩
      rw [← Nat.eq_of_beq_eq_true hb]
      exact List.mem_cons_self
    | false =>
      rw [hb] at h
      obtain ⟨f, g1, g2⟩ := atF_some h
      exact ⟨f, List.mem_cons_of_mem _ g1, g2⟩
theorem calOK {rks : Nat → Nat} {F : FT} (hF : FTok l d mt F) : CalOK l d mt (mkCal rks F) := by
  intro mi as t k r h
  have key : ∀ (o : Option Value) (u : SM), atF mi as t F = some (o, u) → k o u = some r → ∃ (q : MT) (d' : Nat) (u : RR), mt[mi]? = some q ∧ MOK q ∧ d' + 1 ≤ d ∧ Con l d' q as t u ∧ k u.1 u.2 = some r := by
    intro o u h1 h2
    obtain ⟨f, g1, g2⟩ := atF_some h1
    obtain ⟨d', g3, g4⟩ := hF _ g1
    obtain ⟨q, g5, g6, g7⟩ := g4 _ _ _ g2
    exact ⟨q, d', (o, u), g5, g6, g3, g7, h2⟩
  unfold mkCal at h
  split at h
  · unfold bV at h
    split at h
    · rename_i u hh; exact key _ _ hh h
    · cases h
  · unfold bQ at h
    split at h
    · rename_i u hh; exact key _ _ hh h
    · rename_i q u hh; exact key _ _ hh h
    · cases h
  · unfold bT at h
    split at h
    · rename_i q u hh; exact key _ _ hh h
    · cases h
  · unfold bI at h
    split at h
    · rename_i v u hh; exact key _ _ hh h
    · cases h
/-! cuts: what is taken of the locals there -/
abbrev KE : Type := LV → List Value → SM → OR
def kDisp : List (Nat × KE) → Go
  | [], _, _, _, _ => none
  | z :: r, pc, L, st, t => match Nat.beq z.1 pc with
    | true => z.2 L st t
    | false => kDisp r pc L st t
def kI (i : Nat) (k : Int32 → KE) : KE := fun L st t => match lkp i L with
  | some (.int v) => k v L st t
  | _ => none
def kL (i : Nat) (k : Int64 → KE) : KE := fun L st t => match lkp i L with
  | some (.long v) => k v L st t
  | _ => none
def kR (i : Nat) (k : Nat → KE) : KE := fun L st t => match lkp i L with
  | some (.ref v) => k v L st t
  | _ => none
def kT (i : Nat) (k : UInt32 → KE) : KE := fun L st t => match lkp i L with
  | some (.float v) => k v L st t
  | _ => none
def kF (i o : Nat) (k : KE) : KE := fun L st t => match lkp i L with
  | some (.ref v) => (match Nat.beq v o with
    | true => k L st t
    | false => none)
  | _ => none
def kE (f : SM → OR) : KE := fun _ st t => match st with
  | [] => f t
  | _ => none
def KOK (l : Launch) (d : Nat) (q : MT) (P : SCode) (r : RR) (pc : Nat) (L0 : LV) (e : KE) : Prop := ∀ L st t, (∀ z ∈ L0, lkp z.1 L = some z.2) → e L st t = some r → Body l d q P r pc L st t
theorem KOK.i {i : Nat} {k : Int32 → KE} (h : ∀ v, KOK l d q P r pc ((i, .int v) :: L0) (k v)) : KOK l d q P r pc L0 (kI i k) := by
  intro L st t hL hk
  unfold kI at hk
  split at hk
  · rename_i v hv
    refine h v L st t (fun z hz => ?_) hk
    rcases List.mem_cons.mp hz with rfl | hz
    · exact hv
    · exact hL z hz
  · cases hk
theorem KOK.lg {i : Nat} {k : Int64 → KE} (h : ∀ v, KOK l d q P r pc ((i, .long v) :: L0) (k v)) : KOK l d q P r pc L0 (kL i k) := by
  intro L st t hL hk
  unfold kL at hk
  split at hk
  · rename_i v hv
    refine h v L st t (fun z hz => ?_) hk
    rcases List.mem_cons.mp hz with rfl | hz
    · exact hv
    · exact hL z hz
  · cases hk
theorem KOK.rf {i : Nat} {k : Nat → KE} (h : ∀ v, KOK l d q P r pc ((i, .ref v) :: L0) (k v)) : KOK l d q P r pc L0 (kR i k) := by
  intro L st t hL hk
  unfold kR at hk
  split at hk
  · rename_i v hv
    refine h v L st t (fun z hz => ?_) hk
    rcases List.mem_cons.mp hz with rfl | hz
    · exact hv
    · exact hL z hz
  · cases hk
theorem KOK.tx {i : Nat} {k : UInt32 → KE} (h : ∀ v, KOK l d q P r pc ((i, .float v) :: L0) (k v)) : KOK l d q P r pc L0 (kT i k) := by
  intro L st t hL hk
  unfold kT at hk
  split at hk
  · rename_i v hv
    refine h v L st t (fun z hz => ?_) hk
    rcases List.mem_cons.mp hz with rfl | hz
    · exact hv
    · exact hL z hz
  · cases hk
theorem KOK.f {i o : Nat} {k : KE} (h : KOK l d q P r pc ((i, .ref o) :: L0) k) : KOK l d q P r pc L0 (kF i o k) := by
  intro L st t hL hk
  unfold kF at hk
  split at hk
  · rename_i v hv
    split at hk
    · rename_i hb
      rw [Nat.eq_of_beq_eq_true hb] at hv
      refine h L st t (fun z hz => ?_) hk
      rcases List.mem_cons.mp hz with rfl | hz
      · exact hv
      · exact hL z hz
    · cases hk
  · cases hk
theorem KOK.e {f : SM → OR} (h : ∀ t, f t = some r → Body l d q P r pc L0 [] t) : KOK l d q P r pc L0 (kE f) := by
  intro L st t hL hk
  unfold kE at hk
  split at hk
  · exact (h t hk).less hL
  · cases hk
def KDok (l : Launch) (d : Nat) (q : MT) (P : SCode) (r : RR) (z : List (Nat × KE)) : Prop := ∀ pc L st t, kDisp z pc L st t = some r → Body l d q P r pc L st t
theorem KDok.nil : KDok l d q P r [] := fun _ _ _ _ h => by cases h
theorem KDok.cons {e : KE} {z : List (Nat × KE)} (h : KOK l d q P r pc [] e) (g : KDok l d q P r z) : KDok l d q P r ((pc, e) :: z) := by
  intro pc' L st t hk
  unfold kDisp at hk
  split at hk
  · rename_i hb
    rw [← Nat.eq_of_beq_eq_true hb]
    exact h L st t (fun _ hz => by cases hz) hk
  · exact g _ _ _ _ hk
/-- a stretch of a method, as a rule for its blocks -/
theorem blk {rks : Nat → Nat} {F : FT} {cut : List Nat} {z : List (Nat × KE)} {f : Nat} (hF : FTok l d mt F) (hd : 1 ≤ d) (hrk : P.2.2 = rkOf q.2.2.2.1) (hrows : ∀ z ∈ P.1, rowB mt q.1 q.2.1 z = true) (hz : KDok l d q P r z)
    (h : ex clN P none bytJ (mkCal rks F) cut (kDisp z) f pc L st t = some r) : Body l d q P r pc L st t := ex_body (calOK hF) hd hrk hrows hz h
end
