section
/-! Math.max and Math.min of two ints: contracts by the library's own -/
theorem room_more {s : State} {pl : Platform} {rm r : Room} (h : s.hasRoom pl rm = true) (h1 : r.frames ≤ rm.frames) (h2 : r.cells ≤ rm.cells) (h3 : r.slots ≤ rm.slots) (h4 : r.locals ≤ rm.locals) : s.hasRoom pl r = true := by
  simp only [State.hasRoom, Bool.and_eq_true, decide_eq_true_eq] at h ⊢
  obtain ⟨⟨⟨⟨a1, a2, a3, a4, a5, a6⟩, b⟩, c⟩, d⟩ := h
  exact ⟨⟨⟨⟨by omega, by omega, by omega, by omega, by omega, a6⟩, by omega⟩, by omega⟩, d⟩
theorem same_frame {s t : State} (h : s.sameBut t []) : t.heap = s.heap ∧ t.vm = s.vm ∧ s.sameButNew ({ t with vm := s.vm } : State) [] 0 0 := by
  have h0 := State.sameBut_nil.mp h
  have e1 : t.heap = s.heap := by rw [h0]; rfl
  have e2 : t.vm = s.vm := by rw [h0]; rfl
  have e3 : t.slotsUsed = s.slotsUsed := by rw [h0]; rfl
  refine ⟨e1, e2, ?_⟩
  have e4 : ({ t with vm := s.vm } : State) = t := by rw [← e2]
  rw [e4]
  refine ⟨?_, by rw [e1]; exact Nat.le_refl _, by rw [e1]; exact Nat.le_refl _, ?_, ?_, ?_⟩
  · rw [e1, e3]; exact h0
  · rw [e1, e3, List.drop_eq_nil_of_le (by simp)]; rfl
  · rw [e1, List.drop_eq_nil_of_le (by simp)]; exact Nat.le_refl _
  · intro a c hc
    exact ⟨c, by rw [e1]; exact hc, rfl, rfl, fun _ _ => rfl⟩
theorem con_of_loose {l : Launch} {d : Nat} {q : MT} {S : Spec} {a b v : Int32} (t : SM) (hM : MeetsLoose l q.1 S) (hr : S.room = {})
    (hpre : ∀ s : State, (Cond.code q.1 q.2.1 q.2.2.1 q.2.2.2.1).before #[.int a, .int b] s = true → S.pre.before #[.int a, .int b] s = true)
    (hen : ∀ (s : State) (o : Outcome) (u : State), S.ensures #[.int a, .int b] s o u → o = .returned (some (.int v)) ∧ s.sameBut u []) : Con l d q [.int a, .int b] t (some (.int v), t) := by
  refine ⟨⟨Nat.le_refl _, Nat.le_refl _⟩, fun D ws tys X as' sz has hSR => ?_⟩
  obtain ⟨s0, rfl, h11⟩ := has.int
  obtain ⟨s1, rfl, h12⟩ := h11.int
  obtain rfl := h12.nil
  intro p e ha hc hk s m args below hf happ hP _
  obtain ⟨rfl, hsz, hPP, hK, hD0, hSX⟩ := hP
  obtain ⟨h1, h2, h3, h4, h5, h6, h7, h8⟩ := (Spec.appliesLoose_iff hf).mp happ
  have hts := atoms_spec (ws := Cond.code q.1 q.2.1 q.2.2.1 q.2.2.2.1 :: TWg) h8
  obtain ⟨n, o, g1, g2, g3, g4⟩ := hM p e ha hc hk s m _ below hf ((Spec.appliesLoose_iff hf).mpr ⟨h1, h2, h3, h4, h5, h6, room_more h7 (by rw [hr]; exact Nat.zero_le _) (by rw [hr]; exact Nat.zero_le _) (by rw [hr]; exact Nat.zero_le _) (by rw [hr]; exact Nat.zero_le _), hpre s (hts _ List.mem_cons_self)⟩)
  obtain ⟨e1, e2⟩ := hen _ _ _ g4
  obtain ⟨f1, f2, f3⟩ := same_frame e2
  refine ⟨n, o, g1, g2, g3, ⟨⟨ws, tys, _, e1, ⟨_, rfl, rfl⟩, by rw [f1]; exact hPP, va_K.moved (by rw [f2]; exact Vm.Alike.refl _) hK, by subst hsz; exact hD0.self, hSR, SExt.rf⟩, va_S.rf.F f1⟩, [], ⟨⟨_, e1⟩, by rw [f2]; exact State.WarmedH.refl s, ?_⟩, fun q hq => by cases hq⟩
  show s.sameButNew _ [] (mN t - mN t) (mZ t - mZ t)
  rw [Nat.sub_self, Nat.sub_self]
  exact f3
theorem con_max {l : Launch} {d : Nat} (a b : Int32) (t : SM) : Con l d q_1 [.int a, .int b] t (some (.int (if a < b then b else a)), t) := by
  refine con_of_loose (S := Lib.Math.max.spec) t (Meets.loose_of_no_refs (Lib.Math.max.meets l) fun args' s' h => by
      simp only [Lib.Math.max.spec, Cond.before_and, Bool.and_eq_true] at h
      obtain ⟨x, y, rfl⟩ := Cond.two_ints h.2.1 h.2.2.1 h.2.2.2
      intro r hr; simp at hr) rfl (fun s h => ?_) (fun s o u h => ?_)
  · simp only [Lib.Math.max.spec, Cond.before_and, Bool.and_eq_true]
    exact ⟨h, rfl, rfl, rfl⟩
  · obtain ⟨hpost, hch⟩ := h
    refine ⟨?_, by simpa [Lib.Math.max.spec, Spec.frees, fieldLocs, arrayLocs, staticLocs] using hch⟩
    cases o with
    | threw y => simp [Lib.Math.max.spec, Cond.after, Cond.holds, Cond.value] at hpost
    | returned v =>
      by_cases h1 : a < b
      · rw [if_pos h1]
        rcases v with _ | w
        · simp [Lib.Math.max.spec, Cond.after, Cond.holds, Cond.value, Term.eval, h1] at hpost
        · cases w <;> simp [Lib.Math.max.spec, Cond.after, Cond.holds, Cond.value, Term.eval, h1] at hpost
          rename_i r
          by_cases hr : r = b <;> simp [hr] at hpost ⊢
      · rw [if_neg h1]
        rcases v with _ | w
        · simp [Lib.Math.max.spec, Cond.after, Cond.holds, Cond.value, Term.eval, h1] at hpost
        · cases w <;> simp [Lib.Math.max.spec, Cond.after, Cond.holds, Cond.value, Term.eval, h1] at hpost
          simp [hpost]
theorem con_min {l : Launch} {d : Nat} (a b : Int32) (t : SM) : Con l d q_2 [.int a, .int b] t (some (.int (if b < a then b else a)), t) := by
  refine con_of_loose (S := Lib.Math.min.spec) t (Meets.loose_of_no_refs (Lib.Math.min.meets l) fun args' s' h => by
      simp only [Lib.Math.min.spec, Cond.before_and, Bool.and_eq_true] at h
      obtain ⟨x, y, rfl⟩ := Cond.two_ints h.2.1 h.2.2.1 h.2.2.2
      intro r hr; simp at hr) rfl (fun s h => ?_) (fun s o u h => ?_)
  · simp only [Lib.Math.min.spec, Cond.before_and, Bool.and_eq_true]
    exact ⟨h, rfl, rfl, rfl⟩
  · obtain ⟨hpost, hch⟩ := h
    refine ⟨?_, by simpa [Lib.Math.min.spec, Spec.frees, fieldLocs, arrayLocs, staticLocs] using hch⟩
    cases o with
    | threw y => simp [Lib.Math.min.spec, Cond.after, Cond.holds, Cond.value] at hpost
    | returned v =>
      by_cases h1 : b < a
      · rw [if_pos h1]
        rcases v with _ | w
        · simp [Lib.Math.min.spec, Cond.after, Cond.holds, Cond.value, Term.eval, h1] at hpost
        · cases w <;> simp [Lib.Math.min.spec, Cond.after, Cond.holds, Cond.value, Term.eval, h1] at hpost
          rename_i r
          by_cases hr : r = b <;> simp [hr] at hpost ⊢
      · rw [if_neg h1]
        rcases v with _ | w
        · simp [Lib.Math.min.spec, Cond.after, Cond.holds, Cond.value, Term.eval, h1] at hpost
        · cases w <;> simp [Lib.Math.min.spec, Cond.after, Cond.holds, Cond.value, Term.eval, h1] at hpost
          simp [hpost]
end
