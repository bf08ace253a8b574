section
theorem FR_ok (l : Launch) : ∀ (n : Nat) (z : Nat × (List Value → SM → OR)), z ∈ FR n → Fok l (9 + n) mtab z.1 z.2
  | 0, z, h => by cases h
  | n + 1, z, h => by
    have hR : FTok l (9 + (n + 1)) mtab (FR n) := fun z hz => ⟨9 + n, by omega, FR_ok l n z hz⟩
    simp only [FR, List.mem_cons, List.not_mem_nil, or_false] at h
    rcases h with rfl | rfl | rfl | rfl | rfl | rfl
    · exact ok_55 (by omega) l hR
    · exact ok_56 (by omega) l hR
    · exact ok_57 (by omega) l hR
    · exact ok_58 (by omega) l hR
    · exact ok_59 (by omega) l hR
    · exact ok_60 (by omega) l hR
theorem FR_tok {l : Launch} (d : Nat) (h : 55 ≤ d) : FTok l d mtab (FR 45) := fun z hz => ⟨54, by omega, FR_ok l 45 z hz⟩
end
