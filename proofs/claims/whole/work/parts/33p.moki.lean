section
set_option maxRecDepth 100000
theorem mok_181 : MOK q_181 := ⟨TWg_in (i := 1221) (by rfl) (by decide +kernel), Nat.le_of_ble_eq_true rfl, ⟨by decide +kernel, by decide +kernel, by decide +kernel⟩, wOK_in (i := 105) (by decide +kernel), Or.inr (Or.inr ⟨rfl, rfl, wOK_in (i := 1220) (by decide +kernel), rfl⟩)⟩
end
