section
set_option maxRecDepth 100000
theorem rows_L_78 : ∀ z ∈ P_L_78, rowB mtab x code z = true := List.all_eq_true.mp (by decide +kernel)
theorem rows_L_79 : ∀ z ∈ P_L_79, rowB mtab x code z = true := List.all_eq_true.mp (by decide +kernel)
theorem rows_L_80 : ∀ z ∈ P_L_80, rowB mtab x code z = true := List.all_eq_true.mp (by decide +kernel)
theorem rows_L_81 : ∀ z ∈ P_L_81, rowB mtab x code z = true := List.all_eq_true.mp (by decide +kernel)
theorem rows_L_82 : ∀ z ∈ P_L_82, rowB mtab x code z = true := List.all_eq_true.mp (by decide +kernel)
theorem rows_L_83 : ∀ z ∈ P_L_83, rowB mtab x code z = true := List.all_eq_true.mp (by decide +kernel)
theorem rows_L_84 : ∀ z ∈ P_L_84, rowB mtab x code z = true := List.all_eq_true.mp (by decide +kernel)
theorem rows_L_85 : ∀ z ∈ P_L_85, rowB mtab x code z = true := List.all_eq_true.mp (by decide +kernel)
theorem rows_L_86 : ∀ z ∈ P_L_86, rowB mtab x code z = true := List.all_eq_true.mp (by decide +kernel)
theorem rows_L_87 : ∀ z ∈ P_L_87, rowB mtab x code z = true := List.all_eq_true.mp (by decide +kernel)
theorem rows_L_88 : ∀ z ∈ P_L_88, rowB mtab x code z = true := List.all_eq_true.mp (by decide +kernel)
theorem rows_L_89 : ∀ z ∈ P_L_89, rowB mtab x code z = true := List.all_eq_true.mp (by decide +kernel)
theorem rows_L_90 : ∀ z ∈ P_L_90, rowB mtab x code z = true := List.all_eq_true.mp (by decide +kernel)
end
