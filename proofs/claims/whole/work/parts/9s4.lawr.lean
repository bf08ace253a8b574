section
set_option maxRecDepth 100000
theorem rows_L_52 : ∀ z ∈ P_L_52, rowB mtab x code z = true := List.all_eq_true.mp (by decide +kernel)
theorem rows_L_53 : ∀ z ∈ P_L_53, rowB mtab x code z = true := List.all_eq_true.mp (by decide +kernel)
theorem rows_L_54 : ∀ z ∈ P_L_54, rowB mtab x code z = true := List.all_eq_true.mp (by decide +kernel)
theorem rows_L_55 : ∀ z ∈ P_L_55, rowB mtab x code z = true := List.all_eq_true.mp (by decide +kernel)
theorem rows_L_56 : ∀ z ∈ P_L_56, rowB mtab x code z = true := List.all_eq_true.mp (by decide +kernel)
theorem rows_L_57 : ∀ z ∈ P_L_57, rowB mtab x code z = true := List.all_eq_true.mp (by decide +kernel)
theorem rows_L_58 : ∀ z ∈ P_L_58, rowB mtab x code z = true := List.all_eq_true.mp (by decide +kernel)
theorem rows_L_59 : ∀ z ∈ P_L_59, rowB mtab x code z = true := List.all_eq_true.mp (by decide +kernel)
theorem rows_L_60 : ∀ z ∈ P_L_60, rowB mtab x code z = true := List.all_eq_true.mp (by decide +kernel)
theorem rows_L_61 : ∀ z ∈ P_L_61, rowB mtab x code z = true := List.all_eq_true.mp (by decide +kernel)
theorem rows_L_62 : ∀ z ∈ P_L_62, rowB mtab x code z = true := List.all_eq_true.mp (by decide +kernel)
theorem rows_L_63 : ∀ z ∈ P_L_63, rowB mtab x code z = true := List.all_eq_true.mp (by decide +kernel)
theorem rows_L_64 : ∀ z ∈ P_L_64, rowB mtab x code z = true := List.all_eq_true.mp (by decide +kernel)
end
