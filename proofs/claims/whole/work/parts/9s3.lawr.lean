section
set_option maxRecDepth 100000
theorem rows_L_39 : ∀ z ∈ P_L_39, rowB mtab x code z = true := List.all_eq_true.mp (by decide +kernel)
theorem rows_L_40 : ∀ z ∈ P_L_40, rowB mtab x code z = true := List.all_eq_true.mp (by decide +kernel)
theorem rows_L_41 : ∀ z ∈ P_L_41, rowB mtab x code z = true := List.all_eq_true.mp (by decide +kernel)
theorem rows_L_42 : ∀ z ∈ P_L_42, rowB mtab x code z = true := List.all_eq_true.mp (by decide +kernel)
theorem rows_L_43 : ∀ z ∈ P_L_43, rowB mtab x code z = true := List.all_eq_true.mp (by decide +kernel)
theorem rows_L_44 : ∀ z ∈ P_L_44, rowB mtab x code z = true := List.all_eq_true.mp (by decide +kernel)
theorem rows_L_45 : ∀ z ∈ P_L_45, rowB mtab x code z = true := List.all_eq_true.mp (by decide +kernel)
theorem rows_L_46 : ∀ z ∈ P_L_46, rowB mtab x code z = true := List.all_eq_true.mp (by decide +kernel)
theorem rows_L_47 : ∀ z ∈ P_L_47, rowB mtab x code z = true := List.all_eq_true.mp (by decide +kernel)
theorem rows_L_48 : ∀ z ∈ P_L_48, rowB mtab x code z = true := List.all_eq_true.mp (by decide +kernel)
theorem rows_L_49 : ∀ z ∈ P_L_49, rowB mtab x code z = true := List.all_eq_true.mp (by decide +kernel)
theorem rows_L_50 : ∀ z ∈ P_L_50, rowB mtab x code z = true := List.all_eq_true.mp (by decide +kernel)
theorem rows_L_51 : ∀ z ∈ P_L_51, rowB mtab x code z = true := List.all_eq_true.mp (by decide +kernel)
end
