section
set_option maxRecDepth 100000
theorem rows_L_13 : ∀ z ∈ P_L_13, rowB mtab x code z = true := List.all_eq_true.mp (by decide +kernel)
theorem rows_L_14 : ∀ z ∈ P_L_14, rowB mtab x code z = true := List.all_eq_true.mp (by decide +kernel)
theorem rows_L_15 : ∀ z ∈ P_L_15, rowB mtab x code z = true := List.all_eq_true.mp (by decide +kernel)
theorem rows_L_16 : ∀ z ∈ P_L_16, rowB mtab x code z = true := List.all_eq_true.mp (by decide +kernel)
theorem rows_L_17 : ∀ z ∈ P_L_17, rowB mtab x code z = true := List.all_eq_true.mp (by decide +kernel)
theorem rows_L_18 : ∀ z ∈ P_L_18, rowB mtab x code z = true := List.all_eq_true.mp (by decide +kernel)
theorem rows_L_19 : ∀ z ∈ P_L_19, rowB mtab x code z = true := List.all_eq_true.mp (by decide +kernel)
theorem rows_L_20 : ∀ z ∈ P_L_20, rowB mtab x code z = true := List.all_eq_true.mp (by decide +kernel)
theorem rows_L_21 : ∀ z ∈ P_L_21, rowB mtab x code z = true := List.all_eq_true.mp (by decide +kernel)
theorem rows_L_22 : ∀ z ∈ P_L_22, rowB mtab x code z = true := List.all_eq_true.mp (by decide +kernel)
theorem rows_L_23 : ∀ z ∈ P_L_23, rowB mtab x code z = true := List.all_eq_true.mp (by decide +kernel)
theorem rows_L_24 : ∀ z ∈ P_L_24, rowB mtab x code z = true := List.all_eq_true.mp (by decide +kernel)
theorem rows_L_25 : ∀ z ∈ P_L_25, rowB mtab x code z = true := List.all_eq_true.mp (by decide +kernel)
end
