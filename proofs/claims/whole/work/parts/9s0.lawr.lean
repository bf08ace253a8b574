section
set_option maxRecDepth 100000
theorem rows_L_0 : ∀ z ∈ P_L_0, rowB mtab x code z = true := List.all_eq_true.mp (by decide +kernel)
theorem rows_L_1 : ∀ z ∈ P_L_1, rowB mtab x code z = true := List.all_eq_true.mp (by decide +kernel)
theorem rows_L_2 : ∀ z ∈ P_L_2, rowB mtab x code z = true := List.all_eq_true.mp (by decide +kernel)
theorem rows_L_3 : ∀ z ∈ P_L_3, rowB mtab x code z = true := List.all_eq_true.mp (by decide +kernel)
theorem rows_L_4 : ∀ z ∈ P_L_4, rowB mtab x code z = true := List.all_eq_true.mp (by decide +kernel)
theorem rows_L_5 : ∀ z ∈ P_L_5, rowB mtab x code z = true := List.all_eq_true.mp (by decide +kernel)
theorem rows_L_6 : ∀ z ∈ P_L_6, rowB mtab x code z = true := List.all_eq_true.mp (by decide +kernel)
theorem rows_L_7 : ∀ z ∈ P_L_7, rowB mtab x code z = true := List.all_eq_true.mp (by decide +kernel)
theorem rows_L_8 : ∀ z ∈ P_L_8, rowB mtab x code z = true := List.all_eq_true.mp (by decide +kernel)
theorem rows_L_9 : ∀ z ∈ P_L_9, rowB mtab x code z = true := List.all_eq_true.mp (by decide +kernel)
theorem rows_L_10 : ∀ z ∈ P_L_10, rowB mtab x code z = true := List.all_eq_true.mp (by decide +kernel)
theorem rows_L_11 : ∀ z ∈ P_L_11, rowB mtab x code z = true := List.all_eq_true.mp (by decide +kernel)
theorem rows_L_12 : ∀ z ∈ P_L_12, rowB mtab x code z = true := List.all_eq_true.mp (by decide +kernel)
end
