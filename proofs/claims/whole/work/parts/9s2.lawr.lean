section
set_option maxRecDepth 100000
theorem rows_L_26 : ∀ z ∈ P_L_26, rowB mtab x code z = true := List.all_eq_true.mp (by decide +kernel)
theorem rows_L_27 : ∀ z ∈ P_L_27, rowB mtab x code z = true := List.all_eq_true.mp (by decide +kernel)
theorem rows_L_28 : ∀ z ∈ P_L_28, rowB mtab x code z = true := List.all_eq_true.mp (by decide +kernel)
theorem rows_L_29 : ∀ z ∈ P_L_29, rowB mtab x code z = true := List.all_eq_true.mp (by decide +kernel)
theorem rows_L_30 : ∀ z ∈ P_L_30, rowB mtab x code z = true := List.all_eq_true.mp (by decide +kernel)
theorem rows_L_31 : ∀ z ∈ P_L_31, rowB mtab x code z = true := List.all_eq_true.mp (by decide +kernel)
theorem rows_L_32 : ∀ z ∈ P_L_32, rowB mtab x code z = true := List.all_eq_true.mp (by decide +kernel)
theorem rows_L_33 : ∀ z ∈ P_L_33, rowB mtab x code z = true := List.all_eq_true.mp (by decide +kernel)
theorem rows_L_34 : ∀ z ∈ P_L_34, rowB mtab x code z = true := List.all_eq_true.mp (by decide +kernel)
theorem rows_L_35 : ∀ z ∈ P_L_35, rowB mtab x code z = true := List.all_eq_true.mp (by decide +kernel)
theorem rows_L_36 : ∀ z ∈ P_L_36, rowB mtab x code z = true := List.all_eq_true.mp (by decide +kernel)
theorem rows_L_37 : ∀ z ∈ P_L_37, rowB mtab x code z = true := List.all_eq_true.mp (by decide +kernel)
theorem rows_L_38 : ∀ z ∈ P_L_38, rowB mtab x code z = true := List.all_eq_true.mp (by decide +kernel)
end
