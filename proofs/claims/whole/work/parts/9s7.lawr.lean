section
set_option maxRecDepth 100000
theorem rows_L_91 : ∀ z ∈ P_L_91, rowB mtab x code z = true := List.all_eq_true.mp (by decide +kernel)
theorem rows_L_92 : ∀ z ∈ P_L_92, rowB mtab x code z = true := List.all_eq_true.mp (by decide +kernel)
theorem rows_L_93 : ∀ z ∈ P_L_93, rowB mtab x code z = true := List.all_eq_true.mp (by decide +kernel)
theorem rows_L_94 : ∀ z ∈ P_L_94, rowB mtab x code z = true := List.all_eq_true.mp (by decide +kernel)
theorem rows_L_95 : ∀ z ∈ P_L_95, rowB mtab x code z = true := List.all_eq_true.mp (by decide +kernel)
theorem rows_L_96 : ∀ z ∈ P_L_96, rowB mtab x code z = true := List.all_eq_true.mp (by decide +kernel)
theorem rows_L_97 : ∀ z ∈ P_L_97, rowB mtab x code z = true := List.all_eq_true.mp (by decide +kernel)
theorem rows_L_98 : ∀ z ∈ P_L_98, rowB mtab x code z = true := List.all_eq_true.mp (by decide +kernel)
theorem rows_L_99 : ∀ z ∈ P_L_99, rowB mtab x code z = true := List.all_eq_true.mp (by decide +kernel)
theorem rows_L_100 : ∀ z ∈ P_L_100, rowB mtab x code z = true := List.all_eq_true.mp (by decide +kernel)
theorem rows_L_101 : ∀ z ∈ P_L_101, rowB mtab x code z = true := List.all_eq_true.mp (by decide +kernel)
theorem rows_L_102 : ∀ z ∈ P_L_102, rowB mtab x code z = true := List.all_eq_true.mp (by decide +kernel)
theorem rows_L_103 : ∀ z ∈ P_L_103, rowB mtab x code z = true := List.all_eq_true.mp (by decide +kernel)
end
