section
set_option maxRecDepth 100000
theorem rows_L_65 : ∀ z ∈ P_L_65, rowB mtab x code z = true := List.all_eq_true.mp (by decide +kernel)
theorem rows_L_66 : ∀ z ∈ P_L_66, rowB mtab x code z = true := List.all_eq_true.mp (by decide +kernel)
theorem rows_L_67 : ∀ z ∈ P_L_67, rowB mtab x code z = true := List.all_eq_true.mp (by decide +kernel)
theorem rows_L_68 : ∀ z ∈ P_L_68, rowB mtab x code z = true := List.all_eq_true.mp (by decide +kernel)
theorem rows_L_69 : ∀ z ∈ P_L_69, rowB mtab x code z = true := List.all_eq_true.mp (by decide +kernel)
theorem rows_L_70 : ∀ z ∈ P_L_70, rowB mtab x code z = true := List.all_eq_true.mp (by decide +kernel)
theorem rows_L_71 : ∀ z ∈ P_L_71, rowB mtab x code z = true := List.all_eq_true.mp (by decide +kernel)
theorem rows_L_72 : ∀ z ∈ P_L_72, rowB mtab x code z = true := List.all_eq_true.mp (by decide +kernel)
theorem rows_L_73 : ∀ z ∈ P_L_73, rowB mtab x code z = true := List.all_eq_true.mp (by decide +kernel)
theorem rows_L_74 : ∀ z ∈ P_L_74, rowB mtab x code z = true := List.all_eq_true.mp (by decide +kernel)
theorem rows_L_75 : ∀ z ∈ P_L_75, rowB mtab x code z = true := List.all_eq_true.mp (by decide +kernel)
theorem rows_L_76 : ∀ z ∈ P_L_76, rowB mtab x code z = true := List.all_eq_true.mp (by decide +kernel)
theorem rows_L_77 : ∀ z ∈ P_L_77, rowB mtab x code z = true := List.all_eq_true.mp (by decide +kernel)
end
