section
/-! CLASSES: their fields' words, types, names -/
theorem in_by {ws : List Jvm.Cond} {is : List Nat} (h : is.map (fun i => lw_tbl[i]?) = ws.map some) (g : ws.all goodWord = true) : ∀ w ∈ ws, w ∈ TWg := by
  intro w hw
  obtain ⟨k, hk⟩ := List.getElem?_of_mem hw
  have h1 : (is.map (fun i => lw_tbl[i]?))[k]? = some (some w) := by rw [h, List.getElem?_map, hk]; rfl
  rw [List.getElem?_map] at h1
  cases hi : is[k]? with
  | none => rw [hi] at h1; cases h1
  | some i =>
    rw [hi] at h1
    exact TWg_in (Option.some.inj h1) (List.all_eq_true.mp g w hw)
set_option maxRecDepth 100000 in
theorem cl_in0 : ∀ w ∈ u_ws RX0 TX0 6, w ∈ TWg := in_by (is := [256, 258, 260, 262, 264, 266]) (by decide +kernel) (by decide +kernel)
set_option maxRecDepth 100000 in
theorem cl_in1 : ∀ w ∈ u_ws RX1 TX1 4, w ∈ TWg := in_by (is := [130, 132, 134, 136]) (by decide +kernel) (by decide +kernel)
set_option maxRecDepth 100000 in
theorem cl_in2 : ∀ w ∈ u_ws RX2 TX2 6, w ∈ TWg := in_by (is := [677, 679, 681, 683, 685, 687]) (by decide +kernel) (by decide +kernel)
set_option maxRecDepth 100000 in
theorem cl_in3 : ∀ w ∈ u_ws RX3 TX3 6, w ∈ TWg := in_by (is := [211, 213, 215, 217, 219, 221]) (by decide +kernel) (by decide +kernel)
set_option maxRecDepth 100000 in
theorem cl_in4 : ∀ w ∈ u_ws RX4 TX4 9, w ∈ TWg := in_by (is := [179, 181, 183, 185, 187, 189, 191, 193, 195]) (by decide +kernel) (by decide +kernel)
set_option maxRecDepth 100000 in
theorem cl_in5 : ∀ w ∈ u_ws RX5 TX5 3, w ∈ TWg := in_by (is := [545, 547, 549]) (by decide +kernel) (by decide +kernel)
set_option maxRecDepth 100000 in
theorem cl_in6 : ∀ w ∈ u_ws RX6 TX6 4, w ∈ TWg := in_by (is := [859, 861, 863, 865]) (by decide +kernel) (by decide +kernel)
set_option maxRecDepth 100000 in
theorem cl_in7 : ∀ w ∈ u_ws RX7 TX7 3, w ∈ TWg := in_by (is := [153, 155, 157]) (by decide +kernel) (by decide +kernel)
set_option maxRecDepth 100000 in
theorem cl_in8 : ∀ w ∈ u_ws RX8 TX8 6, w ∈ TWg := in_by (is := [517, 519, 521, 523, 525, 527]) (by decide +kernel) (by decide +kernel)
set_option maxRecDepth 100000 in
theorem cl_in9 : ∀ w ∈ u_ws RX9 TX9 3, w ∈ TWg := in_by (is := [237, 239, 241]) (by decide +kernel) (by decide +kernel)
set_option maxRecDepth 100000 in
theorem cl_in10 : ∀ w ∈ u_ws RX10 TX10 18, w ∈ TWg := in_by (is := [570, 572, 574, 576, 578, 580, 582, 584, 586, 588, 590, 592, 594, 596, 598, 600, 602, 604]) (by decide +kernel) (by decide +kernel)
set_option maxRecDepth 100000 in
theorem cl_in11 : ∀ w ∈ u_ws RX11 TX11 51, w ∈ TWg := in_by (is := [1321, 1323, 1325, 1327, 1329, 1331, 1333, 1335, 1337, 1339, 1341, 1343, 1345, 1347, 1349, 1351, 1353, 1355, 1357, 1359, 1361, 1363, 1365, 1367, 1369, 1371, 1373, 1375, 1377, 1379, 1381, 1383, 1385, 1387, 1389, 1391, 1393, 1395, 1397, 1399, 1401, 1403, 1405, 1407, 1409, 1411, 1413, 1415, 1417, 1419, 1421]) (by decide +kernel) (by decide +kernel)
theorem cl_in {ci : Nat} {q : vw_C} (h : vwCl[ci]? = some q) : ∀ w ∈ u_ws q.1 q.2.1 q.2.2, w ∈ TWg := by
  match ci, h with
  | 0, h => cases h; exact cl_in0
  | 1, h => cases h; exact cl_in1
  | 2, h => cases h; exact cl_in2
  | 3, h => cases h; exact cl_in3
  | 4, h => cases h; exact cl_in4
  | 5, h => cases h; exact cl_in5
  | 6, h => cases h; exact cl_in6
  | 7, h => cases h; exact cl_in7
  | 8, h => cases h; exact cl_in8
  | 9, h => cases h; exact cl_in9
  | 10, h => cases h; exact cl_in10
  | 11, h => cases h; exact cl_in11
  | k + 12, h => simp [vwCl] at h
theorem cl_ty {ci : Nat} {q : vw_C} (h : vwCl[ci]? = some q) : ∀ k, k < q.2.2 → parseFieldDescriptor (q.2.1 k).2.2.1 = some (clTy ci k) := by
  match ci, h with
  | 0, h => cases h; exact tyX0_ok
  | 1, h => cases h; exact tyX1_ok
  | 2, h => cases h; exact tyX2_ok
  | 3, h => cases h; exact tyX3_ok
  | 4, h => cases h; exact tyX4_ok
  | 5, h => cases h; exact tyX5_ok
  | 6, h => cases h; exact tyX6_ok
  | 7, h => cases h; exact tyX7_ok
  | 8, h => cases h; exact tyX8_ok
  | 9, h => cases h; exact tyX9_ok
  | 10, h => cases h; exact tyX10_ok
  | 11, h => cases h; exact tyX11_ok
  | k + 12, h => simp [vwCl] at h
theorem cl_nm {ci : Nat} {q : vw_C} (h : vwCl[ci]? = some q) : ∀ a, a < q.2.2 → ∀ b, b < q.2.2 → a ≠ b → (q.2.1 a).2.1 ≠ (q.2.1 b).2.1 := by
  match ci, h with
  | 0, h => cases h; exact nmX0
  | 1, h => cases h; exact nmX1
  | 2, h => cases h; exact nmX2
  | 3, h => cases h; exact nmX3
  | 4, h => cases h; exact nmX4
  | 5, h => cases h; exact nmX5
  | 6, h => cases h; exact nmX6
  | 7, h => cases h; exact nmX7
  | 8, h => cases h; exact nmX8
  | 9, h => cases h; exact nmX9
  | 10, h => cases h; exact nmX10
  | 11, h => cases h; exact nmX11
  | k + 12, h => simp [vwCl] at h
def tyG : FieldType → Bool
  | .int => true
  | .boolean => true
  | .object _ => true
  | .array _ => true
  | _ => false
theorem cl_tyG : ∀ ci, ci < 12 → ∀ k, k < clN ci → tyG (clTy ci k) = true := by decide +kernel
theorem cl_some {ci : Nat} (h : ci < 12) : ∃ q, vwCl[ci]? = some q ∧ clN ci = q.2.2 := by
  have hl : ci < vwCl.length := h
  exact ⟨vwCl[ci], List.getElem?_eq_getElem hl, by unfold clN; rw [List.getElem?_eq_getElem hl]⟩
theorem cl_lt {ci : Nat} {q : vw_C} (h : vwCl[ci]? = some q) : ci < 12 := (List.getElem?_eq_some_iff.mp h).1
theorem cl_N {ci : Nat} {q : vw_C} (h : vwCl[ci]? = some q) : clN ci = q.2.2 := by unfold clN; rw [h]
end
