-- fields
-- the places of the fields' words, by classes
def g_cli : List (List Nat) := [[378, 380, 382, 384, 386, 388, 390, 392], [126, 128, 130, 132, 134, 136, 138, 140, 142, 144, 146], [309, 311, 313, 315, 317, 319, 321], [212, 214, 216, 218, 220, 222, 224, 226, 228, 230, 232, 234, 236, 238], [284, 286, 288, 290], [337, 339, 341, 343, 345], [357, 359], [267, 269, 271], [251, 253], [160, 162, 164], [187, 189, 191, 193, 195], [407, 409, 411, 413, 415, 417, 419, 421, 423, 425, 427, 429], [1463, 1465, 1467, 1469, 1471, 1473, 1475, 1477, 1479, 1481, 1483, 1485, 1487, 1489, 1491, 1493, 1495, 1497, 1499, 1501, 1503, 1505, 1507, 1509, 1511, 1513, 1515, 1517, 1519, 1521, 1523, 1525, 1527, 1529, 1531, 1533, 1535, 1537, 1539, 1541, 1543, 1545, 1547, 1549, 1551, 1553, 1555, 1557, 1559, 1561, 1563, 1565, 1567, 1569, 1571, 1573, 1575, 1577, 1579, 1581, 1583, 1585, 1587, 1589, 1591, 1593, 1595, 1597, 1599]]
set_option maxRecDepth 100000 in
theorem g_cl_ok : (List.range g_cl.length).all (fun ci => match g_cl[ci]? with | some r => decide (u_ws r.1 r.2.1 r.2.2 = (g_cli.getD ci []).filterMap lw_tb) && (u_ws r.1 r.2.1 r.2.2).all goodWord | none => false) = true := by decide +kernel
theorem g_cl_in (r : vw_C) (h : r ∈ g_cl) : ∀ w ∈ u_ws r.1 r.2.1 r.2.2, w ∈ g_wsl := by
  intro w hw
  obtain ⟨i, hi⟩ := List.mem_iff_getElem?.mp h
  have hl : i < g_cl.length := (List.getElem?_eq_some_iff.mp hi).1
  have h1 := List.all_eq_true.mp g_cl_ok i (List.mem_range.mpr hl)
  rw [hi] at h1
  simp only [Bool.and_eq_true, decide_eq_true_eq] at h1
  have h2 := List.all_eq_true.mp h1.2 w hw
  rw [h1.1] at hw
  obtain ⟨k, -, hk⟩ := List.mem_filterMap.mp hw
  rw [lw_tb_eq] at hk
  exact List.mem_filter.mpr ⟨List.mem_of_getElem? hk, h2⟩
