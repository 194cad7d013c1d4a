-- new objects, arrays
set_option maxRecDepth 100000 in
theorem g_ins_ok : g_cl.all (fun r => decide (Cond.instantiable r.1 r.2.2 ∈ lw_tbl)) = true := by decide +kernel
set_option maxRecDepth 100000 in
theorem g_arr_ok : [Cond.arrayClass .int, Cond.arrayClass .long, Cond.arrayClass .boolean, Cond.arrayClass .byte].all (fun w => decide (w ∈ lw_tbl) && goodWord w) = true := by decide +kernel
set_option maxRecDepth 100000 in
theorem g_bu_ok : Cond.arrayOver (.object g_bu) ∈ lw_tbl := by decide +kernel
theorem g_arr_in {t : FieldType} (h : t = .int ∨ t = .long ∨ t = .boolean ∨ t = .byte) : Cond.arrayClass t ∈ g_wsl := by
  have h0 := List.all_eq_true.mp g_arr_ok
  have h1 := fun w hw => (Bool.and_eq_true _ _).mp (h0 w hw)
  rcases h with rfl | rfl | rfl | rfl <;> exact List.mem_filter.mpr ⟨of_decide_eq_true (h1 _ (by simp)).1, rfl⟩
theorem g_obj_in : Cond.code objectInit ⟨#[0xb1]⟩ 1 none ∈ g_wsl := List.mem_filter.mpr ⟨List.mem_append_right _ (List.mem_of_getElem? (i := 27) rfl), rfl⟩
set_option maxRecDepth 100000 in
theorem g_cn_ok : (List.range g_cl.length).all (fun ci => match g_cl[ci]? with | some r => r.1 == g_cn ci && decide ((g_fl.getD ci ("", [])).1 = g_cn ci) | none => false) = true := by decide +kernel
