-- what a program decides of the tables: classes, methods
def g_wsl : List Cond := lw_tbl.filter goodWord
def g_nsl : List Cond := lw_tbl.filter g_isn
theorem g_nst {w : Cond} (h : g_isn w = true) : w.onTables = true := by
  cases w <;> first | rfl | (simp [g_isn] at h)
theorem g_wsl_in : ∀ w ∈ g_wsl, w ∈ lw_tbl := fun w h => (List.mem_filter.mp h).1
theorem g_wsl_good : ∀ w ∈ g_wsl, goodWord w = true := fun w h => (List.mem_filter.mp h).2
set_option maxRecDepth 100000 in
theorem g_mt_ok : g_mt.all g_mtok = true := by decide +kernel
theorem g_lk_ok : g_lk.all g_lkok = true := by
  simp only [g_lk, List.all_append, g_lk_ok_0, g_lk_ok_1, g_lk_ok_2, g_lk_ok_3, g_lk_ok_4, g_lk_ok_5, g_lk_ok_6, g_lk_ok_7, Bool.and_self]
set_option maxRecDepth 100000 in
theorem g_cl_ok : g_cl.all (fun r => (u_ws r.1 r.2.1 r.2.2).all (fun w => decide (w ∈ lw_tbl) && goodWord w)) = true := by decide +kernel
theorem g_cl_in (r : vw_C) (h : r ∈ g_cl) : ∀ w ∈ u_ws r.1 r.2.1 r.2.2, w ∈ g_wsl := by
  intro w hw
  have h1 := List.all_eq_true.mp (List.all_eq_true.mp g_cl_ok r h) w hw
  rw [Bool.and_eq_true] at h1
  exact List.mem_filter.mpr ⟨of_decide_eq_true h1.1, h1.2⟩
def g_ft (r : vw_C) (k : Nat) : FieldType := (parseFieldDescriptor (r.2.1 k).2.2.1).getD .int
set_option maxRecDepth 100000 in
theorem g_ft_ok : g_cl.all (fun r => (List.range r.2.2).all (fun k => (parseFieldDescriptor (r.2.1 k).2.2.1).isSome)) = true := by decide +kernel
theorem g_ft_at (r : vw_C) (h : r ∈ g_cl) : ∀ k, k < r.2.2 → parseFieldDescriptor (r.2.1 k).2.2.1 = some (g_ft r k) := by
  intro k hk
  have h1 := List.all_eq_true.mp (List.all_eq_true.mp g_ft_ok r h) k (List.mem_range.mpr hk)
  unfold g_ft
  cases hp : parseFieldDescriptor (r.2.1 k).2.2.1 with
  | none => rw [hp] at h1; cases h1
  | some t => rfl
set_option maxRecDepth 100000 in
theorem g_nm_ok : g_cl.all (fun r => (List.range r.2.2).all (fun a => (List.range r.2.2).all (fun b => a == b || decide ((r.2.1 a).2.1 ≠ (r.2.1 b).2.1)))) = true := by decide +kernel
theorem g_nm_at (r : vw_C) (h : r ∈ g_cl) : ∀ a, a < r.2.2 → ∀ b, b < r.2.2 → a ≠ b → (r.2.1 a).2.1 ≠ (r.2.1 b).2.1 := by
  intro a ha b hb hab
  have h1 := List.all_eq_true.mp (List.all_eq_true.mp (List.all_eq_true.mp g_nm_ok r h) a (List.mem_range.mpr ha)) b (List.mem_range.mpr hb)
  simp only [Bool.or_eq_true, beq_iff_eq, decide_eq_true_eq] at h1
  exact h1.resolve_left hab
set_option maxRecDepth 100000 in
theorem g_ins_ok : g_cl.all (fun r => decide (Cond.instantiable r.1 r.2.2 ∈ lw_tbl)) = true := by decide +kernel
set_option maxRecDepth 100000 in
theorem g_arr_ok : [Cond.arrayClass .int, Cond.arrayClass .long, Cond.arrayClass .boolean, Cond.arrayClass .byte].all (fun w => decide (w ∈ lw_tbl) && goodWord w) = true := by decide +kernel
set_option maxRecDepth 100000 in
theorem g_bu_ok : Cond.arrayOver (.object g_bu) ∈ lw_tbl := by decide +kernel
theorem g_arr_in {t : FieldType} (h : t = .int ∨ t = .long ∨ t = .boolean ∨ t = .byte) : Cond.arrayClass t ∈ g_wsl := by
  have h0 := List.all_eq_true.mp g_arr_ok
  have h1 := fun w hw => (Bool.and_eq_true _ _).mp (h0 w hw)
  rcases h with rfl | rfl | rfl | rfl <;> exact List.mem_filter.mpr ⟨of_decide_eq_true (h1 _ (by simp)).1, rfl⟩
theorem g_obj_in : Cond.code objectInit ⟨#[0xb1]⟩ 1 none ∈ g_wsl := List.mem_filter.mpr ⟨List.mem_append_right _ (List.mem_of_getElem? (i := 27) rfl), rfl⟩
set_option maxRecDepth 100000 in
theorem g_cn_ok : (List.range g_cl.length).all (fun ci => match g_cl[ci]? with | some r => r.1 == g_cn ci && decide ((g_fl.getD ci ("", [])).1 = g_cn ci) | none => false) = true := by decide +kernel
