-- what a program decides of the tables: classes, methods
def g_wsl : List Cond := lw_tbl.filter goodWord
def g_nsl : List Cond := lw_tbl.filter g_isn
theorem g_nst {w : Cond} (h : g_isn w = true) : w.onTables = true := by
  cases w <;> first | rfl | (simp [g_isn] at h)
theorem g_wsl_in : ∀ w ∈ g_wsl, w ∈ lw_tbl := fun w h => (List.mem_filter.mp h).1
theorem g_wsl_good : ∀ w ∈ g_wsl, goodWord w = true := fun w h => (List.mem_filter.mp h).2
set_option maxRecDepth 100000 in
theorem g_mt_ok : g_mt.all g_mtok = true := by decide +kernel
theorem g_lk_ok : g_lk.all g_lkok = true := by
  simp only [g_lk, List.all_append, g_lk_ok_0, g_lk_ok_1, g_lk_ok_2, g_lk_ok_3, g_lk_ok_4, g_lk_ok_5, g_lk_ok_6, g_lk_ok_7, Bool.and_self]
