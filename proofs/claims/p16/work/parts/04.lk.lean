-- what a program decides of the tables: pool entries
set_option maxRecDepth 100000 in
theorem g_lk_ok_0 : g_lk_0.all g_lkok = true := by decide +kernel
set_option maxRecDepth 100000 in
theorem g_lk_ok_1 : g_lk_1.all g_lkok = true := by decide +kernel
set_option maxRecDepth 100000 in
theorem g_lk_ok_2 : g_lk_2.all g_lkok = true := by decide +kernel
set_option maxRecDepth 100000 in
theorem g_lk_ok_3 : g_lk_3.all g_lkok = true := by decide +kernel
set_option maxRecDepth 100000 in
theorem g_lk_ok_4 : g_lk_4.all g_lkok = true := by decide +kernel
set_option maxRecDepth 100000 in
theorem g_lk_ok_5 : g_lk_5.all g_lkok = true := by decide +kernel
set_option maxRecDepth 100000 in
theorem g_lk_ok_6 : g_lk_6.all g_lkok = true := by decide +kernel
set_option maxRecDepth 100000 in
theorem g_lk_ok_7 : g_lk_7.all g_lkok = true := by decide +kernel
