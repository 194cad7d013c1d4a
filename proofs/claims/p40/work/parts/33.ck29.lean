-- the instructions are those of the byte code
set_option maxRecDepth 100000 in
theorem s_ck_297 : s_c_297.all (s_okI (g_by 297) (g_me 297).2.1) = true := by decide +kernel
set_option maxRecDepth 100000 in
theorem s_ck_298 : s_c_298.all (s_okI (g_by 298) (g_me 298).2.1) = true := by decide +kernel
set_option maxRecDepth 100000 in
theorem s_ck_299 : s_c_299.all (s_okI (g_by 299) (g_me 299).2.1) = true := by decide +kernel
set_option maxRecDepth 100000 in
theorem s_ck_300 : s_c_300.all (s_okI (g_by 300) (g_me 300).2.1) = true := by decide +kernel
set_option maxRecDepth 100000 in
theorem s_ck_301 : s_c_301.all (s_okI (g_by 301) (g_me 301).2.1) = true := by decide +kernel
