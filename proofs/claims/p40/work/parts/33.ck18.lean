-- the instructions are those of the byte code
set_option maxRecDepth 100000 in
theorem s_ck_232 : s_c_232.all (s_okI (g_by 232) (g_me 232).2.1) = true := by decide +kernel
set_option maxRecDepth 100000 in
theorem s_ck_233 : s_c_233.all (s_okI (g_by 233) (g_me 233).2.1) = true := by decide +kernel
set_option maxRecDepth 100000 in
theorem s_ck_234 : s_c_234.all (s_okI (g_by 234) (g_me 234).2.1) = true := by decide +kernel
set_option maxRecDepth 100000 in
theorem s_ck_235 : s_c_235.all (s_okI (g_by 235) (g_me 235).2.1) = true := by decide +kernel
