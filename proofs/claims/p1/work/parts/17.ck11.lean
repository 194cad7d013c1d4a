-- the instructions are those of the byte code
set_option maxRecDepth 100000 in
theorem s_ck_228 : s_c_228.all (s_okI (g_by 228) (g_me 228).2.1) = true := by decide +kernel
set_option maxRecDepth 100000 in
theorem s_ck_230 : s_c_230.all (s_okI (g_by 230) (g_me 230).2.1) = true := by decide +kernel
set_option maxRecDepth 100000 in
theorem s_ck_231 : s_c_231.all (s_okI (g_by 231) (g_me 231).2.1) = true := by decide +kernel
set_option maxRecDepth 100000 in
theorem s_ck_232 : s_c_232.all (s_okI (g_by 232) (g_me 232).2.1) = true := by decide +kernel
set_option maxRecDepth 100000 in
theorem s_ck_233 : s_c_233.all (s_okI (g_by 233) (g_me 233).2.1) = true := by decide +kernel
set_option maxRecDepth 100000 in
theorem s_ck_234 : s_c_234.all (s_okI (g_by 234) (g_me 234).2.1) = true := by decide +kernel
