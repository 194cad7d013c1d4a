-- the instructions are those of the byte code
set_option maxRecDepth 100000 in
theorem s_ck_246 : s_c_246.all (s_okI (g_by 246) (g_me 246).2.1) = true := by decide +kernel
set_option maxRecDepth 100000 in
theorem s_ck_247 : s_c_247.all (s_okI (g_by 247) (g_me 247).2.1) = true := by decide +kernel
set_option maxRecDepth 100000 in
theorem s_ck_248 : s_c_248.all (s_okI (g_by 248) (g_me 248).2.1) = true := by decide +kernel
set_option maxRecDepth 100000 in
theorem s_ck_249 : s_c_249.all (s_okI (g_by 249) (g_me 249).2.1) = true := by decide +kernel
set_option maxRecDepth 100000 in
theorem s_ck_250 : s_c_250.all (s_okI (g_by 250) (g_me 250).2.1) = true := by decide +kernel
set_option maxRecDepth 100000 in
theorem s_ck_251 : s_c_251.all (s_okI (g_by 251) (g_me 251).2.1) = true := by decide +kernel
set_option maxRecDepth 100000 in
theorem s_ck_252 : s_c_252.all (s_okI (g_by 252) (g_me 252).2.1) = true := by decide +kernel
