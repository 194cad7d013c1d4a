-- the instructions are those of the byte code
set_option maxRecDepth 100000 in
theorem s_ck_239 : s_c_239.all (s_okI (g_by 239) (g_me 239).2.1) = true := by decide +kernel
set_option maxRecDepth 100000 in
theorem s_ck_240 : s_c_240.all (s_okI (g_by 240) (g_me 240).2.1) = true := by decide +kernel
set_option maxRecDepth 100000 in
theorem s_ck_245 : s_c_245.all (s_okI (g_by 245) (g_me 245).2.1) = true := by decide +kernel
set_option maxRecDepth 100000 in
theorem s_ck_246 : s_c_246.all (s_okI (g_by 246) (g_me 246).2.1) = true := by decide +kernel
set_option maxRecDepth 100000 in
theorem s_ck_248 : s_c_248.all (s_okI (g_by 248) (g_me 248).2.1) = true := by decide +kernel
set_option maxRecDepth 100000 in
theorem s_ck_250 : s_c_250.all (s_okI (g_by 250) (g_me 250).2.1) = true := by decide +kernel
set_option maxRecDepth 100000 in
theorem s_ck_251 : s_c_251.all (s_okI (g_by 251) (g_me 251).2.1) = true := by decide +kernel
set_option maxRecDepth 100000 in
theorem s_ck_252 : s_c_252.all (s_okI (g_by 252) (g_me 252).2.1) = true := by decide +kernel
