-- the instructions are those of the byte code
set_option maxRecDepth 100000 in
theorem s_ck_277 : s_c_277.all (s_okI (g_by 277) (g_me 277).2.1) = true := by decide +kernel
set_option maxRecDepth 100000 in
theorem s_ck_278 : s_c_278.all (s_okI (g_by 278) (g_me 278).2.1) = true := by decide +kernel
set_option maxRecDepth 100000 in
theorem s_ck_279 : s_c_279.all (s_okI (g_by 279) (g_me 279).2.1) = true := by decide +kernel
set_option maxRecDepth 100000 in
theorem s_ck_280 : s_c_280.all (s_okI (g_by 280) (g_me 280).2.1) = true := by decide +kernel
set_option maxRecDepth 100000 in
theorem s_ck_281 : s_c_281.all (s_okI (g_by 281) (g_me 281).2.1) = true := by decide +kernel
