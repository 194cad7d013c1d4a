-- the instructions are those of the byte code
set_option maxRecDepth 100000 in
theorem s_ck_276 : s_c_276.all (s_okI (g_by 276) (g_me 276).2.1) = true := by decide +kernel
set_option maxRecDepth 100000 in
theorem s_ck_278 : s_c_278.all (s_okI (g_by 278) (g_me 278).2.1) = true := by decide +kernel
set_option maxRecDepth 100000 in
theorem s_ck_279 : s_c_279.all (s_okI (g_by 279) (g_me 279).2.1) = true := by decide +kernel
set_option maxRecDepth 100000 in
theorem s_ck_280 : s_c_280.all (s_okI (g_by 280) (g_me 280).2.1) = true := by decide +kernel
set_option maxRecDepth 100000 in
theorem s_ck_282 : s_c_282.all (s_okI (g_by 282) (g_me 282).2.1) = true := by decide +kernel
set_option maxRecDepth 100000 in
theorem s_ck_284 : s_c_284.all (s_okI (g_by 284) (g_me 284).2.1) = true := by decide +kernel
