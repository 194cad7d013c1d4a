-- the instructions are those of the byte code
set_option maxRecDepth 100000 in
theorem s_ck_270 : s_c_270.all (s_okI (g_by 270) (g_me 270).2.1) = true := by decide +kernel
set_option maxRecDepth 100000 in
theorem s_ck_271 : s_c_271.all (s_okI (g_by 271) (g_me 271).2.1) = true := by decide +kernel
set_option maxRecDepth 100000 in
theorem s_ck_272 : s_c_272.all (s_okI (g_by 272) (g_me 272).2.1) = true := by decide +kernel
set_option maxRecDepth 100000 in
theorem s_ck_273 : s_c_273.all (s_okI (g_by 273) (g_me 273).2.1) = true := by decide +kernel
set_option maxRecDepth 100000 in
theorem s_ck_274 : s_c_274.all (s_okI (g_by 274) (g_me 274).2.1) = true := by decide +kernel
set_option maxRecDepth 100000 in
theorem s_ck_275 : s_c_275.all (s_okI (g_by 275) (g_me 275).2.1) = true := by decide +kernel
set_option maxRecDepth 100000 in
theorem s_ck_276 : s_c_276.all (s_okI (g_by 276) (g_me 276).2.1) = true := by decide +kernel
