-- the instructions are those of the byte code
set_option maxRecDepth 100000 in
theorem s_ck_282 : s_c_282.all (s_okI (g_by 282) (g_me 282).2.1) = true := by decide +kernel
set_option maxRecDepth 100000 in
theorem s_ck_283 : s_c_283.all (s_okI (g_by 283) (g_me 283).2.1) = true := by decide +kernel
set_option maxRecDepth 100000 in
theorem s_ck_284 : s_c_284.all (s_okI (g_by 284) (g_me 284).2.1) = true := by decide +kernel
set_option maxRecDepth 100000 in
theorem s_ck_285 : s_c_285.all (s_okI (g_by 285) (g_me 285).2.1) = true := by decide +kernel
set_option maxRecDepth 100000 in
theorem s_ck_286 : s_c_286.all (s_okI (g_by 286) (g_me 286).2.1) = true := by decide +kernel
set_option maxRecDepth 100000 in
theorem s_ck_287 : s_c_287.all (s_okI (g_by 287) (g_me 287).2.1) = true := by decide +kernel
set_option maxRecDepth 100000 in
theorem s_ck_288 : s_c_288.all (s_okI (g_by 288) (g_me 288).2.1) = true := by decide +kernel
set_option maxRecDepth 100000 in
theorem s_ck_289 : s_c_289.all (s_okI (g_by 289) (g_me 289).2.1) = true := by decide +kernel
set_option maxRecDepth 100000 in
theorem s_ck_290 : s_c_290.all (s_okI (g_by 290) (g_me 290).2.1) = true := by decide +kernel
