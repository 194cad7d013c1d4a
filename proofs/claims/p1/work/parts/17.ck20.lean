-- the instructions are those of the byte code
set_option maxRecDepth 100000 in
theorem s_ck_294 : s_c_294.all (s_okI (g_by 294) (g_me 294).2.1) = true := by decide +kernel
set_option maxRecDepth 100000 in
theorem s_ck_295 : s_c_295.all (s_okI (g_by 295) (g_me 295).2.1) = true := by decide +kernel
set_option maxRecDepth 100000 in
theorem s_ck_296 : s_c_296.all (s_okI (g_by 296) (g_me 296).2.1) = true := by decide +kernel
set_option maxRecDepth 100000 in
theorem s_ck_298 : s_c_298.all (s_okI (g_by 298) (g_me 298).2.1) = true := by decide +kernel
set_option maxRecDepth 100000 in
theorem s_ck_301 : s_c_301.all (s_okI (g_by 301) (g_me 301).2.1) = true := by decide +kernel
