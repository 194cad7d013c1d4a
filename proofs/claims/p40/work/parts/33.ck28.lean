-- the instructions are those of the byte code
set_option maxRecDepth 100000 in
theorem s_ck_291 : s_c_291.all (s_okI (g_by 291) (g_me 291).2.1) = true := by decide +kernel
set_option maxRecDepth 100000 in
theorem s_ck_292 : s_c_292.all (s_okI (g_by 292) (g_me 292).2.1) = true := by decide +kernel
set_option maxRecDepth 100000 in
theorem s_ck_293 : s_c_293.all (s_okI (g_by 293) (g_me 293).2.1) = true := by decide +kernel
set_option maxRecDepth 100000 in
theorem s_ck_294 : s_c_294.all (s_okI (g_by 294) (g_me 294).2.1) = true := by decide +kernel
set_option maxRecDepth 100000 in
theorem s_ck_295 : s_c_295.all (s_okI (g_by 295) (g_me 295).2.1) = true := by decide +kernel
set_option maxRecDepth 100000 in
theorem s_ck_296 : s_c_296.all (s_okI (g_by 296) (g_me 296).2.1) = true := by decide +kernel
