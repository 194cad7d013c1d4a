-- the instructions are those of the byte code
set_option maxRecDepth 100000 in
theorem s_ck_235 : s_c_235.all (s_okI (g_by 235) (g_me 235).2.1) = true := by decide +kernel
set_option maxRecDepth 100000 in
theorem s_ck_236 : s_c_236.all (s_okI (g_by 236) (g_me 236).2.1) = true := by decide +kernel
set_option maxRecDepth 100000 in
theorem s_ck_237 : s_c_237.all (s_okI (g_by 237) (g_me 237).2.1) = true := by decide +kernel
set_option maxRecDepth 100000 in
theorem s_ck_238 : s_c_238.all (s_okI (g_by 238) (g_me 238).2.1) = true := by decide +kernel
