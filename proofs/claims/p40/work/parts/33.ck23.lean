-- the instructions are those of the byte code
set_option maxRecDepth 100000 in
theorem s_ck_260 : s_c_260.all (s_okI (g_by 260) (g_me 260).2.1) = true := by decide +kernel
set_option maxRecDepth 100000 in
theorem s_ck_261 : s_c_261.all (s_okI (g_by 261) (g_me 261).2.1) = true := by decide +kernel
set_option maxRecDepth 100000 in
theorem s_ck_262 : s_c_262.all (s_okI (g_by 262) (g_me 262).2.1) = true := by decide +kernel
set_option maxRecDepth 100000 in
theorem s_ck_263 : s_c_263.all (s_okI (g_by 263) (g_me 263).2.1) = true := by decide +kernel
