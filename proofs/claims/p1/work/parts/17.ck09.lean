-- the instructions are those of the byte code
set_option maxRecDepth 100000 in
theorem s_ck_205 : s_c_205.all (s_okI (g_by 205) (g_me 205).2.1) = true := by decide +kernel
set_option maxRecDepth 100000 in
theorem s_ck_207 : s_c_207.all (s_okI (g_by 207) (g_me 207).2.1) = true := by decide +kernel
set_option maxRecDepth 100000 in
theorem s_ck_212 : s_c_212.all (s_okI (g_by 212) (g_me 212).2.1) = true := by decide +kernel
set_option maxRecDepth 100000 in
theorem s_ck_214 : s_c_214.all (s_okI (g_by 214) (g_me 214).2.1) = true := by decide +kernel
set_option maxRecDepth 100000 in
theorem s_ck_215 : s_c_215.all (s_okI (g_by 215) (g_me 215).2.1) = true := by decide +kernel
set_option maxRecDepth 100000 in
theorem s_ck_216 : s_c_216.all (s_okI (g_by 216) (g_me 216).2.1) = true := by decide +kernel
set_option maxRecDepth 100000 in
theorem s_ck_217 : s_c_217.all (s_okI (g_by 217) (g_me 217).2.1) = true := by decide +kernel
