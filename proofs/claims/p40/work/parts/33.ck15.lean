-- the instructions are those of the byte code
set_option maxRecDepth 100000 in
theorem s_ck_205 : s_c_205.all (s_okI (g_by 205) (g_me 205).2.1) = true := by decide +kernel
set_option maxRecDepth 100000 in
theorem s_ck_206 : s_c_206.all (s_okI (g_by 206) (g_me 206).2.1) = true := by decide +kernel
set_option maxRecDepth 100000 in
theorem s_ck_207 : s_c_207.all (s_okI (g_by 207) (g_me 207).2.1) = true := by decide +kernel
set_option maxRecDepth 100000 in
theorem s_ck_208 : s_c_208.all (s_okI (g_by 208) (g_me 208).2.1) = true := by decide +kernel
set_option maxRecDepth 100000 in
theorem s_ck_209 : s_c_209.all (s_okI (g_by 209) (g_me 209).2.1) = true := by decide +kernel
set_option maxRecDepth 100000 in
theorem s_ck_210 : s_c_210.all (s_okI (g_by 210) (g_me 210).2.1) = true := by decide +kernel
set_option maxRecDepth 100000 in
theorem s_ck_211 : s_c_211.all (s_okI (g_by 211) (g_me 211).2.1) = true := by decide +kernel
set_option maxRecDepth 100000 in
theorem s_ck_212 : s_c_212.all (s_okI (g_by 212) (g_me 212).2.1) = true := by decide +kernel
