-- the instructions are those of the byte code
set_option maxRecDepth 100000 in
theorem s_ck_242 : s_c_242.all (s_okI (g_by 242) (g_me 242).2.1) = true := by decide +kernel
set_option maxRecDepth 100000 in
theorem s_ck_243 : s_c_243.all (s_okI (g_by 243) (g_me 243).2.1) = true := by decide +kernel
set_option maxRecDepth 100000 in
theorem s_ck_244 : s_c_244.all (s_okI (g_by 244) (g_me 244).2.1) = true := by decide +kernel
set_option maxRecDepth 100000 in
theorem s_ck_245 : s_c_245.all (s_okI (g_by 245) (g_me 245).2.1) = true := by decide +kernel
