-- the instructions are those of the byte code
set_option maxRecDepth 100000 in
theorem s_ck_236 : s_c_236.all (s_okI (g_by 236) (g_me 236).2.1) = true := by decide +kernel
set_option maxRecDepth 100000 in
theorem s_ck_237 : s_c_237.all (s_okI (g_by 237) (g_me 237).2.1) = true := by decide +kernel
set_option maxRecDepth 100000 in
theorem s_ck_238 : s_c_238.all (s_okI (g_by 238) (g_me 238).2.1) = true := by decide +kernel
set_option maxRecDepth 100000 in
theorem s_ck_239 : s_c_239.all (s_okI (g_by 239) (g_me 239).2.1) = true := by decide +kernel
set_option maxRecDepth 100000 in
theorem s_ck_240 : s_c_240.all (s_okI (g_by 240) (g_me 240).2.1) = true := by decide +kernel
set_option maxRecDepth 100000 in
theorem s_ck_241 : s_c_241.all (s_okI (g_by 241) (g_me 241).2.1) = true := by decide +kernel
