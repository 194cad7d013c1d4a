-- the instructions are those of the byte code
set_option maxRecDepth 100000 in
theorem s_ck_218 : s_c_218.all (s_okI (g_by 218) (g_me 218).2.1) = true := by decide +kernel
set_option maxRecDepth 100000 in
theorem s_ck_219 : s_c_219.all (s_okI (g_by 219) (g_me 219).2.1) = true := by decide +kernel
set_option maxRecDepth 100000 in
theorem s_ck_220 : s_c_220.all (s_okI (g_by 220) (g_me 220).2.1) = true := by decide +kernel
set_option maxRecDepth 100000 in
theorem s_ck_221 : s_c_221.all (s_okI (g_by 221) (g_me 221).2.1) = true := by decide +kernel
set_option maxRecDepth 100000 in
theorem s_ck_223 : s_c_223.all (s_okI (g_by 223) (g_me 223).2.1) = true := by decide +kernel
set_option maxRecDepth 100000 in
theorem s_ck_226 : s_c_226.all (s_okI (g_by 226) (g_me 226).2.1) = true := by decide +kernel
set_option maxRecDepth 100000 in
theorem s_ck_227 : s_c_227.all (s_okI (g_by 227) (g_me 227).2.1) = true := by decide +kernel
