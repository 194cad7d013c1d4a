-- the instructions are those of the byte code
set_option maxRecDepth 100000 in
theorem s_ck_213 : s_c_213.all (s_okI (g_by 213) (g_me 213).2.1) = true := by decide +kernel
set_option maxRecDepth 100000 in
theorem s_ck_214 : s_c_214.all (s_okI (g_by 214) (g_me 214).2.1) = true := by decide +kernel
set_option maxRecDepth 100000 in
theorem s_ck_215 : s_c_215.all (s_okI (g_by 215) (g_me 215).2.1) = true := by decide +kernel
set_option maxRecDepth 100000 in
theorem s_ck_216 : s_c_216.all (s_okI (g_by 216) (g_me 216).2.1) = true := by decide +kernel
set_option maxRecDepth 100000 in
theorem s_ck_217 : s_c_217.all (s_okI (g_by 217) (g_me 217).2.1) = true := by decide +kernel
set_option maxRecDepth 100000 in
theorem s_ck_218 : s_c_218.all (s_okI (g_by 218) (g_me 218).2.1) = true := by decide +kernel
set_option maxRecDepth 100000 in
theorem s_ck_219 : s_c_219.all (s_okI (g_by 219) (g_me 219).2.1) = true := by decide +kernel
set_option maxRecDepth 100000 in
theorem s_ck_220 : s_c_220.all (s_okI (g_by 220) (g_me 220).2.1) = true := by decide +kernel
set_option maxRecDepth 100000 in
theorem s_ck_221 : s_c_221.all (s_okI (g_by 221) (g_me 221).2.1) = true := by decide +kernel
set_option maxRecDepth 100000 in
theorem s_ck_222 : s_c_222.all (s_okI (g_by 222) (g_me 222).2.1) = true := by decide +kernel
