-- the instructions are those of the byte code
set_option maxRecDepth 100000 in
theorem s_ck_223 : s_c_223.all (s_okI (g_by 223) (g_me 223).2.1) = true := by decide +kernel
set_option maxRecDepth 100000 in
theorem s_ck_224 : s_c_224.all (s_okI (g_by 224) (g_me 224).2.1) = true := by decide +kernel
set_option maxRecDepth 100000 in
theorem s_ck_225 : s_c_225.all (s_okI (g_by 225) (g_me 225).2.1) = true := by decide +kernel
set_option maxRecDepth 100000 in
theorem s_ck_226 : s_c_226.all (s_okI (g_by 226) (g_me 226).2.1) = true := by decide +kernel
set_option maxRecDepth 100000 in
theorem s_ck_227 : s_c_227.all (s_okI (g_by 227) (g_me 227).2.1) = true := by decide +kernel
set_option maxRecDepth 100000 in
theorem s_ck_228 : s_c_228.all (s_okI (g_by 228) (g_me 228).2.1) = true := by decide +kernel
set_option maxRecDepth 100000 in
theorem s_ck_229 : s_c_229.all (s_okI (g_by 229) (g_me 229).2.1) = true := by decide +kernel
set_option maxRecDepth 100000 in
theorem s_ck_230 : s_c_230.all (s_okI (g_by 230) (g_me 230).2.1) = true := by decide +kernel
set_option maxRecDepth 100000 in
theorem s_ck_231 : s_c_231.all (s_okI (g_by 231) (g_me 231).2.1) = true := by decide +kernel
