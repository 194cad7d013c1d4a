-- the instructions are those of the byte code
set_option maxRecDepth 100000 in
theorem s_ck_253 : s_c_253.all (s_okI (g_by 253) (g_me 253).2.1) = true := by decide +kernel
set_option maxRecDepth 100000 in
theorem s_ck_254 : s_c_254.all (s_okI (g_by 254) (g_me 254).2.1) = true := by decide +kernel
set_option maxRecDepth 100000 in
theorem s_ck_255 : s_c_255.all (s_okI (g_by 255) (g_me 255).2.1) = true := by decide +kernel
set_option maxRecDepth 100000 in
theorem s_ck_256 : s_c_256.all (s_okI (g_by 256) (g_me 256).2.1) = true := by decide +kernel
set_option maxRecDepth 100000 in
theorem s_ck_257 : s_c_257.all (s_okI (g_by 257) (g_me 257).2.1) = true := by decide +kernel
set_option maxRecDepth 100000 in
theorem s_ck_258 : s_c_258.all (s_okI (g_by 258) (g_me 258).2.1) = true := by decide +kernel
set_option maxRecDepth 100000 in
theorem s_ck_259 : s_c_259.all (s_okI (g_by 259) (g_me 259).2.1) = true := by decide +kernel
