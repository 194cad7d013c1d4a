-- the instructions are those of the byte code
set_option maxRecDepth 100000 in
theorem s_ck_264 : s_c_264.all (s_okI (g_by 264) (g_me 264).2.1) = true := by decide +kernel
set_option maxRecDepth 100000 in
theorem s_ck_265 : s_c_265.all (s_okI (g_by 265) (g_me 265).2.1) = true := by decide +kernel
set_option maxRecDepth 100000 in
theorem s_ck_266 : s_c_266.all (s_okI (g_by 266) (g_me 266).2.1) = true := by decide +kernel
set_option maxRecDepth 100000 in
theorem s_ck_267 : s_c_267.all (s_okI (g_by 267) (g_me 267).2.1) = true := by decide +kernel
set_option maxRecDepth 100000 in
theorem s_ck_268 : s_c_268.all (s_okI (g_by 268) (g_me 268).2.1) = true := by decide +kernel
set_option maxRecDepth 100000 in
theorem s_ck_269 : s_c_269.all (s_okI (g_by 269) (g_me 269).2.1) = true := by decide +kernel
