-- the instructions are those of the byte code
set_option maxRecDepth 100000 in
theorem s_ck_152 : s_c_152.all (s_okI (g_by 152) (g_me 152).2.1) = true := by decide +kernel
set_option maxRecDepth 100000 in
theorem s_ck_155 : s_c_155.all (s_okI (g_by 155) (g_me 155).2.1) = true := by decide +kernel
set_option maxRecDepth 100000 in
theorem s_ck_156 : s_c_156.all (s_okI (g_by 156) (g_me 156).2.1) = true := by decide +kernel
set_option maxRecDepth 100000 in
theorem s_ck_162 : s_c_162.all (s_okI (g_by 162) (g_me 162).2.1) = true := by decide +kernel
set_option maxRecDepth 100000 in
theorem s_ck_163 : s_c_163.all (s_okI (g_by 163) (g_me 163).2.1) = true := by decide +kernel
set_option maxRecDepth 100000 in
theorem s_ck_164 : s_c_164.all (s_okI (g_by 164) (g_me 164).2.1) = true := by decide +kernel
