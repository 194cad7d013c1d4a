-- the instructions are those of the byte code
set_option maxRecDepth 100000 in
theorem s_ck_157 : s_c_157.all (s_okI (g_by 157) (g_me 157).2.1) = true := by decide +kernel
set_option maxRecDepth 100000 in
theorem s_ck_158 : s_c_158.all (s_okI (g_by 158) (g_me 158).2.1) = true := by decide +kernel
set_option maxRecDepth 100000 in
theorem s_ck_159 : s_c_159.all (s_okI (g_by 159) (g_me 159).2.1) = true := by decide +kernel
set_option maxRecDepth 100000 in
theorem s_ck_160 : s_c_160.all (s_okI (g_by 160) (g_me 160).2.1) = true := by decide +kernel
set_option maxRecDepth 100000 in
theorem s_ck_161 : s_c_161.all (s_okI (g_by 161) (g_me 161).2.1) = true := by decide +kernel
set_option maxRecDepth 100000 in
theorem s_ck_162 : s_c_162.all (s_okI (g_by 162) (g_me 162).2.1) = true := by decide +kernel
set_option maxRecDepth 100000 in
theorem s_ck_163 : s_c_163.all (s_okI (g_by 163) (g_me 163).2.1) = true := by decide +kernel
