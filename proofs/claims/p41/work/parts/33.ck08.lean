-- the instructions are those of the byte code
set_option maxRecDepth 100000 in
theorem s_ck_126 : s_c_126.all (s_okI (g_by 126) (g_me 126).2.1) = true := by decide +kernel
set_option maxRecDepth 100000 in
theorem s_ck_127 : s_c_127.all (s_okI (g_by 127) (g_me 127).2.1) = true := by decide +kernel
set_option maxRecDepth 100000 in
theorem s_ck_128 : s_c_128.all (s_okI (g_by 128) (g_me 128).2.1) = true := by decide +kernel
set_option maxRecDepth 100000 in
theorem s_ck_129 : s_c_129.all (s_okI (g_by 129) (g_me 129).2.1) = true := by decide +kernel
set_option maxRecDepth 100000 in
theorem s_ck_130 : s_c_130.all (s_okI (g_by 130) (g_me 130).2.1) = true := by decide +kernel
set_option maxRecDepth 100000 in
theorem s_ck_131 : s_c_131.all (s_okI (g_by 131) (g_me 131).2.1) = true := by decide +kernel
set_option maxRecDepth 100000 in
theorem s_ck_132 : s_c_132.all (s_okI (g_by 132) (g_me 132).2.1) = true := by decide +kernel
set_option maxRecDepth 100000 in
theorem s_ck_133 : s_c_133.all (s_okI (g_by 133) (g_me 133).2.1) = true := by decide +kernel
set_option maxRecDepth 100000 in
theorem s_ck_134 : s_c_134.all (s_okI (g_by 134) (g_me 134).2.1) = true := by decide +kernel
