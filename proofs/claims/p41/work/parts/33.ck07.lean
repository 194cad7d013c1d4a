-- the instructions are those of the byte code
set_option maxRecDepth 100000 in
theorem s_ck_115 : s_c_115.all (s_okI (g_by 115) (g_me 115).2.1) = true := by decide +kernel
set_option maxRecDepth 100000 in
theorem s_ck_116 : s_c_116.all (s_okI (g_by 116) (g_me 116).2.1) = true := by decide +kernel
set_option maxRecDepth 100000 in
theorem s_ck_117 : s_c_117.all (s_okI (g_by 117) (g_me 117).2.1) = true := by decide +kernel
set_option maxRecDepth 100000 in
theorem s_ck_118 : s_c_118.all (s_okI (g_by 118) (g_me 118).2.1) = true := by decide +kernel
set_option maxRecDepth 100000 in
theorem s_ck_119 : s_c_119.all (s_okI (g_by 119) (g_me 119).2.1) = true := by decide +kernel
set_option maxRecDepth 100000 in
theorem s_ck_120 : s_c_120.all (s_okI (g_by 120) (g_me 120).2.1) = true := by decide +kernel
set_option maxRecDepth 100000 in
theorem s_ck_121 : s_c_121.all (s_okI (g_by 121) (g_me 121).2.1) = true := by decide +kernel
set_option maxRecDepth 100000 in
theorem s_ck_122 : s_c_122.all (s_okI (g_by 122) (g_me 122).2.1) = true := by decide +kernel
set_option maxRecDepth 100000 in
theorem s_ck_123 : s_c_123.all (s_okI (g_by 123) (g_me 123).2.1) = true := by decide +kernel
set_option maxRecDepth 100000 in
theorem s_ck_124 : s_c_124.all (s_okI (g_by 124) (g_me 124).2.1) = true := by decide +kernel
set_option maxRecDepth 100000 in
theorem s_ck_125 : s_c_125.all (s_okI (g_by 125) (g_me 125).2.1) = true := by decide +kernel
