-- the instructions are those of the byte code
set_option maxRecDepth 100000 in
theorem s_ck_148 : s_c_148.all (s_okI (g_by 148) (g_me 148).2.1) = true := by decide +kernel
set_option maxRecDepth 100000 in
theorem s_ck_149 : s_c_149.all (s_okI (g_by 149) (g_me 149).2.1) = true := by decide +kernel
set_option maxRecDepth 100000 in
theorem s_ck_150 : s_c_150.all (s_okI (g_by 150) (g_me 150).2.1) = true := by decide +kernel
set_option maxRecDepth 100000 in
theorem s_ck_151 : s_c_151.all (s_okI (g_by 151) (g_me 151).2.1) = true := by decide +kernel
set_option maxRecDepth 100000 in
theorem s_ck_152 : s_c_152.all (s_okI (g_by 152) (g_me 152).2.1) = true := by decide +kernel
set_option maxRecDepth 100000 in
theorem s_ck_153 : s_c_153.all (s_okI (g_by 153) (g_me 153).2.1) = true := by decide +kernel
set_option maxRecDepth 100000 in
theorem s_ck_154 : s_c_154.all (s_okI (g_by 154) (g_me 154).2.1) = true := by decide +kernel
set_option maxRecDepth 100000 in
theorem s_ck_155 : s_c_155.all (s_okI (g_by 155) (g_me 155).2.1) = true := by decide +kernel
set_option maxRecDepth 100000 in
theorem s_ck_156 : s_c_156.all (s_okI (g_by 156) (g_me 156).2.1) = true := by decide +kernel
