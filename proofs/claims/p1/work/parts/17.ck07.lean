-- the instructions are those of the byte code
set_option maxRecDepth 100000 in
theorem s_ck_166 : s_c_166.all (s_okI (g_by 166) (g_me 166).2.1) = true := by decide +kernel
set_option maxRecDepth 100000 in
theorem s_ck_167 : s_c_167.all (s_okI (g_by 167) (g_me 167).2.1) = true := by decide +kernel
set_option maxRecDepth 100000 in
theorem s_ck_170 : s_c_170.all (s_okI (g_by 170) (g_me 170).2.1) = true := by decide +kernel
set_option maxRecDepth 100000 in
theorem s_ck_171 : s_c_171.all (s_okI (g_by 171) (g_me 171).2.1) = true := by decide +kernel
set_option maxRecDepth 100000 in
theorem s_ck_174 : s_c_174.all (s_okI (g_by 174) (g_me 174).2.1) = true := by decide +kernel
set_option maxRecDepth 100000 in
theorem s_ck_175 : s_c_175.all (s_okI (g_by 175) (g_me 175).2.1) = true := by decide +kernel
set_option maxRecDepth 100000 in
theorem s_ck_179 : s_c_179.all (s_okI (g_by 179) (g_me 179).2.1) = true := by decide +kernel
set_option maxRecDepth 100000 in
theorem s_ck_180 : s_c_180.all (s_okI (g_by 180) (g_me 180).2.1) = true := by decide +kernel
set_option maxRecDepth 100000 in
theorem s_ck_181 : s_c_181.all (s_okI (g_by 181) (g_me 181).2.1) = true := by decide +kernel
set_option maxRecDepth 100000 in
theorem s_ck_182 : s_c_182.all (s_okI (g_by 182) (g_me 182).2.1) = true := by decide +kernel
set_option maxRecDepth 100000 in
theorem s_ck_183 : s_c_183.all (s_okI (g_by 183) (g_me 183).2.1) = true := by decide +kernel
set_option maxRecDepth 100000 in
theorem s_ck_184 : s_c_184.all (s_okI (g_by 184) (g_me 184).2.1) = true := by decide +kernel
set_option maxRecDepth 100000 in
theorem s_ck_185 : s_c_185.all (s_okI (g_by 185) (g_me 185).2.1) = true := by decide +kernel
set_option maxRecDepth 100000 in
theorem s_ck_186 : s_c_186.all (s_okI (g_by 186) (g_me 186).2.1) = true := by decide +kernel
