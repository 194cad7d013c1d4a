-- the instructions are those of the byte code
set_option maxRecDepth 100000 in
theorem s_ck_175 : s_c_175.all (s_okI (g_by 175) (g_me 175).2.1) = true := by decide +kernel
set_option maxRecDepth 100000 in
theorem s_ck_176 : s_c_176.all (s_okI (g_by 176) (g_me 176).2.1) = true := by decide +kernel
set_option maxRecDepth 100000 in
theorem s_ck_177 : s_c_177.all (s_okI (g_by 177) (g_me 177).2.1) = true := by decide +kernel
set_option maxRecDepth 100000 in
theorem s_ck_178 : s_c_178.all (s_okI (g_by 178) (g_me 178).2.1) = true := by decide +kernel
set_option maxRecDepth 100000 in
theorem s_ck_179 : s_c_179.all (s_okI (g_by 179) (g_me 179).2.1) = true := by decide +kernel
set_option maxRecDepth 100000 in
theorem s_ck_180 : s_c_180.all (s_okI (g_by 180) (g_me 180).2.1) = true := by decide +kernel
set_option maxRecDepth 100000 in
theorem s_ck_181 : s_c_181.all (s_okI (g_by 181) (g_me 181).2.1) = true := by decide +kernel
set_option maxRecDepth 100000 in
theorem s_ck_182 : s_c_182.all (s_okI (g_by 182) (g_me 182).2.1) = true := by decide +kernel
set_option maxRecDepth 100000 in
theorem s_ck_183 : s_c_183.all (s_okI (g_by 183) (g_me 183).2.1) = true := by decide +kernel
set_option maxRecDepth 100000 in
theorem s_ck_184 : s_c_184.all (s_okI (g_by 184) (g_me 184).2.1) = true := by decide +kernel
set_option maxRecDepth 100000 in
theorem s_ck_185 : s_c_185.all (s_okI (g_by 185) (g_me 185).2.1) = true := by decide +kernel
set_option maxRecDepth 100000 in
theorem s_ck_186 : s_c_186.all (s_okI (g_by 186) (g_me 186).2.1) = true := by decide +kernel
set_option maxRecDepth 100000 in
theorem s_ck_187 : s_c_187.all (s_okI (g_by 187) (g_me 187).2.1) = true := by decide +kernel
set_option maxRecDepth 100000 in
theorem s_ck_188 : s_c_188.all (s_okI (g_by 188) (g_me 188).2.1) = true := by decide +kernel
set_option maxRecDepth 100000 in
theorem s_ck_189 : s_c_189.all (s_okI (g_by 189) (g_me 189).2.1) = true := by decide +kernel
set_option maxRecDepth 100000 in
theorem s_ck_190 : s_c_190.all (s_okI (g_by 190) (g_me 190).2.1) = true := by decide +kernel
