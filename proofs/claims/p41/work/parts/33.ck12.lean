-- the instructions are those of the byte code
set_option maxRecDepth 100000 in
theorem s_ck_164 : s_c_164.all (s_okI (g_by 164) (g_me 164).2.1) = true := by decide +kernel
set_option maxRecDepth 100000 in
theorem s_ck_165 : s_c_165.all (s_okI (g_by 165) (g_me 165).2.1) = true := by decide +kernel
set_option maxRecDepth 100000 in
theorem s_ck_166 : s_c_166.all (s_okI (g_by 166) (g_me 166).2.1) = true := by decide +kernel
set_option maxRecDepth 100000 in
theorem s_ck_167 : s_c_167.all (s_okI (g_by 167) (g_me 167).2.1) = true := by decide +kernel
set_option maxRecDepth 100000 in
theorem s_ck_168 : s_c_168.all (s_okI (g_by 168) (g_me 168).2.1) = true := by decide +kernel
set_option maxRecDepth 100000 in
theorem s_ck_169 : s_c_169.all (s_okI (g_by 169) (g_me 169).2.1) = true := by decide +kernel
set_option maxRecDepth 100000 in
theorem s_ck_170 : s_c_170.all (s_okI (g_by 170) (g_me 170).2.1) = true := by decide +kernel
set_option maxRecDepth 100000 in
theorem s_ck_171 : s_c_171.all (s_okI (g_by 171) (g_me 171).2.1) = true := by decide +kernel
set_option maxRecDepth 100000 in
theorem s_ck_172 : s_c_172.all (s_okI (g_by 172) (g_me 172).2.1) = true := by decide +kernel
set_option maxRecDepth 100000 in
theorem s_ck_173 : s_c_173.all (s_okI (g_by 173) (g_me 173).2.1) = true := by decide +kernel
set_option maxRecDepth 100000 in
theorem s_ck_174 : s_c_174.all (s_okI (g_by 174) (g_me 174).2.1) = true := by decide +kernel
