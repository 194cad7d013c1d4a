-- the instructions are those of the byte code
set_option maxRecDepth 100000 in
theorem s_ck_136 : s_c_136.all (s_okI (g_by 136) (g_me 136).2.1) = true := by decide +kernel
set_option maxRecDepth 100000 in
theorem s_ck_137 : s_c_137.all (s_okI (g_by 137) (g_me 137).2.1) = true := by decide +kernel
set_option maxRecDepth 100000 in
theorem s_ck_138 : s_c_138.all (s_okI (g_by 138) (g_me 138).2.1) = true := by decide +kernel
set_option maxRecDepth 100000 in
theorem s_ck_139 : s_c_139.all (s_okI (g_by 139) (g_me 139).2.1) = true := by decide +kernel
set_option maxRecDepth 100000 in
theorem s_ck_140 : s_c_140.all (s_okI (g_by 140) (g_me 140).2.1) = true := by decide +kernel
set_option maxRecDepth 100000 in
theorem s_ck_141 : s_c_141.all (s_okI (g_by 141) (g_me 141).2.1) = true := by decide +kernel
set_option maxRecDepth 100000 in
theorem s_ck_145 : s_c_145.all (s_okI (g_by 145) (g_me 145).2.1) = true := by decide +kernel
set_option maxRecDepth 100000 in
theorem s_ck_148 : s_c_148.all (s_okI (g_by 148) (g_me 148).2.1) = true := by decide +kernel
set_option maxRecDepth 100000 in
theorem s_ck_149 : s_c_149.all (s_okI (g_by 149) (g_me 149).2.1) = true := by decide +kernel
set_option maxRecDepth 100000 in
theorem s_ck_150 : s_c_150.all (s_okI (g_by 150) (g_me 150).2.1) = true := by decide +kernel
set_option maxRecDepth 100000 in
theorem s_ck_151 : s_c_151.all (s_okI (g_by 151) (g_me 151).2.1) = true := by decide +kernel
