-- the instructions are those of the byte code
set_option maxRecDepth 100000 in
theorem s_ck_135 : s_c_135.all (s_okI (g_by 135) (g_me 135).2.1) = true := by decide +kernel
set_option maxRecDepth 100000 in
theorem s_ck_136 : s_c_136.all (s_okI (g_by 136) (g_me 136).2.1) = true := by decide +kernel
set_option maxRecDepth 100000 in
theorem s_ck_137 : s_c_137.all (s_okI (g_by 137) (g_me 137).2.1) = true := by decide +kernel
set_option maxRecDepth 100000 in
theorem s_ck_138 : s_c_138.all (s_okI (g_by 138) (g_me 138).2.1) = true := by decide +kernel
set_option maxRecDepth 100000 in
theorem s_ck_139 : s_c_139.all (s_okI (g_by 139) (g_me 139).2.1) = true := by decide +kernel
set_option maxRecDepth 100000 in
theorem s_ck_140 : s_c_140.all (s_okI (g_by 140) (g_me 140).2.1) = true := by decide +kernel
set_option maxRecDepth 100000 in
theorem s_ck_141 : s_c_141.all (s_okI (g_by 141) (g_me 141).2.1) = true := by decide +kernel
set_option maxRecDepth 100000 in
theorem s_ck_142 : s_c_142.all (s_okI (g_by 142) (g_me 142).2.1) = true := by decide +kernel
set_option maxRecDepth 100000 in
theorem s_ck_143 : s_c_143.all (s_okI (g_by 143) (g_me 143).2.1) = true := by decide +kernel
set_option maxRecDepth 100000 in
theorem s_ck_144 : s_c_144.all (s_okI (g_by 144) (g_me 144).2.1) = true := by decide +kernel
set_option maxRecDepth 100000 in
theorem s_ck_145 : s_c_145.all (s_okI (g_by 145) (g_me 145).2.1) = true := by decide +kernel
set_option maxRecDepth 100000 in
theorem s_ck_146 : s_c_146.all (s_okI (g_by 146) (g_me 146).2.1) = true := by decide +kernel
set_option maxRecDepth 100000 in
theorem s_ck_147 : s_c_147.all (s_okI (g_by 147) (g_me 147).2.1) = true := by decide +kernel
