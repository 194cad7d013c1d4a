-- the instructions are those of the byte code
set_option maxRecDepth 100000 in
theorem s_ck_72 : s_c_72.all (s_okI (g_by 72) (g_me 72).2.1) = true := by decide +kernel
set_option maxRecDepth 100000 in
theorem s_ck_73 : s_c_73.all (s_okI (g_by 73) (g_me 73).2.1) = true := by decide +kernel
set_option maxRecDepth 100000 in
theorem s_ck_74 : s_c_74.all (s_okI (g_by 74) (g_me 74).2.1) = true := by decide +kernel
set_option maxRecDepth 100000 in
theorem s_ck_75 : s_c_75.all (s_okI (g_by 75) (g_me 75).2.1) = true := by decide +kernel
set_option maxRecDepth 100000 in
theorem s_ck_76 : s_c_76.all (s_okI (g_by 76) (g_me 76).2.1) = true := by decide +kernel
set_option maxRecDepth 100000 in
theorem s_ck_77 : s_c_77.all (s_okI (g_by 77) (g_me 77).2.1) = true := by decide +kernel
set_option maxRecDepth 100000 in
theorem s_ck_85 : s_c_85.all (s_okI (g_by 85) (g_me 85).2.1) = true := by decide +kernel
set_option maxRecDepth 100000 in
theorem s_ck_86 : s_c_86.all (s_okI (g_by 86) (g_me 86).2.1) = true := by decide +kernel
set_option maxRecDepth 100000 in
theorem s_ck_87 : s_c_87.all (s_okI (g_by 87) (g_me 87).2.1) = true := by decide +kernel
set_option maxRecDepth 100000 in
theorem s_ck_99 : s_c_99.all (s_okI (g_by 99) (g_me 99).2.1) = true := by decide +kernel
