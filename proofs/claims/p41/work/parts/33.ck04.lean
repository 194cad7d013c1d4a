-- the instructions are those of the byte code
set_option maxRecDepth 100000 in
theorem s_ck_74 : s_c_74.all (s_okI (g_by 74) (g_me 74).2.1) = true := by decide +kernel
set_option maxRecDepth 100000 in
theorem s_ck_75 : s_c_75.all (s_okI (g_by 75) (g_me 75).2.1) = true := by decide +kernel
set_option maxRecDepth 100000 in
theorem s_ck_76 : s_c_76.all (s_okI (g_by 76) (g_me 76).2.1) = true := by decide +kernel
set_option maxRecDepth 100000 in
theorem s_ck_77 : s_c_77.all (s_okI (g_by 77) (g_me 77).2.1) = true := by decide +kernel
set_option maxRecDepth 100000 in
theorem s_ck_78 : s_c_78.all (s_okI (g_by 78) (g_me 78).2.1) = true := by decide +kernel
set_option maxRecDepth 100000 in
theorem s_ck_79 : s_c_79.all (s_okI (g_by 79) (g_me 79).2.1) = true := by decide +kernel
set_option maxRecDepth 100000 in
theorem s_ck_80 : s_c_80.all (s_okI (g_by 80) (g_me 80).2.1) = true := by decide +kernel
set_option maxRecDepth 100000 in
theorem s_ck_81 : s_c_81.all (s_okI (g_by 81) (g_me 81).2.1) = true := by decide +kernel
set_option maxRecDepth 100000 in
theorem s_ck_82 : s_c_82.all (s_okI (g_by 82) (g_me 82).2.1) = true := by decide +kernel
set_option maxRecDepth 100000 in
theorem s_ck_83 : s_c_83.all (s_okI (g_by 83) (g_me 83).2.1) = true := by decide +kernel
set_option maxRecDepth 100000 in
theorem s_ck_84 : s_c_84.all (s_okI (g_by 84) (g_me 84).2.1) = true := by decide +kernel
set_option maxRecDepth 100000 in
theorem s_ck_85 : s_c_85.all (s_okI (g_by 85) (g_me 85).2.1) = true := by decide +kernel
set_option maxRecDepth 100000 in
theorem s_ck_86 : s_c_86.all (s_okI (g_by 86) (g_me 86).2.1) = true := by decide +kernel
set_option maxRecDepth 100000 in
theorem s_ck_87 : s_c_87.all (s_okI (g_by 87) (g_me 87).2.1) = true := by decide +kernel
