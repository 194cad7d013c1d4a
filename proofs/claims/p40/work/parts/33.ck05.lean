-- the instructions are those of the byte code
set_option maxRecDepth 100000 in
theorem s_ck_88 : s_c_88.all (s_okI (g_by 88) (g_me 88).2.1) = true := by decide +kernel
set_option maxRecDepth 100000 in
theorem s_ck_89 : s_c_89.all (s_okI (g_by 89) (g_me 89).2.1) = true := by decide +kernel
set_option maxRecDepth 100000 in
theorem s_ck_90 : s_c_90.all (s_okI (g_by 90) (g_me 90).2.1) = true := by decide +kernel
set_option maxRecDepth 100000 in
theorem s_ck_91 : s_c_91.all (s_okI (g_by 91) (g_me 91).2.1) = true := by decide +kernel
set_option maxRecDepth 100000 in
theorem s_ck_92 : s_c_92.all (s_okI (g_by 92) (g_me 92).2.1) = true := by decide +kernel
set_option maxRecDepth 100000 in
theorem s_ck_93 : s_c_93.all (s_okI (g_by 93) (g_me 93).2.1) = true := by decide +kernel
set_option maxRecDepth 100000 in
theorem s_ck_94 : s_c_94.all (s_okI (g_by 94) (g_me 94).2.1) = true := by decide +kernel
set_option maxRecDepth 100000 in
theorem s_ck_95 : s_c_95.all (s_okI (g_by 95) (g_me 95).2.1) = true := by decide +kernel
set_option maxRecDepth 100000 in
theorem s_ck_96 : s_c_96.all (s_okI (g_by 96) (g_me 96).2.1) = true := by decide +kernel
set_option maxRecDepth 100000 in
theorem s_ck_97 : s_c_97.all (s_okI (g_by 97) (g_me 97).2.1) = true := by decide +kernel
set_option maxRecDepth 100000 in
theorem s_ck_98 : s_c_98.all (s_okI (g_by 98) (g_me 98).2.1) = true := by decide +kernel
set_option maxRecDepth 100000 in
theorem s_ck_99 : s_c_99.all (s_okI (g_by 99) (g_me 99).2.1) = true := by decide +kernel
set_option maxRecDepth 100000 in
theorem s_ck_100 : s_c_100.all (s_okI (g_by 100) (g_me 100).2.1) = true := by decide +kernel
